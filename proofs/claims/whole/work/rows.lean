section
-- ===== PART A: goes FIRST, ahead of the names: the tables' words, and 'selects' of the private methods out of them =====
/-- a private method of a class that the tables say can be made, by its rows of tables_1 -/
def lw_okq (q : MethodName × Nat) : Prop := (q.1.cls ≠ "java/lang/invoke/MethodHandle" ∧ q.1.cls ≠ "java/lang/invoke/VarHandle") ∧ Cond.instantiable q.1.cls q.2 ∈ tables_1 ∧ Cond.privateMethod q.1 ∈ tables_1 ∧ Cond.instanceMethod q.1 ∈ tables_1
theorem lw_p0 : lw_okq (⟨"CellarCars", "refuse", "(I)I"⟩, 12) := ⟨⟨by decide +kernel, by decide +kernel⟩, List.mem_of_getElem? (i := 19) (by decide +kernel), List.mem_of_getElem? (i := 369) (by decide +kernel), List.mem_of_getElem? (i := 370) (by decide +kernel)⟩
theorem lw_p1 : lw_okq (⟨"CellarCars", "keepForUndo", "()V"⟩, 12) := ⟨⟨by decide +kernel, by decide +kernel⟩, List.mem_of_getElem? (i := 19) (by decide +kernel), List.mem_of_getElem? (i := 374) (by decide +kernel), List.mem_of_getElem? (i := 375) (by decide +kernel)⟩
theorem lw_p2 : lw_okq (⟨"CellarCars$Garage", "cycleOf", "(I)I"⟩, 13) := ⟨⟨by decide +kernel, by decide +kernel⟩, List.mem_of_getElem? (i := 33) (by decide +kernel), List.mem_of_getElem? (i := 523) (by decide +kernel), List.mem_of_getElem? (i := 524) (by decide +kernel)⟩
theorem lw_p3 : lw_okq (⟨"CellarCars", "isLet", "(III)Z"⟩, 12) := ⟨⟨by decide +kernel, by decide +kernel⟩, List.mem_of_getElem? (i := 19) (by decide +kernel), List.mem_of_getElem? (i := 545) (by decide +kernel), List.mem_of_getElem? (i := 546) (by decide +kernel)⟩
theorem lw_p4 : lw_okq (⟨"CellarCars$Rules", "worked", "(II)I"⟩, 2) := ⟨⟨by decide +kernel, by decide +kernel⟩, List.mem_of_getElem? (i := 282) (by decide +kernel), List.mem_of_getElem? (i := 564) (by decide +kernel), List.mem_of_getElem? (i := 565) (by decide +kernel)⟩
theorem lw_p5 : lw_okq (⟨"CellarCars$Rules", "knownBy", "(I)I"⟩, 2) := ⟨⟨by decide +kernel, by decide +kernel⟩, List.mem_of_getElem? (i := 282) (by decide +kernel), List.mem_of_getElem? (i := 568) (by decide +kernel), List.mem_of_getElem? (i := 569) (by decide +kernel)⟩
theorem lw_p6 : lw_okq (⟨"CellarCars", "inLaneFinding", "(I)I"⟩, 12) := ⟨⟨by decide +kernel, by decide +kernel⟩, List.mem_of_getElem? (i := 19) (by decide +kernel), List.mem_of_getElem? (i := 593) (by decide +kernel), List.mem_of_getElem? (i := 594) (by decide +kernel)⟩
theorem lw_p7 : lw_okq (⟨"CellarCars", "keysNow", "()I"⟩, 12) := ⟨⟨by decide +kernel, by decide +kernel⟩, List.mem_of_getElem? (i := 19) (by decide +kernel), List.mem_of_getElem? (i := 623) (by decide +kernel), List.mem_of_getElem? (i := 624) (by decide +kernel)⟩
theorem lw_p8 : lw_okq (⟨"CellarCars$Shunting", "search", "(III)Z"⟩, 3) := ⟨⟨by decide +kernel, by decide +kernel⟩, List.mem_of_getElem? (i := 212) (by decide +kernel), List.mem_of_getElem? (i := 641) (by decide +kernel), List.mem_of_getElem? (i := 642) (by decide +kernel)⟩
theorem lw_p9 : lw_okq (⟨"CellarCars$Planning", "assign", "(LCellarCars$Desk;II)V"⟩, 4) := ⟨⟨by decide +kernel, by decide +kernel⟩, List.mem_of_getElem? (i := 231) (by decide +kernel), List.mem_of_getElem? (i := 720) (by decide +kernel), List.mem_of_getElem? (i := 721) (by decide +kernel)⟩
theorem lw_p10 : lw_okq (⟨"CellarCars$Planning", "added", "(LCellarCars$Desk;I)I"⟩, 4) := ⟨⟨by decide +kernel, by decide +kernel⟩, List.mem_of_getElem? (i := 231) (by decide +kernel), List.mem_of_getElem? (i := 727) (by decide +kernel), List.mem_of_getElem? (i := 728) (by decide +kernel)⟩
theorem lw_p11 : lw_okq (⟨"CellarCars$Charge", "waitingCars", "(LCellarCars$Garage;)I"⟩, 2) := ⟨⟨by decide +kernel, by decide +kernel⟩, List.mem_of_getElem? (i := 251) (by decide +kernel), List.mem_of_getElem? (i := 747) (by decide +kernel), List.mem_of_getElem? (i := 748) (by decide +kernel)⟩
theorem lw_p12 : lw_okq (⟨"CellarCars$Charge", "neediest", "(LCellarCars$Garage;I)I"⟩, 2) := ⟨⟨by decide +kernel, by decide +kernel⟩, List.mem_of_getElem? (i := 251) (by decide +kernel), List.mem_of_getElem? (i := 757) (by decide +kernel), List.mem_of_getElem? (i := 758) (by decide +kernel)⟩
theorem lw_p13 : lw_okq (⟨"CellarCars$Charge", "chargeThose", "(LCellarCars$Garage;I)I"⟩, 2) := ⟨⟨by decide +kernel, by decide +kernel⟩, List.mem_of_getElem? (i := 251) (by decide +kernel), List.mem_of_getElem? (i := 761) (by decide +kernel), List.mem_of_getElem? (i := 762) (by decide +kernel)⟩
theorem lw_p14 : lw_okq (⟨"CellarCars$Renting", "give", "([IIIII)V"⟩, 3) := ⟨⟨by decide +kernel, by decide +kernel⟩, List.mem_of_getElem? (i := 265) (by decide +kernel), List.mem_of_getElem? (i := 785) (by decide +kernel), List.mem_of_getElem? (i := 786) (by decide +kernel)⟩
theorem lw_p15 : lw_okq (⟨"CellarCars$Led", "latestUnharmed", "(I)I"⟩, 3) := ⟨⟨by decide +kernel, by decide +kernel⟩, List.mem_of_getElem? (i := 100) (by decide +kernel), List.mem_of_getElem? (i := 822) (by decide +kernel), List.mem_of_getElem? (i := 823) (by decide +kernel)⟩
def lw_privs_1 : List (MethodName × Nat) := [(⟨"CellarCars", "refuse", "(I)I"⟩, 12), (⟨"CellarCars", "keepForUndo", "()V"⟩, 12), (⟨"CellarCars$Garage", "cycleOf", "(I)I"⟩, 13), (⟨"CellarCars", "isLet", "(III)Z"⟩, 12), (⟨"CellarCars$Rules", "worked", "(II)I"⟩, 2), (⟨"CellarCars$Rules", "knownBy", "(I)I"⟩, 2), (⟨"CellarCars", "inLaneFinding", "(I)I"⟩, 12), (⟨"CellarCars", "keysNow", "()I"⟩, 12), (⟨"CellarCars$Shunting", "search", "(III)Z"⟩, 3), (⟨"CellarCars$Planning", "assign", "(LCellarCars$Desk;II)V"⟩, 4), (⟨"CellarCars$Planning", "added", "(LCellarCars$Desk;I)I"⟩, 4), (⟨"CellarCars$Charge", "waitingCars", "(LCellarCars$Garage;)I"⟩, 2), (⟨"CellarCars$Charge", "neediest", "(LCellarCars$Garage;I)I"⟩, 2), (⟨"CellarCars$Charge", "chargeThose", "(LCellarCars$Garage;I)I"⟩, 2), (⟨"CellarCars$Renting", "give", "([IIIII)V"⟩, 3), (⟨"CellarCars$Led", "latestUnharmed", "(I)I"⟩, 3)]
theorem lw_r1 : ∀ q ∈ lw_privs_1, lw_okq q := List.forall_mem_cons.mpr ⟨lw_p0, List.forall_mem_cons.mpr ⟨lw_p1, List.forall_mem_cons.mpr ⟨lw_p2, List.forall_mem_cons.mpr ⟨lw_p3, List.forall_mem_cons.mpr ⟨lw_p4, List.forall_mem_cons.mpr ⟨lw_p5, List.forall_mem_cons.mpr ⟨lw_p6, List.forall_mem_cons.mpr ⟨lw_p7, List.forall_mem_cons.mpr ⟨lw_p8, List.forall_mem_cons.mpr ⟨lw_p9, List.forall_mem_cons.mpr ⟨lw_p10, List.forall_mem_cons.mpr ⟨lw_p11, List.forall_mem_cons.mpr ⟨lw_p12, List.forall_mem_cons.mpr ⟨lw_p13, List.forall_mem_cons.mpr ⟨lw_p14, List.forall_mem_cons.mpr ⟨lw_p15, fun _ h => absurd h List.not_mem_nil⟩⟩⟩⟩⟩⟩⟩⟩⟩⟩⟩⟩⟩⟩⟩⟩
theorem lw_p16 : lw_okq (⟨"CellarCars$Led", "firstHarmed", "(II)I"⟩, 3) := ⟨⟨by decide +kernel, by decide +kernel⟩, List.mem_of_getElem? (i := 100) (by decide +kernel), List.mem_of_getElem? (i := 826) (by decide +kernel), List.mem_of_getElem? (i := 827) (by decide +kernel)⟩
theorem lw_p17 : lw_okq (⟨"CellarCars$Led", "shuntsBy", "(IIII)I"⟩, 3) := ⟨⟨by decide +kernel, by decide +kernel⟩, List.mem_of_getElem? (i := 100) (by decide +kernel), List.mem_of_getElem? (i := 830) (by decide +kernel), List.mem_of_getElem? (i := 831) (by decide +kernel)⟩
theorem lw_p18 : lw_okq (⟨"CellarCars$Rescuing", "takeMore", "(LCellarCars$Garage;III)V"⟩, 5) := ⟨⟨by decide +kernel, by decide +kernel⟩, List.mem_of_getElem? (i := 295) (by decide +kernel), List.mem_of_getElem? (i := 867) (by decide +kernel), List.mem_of_getElem? (i := 868) (by decide +kernel)⟩
theorem lw_p19 : lw_okq (⟨"CellarCarsModel", "finding", "(I)I"⟩, 21) := ⟨⟨by decide +kernel, by decide +kernel⟩, List.mem_of_getElem? (i := 944) (by decide +kernel), List.mem_of_getElem? (i := 1019) (by decide +kernel), List.mem_of_getElem? (i := 1020) (by decide +kernel)⟩
theorem lw_p20 : lw_okq (⟨"CellarCarsModel", "keep", "()V"⟩, 21) := ⟨⟨by decide +kernel, by decide +kernel⟩, List.mem_of_getElem? (i := 944) (by decide +kernel), List.mem_of_getElem? (i := 1032) (by decide +kernel), List.mem_of_getElem? (i := 1033) (by decide +kernel)⟩
theorem lw_p21 : lw_okq (⟨"CellarCarsModel", "isLane", "(I)Z"⟩, 21) := ⟨⟨by decide +kernel, by decide +kernel⟩, List.mem_of_getElem? (i := 944) (by decide +kernel), List.mem_of_getElem? (i := 1040) (by decide +kernel), List.mem_of_getElem? (i := 1041) (by decide +kernel)⟩
theorem lw_p22 : lw_okq (⟨"CellarCarsModel", "leftOf", "(I)I"⟩, 21) := ⟨⟨by decide +kernel, by decide +kernel⟩, List.mem_of_getElem? (i := 944) (by decide +kernel), List.mem_of_getElem? (i := 1049) (by decide +kernel), List.mem_of_getElem? (i := 1050) (by decide +kernel)⟩
theorem lw_p23 : lw_okq (⟨"CellarCarsModel", "carAt", "(II)I"⟩, 21) := ⟨⟨by decide +kernel, by decide +kernel⟩, List.mem_of_getElem? (i := 944) (by decide +kernel), List.mem_of_getElem? (i := 1053) (by decide +kernel), List.mem_of_getElem? (i := 1054) (by decide +kernel)⟩
theorem lw_p24 : lw_okq (⟨"CellarCarsModel", "isLift", "(I)Z"⟩, 21) := ⟨⟨by decide +kernel, by decide +kernel⟩, List.mem_of_getElem? (i := 944) (by decide +kernel), List.mem_of_getElem? (i := 1061) (by decide +kernel), List.mem_of_getElem? (i := 1062) (by decide +kernel)⟩
theorem lw_p25 : lw_okq (⟨"CellarCarsModel", "isCar", "(I)Z"⟩, 21) := ⟨⟨by decide +kernel, by decide +kernel⟩, List.mem_of_getElem? (i := 944) (by decide +kernel), List.mem_of_getElem? (i := 1076) (by decide +kernel), List.mem_of_getElem? (i := 1077) (by decide +kernel)⟩
theorem lw_p26 : lw_okq (⟨"CellarCarsModel", "standOf", "(I)I"⟩, 21) := ⟨⟨by decide +kernel, by decide +kernel⟩, List.mem_of_getElem? (i := 944) (by decide +kernel), List.mem_of_getElem? (i := 1080) (by decide +kernel), List.mem_of_getElem? (i := 1081) (by decide +kernel)⟩
theorem lw_p27 : lw_okq (⟨"CellarCarsModel", "manyAhead", "(I)I"⟩, 21) := ⟨⟨by decide +kernel, by decide +kernel⟩, List.mem_of_getElem? (i := 944) (by decide +kernel), List.mem_of_getElem? (i := 1084) (by decide +kernel), List.mem_of_getElem? (i := 1085) (by decide +kernel)⟩
theorem lw_p28 : lw_okq (⟨"CellarCarsModel", "canFit", "(II)Z"⟩, 21) := ⟨⟨by decide +kernel, by decide +kernel⟩, List.mem_of_getElem? (i := 944) (by decide +kernel), List.mem_of_getElem? (i := 1100) (by decide +kernel), List.mem_of_getElem? (i := 1101) (by decide +kernel)⟩
theorem lw_p29 : lw_okq (⟨"CellarCarsModel", "isStuck", "(I)Z"⟩, 21) := ⟨⟨by decide +kernel, by decide +kernel⟩, List.mem_of_getElem? (i := 944) (by decide +kernel), List.mem_of_getElem? (i := 1109) (by decide +kernel), List.mem_of_getElem? (i := 1110) (by decide +kernel)⟩
theorem lw_p30 : lw_okq (⟨"CellarCarsModel", "comes", "(II)V"⟩, 21) := ⟨⟨by decide +kernel, by decide +kernel⟩, List.mem_of_getElem? (i := 944) (by decide +kernel), List.mem_of_getElem? (i := 1114) (by decide +kernel), List.mem_of_getElem? (i := 1115) (by decide +kernel)⟩
theorem lw_p31 : lw_okq (⟨"CellarCarsModel", "turns", "(I)V"⟩, 21) := ⟨⟨by decide +kernel, by decide +kernel⟩, List.mem_of_getElem? (i := 944) (by decide +kernel), List.mem_of_getElem? (i := 1118) (by decide +kernel), List.mem_of_getElem? (i := 1119) (by decide +kernel)⟩
def lw_privs_2 : List (MethodName × Nat) := [(⟨"CellarCars$Led", "firstHarmed", "(II)I"⟩, 3), (⟨"CellarCars$Led", "shuntsBy", "(IIII)I"⟩, 3), (⟨"CellarCars$Rescuing", "takeMore", "(LCellarCars$Garage;III)V"⟩, 5), (⟨"CellarCarsModel", "finding", "(I)I"⟩, 21), (⟨"CellarCarsModel", "keep", "()V"⟩, 21), (⟨"CellarCarsModel", "isLane", "(I)Z"⟩, 21), (⟨"CellarCarsModel", "leftOf", "(I)I"⟩, 21), (⟨"CellarCarsModel", "carAt", "(II)I"⟩, 21), (⟨"CellarCarsModel", "isLift", "(I)Z"⟩, 21), (⟨"CellarCarsModel", "isCar", "(I)Z"⟩, 21), (⟨"CellarCarsModel", "standOf", "(I)I"⟩, 21), (⟨"CellarCarsModel", "manyAhead", "(I)I"⟩, 21), (⟨"CellarCarsModel", "canFit", "(II)Z"⟩, 21), (⟨"CellarCarsModel", "isStuck", "(I)Z"⟩, 21), (⟨"CellarCarsModel", "comes", "(II)V"⟩, 21), (⟨"CellarCarsModel", "turns", "(I)V"⟩, 21)]
theorem lw_r2 : ∀ q ∈ lw_privs_2, lw_okq q := List.forall_mem_cons.mpr ⟨lw_p16, List.forall_mem_cons.mpr ⟨lw_p17, List.forall_mem_cons.mpr ⟨lw_p18, List.forall_mem_cons.mpr ⟨lw_p19, List.forall_mem_cons.mpr ⟨lw_p20, List.forall_mem_cons.mpr ⟨lw_p21, List.forall_mem_cons.mpr ⟨lw_p22, List.forall_mem_cons.mpr ⟨lw_p23, List.forall_mem_cons.mpr ⟨lw_p24, List.forall_mem_cons.mpr ⟨lw_p25, List.forall_mem_cons.mpr ⟨lw_p26, List.forall_mem_cons.mpr ⟨lw_p27, List.forall_mem_cons.mpr ⟨lw_p28, List.forall_mem_cons.mpr ⟨lw_p29, List.forall_mem_cons.mpr ⟨lw_p30, List.forall_mem_cons.mpr ⟨lw_p31, fun _ h => absurd h List.not_mem_nil⟩⟩⟩⟩⟩⟩⟩⟩⟩⟩⟩⟩⟩⟩⟩⟩
theorem lw_p32 : lw_okq (⟨"CellarCarsModel", "hinders", "(II)I"⟩, 21) := ⟨⟨by decide +kernel, by decide +kernel⟩, List.mem_of_getElem? (i := 944) (by decide +kernel), List.mem_of_getElem? (i := 1126) (by decide +kernel), List.mem_of_getElem? (i := 1127) (by decide +kernel)⟩
theorem lw_p33 : lw_okq (⟨"CellarCarsModel", "isFree", "(I)Z"⟩, 21) := ⟨⟨by decide +kernel, by decide +kernel⟩, List.mem_of_getElem? (i := 944) (by decide +kernel), List.mem_of_getElem? (i := 1130) (by decide +kernel), List.mem_of_getElem? (i := 1131) (by decide +kernel)⟩
theorem lw_p34 : lw_okq (⟨"CellarCarsModel", "hasKey", "(III)Z"⟩, 21) := ⟨⟨by decide +kernel, by decide +kernel⟩, List.mem_of_getElem? (i := 944) (by decide +kernel), List.mem_of_getElem? (i := 1134) (by decide +kernel), List.mem_of_getElem? (i := 1135) (by decide +kernel)⟩
theorem lw_p35 : lw_okq (⟨"CellarCarsModel", "isLet", "(III)Z"⟩, 21) := ⟨⟨by decide +kernel, by decide +kernel⟩, List.mem_of_getElem? (i := 944) (by decide +kernel), List.mem_of_getElem? (i := 1139) (by decide +kernel), List.mem_of_getElem? (i := 1140) (by decide +kernel)⟩
theorem lw_p36 : lw_okq (⟨"CellarCarsModel", "wrongAt", "()I"⟩, 21) := ⟨⟨by decide +kernel, by decide +kernel⟩, List.mem_of_getElem? (i := 944) (by decide +kernel), List.mem_of_getElem? (i := 1143) (by decide +kernel), List.mem_of_getElem? (i := 1144) (by decide +kernel)⟩
theorem lw_p37 : lw_okq (⟨"CellarCarsModel", "readBy", "(IIII)I"⟩, 21) := ⟨⟨by decide +kernel, by decide +kernel⟩, List.mem_of_getElem? (i := 944) (by decide +kernel), List.mem_of_getElem? (i := 1147) (by decide +kernel), List.mem_of_getElem? (i := 1148) (by decide +kernel)⟩
theorem lw_p38 : lw_okq (⟨"CellarCarsModel", "does", "(II)V"⟩, 21) := ⟨⟨by decide +kernel, by decide +kernel⟩, List.mem_of_getElem? (i := 944) (by decide +kernel), List.mem_of_getElem? (i := 1155) (by decide +kernel), List.mem_of_getElem? (i := 1156) (by decide +kernel)⟩
theorem lw_p39 : lw_okq (⟨"CellarCarsModel", "goes", "(I)V"⟩, 21) := ⟨⟨by decide +kernel, by decide +kernel⟩, List.mem_of_getElem? (i := 944) (by decide +kernel), List.mem_of_getElem? (i := 1159) (by decide +kernel), List.mem_of_getElem? (i := 1160) (by decide +kernel)⟩
theorem lw_p40 : lw_okq (⟨"CellarCarsModel", "led", "(I)V"⟩, 21) := ⟨⟨by decide +kernel, by decide +kernel⟩, List.mem_of_getElem? (i := 944) (by decide +kernel), List.mem_of_getElem? (i := 1163) (by decide +kernel), List.mem_of_getElem? (i := 1164) (by decide +kernel)⟩
theorem lw_p41 : lw_okq (⟨"CellarCarsModel", "findFewest", "(I)I"⟩, 21) := ⟨⟨by decide +kernel, by decide +kernel⟩, List.mem_of_getElem? (i := 944) (by decide +kernel), List.mem_of_getElem? (i := 1187) (by decide +kernel), List.mem_of_getElem? (i := 1188) (by decide +kernel)⟩
theorem lw_p42 : lw_okq (⟨"CellarCarsModel", "frees", "(III)Z"⟩, 21) := ⟨⟨by decide +kernel, by decide +kernel⟩, List.mem_of_getElem? (i := 944) (by decide +kernel), List.mem_of_getElem? (i := 1191) (by decide +kernel), List.mem_of_getElem? (i := 1192) (by decide +kernel)⟩
theorem lw_p43 : lw_okq (⟨"CellarCarsModel", "lay", "(I)V"⟩, 21) := ⟨⟨by decide +kernel, by decide +kernel⟩, List.mem_of_getElem? (i := 944) (by decide +kernel), List.mem_of_getElem? (i := 1195) (by decide +kernel), List.mem_of_getElem? (i := 1196) (by decide +kernel)⟩
theorem lw_p44 : lw_okq (⟨"CellarCarsModel", "bring", "(I)V"⟩, 21) := ⟨⟨by decide +kernel, by decide +kernel⟩, List.mem_of_getElem? (i := 944) (by decide +kernel), List.mem_of_getElem? (i := 1199) (by decide +kernel), List.mem_of_getElem? (i := 1200) (by decide +kernel)⟩
theorem lw_p45 : lw_okq (⟨"CellarCarsModel", "morningOf", "(I)I"⟩, 21) := ⟨⟨by decide +kernel, by decide +kernel⟩, List.mem_of_getElem? (i := 944) (by decide +kernel), List.mem_of_getElem? (i := 1218) (by decide +kernel), List.mem_of_getElem? (i := 1219) (by decide +kernel)⟩
theorem lw_p46 : lw_okq (⟨"CellarCarsModel", "arrivalOf", "(I)I"⟩, 21) := ⟨⟨by decide +kernel, by decide +kernel⟩, List.mem_of_getElem? (i := 944) (by decide +kernel), List.mem_of_getElem? (i := 1226) (by decide +kernel), List.mem_of_getElem? (i := 1227) (by decide +kernel)⟩
theorem lw_p47 : lw_okq (⟨"CellarCarsModel", "findPlan", "()V"⟩, 21) := ⟨⟨by decide +kernel, by decide +kernel⟩, List.mem_of_getElem? (i := 944) (by decide +kernel), List.mem_of_getElem? (i := 1238) (by decide +kernel), List.mem_of_getElem? (i := 1239) (by decide +kernel)⟩
def lw_privs_3 : List (MethodName × Nat) := [(⟨"CellarCarsModel", "hinders", "(II)I"⟩, 21), (⟨"CellarCarsModel", "isFree", "(I)Z"⟩, 21), (⟨"CellarCarsModel", "hasKey", "(III)Z"⟩, 21), (⟨"CellarCarsModel", "isLet", "(III)Z"⟩, 21), (⟨"CellarCarsModel", "wrongAt", "()I"⟩, 21), (⟨"CellarCarsModel", "readBy", "(IIII)I"⟩, 21), (⟨"CellarCarsModel", "does", "(II)V"⟩, 21), (⟨"CellarCarsModel", "goes", "(I)V"⟩, 21), (⟨"CellarCarsModel", "led", "(I)V"⟩, 21), (⟨"CellarCarsModel", "findFewest", "(I)I"⟩, 21), (⟨"CellarCarsModel", "frees", "(III)Z"⟩, 21), (⟨"CellarCarsModel", "lay", "(I)V"⟩, 21), (⟨"CellarCarsModel", "bring", "(I)V"⟩, 21), (⟨"CellarCarsModel", "morningOf", "(I)I"⟩, 21), (⟨"CellarCarsModel", "arrivalOf", "(I)I"⟩, 21), (⟨"CellarCarsModel", "findPlan", "()V"⟩, 21)]
theorem lw_r3 : ∀ q ∈ lw_privs_3, lw_okq q := List.forall_mem_cons.mpr ⟨lw_p32, List.forall_mem_cons.mpr ⟨lw_p33, List.forall_mem_cons.mpr ⟨lw_p34, List.forall_mem_cons.mpr ⟨lw_p35, List.forall_mem_cons.mpr ⟨lw_p36, List.forall_mem_cons.mpr ⟨lw_p37, List.forall_mem_cons.mpr ⟨lw_p38, List.forall_mem_cons.mpr ⟨lw_p39, List.forall_mem_cons.mpr ⟨lw_p40, List.forall_mem_cons.mpr ⟨lw_p41, List.forall_mem_cons.mpr ⟨lw_p42, List.forall_mem_cons.mpr ⟨lw_p43, List.forall_mem_cons.mpr ⟨lw_p44, List.forall_mem_cons.mpr ⟨lw_p45, List.forall_mem_cons.mpr ⟨lw_p46, List.forall_mem_cons.mpr ⟨lw_p47, fun _ h => absurd h List.not_mem_nil⟩⟩⟩⟩⟩⟩⟩⟩⟩⟩⟩⟩⟩⟩⟩⟩
theorem lw_p48 : lw_okq (⟨"CellarCarsModel", "plans", "(II)V"⟩, 21) := ⟨⟨by decide +kernel, by decide +kernel⟩, List.mem_of_getElem? (i := 944) (by decide +kernel), List.mem_of_getElem? (i := 1242) (by decide +kernel), List.mem_of_getElem? (i := 1243) (by decide +kernel)⟩
theorem lw_p49 : lw_okq (⟨"CellarCarsModel", "moreBy", "(II)I"⟩, 21) := ⟨⟨by decide +kernel, by decide +kernel⟩, List.mem_of_getElem? (i := 944) (by decide +kernel), List.mem_of_getElem? (i := 1246) (by decide +kernel), List.mem_of_getElem? (i := 1247) (by decide +kernel)⟩
theorem lw_p50 : lw_okq (⟨"CellarCarsModel", "findCharged", "()I"⟩, 21) := ⟨⟨by decide +kernel, by decide +kernel⟩, List.mem_of_getElem? (i := 944) (by decide +kernel), List.mem_of_getElem? (i := 1262) (by decide +kernel), List.mem_of_getElem? (i := 1263) (by decide +kernel)⟩
theorem lw_p51 : lw_okq (⟨"CellarCarsModel", "canAll", "(I)Z"⟩, 21) := ⟨⟨by decide +kernel, by decide +kernel⟩, List.mem_of_getElem? (i := 944) (by decide +kernel), List.mem_of_getElem? (i := 1269) (by decide +kernel), List.mem_of_getElem? (i := 1270) (by decide +kernel)⟩
theorem lw_p52 : lw_okq (⟨"CellarCarsModel", "begin", "(I)V"⟩, 21) := ⟨⟨by decide +kernel, by decide +kernel⟩, List.mem_of_getElem? (i := 944) (by decide +kernel), List.mem_of_getElem? (i := 1273) (by decide +kernel), List.mem_of_getElem? (i := 1274) (by decide +kernel)⟩
theorem lw_p53 : lw_okq (⟨"CellarCarsModel", "charge", "(I)I"⟩, 21) := ⟨⟨by decide +kernel, by decide +kernel⟩, List.mem_of_getElem? (i := 944) (by decide +kernel), List.mem_of_getElem? (i := 1277) (by decide +kernel), List.mem_of_getElem? (i := 1278) (by decide +kernel)⟩
theorem lw_p54 : lw_okq (⟨"CellarCarsModel", "findGiving", "()I"⟩, 21) := ⟨⟨by decide +kernel, by decide +kernel⟩, List.mem_of_getElem? (i := 944) (by decide +kernel), List.mem_of_getElem? (i := 1293) (by decide +kernel), List.mem_of_getElem? (i := 1294) (by decide +kernel)⟩
theorem lw_p55 : lw_okq (⟨"CellarCarsModel", "mostFrom", "(III)I"⟩, 21) := ⟨⟨by decide +kernel, by decide +kernel⟩, List.mem_of_getElem? (i := 944) (by decide +kernel), List.mem_of_getElem? (i := 1297) (by decide +kernel), List.mem_of_getElem? (i := 1298) (by decide +kernel)⟩
theorem lw_p56 : lw_okq (⟨"CellarCarsModel", "findRescue", "()V"⟩, 21) := ⟨⟨by decide +kernel, by decide +kernel⟩, List.mem_of_getElem? (i := 944) (by decide +kernel), List.mem_of_getElem? (i := 1350) (by decide +kernel), List.mem_of_getElem? (i := 1351) (by decide +kernel)⟩
theorem lw_p57 : lw_okq (⟨"CellarCarsModel", "rescues", "(II)V"⟩, 21) := ⟨⟨by decide +kernel, by decide +kernel⟩, List.mem_of_getElem? (i := 944) (by decide +kernel), List.mem_of_getElem? (i := 1354) (by decide +kernel), List.mem_of_getElem? (i := 1355) (by decide +kernel)⟩
theorem lw_p58 : lw_okq (⟨"CellarCarsModel", "minuteOf", "(I)I"⟩, 21) := ⟨⟨by decide +kernel, by decide +kernel⟩, List.mem_of_getElem? (i := 944) (by decide +kernel), List.mem_of_getElem? (i := 1358) (by decide +kernel), List.mem_of_getElem? (i := 1359) (by decide +kernel)⟩
def lw_privs_4 : List (MethodName × Nat) := [(⟨"CellarCarsModel", "plans", "(II)V"⟩, 21), (⟨"CellarCarsModel", "moreBy", "(II)I"⟩, 21), (⟨"CellarCarsModel", "findCharged", "()I"⟩, 21), (⟨"CellarCarsModel", "canAll", "(I)Z"⟩, 21), (⟨"CellarCarsModel", "begin", "(I)V"⟩, 21), (⟨"CellarCarsModel", "charge", "(I)I"⟩, 21), (⟨"CellarCarsModel", "findGiving", "()I"⟩, 21), (⟨"CellarCarsModel", "mostFrom", "(III)I"⟩, 21), (⟨"CellarCarsModel", "findRescue", "()V"⟩, 21), (⟨"CellarCarsModel", "rescues", "(II)V"⟩, 21), (⟨"CellarCarsModel", "minuteOf", "(I)I"⟩, 21)]
theorem lw_r4 : ∀ q ∈ lw_privs_4, lw_okq q := List.forall_mem_cons.mpr ⟨lw_p48, List.forall_mem_cons.mpr ⟨lw_p49, List.forall_mem_cons.mpr ⟨lw_p50, List.forall_mem_cons.mpr ⟨lw_p51, List.forall_mem_cons.mpr ⟨lw_p52, List.forall_mem_cons.mpr ⟨lw_p53, List.forall_mem_cons.mpr ⟨lw_p54, List.forall_mem_cons.mpr ⟨lw_p55, List.forall_mem_cons.mpr ⟨lw_p56, List.forall_mem_cons.mpr ⟨lw_p57, List.forall_mem_cons.mpr ⟨lw_p58, fun _ h => absurd h List.not_mem_nil⟩⟩⟩⟩⟩⟩⟩⟩⟩⟩⟩
def lw_privs : List (MethodName × Nat) := lw_privs_1 ++ (lw_privs_2 ++ (lw_privs_3 ++ (lw_privs_4)))
def lw_tbl : List Cond := k2_sels lw_privs ++ tables_1
theorem lw_privs_ok : ∀ q ∈ lw_privs, lw_okq q := by
  show ∀ q ∈ lw_privs_1 ++ (lw_privs_2 ++ (lw_privs_3 ++ (lw_privs_4))), lw_okq q
  exact List.forall_mem_append.mpr ⟨lw_r1, List.forall_mem_append.mpr ⟨lw_r2, List.forall_mem_append.mpr ⟨lw_r3, lw_r4⟩⟩⟩

def RX0 : String := "CellarCars$Charge"
def TX0 : u_T := fun k => match k with
  | 0 => ("CellarCars$Charge", "inHour", "[I", true)
  | _ => ("CellarCars$Charge", "still", "[I", true)
def tyX0 : Nat → FieldType := fun k => match k with
  | 0 => .array .int
  | _ => .array .int
abbrev wsX00 : List Cond := u_ws RX0 TX0 2
theorem nmX0 : ∀ a, a < 2 → ∀ b, b < 2 → a ≠ b → (TX0 a).2.1 ≠ (TX0 b).2.1 := by decide +kernel
theorem tyX0_ok : ∀ k, k < 2 → parseFieldDescriptor (TX0 k).2.2.1 = some (tyX0 k) := by decide +kernel
abbrev cX0_init : ByteArray := prog_2_method_1_code
def yX0_init : MethodName := ⟨RX0, "<init>", "()V"⟩
abbrev cX0_mostCars : ByteArray := prog_2_method_2_code
def yX0_mostCars : MethodName := ⟨RX0, "mostCars", "(LCellarCars$Garage;I)I"⟩
abbrev cX0_waitingCars : ByteArray := prog_2_method_3_code
def yX0_waitingCars : MethodName := ⟨RX0, "waitingCars", "(LCellarCars$Garage;)I"⟩
abbrev cX0_shareHours : ByteArray := prog_2_method_4_code
def yX0_shareHours : MethodName := ⟨RX0, "shareHours", "(LCellarCars$Garage;II)Z"⟩
abbrev cX0_neediest : ByteArray := prog_2_method_5_code
def yX0_neediest : MethodName := ⟨RX0, "neediest", "(LCellarCars$Garage;I)I"⟩
abbrev cX0_chargeThose : ByteArray := prog_2_method_6_code
def yX0_chargeThose : MethodName := ⟨RX0, "chargeThose", "(LCellarCars$Garage;I)I"⟩
def RX1 : String := "CellarCars$Desk"
def TX1 : u_T := fun k => match k with
  | 0 => ("CellarCars$Desk", "garage", "LCellarCars$Garage;", true)
  | 1 => ("CellarCars$Desk", "led", "LCellarCars$Led;", true)
  | 2 => ("CellarCars$Desk", "keys", "LCellarCars$Keys;", true)
  | 3 => ("CellarCars$Desk", "bids", "[I", true)
  | 4 => ("CellarCars$Desk", "text", "[I", true)
  | 5 => ("CellarCars$Desk", "evening", "[I", true)
  | 6 => ("CellarCars$Desk", "signs", "I", false)
  | 7 => ("CellarCars$Desk", "arriving", "I", false)
  | 8 => ("CellarCars$Desk", "hour", "I", false)
  | 9 => ("CellarCars$Desk", "chargers", "I", false)
  | 10 => ("CellarCars$Desk", "porter", "I", false)
  | 11 => ("CellarCars$Desk", "pace", "I", false)
  | _ => ("CellarCars$Desk", "shunts", "I", false)
def tyX1 : Nat → FieldType := fun k => match k with
  | 0 => .object "CellarCars$Garage"
  | 1 => .object "CellarCars$Led"
  | 2 => .object "CellarCars$Keys"
  | 3 => .array .int
  | 4 => .array .int
  | 5 => .array .int
  | 6 => .int
  | 7 => .int
  | 8 => .int
  | 9 => .int
  | 10 => .int
  | 11 => .int
  | _ => .int
abbrev wsX10 : List Cond := u_ws RX1 TX1 13
theorem nmX1 : ∀ a, a < 13 → ∀ b, b < 13 → a ≠ b → (TX1 a).2.1 ≠ (TX1 b).2.1 := by decide +kernel
theorem tyX1_ok : ∀ k, k < 13 → parseFieldDescriptor (TX1 k).2.2.1 = some (tyX1 k) := by decide +kernel
abbrev cX1_init : ByteArray := prog_3_method_1_code
def yX1_init : MethodName := ⟨RX1, "<init>", "()V"⟩
abbrev cX1_become : ByteArray := prog_3_method_2_code
def yX1_become : MethodName := ⟨RX1, "become", "(LCellarCars$Desk;)V"⟩
abbrev cX1_placeInEvening : ByteArray := prog_3_method_3_code
def yX1_placeInEvening : MethodName := ⟨RX1, "placeInEvening", "(I)I"⟩
def RX2 : String := "CellarCars$Garage"
def TX2 : u_T := fun k => match k with
  | 0 => ("CellarCars$Garage", "lanes", "I", false)
  | 1 => ("CellarCars$Garage", "cars", "I", false)
  | 2 => ("CellarCars$Garage", "laneKind", "[I", true)
  | 3 => ("CellarCars$Garage", "laneLength", "[I", true)
  | 4 => ("CellarCars$Garage", "laneHeight", "[I", true)
  | 5 => ("CellarCars$Garage", "laneLoad", "[I", true)
  | 6 => ("CellarCars$Garage", "minute", "[I", true)
  | 7 => ("CellarCars$Garage", "cycles", "[I", true)
  | 8 => ("CellarCars$Garage", "broken", "[I", true)
  | 9 => ("CellarCars$Garage", "standing", "[I", true)
  | 10 => ("CellarCars$Garage", "places", "[I", true)
  | 11 => ("CellarCars$Garage", "facts", "[I", true)
  | _ => ("CellarCars$Garage", "where", "[I", true)
def tyX2 : Nat → FieldType := fun k => match k with
  | 0 => .int
  | 1 => .int
  | 2 => .array .int
  | 3 => .array .int
  | 4 => .array .int
  | 5 => .array .int
  | 6 => .array .int
  | 7 => .array .int
  | 8 => .array .int
  | 9 => .array .int
  | 10 => .array .int
  | 11 => .array .int
  | _ => .array .int
abbrev wsX20 : List Cond := u_ws RX2 TX2 13
theorem nmX2 : ∀ a, a < 13 → ∀ b, b < 13 → a ≠ b → (TX2 a).2.1 ≠ (TX2 b).2.1 := by decide +kernel
theorem tyX2_ok : ∀ k, k < 13 → parseFieldDescriptor (TX2 k).2.2.1 = some (tyX2 k) := by decide +kernel
abbrev cX2_init : ByteArray := prog_4_method_1_code
def yX2_init : MethodName := ⟨RX2, "<init>", "()V"⟩
abbrev cX2_become : ByteArray := prog_4_method_2_code
def yX2_become : MethodName := ⟨RX2, "become", "(LCellarCars$Garage;)V"⟩
abbrev cX2_isKind : ByteArray := prog_4_method_3_code
def yX2_isKind : MethodName := ⟨RX2, "isKind", "(I)Z"⟩
abbrev cX2_isFact : ByteArray := prog_4_method_4_code
def yX2_isFact : MethodName := ⟨RX2, "isFact", "(II)Z"⟩
abbrev cX2_hasLane : ByteArray := prog_4_method_5_code
def yX2_hasLane : MethodName := ⟨RX2, "hasLane", "(I)Z"⟩
abbrev cX2_hasCar : ByteArray := prog_4_method_6_code
def yX2_hasCar : MethodName := ⟨RX2, "hasCar", "(I)Z"⟩
abbrev cX2_addLane : ByteArray := prog_4_method_7_code
def yX2_addLane : MethodName := ⟨RX2, "addLane", "(IIII)I"⟩
abbrev cX2_addCar : ByteArray := prog_4_method_8_code
def yX2_addCar : MethodName := ⟨RX2, "addCar", "(IIIIII)I"⟩
abbrev cX2_fact : ByteArray := prog_4_method_9_code
def yX2_fact : MethodName := ⟨RX2, "fact", "(II)I"⟩
abbrev cX2_changeFact : ByteArray := prog_4_method_10_code
def yX2_changeFact : MethodName := ⟨RX2, "changeFact", "(III)I"⟩
abbrev cX2_isOfKind : ByteArray := prog_4_method_11_code
def yX2_isOfKind : MethodName := ⟨RX2, "isOfKind", "(II)Z"⟩
abbrev cX2_cycleOf : ByteArray := prog_4_method_12_code
def yX2_cycleOf : MethodName := ⟨RX2, "cycleOf", "(I)I"⟩
abbrev cX2_bears : ByteArray := prog_4_method_13_code
def yX2_bears : MethodName := ⟨RX2, "bears", "(I)I"⟩
abbrev cX2_suits : ByteArray := prog_4_method_14_code
def yX2_suits : MethodName := ⟨RX2, "suits", "(II)Z"⟩
abbrev cX2_carAt : ByteArray := prog_4_method_15_code
def yX2_carAt : MethodName := ⟨RX2, "carAt", "(II)I"⟩
abbrev cX2_lengthLeft : ByteArray := prog_4_method_16_code
def yX2_lengthLeft : MethodName := ⟨RX2, "lengthLeft", "(I)I"⟩
abbrev cX2_isShut : ByteArray := prog_4_method_17_code
def yX2_isShut : MethodName := ⟨RX2, "isShut", "(I)Z"⟩
abbrev cX2_isFree : ByteArray := prog_4_method_18_code
def yX2_isFree : MethodName := ⟨RX2, "isFree", "(I)Z"⟩
abbrev cX2_parkFinding : ByteArray := prog_4_method_19_code
def yX2_parkFinding : MethodName := ⟨RX2, "parkFinding", "(II)I"⟩
abbrev cX2_shuntFinding : ByteArray := prog_4_method_20_code
def yX2_shuntFinding : MethodName := ⟨RX2, "shuntFinding", "(II)I"⟩
abbrev cX2_bring : ByteArray := prog_4_method_21_code
def yX2_bring : MethodName := ⟨RX2, "bring", "(II)V"⟩
abbrev cX2_take : ByteArray := prog_4_method_22_code
def yX2_take : MethodName := ⟨RX2, "take", "(I)V"⟩
abbrev cX2_move : ByteArray := prog_4_method_23_code
def yX2_move : MethodName := ⟨RX2, "move", "(II)V"⟩
abbrev cX2_moveBack : ByteArray := prog_4_method_24_code
def yX2_moveBack : MethodName := ⟨RX2, "moveBack", "(II)V"⟩
abbrev cX2_forgetCycles : ByteArray := prog_4_method_25_code
def yX2_forgetCycles : MethodName := ⟨RX2, "forgetCycles", "()I"⟩
abbrev cX2_carsAhead : ByteArray := prog_4_method_26_code
def yX2_carsAhead : MethodName := ⟨RX2, "carsAhead", "(I)I"⟩
abbrev cX2_carsInLanes : ByteArray := prog_4_method_27_code
def yX2_carsInLanes : MethodName := ⟨RX2, "carsInLanes", "()I"⟩
abbrev cX2_morningOf : ByteArray := prog_4_method_28_code
def yX2_morningOf : MethodName := ⟨RX2, "morningOf", "(I)I"⟩
abbrev cX2_floodMinute : ByteArray := prog_4_method_29_code
def yX2_floodMinute : MethodName := ⟨RX2, "floodMinute", "(I)I"⟩
def RX3 : String := "CellarCars$Keys"
def TX3 : u_T := fun k => match k with
  | 0 => ("CellarCars$Keys", "count", "I", false)
  | 1 => ("CellarCars$Keys", "cars", "[I", true)
  | 2 => ("CellarCars$Keys", "hours", "[I", true)
  | _ => ("CellarCars$Keys", "has", "[I", true)
def tyX3 : Nat → FieldType := fun k => match k with
  | 0 => .int
  | 1 => .array .int
  | 2 => .array .int
  | _ => .array .int
abbrev wsX30 : List Cond := u_ws RX3 TX3 4
theorem nmX3 : ∀ a, a < 4 → ∀ b, b < 4 → a ≠ b → (TX3 a).2.1 ≠ (TX3 b).2.1 := by decide +kernel
theorem tyX3_ok : ∀ k, k < 4 → parseFieldDescriptor (TX3 k).2.2.1 = some (tyX3 k) := by decide +kernel
abbrev cX3_init : ByteArray := prog_5_method_1_code
def yX3_init : MethodName := ⟨RX3, "<init>", "()V"⟩
abbrev cX3_become : ByteArray := prog_5_method_2_code
def yX3_become : MethodName := ⟨RX3, "become", "(LCellarCars$Keys;)V"⟩
abbrev cX3_add : ByteArray := prog_5_method_3_code
def yX3_add : MethodName := ⟨RX3, "add", "(IIZ)V"⟩
abbrev cX3_isThere : ByteArray := prog_5_method_4_code
def yX3_isThere : MethodName := ⟨RX3, "isThere", "(III)Z"⟩
abbrev cX3_carsWithKey : ByteArray := prog_5_method_5_code
def yX3_carsWithKey : MethodName := ⟨RX3, "carsWithKey", "(II)I"⟩
def RX4 : String := "CellarCars$Led"
def TX4 : u_T := fun k => match k with
  | 0 => ("CellarCars$Led", "count", "I", false)
  | 1 => ("CellarCars$Led", "cars", "[I", true)
  | _ => ("CellarCars$Led", "events", "[I", true)
def tyX4 : Nat → FieldType := fun k => match k with
  | 0 => .int
  | 1 => .array .int
  | _ => .array .int
abbrev wsX40 : List Cond := u_ws RX4 TX4 3
theorem nmX4 : ∀ a, a < 3 → ∀ b, b < 3 → a ≠ b → (TX4 a).2.1 ≠ (TX4 b).2.1 := by decide +kernel
theorem tyX4_ok : ∀ k, k < 3 → parseFieldDescriptor (TX4 k).2.2.1 = some (tyX4 k) := by decide +kernel
abbrev cX4_init : ByteArray := prog_6_method_1_code
def yX4_init : MethodName := ⟨RX4, "<init>", "()V"⟩
abbrev cX4_become : ByteArray := prog_6_method_2_code
def yX4_become : MethodName := ⟨RX4, "become", "(LCellarCars$Led;)V"⟩
abbrev cX4_add : ByteArray := prog_6_method_3_code
def yX4_add : MethodName := ⟨RX4, "add", "(II)V"⟩
abbrev cX4_shareOf : ByteArray := prog_6_method_4_code
def yX4_shareOf : MethodName := ⟨RX4, "shareOf", "(III)I"⟩
abbrev cX4_latestUnharmed : ByteArray := prog_6_method_5_code
def yX4_latestUnharmed : MethodName := ⟨RX4, "latestUnharmed", "(I)I"⟩
abbrev cX4_firstHarmed : ByteArray := prog_6_method_6_code
def yX4_firstHarmed : MethodName := ⟨RX4, "firstHarmed", "(II)I"⟩
abbrev cX4_shuntsBy : ByteArray := prog_6_method_7_code
def yX4_shuntsBy : MethodName := ⟨RX4, "shuntsBy", "(IIII)I"⟩
def RX5 : String := "CellarCars$Planning"
def TX5 : u_T := fun k => match k with
  | 0 => ("CellarCars$Planning", "best", "[I", true)
  | 1 => ("CellarCars$Planning", "chosen", "[I", true)
  | 2 => ("CellarCars$Planning", "filled", "[I", true)
  | _ => ("CellarCars$Planning", "least", "I", false)
def tyX5 : Nat → FieldType := fun k => match k with
  | 0 => .array .int
  | 1 => .array .int
  | 2 => .array .int
  | _ => .int
abbrev wsX50 : List Cond := u_ws RX5 TX5 4
theorem nmX5 : ∀ a, a < 4 → ∀ b, b < 4 → a ≠ b → (TX5 a).2.1 ≠ (TX5 b).2.1 := by decide +kernel
theorem tyX5_ok : ∀ k, k < 4 → parseFieldDescriptor (TX5 k).2.2.1 = some (tyX5 k) := by decide +kernel
abbrev cX5_init : ByteArray := prog_7_method_1_code
def yX5_init : MethodName := ⟨RX5, "<init>", "()V"⟩
abbrev cX5_leastMornings : ByteArray := prog_7_method_2_code
def yX5_leastMornings : MethodName := ⟨RX5, "leastMornings", "(LCellarCars$Desk;)I"⟩
abbrev cX5_assign : ByteArray := prog_7_method_3_code
def yX5_assign : MethodName := ⟨RX5, "assign", "(LCellarCars$Desk;II)V"⟩
abbrev cX5_added : ByteArray := prog_7_method_4_code
def yX5_added : MethodName := ⟨RX5, "added", "(LCellarCars$Desk;I)I"⟩
def RX6 : String := "CellarCars$Renting"
def TX6 : u_T := fun k => match k with
  | 0 => ("CellarCars$Renting", "best", "[I", true)
  | 1 => ("CellarCars$Renting", "chosen", "[I", true)
  | _ => ("CellarCars$Renting", "most", "I", false)
def tyX6 : Nat → FieldType := fun k => match k with
  | 0 => .array .int
  | 1 => .array .int
  | _ => .int
abbrev wsX60 : List Cond := u_ws RX6 TX6 3
theorem nmX6 : ∀ a, a < 3 → ∀ b, b < 3 → a ≠ b → (TX6 a).2.1 ≠ (TX6 b).2.1 := by decide +kernel
theorem tyX6_ok : ∀ k, k < 3 → parseFieldDescriptor (TX6 k).2.2.1 = some (tyX6 k) := by decide +kernel
abbrev cX6_init : ByteArray := prog_8_method_1_code
def yX6_init : MethodName := ⟨RX6, "<init>", "()V"⟩
abbrev cX6_mostBids : ByteArray := prog_8_method_2_code
def yX6_mostBids : MethodName := ⟨RX6, "mostBids", "([II)I"⟩
abbrev cX6_give : ByteArray := prog_8_method_3_code
def yX6_give : MethodName := ⟨RX6, "give", "([IIIII)V"⟩
abbrev cX6_rentOf : ByteArray := prog_8_method_4_code
def yX6_rentOf : MethodName := ⟨RX6, "rentOf", "([II)I"⟩
def RX7 : String := "CellarCars$Rescuing"
def TX7 : u_T := fun k => match k with
  | 0 => ("CellarCars$Rescuing", "best", "[I", true)
  | 1 => ("CellarCars$Rescuing", "bestCount", "I", false)
  | 2 => ("CellarCars$Rescuing", "taken", "[I", true)
  | 3 => ("CellarCars$Rescuing", "left", "[I", true)
  | _ => ("CellarCars$Rescuing", "bestWorth", "I", false)
def tyX7 : Nat → FieldType := fun k => match k with
  | 0 => .array .int
  | 1 => .int
  | 2 => .array .int
  | 3 => .array .int
  | _ => .int
abbrev wsX70 : List Cond := u_ws RX7 TX7 5
theorem nmX7 : ∀ a, a < 5 → ∀ b, b < 5 → a ≠ b → (TX7 a).2.1 ≠ (TX7 b).2.1 := by decide +kernel
theorem tyX7_ok : ∀ k, k < 5 → parseFieldDescriptor (TX7 k).2.2.1 = some (tyX7 k) := by decide +kernel
abbrev cX7_init : ByteArray := prog_9_method_1_code
def yX7_init : MethodName := ⟨RX7, "<init>", "()V"⟩
abbrev cX7_mostWorth : ByteArray := prog_9_method_2_code
def yX7_mostWorth : MethodName := ⟨RX7, "mostWorth", "(LCellarCars$Garage;I)I"⟩
abbrev cX7_takeMore : ByteArray := prog_9_method_3_code
def yX7_takeMore : MethodName := ⟨RX7, "takeMore", "(LCellarCars$Garage;III)V"⟩
def RX8 : String := "CellarCars$Rules"
def TX8 : u_T := fun k => match k with
  | 0 => ("CellarCars$Rules", "row", "[I", true)
  | _ => ("CellarCars$Rules", "known", "[I", true)
def tyX8 : Nat → FieldType := fun k => match k with
  | 0 => .array .int
  | _ => .array .int
abbrev wsX80 : List Cond := u_ws RX8 TX8 2
theorem nmX8 : ∀ a, a < 2 → ∀ b, b < 2 → a ≠ b → (TX8 a).2.1 ≠ (TX8 b).2.1 := by decide +kernel
theorem tyX8_ok : ∀ k, k < 2 → parseFieldDescriptor (TX8 k).2.2.1 = some (tyX8 k) := by decide +kernel
abbrev cX8_init : ByteArray := prog_10_method_1_code
def yX8_init : MethodName := ⟨RX8, "<init>", "()V"⟩
abbrev cX8_isSign : ByteArray := prog_10_method_2_code
def yX8_isSign : MethodName := ⟨RX8, "isSign", "(I)Z"⟩
abbrev cX8_suppose : ByteArray := prog_10_method_3_code
def yX8_suppose : MethodName := ⟨RX8, "suppose", "(IIIIII)V"⟩
abbrev cX8_let : ByteArray := prog_10_method_4_code
def yX8_let : MethodName := ⟨RX8, "let", "([II)Z"⟩
abbrev cX8_firstFault : ByteArray := prog_10_method_5_code
def yX8_firstFault : MethodName := ⟨RX8, "firstFault", "([II)I"⟩
abbrev cX8_asked : ByteArray := prog_10_method_6_code
def yX8_asked : MethodName := ⟨RX8, "asked", "(I)I"⟩
abbrev cX8_worked : ByteArray := prog_10_method_7_code
def yX8_worked : MethodName := ⟨RX8, "worked", "(II)I"⟩
abbrev cX8_knownBy : ByteArray := prog_10_method_8_code
def yX8_knownBy : MethodName := ⟨RX8, "knownBy", "(I)I"⟩
abbrev cX8_joins : ByteArray := prog_10_method_9_code
def yX8_joins : MethodName := ⟨RX8, "joins", "(III)Z"⟩
def RX9 : String := "CellarCars$Sheets"
def TX9 : u_T := fun k => match k with
  | 0 => ("CellarCars$Sheets", "bits", "[I", true)
  | 1 => ("CellarCars$Sheets", "size", "[I", true)
  | _ => ("CellarCars$Sheets", "numbers", "[I", true)
def tyX9 : Nat → FieldType := fun k => match k with
  | 0 => .array .int
  | 1 => .array .int
  | _ => .array .int
abbrev wsX90 : List Cond := u_ws RX9 TX9 3
theorem nmX9 : ∀ a, a < 3 → ∀ b, b < 3 → a ≠ b → (TX9 a).2.1 ≠ (TX9 b).2.1 := by decide +kernel
theorem tyX9_ok : ∀ k, k < 3 → parseFieldDescriptor (TX9 k).2.2.1 = some (tyX9 k) := by decide +kernel
abbrev cX9_init : ByteArray := prog_11_method_1_code
def yX9_init : MethodName := ⟨RX9, "<init>", "()V"⟩
abbrev cX9_isSheet : ByteArray := prog_11_method_2_code
def yX9_isSheet : MethodName := ⟨RX9, "isSheet", "(I)Z"⟩
abbrev cX9_isMissing : ByteArray := prog_11_method_3_code
def yX9_isMissing : MethodName := ⟨RX9, "isMissing", "(I)Z"⟩
abbrev cX9_begin : ByteArray := prog_11_method_4_code
def yX9_begin : MethodName := ⟨RX9, "begin", "(III)V"⟩
abbrev cX9_number : ByteArray := prog_11_method_5_code
def yX9_number : MethodName := ⟨RX9, "number", "(II)I"⟩
abbrev cX9_write : ByteArray := prog_11_method_6_code
def yX9_write : MethodName := ⟨RX9, "write", "(III)V"⟩
abbrev cX9_hasSpan : ByteArray := prog_11_method_7_code
def yX9_hasSpan : MethodName := ⟨RX9, "hasSpan", "(III)Z"⟩
abbrev cX9_carryOver : ByteArray := prog_11_method_8_code
def yX9_carryOver : MethodName := ⟨RX9, "carryOver", "(IIIII)V"⟩
def RX10 : String := "CellarCars$Shunting"
def TX10 : u_T := fun k => match k with
  | 0 => ("CellarCars$Shunting", "row", "[I", true)
  | 1 => ("CellarCars$Shunting", "tried", "LCellarCars$Garage;", true)
  | _ => ("CellarCars$Shunting", "keys", "I", false)
def tyX10 : Nat → FieldType := fun k => match k with
  | 0 => .array .int
  | 1 => .object "CellarCars$Garage"
  | _ => .int
abbrev wsX100 : List Cond := u_ws RX10 TX10 3
theorem nmX10 : ∀ a, a < 3 → ∀ b, b < 3 → a ≠ b → (TX10 a).2.1 ≠ (TX10 b).2.1 := by decide +kernel
theorem tyX10_ok : ∀ k, k < 3 → parseFieldDescriptor (TX10 k).2.2.1 = some (tyX10 k) := by decide +kernel
abbrev cX10_init : ByteArray := prog_12_method_1_code
def yX10_init : MethodName := ⟨RX10, "<init>", "()V"⟩
abbrev cX10_begin : ByteArray := prog_12_method_2_code
def yX10_begin : MethodName := ⟨RX10, "begin", "(LCellarCars$Garage;I)V"⟩
abbrev cX10_frees : ByteArray := prog_12_method_3_code
def yX10_frees : MethodName := ⟨RX10, "frees", "(I)Z"⟩
abbrev cX10_shortest : ByteArray := prog_12_method_4_code
def yX10_shortest : MethodName := ⟨RX10, "shortest", "(LCellarCars$Garage;II)I"⟩
abbrev cX10_search : ByteArray := prog_12_method_5_code
def yX10_search : MethodName := ⟨RX10, "search", "(III)Z"⟩
abbrev cX10_carryOut : ByteArray := prog_12_method_6_code
def yX10_carryOut : MethodName := ⟨RX10, "carryOut", "(II)Z"⟩
def RX11 : String := "CellarCars"
def TX11 : u_T := fun k => match k with
  | 0 => ("CellarCars", "desk", "LCellarCars$Desk;", true)
  | 1 => ("CellarCars", "past", "[LCellarCars$Desk;", true)
  | 2 => ("CellarCars", "sheets", "LCellarCars$Sheets;", true)
  | 3 => ("CellarCars", "shunting", "LCellarCars$Shunting;", true)
  | 4 => ("CellarCars", "planning", "LCellarCars$Planning;", true)
  | 5 => ("CellarCars", "charge", "LCellarCars$Charge;", true)
  | 6 => ("CellarCars", "renting", "LCellarCars$Renting;", true)
  | 7 => ("CellarCars", "rules", "LCellarCars$Rules;", true)
  | 8 => ("CellarCars", "rescuing", "LCellarCars$Rescuing;", true)
  | 9 => ("CellarCars", "pastNext", "I", false)
  | 10 => ("CellarCars", "pastCount", "I", false)
  | _ => ("CellarCars", "findings", "I", false)
def tyX11 : Nat → FieldType := fun k => match k with
  | 0 => .object "CellarCars$Desk"
  | 1 => .array (.object "CellarCars$Desk")
  | 2 => .object "CellarCars$Sheets"
  | 3 => .object "CellarCars$Shunting"
  | 4 => .object "CellarCars$Planning"
  | 5 => .object "CellarCars$Charge"
  | 6 => .object "CellarCars$Renting"
  | 7 => .object "CellarCars$Rules"
  | 8 => .object "CellarCars$Rescuing"
  | 9 => .int
  | 10 => .int
  | _ => .int
abbrev wsX110 : List Cond := u_ws RX11 TX11 12
theorem nmX11 : ∀ a, a < 12 → ∀ b, b < 12 → a ≠ b → (TX11 a).2.1 ≠ (TX11 b).2.1 := by decide +kernel
theorem tyX11_ok : ∀ k, k < 12 → parseFieldDescriptor (TX11 k).2.2.1 = some (tyX11 k) := by decide +kernel
abbrev cX11_init : ByteArray := prog_1_method_1_code
def yX11_init : MethodName := ⟨RX11, "<init>", "()V"⟩
abbrev cX11_lane : ByteArray := prog_1_method_2_code
def yX11_lane : MethodName := ⟨RX11, "lane", "(IIII)I"⟩
abbrev cX11_as : ByteArray := prog_1_method_3_code
def yX11_as : MethodName := ⟨RX11, "as", "(II)I"⟩
abbrev cX11_laneIs : ByteArray := prog_1_method_4_code
def yX11_laneIs : MethodName := ⟨RX11, "laneIs", "(II)I"⟩
abbrev cX11_breaks : ByteArray := prog_1_method_5_code
def yX11_breaks : MethodName := ⟨RX11, "breaks", "(IZ)I"⟩
abbrev cX11_car : ByteArray := prog_1_method_6_code
def yX11_car : MethodName := ⟨RX11, "car", "(IIIIII)I"⟩
abbrev cX11_carIs : ByteArray := prog_1_method_7_code
def yX11_carIs : MethodName := ⟨RX11, "carIs", "(II)I"⟩
abbrev cX11_tell : ByteArray := prog_1_method_8_code
def yX11_tell : MethodName := ⟨RX11, "tell", "(III)I"⟩
abbrev cX11_at : ByteArray := prog_1_method_9_code
def yX11_at : MethodName := ⟨RX11, "at", "(II)I"⟩
abbrev cX11_fits : ByteArray := prog_1_method_10_code
def yX11_fits : MethodName := ⟨RX11, "fits", "(II)I"⟩
abbrev cX11_park : ByteArray := prog_1_method_11_code
def yX11_park : MethodName := ⟨RX11, "park", "(II)I"⟩
abbrev cX11_shunt : ByteArray := prog_1_method_12_code
def yX11_shunt : MethodName := ⟨RX11, "shunt", "(II)I"⟩
abbrev cX11_leave : ByteArray := prog_1_method_13_code
def yX11_leave : MethodName := ⟨RX11, "leave", "(I)I"⟩
abbrev cX11_night : ByteArray := prog_1_method_14_code
def yX11_night : MethodName := ⟨RX11, "night", "()I"⟩
abbrev cX11_hour : ByteArray := prog_1_method_15_code
def yX11_hour : MethodName := ⟨RX11, "hour", "(I)I"⟩
abbrev cX11_ahead : ByteArray := prog_1_method_16_code
def yX11_ahead : MethodName := ⟨RX11, "ahead", "(I)I"⟩
abbrev cX11_fewest : ByteArray := prog_1_method_17_code
def yX11_fewest : MethodName := ⟨RX11, "fewest", "(I)I"⟩
abbrev cX11_step : ByteArray := prog_1_method_18_code
def yX11_step : MethodName := ⟨RX11, "step", "(II)I"⟩
abbrev cX11_proves : ByteArray := prog_1_method_19_code
def yX11_proves : MethodName := ⟨RX11, "proves", "(II)I"⟩
abbrev cX11_morning : ByteArray := prog_1_method_20_code
def yX11_morning : MethodName := ⟨RX11, "morning", "(I)I"⟩
abbrev cX11_arrive : ByteArray := prog_1_method_21_code
def yX11_arrive : MethodName := ⟨RX11, "arrive", "(I)I"⟩
abbrev cX11_clear : ByteArray := prog_1_method_22_code
def yX11_clear : MethodName := ⟨RX11, "clear", "()I"⟩
abbrev cX11_plan : ByteArray := prog_1_method_23_code
def yX11_plan : MethodName := ⟨RX11, "plan", "()I"⟩
abbrev cX11_planned : ByteArray := prog_1_method_24_code
def yX11_planned : MethodName := ⟨RX11, "planned", "(I)I"⟩
abbrev cX11_chargers : ByteArray := prog_1_method_25_code
def yX11_chargers : MethodName := ⟨RX11, "chargers", "(I)I"⟩
abbrev cX11_charged : ByteArray := prog_1_method_26_code
def yX11_charged : MethodName := ⟨RX11, "charged", "()I"⟩
abbrev cX11_charging : ByteArray := prog_1_method_27_code
def yX11_charging : MethodName := ⟨RX11, "charging", "(I)I"⟩
abbrev cX11_bid : ByteArray := prog_1_method_28_code
def yX11_bid : MethodName := ⟨RX11, "bid", "(III)I"⟩
abbrev cX11_given : ByteArray := prog_1_method_29_code
def yX11_given : MethodName := ⟨RX11, "given", "(I)I"⟩
abbrev cX11_rent : ByteArray := prog_1_method_30_code
def yX11_rent : MethodName := ⟨RX11, "rent", "(I)I"⟩
abbrev cX11_giving : ByteArray := prog_1_method_31_code
def yX11_giving : MethodName := ⟨RX11, "giving", "()I"⟩
abbrev cX11_porter : ByteArray := prog_1_method_32_code
def yX11_porter : MethodName := ⟨RX11, "porter", "(I)I"⟩
abbrev cX11_look : ByteArray := prog_1_method_33_code
def yX11_look : MethodName := ⟨RX11, "look", "(IZ)I"⟩
abbrev cX11_harm : ByteArray := prog_1_method_34_code
def yX11_harm : MethodName := ⟨RX11, "harm", "(III)I"⟩
abbrev cX11_text : ByteArray := prog_1_method_35_code
def yX11_text : MethodName := ⟨RX11, "text", "(I)I"⟩
abbrev cX11_wrong : ByteArray := prog_1_method_36_code
def yX11_wrong : MethodName := ⟨RX11, "wrong", "()I"⟩
abbrev cX11_lets : ByteArray := prog_1_method_37_code
def yX11_lets : MethodName := ⟨RX11, "lets", "(III)I"⟩
abbrev cX11_flood : ByteArray := prog_1_method_38_code
def yX11_flood : MethodName := ⟨RX11, "flood", "(II)I"⟩
abbrev cX11_pace : ByteArray := prog_1_method_39_code
def yX11_pace : MethodName := ⟨RX11, "pace", "(I)I"⟩
abbrev cX11_rescue : ByteArray := prog_1_method_40_code
def yX11_rescue : MethodName := ⟨RX11, "rescue", "()I"⟩
abbrev cX11_rescued : ByteArray := prog_1_method_41_code
def yX11_rescued : MethodName := ⟨RX11, "rescued", "(I)I"⟩
abbrev cX11_note : ByteArray := prog_1_method_42_code
def yX11_note : MethodName := ⟨RX11, "note", "(IIZ)I"⟩
abbrev cX11_key : ByteArray := prog_1_method_43_code
def yX11_key : MethodName := ⟨RX11, "key", "(III)I"⟩
abbrev cX11_sheet : ByteArray := prog_1_method_44_code
def yX11_sheet : MethodName := ⟨RX11, "sheet", "(III)I"⟩
abbrev cX11_put : ByteArray := prog_1_method_45_code
def yX11_put : MethodName := ⟨RX11, "put", "(III)I"⟩
abbrev cX11_copy : ByteArray := prog_1_method_46_code
def yX11_copy : MethodName := ⟨RX11, "copy", "(IIIII)I"⟩
abbrev cX11_undo : ByteArray := prog_1_method_47_code
def yX11_undo : MethodName := ⟨RX11, "undo", "()I"⟩
abbrev cX11_all : ByteArray := prog_1_method_48_code
def yX11_all : MethodName := ⟨RX11, "all", "(I)I"⟩
abbrev cX11_refuse : ByteArray := prog_1_method_49_code
def yX11_refuse : MethodName := ⟨RX11, "refuse", "(I)I"⟩
abbrev cX11_keepForUndo : ByteArray := prog_1_method_50_code
def yX11_keepForUndo : MethodName := ⟨RX11, "keepForUndo", "()V"⟩
abbrev cX11_inLaneFinding : ByteArray := prog_1_method_51_code
def yX11_inLaneFinding : MethodName := ⟨RX11, "inLaneFinding", "(I)I"⟩
abbrev cX11_keysNow : ByteArray := prog_1_method_52_code
def yX11_keysNow : MethodName := ⟨RX11, "keysNow", "()I"⟩
abbrev cX11_isLet : ByteArray := prog_1_method_53_code
def yX11_isLet : MethodName := ⟨RX11, "isLet", "(III)Z"⟩
abbrev cX11_isWithin : ByteArray := prog_1_method_54_code
def yX11_isWithin : MethodName := ⟨RX11, "isWithin", "(III)Z"⟩
abbrev cX11_isHour : ByteArray := prog_1_method_55_code
def yX11_isHour : MethodName := ⟨RX11, "isHour", "(I)Z"⟩
abbrev cX11_isTenant : ByteArray := prog_1_method_56_code
def yX11_isTenant : MethodName := ⟨RX11, "isTenant", "(I)Z"⟩
abbrev cX11_isPorter : ByteArray := prog_1_method_57_code
def yX11_isPorter : MethodName := ⟨RX11, "isPorter", "(I)Z"⟩
def RX12 : String := "CellarCarsModel"
def TX12 : u_T := fun k => match k with
  | 0 => ("CellarCarsModel", "now", "[I", true)
  | 1 => ("CellarCarsModel", "past", "[I", true)
  | 2 => ("CellarCarsModel", "kept", "I", false)
  | 3 => ("CellarCarsModel", "findings", "I", false)
  | 4 => ("CellarCarsModel", "bits", "[I", true)
  | 5 => ("CellarCarsModel", "sizes", "[I", true)
  | 6 => ("CellarCarsModel", "sheets", "[I", true)
  | 7 => ("CellarCarsModel", "aside", "[I", true)
  | 8 => ("CellarCarsModel", "tried", "[I", true)
  | 9 => ("CellarCarsModel", "laneOf", "[I", true)
  | 10 => ("CellarCarsModel", "planned", "[I", true)
  | 11 => ("CellarCarsModel", "least", "I", false)
  | 12 => ("CellarCarsModel", "needs", "[I", true)
  | 13 => ("CellarCarsModel", "givenTo", "[I", true)
  | 14 => ("CellarCarsModel", "row", "[I", true)
  | 15 => ("CellarCarsModel", "bestWorth", "I", false)
  | 16 => ("CellarCarsModel", "bestMany", "I", false)
  | 17 => ("CellarCarsModel", "bestCars", "[I", true)
  | 18 => ("CellarCarsModel", "takenCars", "[I", true)
  | 19 => ("CellarCarsModel", "takenOf", "[I", true)
  | _ => ("CellarCarsModel", "carried", "[I", true)
def tyX12 : Nat → FieldType := fun k => match k with
  | 0 => .array .int
  | 1 => .array .int
  | 2 => .int
  | 3 => .int
  | 4 => .array .int
  | 5 => .array .int
  | 6 => .array .int
  | 7 => .array .int
  | 8 => .array .int
  | 9 => .array .int
  | 10 => .array .int
  | 11 => .int
  | 12 => .array .int
  | 13 => .array .int
  | 14 => .array .int
  | 15 => .int
  | 16 => .int
  | 17 => .array .int
  | 18 => .array .int
  | 19 => .array .int
  | _ => .array .int
abbrev wsX120 : List Cond := u_ws RX12 TX12 21
theorem nmX12 : ∀ a, a < 21 → ∀ b, b < 21 → a ≠ b → (TX12 a).2.1 ≠ (TX12 b).2.1 := by decide +kernel
theorem tyX12_ok : ∀ k, k < 21 → parseFieldDescriptor (TX12 k).2.2.1 = some (tyX12 k) := by decide +kernel
abbrev cX12_init : ByteArray := prog_14_method_1_code
def yX12_init : MethodName := ⟨RX12, "<init>", "()V"⟩
abbrev cX12_finding : ByteArray := prog_14_method_2_code
def yX12_finding : MethodName := ⟨RX12, "finding", "(I)I"⟩
abbrev cX12_within : ByteArray := prog_14_method_3_code
def yX12_within : MethodName := ⟨RX12, "within", "(III)Z"⟩
abbrev cX12_isLane : ByteArray := prog_14_method_4_code
def yX12_isLane : MethodName := ⟨RX12, "isLane", "(I)Z"⟩
abbrev cX12_isCar : ByteArray := prog_14_method_5_code
def yX12_isCar : MethodName := ⟨RX12, "isCar", "(I)Z"⟩
abbrev cX12_isHour : ByteArray := prog_14_method_6_code
def yX12_isHour : MethodName := ⟨RX12, "isHour", "(I)Z"⟩
abbrev cX12_keep : ByteArray := prog_14_method_7_code
def yX12_keep : MethodName := ⟨RX12, "keep", "()V"⟩
abbrev cX12_undo : ByteArray := prog_14_method_8_code
def yX12_undo : MethodName := ⟨RX12, "undo", "()I"⟩
abbrev cX12_lane : ByteArray := prog_14_method_9_code
def yX12_lane : MethodName := ⟨RX12, "lane", "(IIII)I"⟩
abbrev cX12_isLift : ByteArray := prog_14_method_10_code
def yX12_isLift : MethodName := ⟨RX12, "isLift", "(I)Z"⟩
abbrev cX12_as : ByteArray := prog_14_method_11_code
def yX12_as : MethodName := ⟨RX12, "as", "(II)I"⟩
abbrev cX12_carAt : ByteArray := prog_14_method_12_code
def yX12_carAt : MethodName := ⟨RX12, "carAt", "(II)I"⟩
abbrev cX12_leftOf : ByteArray := prog_14_method_13_code
def yX12_leftOf : MethodName := ⟨RX12, "leftOf", "(I)I"⟩
abbrev cX12_laneIs : ByteArray := prog_14_method_14_code
def yX12_laneIs : MethodName := ⟨RX12, "laneIs", "(II)I"⟩
abbrev cX12_breaks : ByteArray := prog_14_method_15_code
def yX12_breaks : MethodName := ⟨RX12, "breaks", "(IZ)I"⟩
abbrev cX12_car : ByteArray := prog_14_method_16_code
def yX12_car : MethodName := ⟨RX12, "car", "(IIIIII)I"⟩
abbrev cX12_standOf : ByteArray := prog_14_method_17_code
def yX12_standOf : MethodName := ⟨RX12, "standOf", "(I)I"⟩
abbrev cX12_manyAhead : ByteArray := prog_14_method_18_code
def yX12_manyAhead : MethodName := ⟨RX12, "manyAhead", "(I)I"⟩
abbrev cX12_carIs : ByteArray := prog_14_method_19_code
def yX12_carIs : MethodName := ⟨RX12, "carIs", "(II)I"⟩
abbrev cX12_tell : ByteArray := prog_14_method_20_code
def yX12_tell : MethodName := ⟨RX12, "tell", "(III)I"⟩
abbrev cX12_at : ByteArray := prog_14_method_21_code
def yX12_at : MethodName := ⟨RX12, "at", "(II)I"⟩
abbrev cX12_canFit : ByteArray := prog_14_method_22_code
def yX12_canFit : MethodName := ⟨RX12, "canFit", "(II)Z"⟩
abbrev cX12_fits : ByteArray := prog_14_method_23_code
def yX12_fits : MethodName := ⟨RX12, "fits", "(II)I"⟩
abbrev cX12_isStuck : ByteArray := prog_14_method_24_code
def yX12_isStuck : MethodName := ⟨RX12, "isStuck", "(I)Z"⟩
abbrev cX12_isFree : ByteArray := prog_14_method_25_code
def yX12_isFree : MethodName := ⟨RX12, "isFree", "(I)Z"⟩
abbrev cX12_turns : ByteArray := prog_14_method_26_code
def yX12_turns : MethodName := ⟨RX12, "turns", "(I)V"⟩
abbrev cX12_comes : ByteArray := prog_14_method_27_code
def yX12_comes : MethodName := ⟨RX12, "comes", "(II)V"⟩
abbrev cX12_goes : ByteArray := prog_14_method_28_code
def yX12_goes : MethodName := ⟨RX12, "goes", "(I)V"⟩
abbrev cX12_park : ByteArray := prog_14_method_29_code
def yX12_park : MethodName := ⟨RX12, "park", "(II)I"⟩
abbrev cX12_hinders : ByteArray := prog_14_method_30_code
def yX12_hinders : MethodName := ⟨RX12, "hinders", "(II)I"⟩
abbrev cX12_does : ByteArray := prog_14_method_31_code
def yX12_does : MethodName := ⟨RX12, "does", "(II)V"⟩
abbrev cX12_led : ByteArray := prog_14_method_32_code
def yX12_led : MethodName := ⟨RX12, "led", "(I)V"⟩
abbrev cX12_shunt : ByteArray := prog_14_method_33_code
def yX12_shunt : MethodName := ⟨RX12, "shunt", "(II)I"⟩
abbrev cX12_leave : ByteArray := prog_14_method_34_code
def yX12_leave : MethodName := ⟨RX12, "leave", "(I)I"⟩
abbrev cX12_night : ByteArray := prog_14_method_35_code
def yX12_night : MethodName := ⟨RX12, "night", "()I"⟩
abbrev cX12_hour : ByteArray := prog_14_method_36_code
def yX12_hour : MethodName := ⟨RX12, "hour", "(I)I"⟩
abbrev cX12_ahead : ByteArray := prog_14_method_37_code
def yX12_ahead : MethodName := ⟨RX12, "ahead", "(I)I"⟩
abbrev cX12_lay : ByteArray := prog_14_method_38_code
def yX12_lay : MethodName := ⟨RX12, "lay", "(I)V"⟩
abbrev cX12_bring : ByteArray := prog_14_method_39_code
def yX12_bring : MethodName := ⟨RX12, "bring", "(I)V"⟩
abbrev cX12_frees : ByteArray := prog_14_method_40_code
def yX12_frees : MethodName := ⟨RX12, "frees", "(III)Z"⟩
abbrev cX12_findFewest : ByteArray := prog_14_method_41_code
def yX12_findFewest : MethodName := ⟨RX12, "findFewest", "(I)I"⟩
abbrev cX12_fewest : ByteArray := prog_14_method_42_code
def yX12_fewest : MethodName := ⟨RX12, "fewest", "(I)I"⟩
abbrev cX12_step : ByteArray := prog_14_method_43_code
def yX12_step : MethodName := ⟨RX12, "step", "(II)I"⟩
abbrev cX12_proves : ByteArray := prog_14_method_44_code
def yX12_proves : MethodName := ⟨RX12, "proves", "(II)I"⟩
abbrev cX12_morningOf : ByteArray := prog_14_method_45_code
def yX12_morningOf : MethodName := ⟨RX12, "morningOf", "(I)I"⟩
abbrev cX12_morning : ByteArray := prog_14_method_46_code
def yX12_morning : MethodName := ⟨RX12, "morning", "(I)I"⟩
abbrev cX12_arrivalOf : ByteArray := prog_14_method_47_code
def yX12_arrivalOf : MethodName := ⟨RX12, "arrivalOf", "(I)I"⟩
abbrev cX12_arrive : ByteArray := prog_14_method_48_code
def yX12_arrive : MethodName := ⟨RX12, "arrive", "(I)I"⟩
abbrev cX12_clear : ByteArray := prog_14_method_49_code
def yX12_clear : MethodName := ⟨RX12, "clear", "()I"⟩
abbrev cX12_moreBy : ByteArray := prog_14_method_50_code
def yX12_moreBy : MethodName := ⟨RX12, "moreBy", "(II)I"⟩
abbrev cX12_plans : ByteArray := prog_14_method_51_code
def yX12_plans : MethodName := ⟨RX12, "plans", "(II)V"⟩
abbrev cX12_findPlan : ByteArray := prog_14_method_52_code
def yX12_findPlan : MethodName := ⟨RX12, "findPlan", "()V"⟩
abbrev cX12_plan : ByteArray := prog_14_method_53_code
def yX12_plan : MethodName := ⟨RX12, "plan", "()I"⟩
abbrev cX12_planned : ByteArray := prog_14_method_54_code
def yX12_planned : MethodName := ⟨RX12, "planned", "(I)I"⟩
abbrev cX12_chargers : ByteArray := prog_14_method_55_code
def yX12_chargers : MethodName := ⟨RX12, "chargers", "(I)I"⟩
abbrev cX12_begin : ByteArray := prog_14_method_56_code
def yX12_begin : MethodName := ⟨RX12, "begin", "(I)V"⟩
abbrev cX12_charge : ByteArray := prog_14_method_57_code
def yX12_charge : MethodName := ⟨RX12, "charge", "(I)I"⟩
abbrev cX12_canAll : ByteArray := prog_14_method_58_code
def yX12_canAll : MethodName := ⟨RX12, "canAll", "(I)Z"⟩
abbrev cX12_many : ByteArray := prog_14_method_59_code
def yX12_many : MethodName := ⟨RX12, "many", "(I)I"⟩
abbrev cX12_findCharged : ByteArray := prog_14_method_60_code
def yX12_findCharged : MethodName := ⟨RX12, "findCharged", "()I"⟩
abbrev cX12_charged : ByteArray := prog_14_method_61_code
def yX12_charged : MethodName := ⟨RX12, "charged", "()I"⟩
abbrev cX12_charging : ByteArray := prog_14_method_62_code
def yX12_charging : MethodName := ⟨RX12, "charging", "(I)I"⟩
abbrev cX12_bid : ByteArray := prog_14_method_63_code
def yX12_bid : MethodName := ⟨RX12, "bid", "(III)I"⟩
abbrev cX12_mostFrom : ByteArray := prog_14_method_64_code
def yX12_mostFrom : MethodName := ⟨RX12, "mostFrom", "(III)I"⟩
abbrev cX12_findGiving : ByteArray := prog_14_method_65_code
def yX12_findGiving : MethodName := ⟨RX12, "findGiving", "()I"⟩
abbrev cX12_given : ByteArray := prog_14_method_66_code
def yX12_given : MethodName := ⟨RX12, "given", "(I)I"⟩
abbrev cX12_rent : ByteArray := prog_14_method_67_code
def yX12_rent : MethodName := ⟨RX12, "rent", "(I)I"⟩
abbrev cX12_giving : ByteArray := prog_14_method_68_code
def yX12_giving : MethodName := ⟨RX12, "giving", "()I"⟩
abbrev cX12_porter : ByteArray := prog_14_method_69_code
def yX12_porter : MethodName := ⟨RX12, "porter", "(I)I"⟩
abbrev cX12_look : ByteArray := prog_14_method_70_code
def yX12_look : MethodName := ⟨RX12, "look", "(IZ)I"⟩
abbrev cX12_harm : ByteArray := prog_14_method_71_code
def yX12_harm : MethodName := ⟨RX12, "harm", "(III)I"⟩
abbrev cX12_isSign : ByteArray := prog_14_method_72_code
def yX12_isSign : MethodName := ⟨RX12, "isSign", "(I)Z"⟩
abbrev cX12_text : ByteArray := prog_14_method_73_code
def yX12_text : MethodName := ⟨RX12, "text", "(I)I"⟩
abbrev cX12_wrongAt : ByteArray := prog_14_method_74_code
def yX12_wrongAt : MethodName := ⟨RX12, "wrongAt", "()I"⟩
abbrev cX12_wrong : ByteArray := prog_14_method_75_code
def yX12_wrong : MethodName := ⟨RX12, "wrong", "()I"⟩
abbrev cX12_readBy : ByteArray := prog_14_method_76_code
def yX12_readBy : MethodName := ⟨RX12, "readBy", "(IIII)I"⟩
abbrev cX12_joined : ByteArray := prog_14_method_77_code
def yX12_joined : MethodName := ⟨RX12, "joined", "(III)Z"⟩
abbrev cX12_isLet : ByteArray := prog_14_method_78_code
def yX12_isLet : MethodName := ⟨RX12, "isLet", "(III)Z"⟩
abbrev cX12_lets : ByteArray := prog_14_method_79_code
def yX12_lets : MethodName := ⟨RX12, "lets", "(III)I"⟩
abbrev cX12_flood : ByteArray := prog_14_method_80_code
def yX12_flood : MethodName := ⟨RX12, "flood", "(II)I"⟩
abbrev cX12_pace : ByteArray := prog_14_method_81_code
def yX12_pace : MethodName := ⟨RX12, "pace", "(I)I"⟩
abbrev cX12_minuteOf : ByteArray := prog_14_method_82_code
def yX12_minuteOf : MethodName := ⟨RX12, "minuteOf", "(I)I"⟩
abbrev cX12_rescues : ByteArray := prog_14_method_83_code
def yX12_rescues : MethodName := ⟨RX12, "rescues", "(II)V"⟩
abbrev cX12_findRescue : ByteArray := prog_14_method_84_code
def yX12_findRescue : MethodName := ⟨RX12, "findRescue", "()V"⟩
abbrev cX12_rescue : ByteArray := prog_14_method_85_code
def yX12_rescue : MethodName := ⟨RX12, "rescue", "()I"⟩
abbrev cX12_rescued : ByteArray := prog_14_method_86_code
def yX12_rescued : MethodName := ⟨RX12, "rescued", "(I)I"⟩
abbrev cX12_note : ByteArray := prog_14_method_87_code
def yX12_note : MethodName := ⟨RX12, "note", "(IIZ)I"⟩
abbrev cX12_hasKey : ByteArray := prog_14_method_88_code
def yX12_hasKey : MethodName := ⟨RX12, "hasKey", "(III)Z"⟩
abbrev cX12_key : ByteArray := prog_14_method_89_code
def yX12_key : MethodName := ⟨RX12, "key", "(III)I"⟩
abbrev cX12_isSheet : ByteArray := prog_14_method_90_code
def yX12_isSheet : MethodName := ⟨RX12, "isSheet", "(I)Z"⟩
abbrev cX12_sheet : ByteArray := prog_14_method_91_code
def yX12_sheet : MethodName := ⟨RX12, "sheet", "(III)I"⟩
abbrev cX12_put : ByteArray := prog_14_method_92_code
def yX12_put : MethodName := ⟨RX12, "put", "(III)I"⟩
abbrev cX12_copy : ByteArray := prog_14_method_93_code
def yX12_copy : MethodName := ⟨RX12, "copy", "(IIIII)I"⟩
abbrev cX12_all : ByteArray := prog_14_method_94_code
def yX12_all : MethodName := ⟨RX12, "all", "(I)I"⟩
def RJ6 : String := "java/lang/Integer"
def TJ6 : u_T := fun k => match k with
  | _ => ("", "", "", false)
def tyJ6 : Nat → FieldType := fun k => match k with
  | _ => .int
abbrev cJ6_bitCount_0f7a4 : ByteArray := prog_15_method_49_code
def yJ6_bitCount_0f7a4 : MethodName := ⟨RJ6, "bitCount", "(I)I"⟩
def RJ9 : String := "java/lang/Math"
def TJ9 : u_T := fun k => match k with
  | _ => ("", "", "", false)
def tyJ9 : Nat → FieldType := fun k => match k with
  | _ => .int
abbrev cJ9_max_7cf53 : ByteArray := prog_16_method_65_code
def yJ9_max_7cf53 : MethodName := ⟨RJ9, "max", "(II)I"⟩
abbrev cJ9_min_7cf53 : ByteArray := prog_16_method_69_code
def yJ9_min_7cf53 : MethodName := ⟨RJ9, "min", "(II)I"⟩
def RJ10 : String := "java/lang/System"
def TJ10 : u_T := fun k => match k with
  | _ => ("", "", "", false)
def tyJ10 : Nat → FieldType := fun k => match k with
  | _ => .int
def RJ7 : String := "java/util/Arrays"
def TJ7 : u_T := fun k => match k with
  | _ => ("", "", "", false)
def tyJ7 : Nat → FieldType := fun k => match k with
  | _ => .int
abbrev cJ7_rangeCheck_23922 : ByteArray := prog_18_method_30_code
def yJ7_rangeCheck_23922 : MethodName := ⟨RJ7, "rangeCheck", "(III)V"⟩
abbrev cJ7_fill_53178 : ByteArray := prog_18_method_103_code
def yJ7_fill_53178 : MethodName := ⟨RJ7, "fill", "([II)V"⟩
abbrev cJ7_fill_fda19 : ByteArray := prog_18_method_104_code
def yJ7_fill_fda19 : MethodName := ⟨RJ7, "fill", "([IIII)V"⟩
def RL : String := "CellarCarsLaw"
abbrev cL_law : ByteArray := code
def yL_law : MethodName := ⟨RL, "law", "([I)Z"⟩
abbrev vwCl : List vw_C := [(RX0, TX0, 2), (RX1, TX1, 13), (RX2, TX2, 13), (RX3, TX3, 4), (RX4, TX4, 3), (RX5, TX5, 4), (RX6, TX6, 3), (RX7, TX7, 5), (RX8, TX8, 2), (RX9, TX9, 3), (RX10, TX10, 3), (RX11, TX11, 12), (RX12, TX12, 21)]
end
section
/-! the program as tables: by wip/whole/gen.py out of what TURN printed of the class, the law and the reference -/
abbrev ex_cn : List String := [RX0, RX1, RX2, RX3, RX4, RX5, RX6, RX7, RX8, RX9, RX10, RX11, RX12, RJ6, RJ9, RJ7, RL]
/-- a method: kind (0 static, 1 instance, 2 constructor), its class, how many arguments, locals, answer (0 none, 1 int, 2 boolean) -/
def ex_mt : List (Nat × Nat × Nat × Nat × Nat) := [(2, 0, 1, 1, 0),
  (1, 0, 3, 6, 1),
  (1, 0, 2, 5, 1),
  (1, 0, 4, 8, 2),
  (1, 0, 3, 6, 1),
  (1, 0, 3, 4, 1),
  (2, 1, 1, 1, 0),
  (1, 1, 2, 2, 0),
  (1, 1, 2, 3, 1),
  (2, 2, 1, 1, 0),
  (1, 2, 2, 2, 0),
  (0, 2, 1, 1, 2),
  (0, 2, 2, 2, 2),
  (1, 2, 2, 2, 2),
  (1, 2, 2, 2, 2),
  (1, 2, 5, 6, 1),
  (1, 2, 7, 9, 1),
  (1, 2, 3, 3, 1),
  (1, 2, 4, 5, 1),
  (1, 2, 3, 5, 2),
  (1, 2, 2, 2, 1),
  (1, 2, 2, 2, 1),
  (1, 2, 3, 3, 2),
  (1, 2, 3, 3, 1),
  (1, 2, 2, 4, 1),
  (1, 2, 2, 2, 2),
  (1, 2, 2, 3, 2),
  (1, 2, 3, 3, 1),
  (1, 2, 3, 3, 1),
  (1, 2, 3, 3, 0),
  (1, 2, 2, 3, 0),
  (1, 2, 3, 3, 0),
  (1, 2, 3, 4, 0),
  (1, 2, 1, 3, 1),
  (1, 2, 2, 5, 1),
  (1, 2, 1, 3, 1),
  (1, 2, 2, 6, 1),
  (1, 2, 2, 2, 1),
  (2, 3, 1, 1, 0),
  (1, 3, 2, 2, 0),
  (1, 3, 4, 4, 0),
  (1, 3, 4, 7, 2),
  (1, 3, 3, 5, 1),
  (2, 4, 1, 1, 0),
  (1, 4, 2, 2, 0),
  (1, 4, 3, 3, 0),
  (1, 4, 4, 11, 1),
  (1, 4, 2, 3, 1),
  (1, 4, 3, 4, 1),
  (1, 4, 5, 7, 1),
  (2, 5, 1, 1, 0),
  (1, 5, 2, 2, 1),
  (1, 5, 4, 8, 0),
  (1, 5, 3, 7, 1),
  (2, 6, 1, 1, 0),
  (1, 6, 3, 3, 1),
  (1, 6, 6, 7, 0),
  (1, 6, 3, 5, 1),
  (2, 7, 1, 1, 0),
  (1, 7, 3, 4, 1),
  (1, 7, 5, 8, 0),
  (2, 8, 1, 1, 0),
  (0, 8, 1, 1, 2),
  (1, 8, 7, 7, 0),
  (1, 8, 3, 3, 2),
  (1, 8, 3, 7, 1),
  (0, 8, 1, 1, 1),
  (1, 8, 3, 5, 1),
  (1, 8, 2, 2, 1),
  (0, 8, 3, 3, 2),
  (2, 9, 1, 1, 0),
  (1, 9, 2, 2, 2),
  (1, 9, 2, 2, 2),
  (1, 9, 4, 4, 0),
  (1, 9, 3, 3, 1),
  (1, 9, 4, 4, 0),
  (1, 9, 4, 4, 2),
  (1, 9, 6, 6, 0),
  (2, 10, 1, 1, 0),
  (1, 10, 3, 3, 0),
  (1, 10, 2, 2, 2),
  (1, 10, 4, 5, 1),
  (1, 10, 4, 9, 2),
  (1, 10, 3, 5, 2),
  (2, 11, 1, 2, 0),
  (1, 11, 5, 5, 1),
  (1, 11, 3, 3, 1),
  (1, 11, 3, 4, 1),
  (1, 11, 3, 5, 1),
  (1, 11, 7, 7, 1),
  (1, 11, 3, 4, 1),
  (1, 11, 4, 4, 1),
  (1, 11, 3, 4, 1),
  (1, 11, 3, 3, 1),
  (1, 11, 3, 5, 1),
  (1, 11, 3, 5, 1),
  (1, 11, 2, 4, 1),
  (1, 11, 1, 1, 1),
  (1, 11, 2, 3, 1),
  (1, 11, 2, 3, 1),
  (1, 11, 2, 4, 1),
  (1, 11, 3, 5, 1),
  (1, 11, 3, 4, 1),
  (1, 11, 2, 4, 1),
  (1, 11, 2, 2, 1),
  (1, 11, 1, 2, 1),
  (1, 11, 1, 2, 1),
  (1, 11, 2, 3, 1),
  (1, 11, 2, 3, 1),
  (1, 11, 1, 1, 1),
  (1, 11, 2, 3, 1),
  (1, 11, 4, 5, 1),
  (1, 11, 2, 2, 1),
  (1, 11, 2, 2, 1),
  (1, 11, 1, 1, 1),
  (1, 11, 2, 3, 1),
  (1, 11, 3, 3, 1),
  (1, 11, 4, 5, 1),
  (1, 11, 2, 4, 1),
  (1, 11, 1, 1, 1),
  (1, 11, 4, 4, 1),
  (1, 11, 3, 4, 1),
  (1, 11, 2, 3, 1),
  (1, 11, 1, 1, 1),
  (1, 11, 2, 2, 1),
  (1, 11, 4, 4, 1),
  (1, 11, 4, 4, 1),
  (1, 11, 4, 4, 1),
  (1, 11, 4, 4, 1),
  (1, 11, 6, 6, 1),
  (1, 11, 1, 2, 1),
  (1, 11, 2, 2, 1),
  (1, 11, 2, 2, 1),
  (1, 11, 1, 2, 0),
  (1, 11, 2, 2, 1),
  (1, 11, 1, 1, 1),
  (1, 11, 4, 5, 2),
  (0, 11, 3, 3, 2),
  (0, 11, 1, 1, 2),
  (0, 11, 1, 1, 2),
  (0, 11, 1, 1, 2),
  (2, 12, 1, 2, 0),
  (1, 12, 2, 2, 1),
  (0, 12, 3, 3, 2),
  (1, 12, 2, 2, 2),
  (1, 12, 2, 2, 2),
  (0, 12, 1, 1, 2),
  (1, 12, 1, 2, 0),
  (1, 12, 1, 2, 1),
  (1, 12, 5, 6, 1),
  (1, 12, 2, 2, 2),
  (1, 12, 3, 4, 1),
  (1, 12, 3, 3, 1),
  (1, 12, 2, 4, 1),
  (1, 12, 3, 3, 1),
  (1, 12, 3, 4, 1),
  (1, 12, 7, 9, 1),
  (1, 12, 2, 4, 1),
  (1, 12, 2, 2, 1),
  (1, 12, 3, 4, 1),
  (1, 12, 4, 5, 1),
  (1, 12, 3, 3, 1),
  (1, 12, 3, 3, 2),
  (1, 12, 3, 3, 1),
  (1, 12, 2, 2, 2),
  (1, 12, 2, 3, 2),
  (1, 12, 2, 2, 0),
  (1, 12, 3, 3, 0),
  (1, 12, 2, 2, 0),
  (1, 12, 3, 3, 1),
  (1, 12, 3, 4, 1),
  (1, 12, 3, 3, 0),
  (1, 12, 2, 3, 0),
  (1, 12, 3, 4, 1),
  (1, 12, 2, 3, 1),
  (1, 12, 1, 3, 1),
  (1, 12, 2, 3, 1),
  (1, 12, 2, 5, 1),
  (1, 12, 2, 3, 0),
  (1, 12, 2, 3, 0),
  (1, 12, 4, 6, 2),
  (1, 12, 2, 3, 1),
  (1, 12, 2, 3, 1),
  (1, 12, 3, 4, 1),
  (1, 12, 3, 6, 1),
  (1, 12, 2, 5, 1),
  (1, 12, 2, 4, 1),
  (1, 12, 2, 3, 1),
  (1, 12, 2, 2, 1),
  (1, 12, 1, 2, 1),
  (1, 12, 3, 8, 1),
  (1, 12, 3, 5, 0),
  (1, 12, 1, 1, 0),
  (1, 12, 1, 1, 1),
  (1, 12, 2, 3, 1),
  (1, 12, 2, 3, 1),
  (1, 12, 2, 3, 0),
  (1, 12, 2, 7, 1),
  (1, 12, 2, 4, 2),
  (0, 12, 1, 3, 1),
  (1, 12, 1, 4, 1),
  (1, 12, 1, 1, 1),
  (1, 12, 2, 4, 1),
  (1, 12, 4, 5, 1),
  (1, 12, 4, 6, 1),
  (1, 12, 1, 6, 1),
  (1, 12, 2, 3, 1),
  (1, 12, 2, 3, 1),
  (1, 12, 1, 1, 1),
  (1, 12, 2, 3, 1),
  (1, 12, 3, 3, 1),
  (1, 12, 4, 11, 1),
  (0, 12, 1, 1, 2),
  (1, 12, 2, 3, 1),
  (1, 12, 1, 5, 1),
  (1, 12, 1, 1, 1),
  (1, 12, 5, 5, 1),
  (0, 12, 3, 3, 2),
  (1, 12, 4, 7, 2),
  (1, 12, 4, 4, 1),
  (1, 12, 3, 4, 1),
  (1, 12, 2, 3, 1),
  (1, 12, 2, 3, 1),
  (1, 12, 3, 5, 0),
  (1, 12, 1, 1, 0),
  (1, 12, 1, 1, 1),
  (1, 12, 2, 2, 1),
  (1, 12, 4, 4, 1),
  (1, 12, 4, 9, 2),
  (1, 12, 4, 4, 1),
  (0, 12, 1, 1, 2),
  (1, 12, 4, 5, 1),
  (1, 12, 4, 5, 1),
  (1, 12, 6, 7, 1),
  (1, 12, 2, 4, 1),
  (0, 13, 1, 1, 1),
  (0, 14, 2, 2, 1),
  (0, 14, 2, 2, 1),
  (0, 15, 3, 3, 0),
  (0, 15, 2, 4, 0),
  (0, 15, 4, 5, 0),
  (0, 16, 1, 4, 2)]
def ex_cf : List (List (Option (Option Nat))) := [[some none, some none],
  [some none, some none, some none, some none, some none, some none, none, none, none, none, none, none, none],
  [none, none, some none, some none, some none, some none, some none, some none, some none, some none, some none, some none, some none],
  [none, some none, some none, some none],
  [none, some none, some none],
  [some none, some none, some none, none],
  [some none, some none, none],
  [some none, none, some none, some none, none],
  [some none, some none],
  [some none, some none, some none],
  [some none, some none, none],
  [some none, some none, some none, some none, some none, some none, some none, some none, some none, none, none, none],
  [some none, some none, none, none, some none, some none, some none, some none, some none, some none, some none, none, some none, some none, some none, none, none, some none, some none, some none, some none]]
def bk_0_0 : List Instr := [.aload 0, .invokedynamic 1, .aload 0, .sipush 24, .newarray .int, .putfield 0, .aload 0, .sipush 8, .newarray .int, .putfield 1, .return_]
def bk_1_0 : List Instr := [.aload 0, .aload 1, .invokevirtual 2, .istore 3, .sipush 0, .istore 4, .sipush 1, .istore 5, .goto_w 1]
def bk_1_1 : List Instr := [.iload 5, .iload 3, .if_icmp .gt 3, .iload 5, .iload 3, .sipush (-1), .ixor, .iand, .ifCond .ne 2, .iload 5, .invokestatic 235, .iload 4, .invokestatic 235, .if_icmp .le 2, .aload 0, .aload 1, .iload 2, .iload 5, .invokevirtual 3, .ifCond .eq 2, .iload 5, .istore 4, .goto_w 2]
def bk_1_2 : List Instr := [.iinc 5 1, .goto 1]
def bk_1_3 : List Instr := [.iload 4, .ireturn]
def bk_2_0 : List Instr := [.sipush 0, .istore 2, .sipush 0, .istore 3, .goto_w 1]
def bk_2_1 : List Instr := [.iload 3, .aload 1, .getfield 65, .if_icmp .ge 6, .aload 1, .getfield 76, .iload 3, .iaload, .sipush (-1), .if_icmp .eq 2, .aload 1, .iload 3, .sipush 4, .invokevirtual 17, .ifCond .le 2, .sipush 1, .goto 3]
def bk_2_2 : List Instr := [.sipush 0, .goto_w 3]
def bk_2_3 : List Instr := [.istore 4, .iload 2, .iload 4, .ifCond .eq 4, .sipush 1, .iload 3, .ishl, .goto 5]
def bk_2_4 : List Instr := [.sipush 0, .goto_w 5]
def bk_2_5 : List Instr := [.ior, .istore 2, .iinc 3 1, .goto 1]
def bk_2_6 : List Instr := [.iload 2, .ireturn]
def bk_3_0 : List Instr := [.sipush 0, .istore 4, .sipush 0, .istore 5, .goto_w 1]
def bk_3_1 : List Instr := [.iload 5, .aload 1, .getfield 65, .if_icmp .ge 4, .aload 0, .getfield 1, .iload 5, .iload 3, .iload 5, .ishr, .sipush 1, .iand, .ifCond .ne 2, .sipush 0, .goto 3]
def bk_3_2 : List Instr := [.aload 1, .iload 5, .sipush 4, .invokevirtual 17, .goto_w 3]
def bk_3_3 : List Instr := [.iastore, .iload 4, .aload 0, .getfield 1, .iload 5, .iaload, .iadd, .istore 4, .iinc 5 1, .goto 1]
def bk_3_4 : List Instr := [.sipush 23, .istore 5, .goto_w 5]
def bk_3_5 : List Instr := [.iload 5, .ifCond .lt 9, .aload 0, .getfield 0, .iload 5, .sipush 0, .iastore, .sipush 0, .istore 6, .goto_w 6]
def bk_3_6 : List Instr := [.iload 6, .iload 2, .if_icmp .ge 8, .aload 0, .aload 1, .iload 5, .invokevirtual 4, .istore 7, .iload 7, .sipush (-1), .if_icmp .eq 7, .aload 0, .getfield 0, .iload 5, .dup2, .iaload, .sipush 1, .iload 7, .ishl, .ior, .iastore, .goto_w 7]
def bk_3_7 : List Instr := [.iinc 6 1, .goto 6]
def bk_3_8 : List Instr := [.iload 4, .aload 0, .aload 1, .aload 0, .getfield 0, .iload 5, .iaload, .invokevirtual 5, .isub, .istore 4, .iinc 5 (-1), .goto 5]
def bk_3_9 : List Instr := [.iload 4, .ifCond .ne 10, .sipush 1, .goto 11]
def bk_3_10 : List Instr := [.sipush 0, .goto_w 11]
def bk_3_11 : List Instr := [.ireturn]
def bk_4_0 : List Instr := [.sipush (-1), .istore 3, .sipush 0, .istore 4, .sipush 0, .istore 5, .goto_w 1]
def bk_4_1 : List Instr := [.iload 5, .aload 1, .getfield 65, .if_icmp .ge 3, .aload 0, .getfield 1, .iload 5, .iaload, .iload 4, .if_icmp .le 2, .aload 0, .getfield 0, .iload 2, .iaload, .iload 5, .ishr, .sipush 1, .iand, .ifCond .ne 2, .aload 1, .iload 5, .sipush 3, .invokevirtual 17, .iload 2, .if_icmp .le 2, .iload 5, .istore 3, .aload 0, .getfield 1, .iload 5, .iaload, .istore 4, .goto_w 2]
def bk_4_2 : List Instr := [.iinc 5 1, .goto 1]
def bk_4_3 : List Instr := [.iload 3, .ireturn]
def bk_5_0 : List Instr := [.sipush 0, .istore 3, .goto_w 1]
def bk_5_1 : List Instr := [.iload 3, .aload 1, .getfield 65, .if_icmp .ge 2, .aload 0, .getfield 1, .iload 3, .dup2, .iaload, .iload 2, .iload 3, .ishr, .sipush 1, .iand, .isub, .iastore, .iinc 3 1, .goto 1]
def bk_5_2 : List Instr := [.iload 2, .invokestatic 235, .ireturn]
def bk_6_0 : List Instr := [.aload 0, .invokedynamic 1, .aload 0, .new 2, .dup, .invokespecial 9, .putfield 32, .aload 0, .new 4, .dup, .invokespecial 43, .putfield 33, .aload 0, .new 3, .dup, .invokespecial 38, .putfield 34, .aload 0, .sipush 25, .newarray .int, .putfield 35, .aload 0, .sipush 16, .newarray .int, .putfield 36, .aload 0, .sipush 7, .newarray .int, .putfield 37, .aload 0, .sipush 0, .putfield 38, .aload 0, .sipush 0, .putfield 39, .aload 0, .sipush 0, .putfield 40, .aload 0, .sipush 1, .putfield 41, .aload 0, .sipush 0, .putfield 42, .aload 0, .sipush 10, .putfield 43, .aload 0, .sipush 0, .putfield 44, .return_]
def bk_7_0 : List Instr := [.aload 0, .getfield 32, .aload 1, .getfield 32, .invokevirtual 10, .aload 0, .getfield 33, .aload 1, .getfield 33, .invokevirtual 44, .aload 0, .getfield 34, .aload 1, .getfield 34, .invokevirtual 39, .aload 1, .getfield 35, .sipush 0, .aload 0, .getfield 35, .sipush 0, .aload 0, .getfield 35, .arraylength, .invokedynamic 0, .aload 1, .getfield 36, .sipush 0, .aload 0, .getfield 36, .sipush 0, .aload 0, .getfield 36, .arraylength, .invokedynamic 0, .aload 1, .getfield 37, .sipush 0, .aload 0, .getfield 37, .sipush 0, .aload 0, .getfield 37, .arraylength, .invokedynamic 0, .aload 0, .aload 1, .getfield 38, .putfield 38, .aload 0, .aload 1, .getfield 39, .putfield 39, .aload 0, .aload 1, .getfield 40, .putfield 40, .aload 0, .aload 1, .getfield 41, .putfield 41, .aload 0, .aload 1, .getfield 42, .putfield 42, .aload 0, .aload 1, .getfield 43, .putfield 43, .aload 0, .aload 1, .getfield 44, .putfield 44, .return_]
def bk_8_0 : List Instr := [.sipush 0, .istore 2, .goto_w 1]
def bk_8_1 : List Instr := [.iload 2, .aload 0, .getfield 39, .if_icmp .ge 3, .aload 0, .getfield 37, .iload 2, .iaload, .iload 1, .if_icmp .ne 2, .iload 2, .ireturn]
def bk_8_2 : List Instr := [.iinc 2 1, .goto 1]
def bk_8_3 : List Instr := [.sipush (-1), .ireturn]
def bk_9_0 : List Instr := [.aload 0, .invokedynamic 1, .aload 0, .sipush 0, .putfield 64, .aload 0, .sipush 0, .putfield 65, .aload 0, .sipush 5, .newarray .int, .putfield 66, .aload 0, .sipush 5, .newarray .int, .putfield 67, .aload 0, .sipush 5, .newarray .int, .putfield 68, .aload 0, .sipush 5, .newarray .int, .putfield 69, .aload 0, .sipush 5, .newarray .int, .putfield 70, .aload 0, .sipush 5, .newarray .int, .putfield 71, .aload 0, .sipush 5, .newarray .int, .putfield 72, .aload 0, .sipush 5, .newarray .int, .putfield 73, .aload 0, .sipush 40, .newarray .int, .putfield 74, .aload 0, .sipush 48, .newarray .int, .putfield 75, .aload 0, .sipush 8, .newarray .int, .putfield 76, .return_]
def bk_10_0 : List Instr := [.aload 0, .aload 1, .getfield 64, .putfield 64, .aload 0, .aload 1, .getfield 65, .putfield 65, .aload 1, .getfield 66, .sipush 0, .aload 0, .getfield 66, .sipush 0, .aload 0, .getfield 66, .arraylength, .invokedynamic 0, .aload 1, .getfield 67, .sipush 0, .aload 0, .getfield 67, .sipush 0, .aload 0, .getfield 67, .arraylength, .invokedynamic 0, .aload 1, .getfield 68, .sipush 0, .aload 0, .getfield 68, .sipush 0, .aload 0, .getfield 68, .arraylength, .invokedynamic 0, .aload 1, .getfield 69, .sipush 0, .aload 0, .getfield 69, .sipush 0, .aload 0, .getfield 69, .arraylength, .invokedynamic 0, .aload 1, .getfield 70, .sipush 0, .aload 0, .getfield 70, .sipush 0, .aload 0, .getfield 70, .arraylength, .invokedynamic 0, .aload 1, .getfield 71, .sipush 0, .aload 0, .getfield 71, .sipush 0, .aload 0, .getfield 71, .arraylength, .invokedynamic 0, .aload 1, .getfield 72, .sipush 0, .aload 0, .getfield 72, .sipush 0, .aload 0, .getfield 72, .arraylength, .invokedynamic 0, .aload 1, .getfield 73, .sipush 0, .aload 0, .getfield 73, .sipush 0, .aload 0, .getfield 73, .arraylength, .invokedynamic 0, .aload 1, .getfield 74, .sipush 0, .aload 0, .getfield 74, .sipush 0, .aload 0, .getfield 74, .arraylength, .invokedynamic 0, .aload 1, .getfield 75, .sipush 0, .aload 0, .getfield 75, .sipush 0, .aload 0, .getfield 75, .arraylength, .invokedynamic 0, .aload 1, .getfield 76, .sipush 0, .aload 0, .getfield 76, .sipush 0, .aload 0, .getfield 76, .arraylength, .invokedynamic 0, .return_]
def bk_11_0 : List Instr := [.iload 0, .ifCond .lt 1, .iload 0, .getstatic 0, .arraylength, .if_icmp .ge 1, .sipush 1, .goto 2]
def bk_11_1 : List Instr := [.sipush 0, .goto_w 2]
def bk_11_2 : List Instr := [.ireturn]
def bk_12_0 : List Instr := [.iload 0, .ifCond .lt 1, .iload 0, .sipush 6, .if_icmp .ge 1, .iload 1, .getstatic 1, .iload 0, .iaload, .if_icmp .lt 1, .iload 1, .getstatic 2, .iload 0, .iaload, .if_icmp .gt 1, .sipush 1, .goto 2]
def bk_12_1 : List Instr := [.sipush 0, .goto_w 2]
def bk_12_2 : List Instr := [.ireturn]
def bk_13_0 : List Instr := [.iload 1, .ifCond .lt 1, .iload 1, .aload 0, .getfield 64, .if_icmp .ge 1, .sipush 1, .goto 2]
def bk_13_1 : List Instr := [.sipush 0, .goto_w 2]
def bk_13_2 : List Instr := [.ireturn]
def bk_14_0 : List Instr := [.iload 1, .ifCond .lt 1, .iload 1, .aload 0, .getfield 65, .if_icmp .ge 1, .sipush 1, .goto 2]
def bk_14_1 : List Instr := [.sipush 0, .goto_w 2]
def bk_14_2 : List Instr := [.ireturn]
def bk_15_0 : List Instr := [.aload 0, .getfield 64, .istore 5, .aload 0, .getfield 66, .iload 5, .iload 1, .iastore, .aload 0, .getfield 67, .iload 5, .iload 2, .iastore, .aload 0, .getfield 68, .iload 5, .iload 3, .iastore, .aload 0, .getfield 69, .iload 5, .iload 4, .iastore, .aload 0, .getfield 70, .iload 5, .sipush 100, .iastore, .aload 0, .getfield 71, .iload 5, .sipush 0, .iastore, .aload 0, .getfield 72, .iload 5, .sipush 0, .iastore, .aload 0, .getfield 73, .iload 5, .sipush 0, .iastore, .aload 0, .dup, .getfield 64, .sipush 1, .iadd, .putfield 64, .iload 5, .ireturn]
def bk_16_0 : List Instr := [.aload 0, .getfield 65, .istore 7, .iload 7, .sipush 6, .imul, .istore 8, .aload 0, .getfield 75, .iload 8, .sipush 0, .iadd, .iload 1, .iastore, .aload 0, .getfield 75, .iload 8, .sipush 1, .iadd, .iload 2, .iastore, .aload 0, .getfield 75, .iload 8, .sipush 2, .iadd, .iload 3, .iastore, .aload 0, .getfield 75, .iload 8, .sipush 3, .iadd, .iload 4, .iastore, .aload 0, .getfield 75, .iload 8, .sipush 4, .iadd, .iload 5, .iastore, .aload 0, .getfield 75, .iload 8, .sipush 5, .iadd, .iload 6, .iastore, .aload 0, .getfield 76, .iload 7, .sipush (-1), .iastore, .aload 0, .dup, .getfield 65, .sipush 1, .iadd, .putfield 65, .iload 7, .ireturn]
def bk_17_0 : List Instr := [.aload 0, .getfield 75, .iload 1, .sipush 6, .imul, .iload 2, .iadd, .iaload, .ireturn]
def bk_18_0 : List Instr := [.aload 0, .getfield 75, .iload 1, .sipush 6, .imul, .iload 2, .iadd, .iaload, .istore 4, .aload 0, .getfield 75, .iload 1, .sipush 6, .imul, .iload 2, .iadd, .iload 3, .iastore, .iload 4, .ireturn]
def bk_19_0 : List Instr := [.aload 0, .getfield 66, .iload 1, .iaload, .istore 3, .sipush 0, .istore 4, .goto_w 1]
def bk_19_1 : List Instr := [.iload 4, .getstatic 0, .arraylength, .if_icmp .ge 3, .iload 3, .sipush (-1), .if_icmp .eq 3, .iload 3, .iload 2, .if_icmp .ne 2, .sipush 1, .ireturn]
def bk_19_2 : List Instr := [.getstatic 0, .iload 3, .iaload, .istore 3, .iinc 4 1, .goto 1]
def bk_19_3 : List Instr := [.sipush 0, .ireturn]
def bk_20_0 : List Instr := [.aload 0, .getfield 66, .iload 1, .iaload, .sipush 1, .if_icmp .eq 1, .aload 0, .getfield 66, .iload 1, .iaload, .sipush 3, .if_icmp .ne 2, .goto_w 1]
def bk_20_1 : List Instr := [.sipush 1, .goto 3]
def bk_20_2 : List Instr := [.sipush 0, .goto_w 3]
def bk_20_3 : List Instr := [.ireturn]
def bk_21_0 : List Instr := [.aload 0, .getfield 66, .iload 1, .iaload, .sipush 3, .if_icmp .ne 1, .aload 0, .getfield 69, .iload 1, .iaload, .sipush 2, .idiv, .goto 2]
def bk_21_1 : List Instr := [.aload 0, .getfield 69, .iload 1, .iaload, .goto_w 2]
def bk_21_2 : List Instr := [.ireturn]
def bk_22_0 : List Instr := [.aload 0, .iload 1, .sipush 1, .invokevirtual 17, .aload 0, .getfield 68, .iload 2, .iaload, .if_icmp .gt 1, .aload 0, .iload 1, .sipush 2, .invokevirtual 17, .aload 0, .iload 2, .invokevirtual 21, .if_icmp .gt 1, .sipush 1, .goto 2]
def bk_22_1 : List Instr := [.sipush 0, .goto_w 2]
def bk_22_2 : List Instr := [.ireturn]
def bk_23_0 : List Instr := [.aload 0, .getfield 74, .iload 1, .sipush 8, .imul, .iload 2, .iadd, .iaload, .ireturn]
def bk_24_0 : List Instr := [.aload 0, .getfield 67, .iload 1, .iaload, .istore 2, .sipush 0, .istore 3, .goto_w 1]
def bk_24_1 : List Instr := [.iload 3, .aload 0, .getfield 73, .iload 1, .iaload, .if_icmp .ge 2, .iload 2, .aload 0, .aload 0, .iload 1, .iload 3, .invokevirtual 23, .sipush 0, .invokevirtual 17, .isub, .istore 2, .iinc 3 1, .goto 1]
def bk_24_2 : List Instr := [.iload 2, .ireturn]
def bk_25_0 : List Instr := [.aload 0, .getfield 72, .iload 1, .iaload, .ifCond .ne 1, .aload 0, .getfield 71, .iload 1, .iaload, .sipush 12, .if_icmp .lt 2, .goto_w 1]
def bk_25_1 : List Instr := [.sipush 1, .goto 3]
def bk_25_2 : List Instr := [.sipush 0, .goto_w 3]
def bk_25_3 : List Instr := [.ireturn]
def bk_26_0 : List Instr := [.aload 0, .getfield 76, .iload 1, .iaload, .istore 2, .iload 2, .sipush (-1), .if_icmp .eq 1, .aload 0, .getfield 73, .iload 2, .iaload, .ifCond .gt 2, .goto_w 1]
def bk_26_1 : List Instr := [.sipush 0, .ireturn]
def bk_26_2 : List Instr := [.aload 0, .iload 2, .aload 0, .getfield 73, .iload 2, .iaload, .sipush 1, .isub, .invokevirtual 23, .iload 1, .if_icmp .ne 3, .aload 0, .iload 2, .invokevirtual 25, .ifCond .ne 3, .sipush 1, .goto 4]
def bk_26_3 : List Instr := [.sipush 0, .goto_w 4]
def bk_26_4 : List Instr := [.ireturn]
def bk_27_0 : List Instr := [.aload 0, .getfield 76, .iload 1, .iaload, .sipush (-1), .if_icmp .eq 1, .sipush (-100007), .ireturn]
def bk_27_1 : List Instr := [.aload 0, .iload 1, .iload 2, .invokevirtual 22, .ifCond .ne 2, .sipush (-100004), .ireturn]
def bk_27_2 : List Instr := [.aload 0, .iload 2, .invokevirtual 25, .ifCond .eq 3, .sipush (-100008), .ireturn]
def bk_27_3 : List Instr := [.aload 0, .iload 1, .sipush 0, .invokevirtual 17, .aload 0, .iload 2, .invokevirtual 24, .if_icmp .le 4, .sipush (-100005), .goto 5]
def bk_27_4 : List Instr := [.sipush 0, .goto_w 5]
def bk_27_5 : List Instr := [.ireturn]
def bk_28_0 : List Instr := [.aload 0, .getfield 76, .iload 1, .iaload, .sipush (-1), .if_icmp .ne 1, .sipush (-100006), .ireturn]
def bk_28_1 : List Instr := [.aload 0, .getfield 76, .iload 1, .iaload, .iload 2, .if_icmp .ne 2, .sipush (-100007), .ireturn]
def bk_28_2 : List Instr := [.aload 0, .iload 1, .invokevirtual 26, .ifCond .eq 3, .aload 0, .iload 2, .invokevirtual 25, .ifCond .eq 4, .goto_w 3]
def bk_28_3 : List Instr := [.sipush (-100008), .ireturn]
def bk_28_4 : List Instr := [.aload 0, .iload 1, .iload 2, .invokevirtual 22, .ifCond .ne 5, .sipush (-100004), .ireturn]
def bk_28_5 : List Instr := [.aload 0, .iload 1, .sipush 0, .invokevirtual 17, .aload 0, .iload 2, .invokevirtual 24, .if_icmp .le 6, .sipush (-100005), .goto 7]
def bk_28_6 : List Instr := [.sipush 0, .goto_w 7]
def bk_28_7 : List Instr := [.ireturn]
def bk_29_0 : List Instr := [.aload 0, .getfield 73, .iload 2, .iaload, .sipush 8, .if_icmp .lt 1, .return_]
def bk_29_1 : List Instr := [.aload 0, .getfield 74, .iload 2, .sipush 8, .imul, .aload 0, .getfield 73, .iload 2, .iaload, .iadd, .iload 1, .iastore, .aload 0, .getfield 73, .iload 2, .dup2, .iaload, .sipush 1, .iadd, .iastore, .aload 0, .getfield 76, .iload 1, .iload 2, .iastore, .aload 0, .getfield 71, .iload 2, .dup2, .iaload, .aload 0, .iload 2, .invokevirtual 20, .iadd, .iastore, .return_]
def bk_30_0 : List Instr := [.aload 0, .getfield 76, .iload 1, .iaload, .istore 2, .aload 0, .getfield 73, .iload 2, .dup2, .iaload, .sipush 1, .isub, .iastore, .aload 0, .getfield 76, .iload 1, .sipush (-1), .iastore, .aload 0, .getfield 71, .iload 2, .dup2, .iaload, .aload 0, .iload 2, .invokevirtual 20, .iadd, .iastore, .return_]
def bk_31_0 : List Instr := [.aload 0, .iload 1, .invokevirtual 30, .aload 0, .iload 1, .iload 2, .invokevirtual 29, .return_]
def bk_32_0 : List Instr := [.aload 0, .getfield 76, .iload 1, .iaload, .istore 3, .aload 0, .iload 1, .iload 2, .invokevirtual 31, .aload 0, .getfield 71, .iload 3, .dup2, .iaload, .sipush 2, .aload 0, .iload 3, .invokevirtual 20, .imul, .isub, .iastore, .aload 0, .getfield 71, .iload 2, .dup2, .iaload, .sipush 2, .aload 0, .iload 2, .invokevirtual 20, .imul, .isub, .iastore, .return_]
def bk_33_0 : List Instr := [.sipush 0, .istore 1, .sipush 0, .istore 2, .goto_w 1]
def bk_33_1 : List Instr := [.iload 2, .aload 0, .getfield 64, .if_icmp .ge 2, .iload 1, .aload 0, .getfield 71, .iload 2, .iaload, .iadd, .istore 1, .aload 0, .getfield 71, .iload 2, .sipush 0, .iastore, .iinc 2 1, .goto 1]
def bk_33_2 : List Instr := [.iload 1, .ireturn]
def bk_34_0 : List Instr := [.sipush 0, .istore 2, .aload 0, .getfield 76, .iload 1, .iaload, .istore 3, .iload 3, .sipush (-1), .if_icmp .ne 1, .iload 2, .ireturn]
def bk_34_1 : List Instr := [.aload 0, .getfield 73, .iload 3, .iaload, .sipush 1, .isub, .istore 4, .goto_w 2]
def bk_34_2 : List Instr := [.iload 4, .ifCond .lt 3, .aload 0, .iload 3, .iload 4, .invokevirtual 23, .iload 1, .if_icmp .eq 3, .iload 2, .sipush 1, .aload 0, .iload 3, .iload 4, .invokevirtual 23, .ishl, .ior, .istore 2, .iinc 4 (-1), .goto 2]
def bk_34_3 : List Instr := [.iload 2, .ireturn]
def bk_35_0 : List Instr := [.sipush 0, .istore 1, .sipush 0, .istore 2, .goto_w 1]
def bk_35_1 : List Instr := [.iload 2, .aload 0, .getfield 64, .if_icmp .ge 2, .iload 1, .aload 0, .getfield 73, .iload 2, .iaload, .iadd, .istore 1, .iinc 2 1, .goto 1]
def bk_35_2 : List Instr := [.iload 1, .ireturn]
def bk_36_0 : List Instr := [.sipush 0, .istore 2, .sipush 1, .istore 3, .goto_w 1]
def bk_36_1 : List Instr := [.iload 3, .aload 0, .getfield 73, .iload 1, .iaload, .if_icmp .ge 6, .aload 0, .aload 0, .iload 1, .iload 3, .invokevirtual 23, .sipush 3, .invokevirtual 17, .istore 4, .sipush 0, .istore 5, .goto_w 2]
def bk_36_2 : List Instr := [.iload 5, .iload 3, .if_icmp .ge 5, .iload 2, .iload 4, .aload 0, .aload 0, .iload 1, .iload 5, .invokevirtual 23, .sipush 3, .invokevirtual 17, .if_icmp .le 3, .sipush 2, .goto 4]
def bk_36_3 : List Instr := [.sipush 0, .goto_w 4]
def bk_36_4 : List Instr := [.iadd, .istore 2, .iinc 5 1, .goto 2]
def bk_36_5 : List Instr := [.iinc 3 1, .goto 1]
def bk_36_6 : List Instr := [.iload 2, .ireturn]
def bk_37_0 : List Instr := [.aload 0, .getfield 66, .iload 1, .iaload, .sipush 2, .if_icmp .ne 1, .sipush 0, .aload 0, .getfield 70, .iload 1, .iaload, .sipush 60, .isub, .invokestatic 236, .goto 2]
def bk_37_1 : List Instr := [.aload 0, .getfield 70, .iload 1, .iaload, .goto_w 2]
def bk_37_2 : List Instr := [.ireturn]
def bk_38_0 : List Instr := [.aload 0, .invokedynamic 1, .aload 0, .sipush 0, .putfield 96, .aload 0, .sipush 30, .newarray .int, .putfield 97, .aload 0, .sipush 30, .newarray .int, .putfield 98, .aload 0, .sipush 30, .newarray .int, .putfield 99, .return_]
def bk_39_0 : List Instr := [.aload 0, .aload 1, .getfield 96, .putfield 96, .aload 1, .getfield 97, .sipush 0, .aload 0, .getfield 97, .sipush 0, .aload 0, .getfield 97, .arraylength, .invokedynamic 0, .aload 1, .getfield 98, .sipush 0, .aload 0, .getfield 98, .sipush 0, .aload 0, .getfield 98, .arraylength, .invokedynamic 0, .aload 1, .getfield 99, .sipush 0, .aload 0, .getfield 99, .sipush 0, .aload 0, .getfield 99, .arraylength, .invokedynamic 0, .return_]
def bk_40_0 : List Instr := [.aload 0, .getfield 97, .aload 0, .getfield 96, .iload 1, .iastore, .aload 0, .getfield 98, .aload 0, .getfield 96, .iload 2, .iastore, .aload 0, .getfield 99, .aload 0, .getfield 96, .iload 3, .ifCond .eq 1, .sipush 1, .goto 2]
def bk_40_1 : List Instr := [.sipush 0, .goto_w 2]
def bk_40_2 : List Instr := [.iastore, .aload 0, .dup, .getfield 96, .sipush 1, .iadd, .putfield 96, .return_]
def bk_41_0 : List Instr := [.sipush (-1), .istore 4, .sipush 0, .istore 5, .sipush 0, .istore 6, .goto_w 1]
def bk_41_1 : List Instr := [.iload 6, .iload 3, .if_icmp .ge 5, .iload 6, .aload 0, .getfield 96, .if_icmp .ge 5, .aload 0, .getfield 97, .iload 6, .iaload, .iload 1, .if_icmp .ne 4, .aload 0, .getfield 98, .iload 6, .iaload, .iload 2, .if_icmp .gt 4, .aload 0, .getfield 98, .iload 6, .iaload, .iload 4, .if_icmp .lt 4, .aload 0, .getfield 98, .iload 6, .iaload, .istore 4, .aload 0, .getfield 99, .iload 6, .iaload, .ifCond .eq 2, .sipush 1, .goto 3]
def bk_41_2 : List Instr := [.sipush 0, .goto_w 3]
def bk_41_3 : List Instr := [.istore 5, .goto_w 4]
def bk_41_4 : List Instr := [.iinc 6 1, .goto 1]
def bk_41_5 : List Instr := [.iload 5, .ireturn]
def bk_42_0 : List Instr := [.sipush 0, .istore 3, .sipush 0, .istore 4, .goto_w 1]
def bk_42_1 : List Instr := [.iload 4, .iload 1, .if_icmp .ge 4, .iload 3, .aload 0, .iload 4, .iload 2, .aload 0, .getfield 96, .invokevirtual 41, .ifCond .eq 2, .sipush 1, .iload 4, .ishl, .goto 3]
def bk_42_2 : List Instr := [.sipush 0, .goto_w 3]
def bk_42_3 : List Instr := [.ior, .istore 3, .iinc 4 1, .goto 1]
def bk_42_4 : List Instr := [.iload 3, .ireturn]
def bk_43_0 : List Instr := [.aload 0, .invokedynamic 1, .aload 0, .sipush 0, .putfield 128, .aload 0, .sipush 60, .newarray .int, .putfield 129, .aload 0, .sipush 60, .newarray .int, .putfield 130, .return_]
def bk_44_0 : List Instr := [.aload 0, .aload 1, .getfield 128, .putfield 128, .aload 1, .getfield 129, .sipush 0, .aload 0, .getfield 129, .sipush 0, .aload 0, .getfield 129, .arraylength, .invokedynamic 0, .aload 1, .getfield 130, .sipush 0, .aload 0, .getfield 130, .sipush 0, .aload 0, .getfield 130, .arraylength, .invokedynamic 0, .return_]
def bk_45_0 : List Instr := [.aload 0, .getfield 128, .sipush 60, .if_icmp .lt 1, .aload 0, .sipush 59, .putfield 128, .aload 0, .getfield 129, .sipush 1, .aload 0, .getfield 129, .sipush 0, .aload 0, .getfield 128, .invokedynamic 0, .aload 0, .getfield 130, .sipush 1, .aload 0, .getfield 130, .sipush 0, .aload 0, .getfield 128, .invokedynamic 0, .goto_w 1]
def bk_45_1 : List Instr := [.aload 0, .getfield 129, .aload 0, .getfield 128, .iload 1, .iastore, .aload 0, .getfield 130, .aload 0, .getfield 128, .iload 2, .iastore, .aload 0, .dup, .getfield 128, .sipush 1, .iadd, .putfield 128, .return_]
def bk_46_0 : List Instr := [.aload 0, .iload 1, .invokevirtual 47, .istore 4, .iload 4, .sipush (-1), .if_icmp .ne 1, .sipush (-1), .goto 2]
def bk_46_1 : List Instr := [.aload 0, .iload 1, .iload 4, .invokevirtual 48, .goto_w 2]
def bk_46_2 : List Instr := [.istore 5, .iload 5, .sipush (-1), .if_icmp .ne 3, .sipush (-1), .ireturn]
def bk_46_3 : List Instr := [.sipush 0, .istore 6, .sipush 0, .istore 7, .goto_w 4]
def bk_46_4 : List Instr := [.iload 7, .sipush 4, .if_icmp .ge 5, .iload 6, .aload 0, .iload 7, .iload 1, .iload 4, .iload 5, .invokevirtual 49, .iadd, .istore 6, .iinc 7 1, .goto 4]
def bk_46_5 : List Instr := [.iload 6, .ifCond .gt 6, .sipush (-1), .ireturn]
def bk_46_6 : List Instr := [.iload 3, .istore 7, .sipush (-1), .istore 8, .sipush 3, .istore 9, .goto_w 7]
def bk_46_7 : List Instr := [.iload 9, .ifCond .lt 10, .aload 0, .iload 9, .iload 1, .iload 4, .iload 5, .invokevirtual 49, .istore 10, .iload 7, .iload 3, .iload 10, .imul, .iload 6, .idiv, .isub, .istore 7, .iload 10, .ifCond .le 8, .iload 9, .goto 9]
def bk_46_8 : List Instr := [.iload 8, .goto_w 9]
def bk_46_9 : List Instr := [.istore 8, .iinc 9 (-1), .goto 7]
def bk_46_10 : List Instr := [.iload 3, .aload 0, .iload 2, .iload 1, .iload 4, .iload 5, .invokevirtual 49, .imul, .iload 6, .idiv, .istore 9, .iload 2, .iload 8, .if_icmp .ne 11, .iload 9, .iload 7, .iadd, .goto 12]
def bk_46_11 : List Instr := [.iload 9, .goto_w 12]
def bk_46_12 : List Instr := [.ireturn]
def bk_47_0 : List Instr := [.aload 0, .getfield 128, .sipush 1, .isub, .istore 2, .goto_w 1]
def bk_47_1 : List Instr := [.iload 2, .ifCond .lt 3, .aload 0, .getfield 129, .iload 2, .iaload, .iload 1, .if_icmp .ne 2, .aload 0, .getfield 130, .iload 2, .iaload, .sipush 4, .if_icmp .ne 2, .iload 2, .ireturn]
def bk_47_2 : List Instr := [.iinc 2 (-1), .goto 1]
def bk_47_3 : List Instr := [.sipush (-1), .ireturn]
def bk_48_0 : List Instr := [.iload 2, .sipush 1, .iadd, .istore 3, .goto_w 1]
def bk_48_1 : List Instr := [.iload 3, .aload 0, .getfield 128, .if_icmp .ge 3, .aload 0, .getfield 129, .iload 3, .iaload, .iload 1, .if_icmp .ne 2, .aload 0, .getfield 130, .iload 3, .iaload, .sipush 5, .if_icmp .ne 2, .iload 3, .ireturn]
def bk_48_2 : List Instr := [.iinc 3 1, .goto 1]
def bk_48_3 : List Instr := [.sipush (-1), .ireturn]
def bk_49_0 : List Instr := [.sipush 0, .istore 5, .iload 3, .sipush 1, .iadd, .istore 6, .goto_w 1]
def bk_49_1 : List Instr := [.iload 6, .iload 4, .if_icmp .ge 4, .iload 5, .aload 0, .getfield 129, .iload 6, .iaload, .iload 2, .if_icmp .ne 2, .aload 0, .getfield 130, .iload 6, .iaload, .iload 1, .if_icmp .ne 2, .sipush 1, .goto 3]
def bk_49_2 : List Instr := [.sipush 0, .goto_w 3]
def bk_49_3 : List Instr := [.iadd, .istore 5, .iinc 6 1, .goto 1]
def bk_49_4 : List Instr := [.iload 5, .ireturn]
def bk_50_0 : List Instr := [.aload 0, .invokedynamic 1, .aload 0, .sipush 7, .newarray .int, .putfield 160, .aload 0, .sipush 7, .newarray .int, .putfield 161, .aload 0, .sipush 5, .newarray .int, .putfield 162, .aload 0, .sipush (-1), .putfield 163, .return_]
def bk_51_0 : List Instr := [.aload 0, .sipush (-1), .putfield 163, .aload 0, .getfield 162, .sipush 0, .invokestatic 239, .aload 0, .aload 1, .sipush 0, .sipush 0, .invokevirtual 52, .aload 0, .getfield 163, .ireturn]
def bk_52_0 : List Instr := [.aload 0, .getfield 163, .sipush (-1), .if_icmp .eq 1, .iload 3, .aload 0, .getfield 163, .if_icmp .lt 1, .return_]
def bk_52_1 : List Instr := [.iload 2, .aload 1, .getfield 39, .if_icmp .lt 2, .aload 0, .iload 3, .putfield 163, .aload 0, .getfield 161, .sipush 0, .aload 0, .getfield 160, .sipush 0, .aload 0, .getfield 160, .arraylength, .invokedynamic 0, .return_]
def bk_52_2 : List Instr := [.aload 1, .getfield 32, .astore 4, .aload 1, .getfield 37, .iload 2, .iaload, .istore 5, .aload 4, .iload 5, .sipush 0, .invokevirtual 17, .istore 6, .sipush 0, .istore 7, .goto_w 3]
def bk_52_3 : List Instr := [.iload 7, .aload 4, .getfield 64, .if_icmp .ge 6, .aload 0, .getfield 162, .iload 7, .iaload, .iload 6, .iadd, .aload 4, .getfield 67, .iload 7, .iaload, .if_icmp .gt 5, .aload 4, .iload 5, .iload 7, .invokevirtual 22, .ifCond .ne 4, .goto 5]
def bk_52_4 : List Instr := [.aload 0, .getfield 161, .iload 2, .iload 7, .iastore, .aload 0, .getfield 162, .iload 7, .dup2, .iaload, .iload 6, .iadd, .iastore, .aload 0, .aload 1, .iload 2, .sipush 1, .iadd, .iload 3, .aload 0, .aload 1, .iload 2, .invokevirtual 53, .iadd, .invokevirtual 52, .aload 0, .getfield 162, .iload 7, .dup2, .iaload, .iload 6, .isub, .iastore, .goto_w 5]
def bk_52_5 : List Instr := [.iinc 7 1, .goto 3]
def bk_52_6 : List Instr := [.return_]
def bk_53_0 : List Instr := [.aload 1, .getfield 32, .aload 1, .getfield 37, .iload 2, .iaload, .sipush 3, .invokevirtual 17, .istore 3, .sipush 0, .istore 4, .sipush 0, .istore 5, .goto_w 1]
def bk_53_1 : List Instr := [.iload 5, .iload 2, .if_icmp .ge 6, .aload 0, .getfield 161, .iload 5, .iaload, .aload 0, .getfield 161, .iload 2, .iaload, .if_icmp .ne 2, .iload 3, .aload 1, .getfield 32, .aload 1, .getfield 37, .iload 5, .iaload, .sipush 3, .invokevirtual 17, .if_icmp .le 2, .sipush 1, .goto 3]
def bk_53_2 : List Instr := [.sipush 0, .goto_w 3]
def bk_53_3 : List Instr := [.istore 6, .iload 4, .iload 6, .ifCond .eq 4, .sipush 2, .goto 5]
def bk_53_4 : List Instr := [.sipush 0, .goto_w 5]
def bk_53_5 : List Instr := [.iadd, .istore 4, .iinc 5 1, .goto 1]
def bk_53_6 : List Instr := [.iload 4, .ireturn]
def bk_54_0 : List Instr := [.aload 0, .invokedynamic 1, .aload 0, .sipush 5, .newarray .int, .putfield 192, .aload 0, .sipush 5, .newarray .int, .putfield 193, .aload 0, .sipush (-1), .putfield 194, .return_]
def bk_55_0 : List Instr := [.aload 0, .sipush (-1), .putfield 194, .aload 0, .aload 1, .iload 2, .sipush 0, .sipush 0, .sipush 0, .invokevirtual 56, .aload 0, .getfield 194, .ireturn]
def bk_56_0 : List Instr := [.iload 3, .sipush 5, .if_icmp .lt 2, .iload 5, .aload 0, .getfield 194, .if_icmp .le 1, .aload 0, .iload 5, .putfield 194, .aload 0, .getfield 193, .sipush 0, .aload 0, .getfield 192, .sipush 0, .aload 0, .getfield 192, .arraylength, .invokedynamic 0, .goto_w 1]
def bk_56_1 : List Instr := [.return_]
def bk_56_2 : List Instr := [.iload 3, .iload 2, .if_icmp .ne 3, .aload 0, .aload 1, .iload 2, .iload 3, .sipush 1, .iadd, .iload 4, .iload 5, .invokevirtual 56, .return_]
def bk_56_3 : List Instr := [.sipush 0, .istore 6, .goto_w 4]
def bk_56_4 : List Instr := [.iload 6, .sipush 5, .if_icmp .ge 6, .iload 4, .iload 6, .ishr, .sipush 1, .iand, .ifCond .ne 5, .aload 0, .getfield 193, .iload 3, .iload 6, .iastore, .aload 0, .aload 1, .iload 2, .iload 3, .sipush 1, .iadd, .iload 4, .sipush 1, .iload 6, .ishl, .ior, .iload 5, .aload 1, .iload 3, .sipush 5, .imul, .iload 6, .iadd, .iaload, .iadd, .invokevirtual 56, .goto_w 5]
def bk_56_5 : List Instr := [.iinc 6 1, .goto 4]
def bk_56_6 : List Instr := [.return_]
def bk_57_0 : List Instr := [.aload 0, .aload 1, .sipush (-1), .invokevirtual 55, .istore 3, .iload 3, .aload 1, .iload 2, .sipush 5, .imul, .aload 0, .getfield 192, .iload 2, .iaload, .iadd, .iaload, .isub, .istore 4, .aload 0, .aload 1, .iload 2, .invokevirtual 55, .iload 4, .isub, .ireturn]
def bk_58_0 : List Instr := [.aload 0, .invokedynamic 1, .aload 0, .sipush 8, .newarray .int, .putfield 224, .aload 0, .sipush 0, .putfield 225, .aload 0, .sipush 8, .newarray .int, .putfield 226, .aload 0, .sipush 5, .newarray .int, .putfield 227, .aload 0, .sipush (-1), .putfield 228, .return_]
def bk_59_0 : List Instr := [.aload 0, .sipush (-1), .putfield 228, .sipush 0, .istore 3, .goto_w 1]
def bk_59_1 : List Instr := [.iload 3, .aload 1, .getfield 64, .if_icmp .ge 4, .aload 0, .getfield 227, .iload 3, .aload 1, .getfield 72, .iload 3, .iaload, .ifCond .eq 2, .sipush 0, .goto 3]
def bk_59_2 : List Instr := [.aload 1, .getfield 73, .iload 3, .iaload, .goto_w 3]
def bk_59_3 : List Instr := [.iastore, .iinc 3 1, .goto 1]
def bk_59_4 : List Instr := [.aload 0, .aload 1, .iload 2, .sipush 0, .sipush 0, .invokevirtual 60, .aload 0, .getfield 228, .ireturn]
def bk_60_0 : List Instr := [.iload 4, .aload 0, .getfield 228, .if_icmp .gt 1, .iload 4, .aload 0, .getfield 228, .if_icmp .ne 2, .iload 3, .aload 0, .getfield 225, .if_icmp .ge 2, .goto_w 1]
def bk_60_1 : List Instr := [.aload 0, .iload 4, .putfield 228, .aload 0, .iload 3, .putfield 225, .aload 0, .getfield 226, .sipush 0, .aload 0, .getfield 224, .sipush 0, .aload 0, .getfield 224, .arraylength, .invokedynamic 0, .goto_w 2]
def bk_60_2 : List Instr := [.iload 3, .sipush 8, .if_icmp .lt 3, .return_]
def bk_60_3 : List Instr := [.iload 2, .iload 3, .sipush 1, .iadd, .imul, .istore 5, .sipush 0, .istore 6, .goto_w 4]
def bk_60_4 : List Instr := [.iload 6, .aload 1, .getfield 64, .if_icmp .ge 7, .aload 0, .getfield 227, .iload 6, .iaload, .ifCond .le 6, .aload 1, .iload 6, .invokevirtual 37, .iload 5, .if_icmp .ge 5, .goto 6]
def bk_60_5 : List Instr := [.aload 0, .getfield 227, .iload 6, .dup2, .iaload, .sipush 1, .isub, .iastore, .aload 1, .iload 6, .aload 0, .getfield 227, .iload 6, .iaload, .invokevirtual 23, .istore 7, .aload 0, .getfield 226, .iload 3, .iload 7, .iastore, .aload 0, .aload 1, .iload 2, .iload 3, .sipush 1, .iadd, .iload 4, .aload 1, .iload 7, .sipush 5, .invokevirtual 17, .iadd, .invokevirtual 60, .aload 0, .getfield 227, .iload 6, .dup2, .iaload, .sipush 1, .iadd, .iastore, .goto_w 6]
def bk_60_6 : List Instr := [.iinc 6 1, .goto 4]
def bk_60_7 : List Instr := [.return_]
def bk_61_0 : List Instr := [.aload 0, .invokedynamic 1, .aload 0, .sipush 5, .newarray .int, .putfield 256, .aload 0, .sipush 7, .newarray .int, .putfield 257, .return_]
def bk_62_0 : List Instr := [.iload 0, .sipush 1, .if_icmp .lt 1, .iload 0, .sipush 6, .if_icmp .le 3, .goto_w 1]
def bk_62_1 : List Instr := [.iload 0, .sipush 10, .if_icmp .lt 2, .iload 0, .sipush 34, .if_icmp .lt 3, .goto_w 2]
def bk_62_2 : List Instr := [.iload 0, .sipush 40, .if_icmp .lt 4, .iload 0, .sipush 44, .if_icmp .gt 4, .goto_w 3]
def bk_62_3 : List Instr := [.sipush 1, .goto 5]
def bk_62_4 : List Instr := [.sipush 0, .goto_w 5]
def bk_62_5 : List Instr := [.ireturn]
def bk_63_0 : List Instr := [.aload 0, .getfield 257, .sipush 1, .iload 1, .iastore, .aload 0, .getfield 257, .sipush 2, .iload 2, .iastore, .aload 0, .getfield 257, .sipush 3, .iload 3, .iastore, .aload 0, .getfield 257, .sipush 4, .iload 4, .iastore, .aload 0, .getfield 257, .sipush 5, .iload 5, .iastore, .aload 0, .getfield 257, .sipush 6, .iload 6, .iastore, .return_]
def bk_64_0 : List Instr := [.iload 2, .ifCond .eq 1, .aload 0, .aload 1, .iload 2, .invokevirtual 65, .sipush (-1), .if_icmp .ne 2, .aload 0, .getfield 256, .sipush 0, .iaload, .ifCond .eq 2, .goto_w 1]
def bk_64_1 : List Instr := [.sipush 1, .goto 3]
def bk_64_2 : List Instr := [.sipush 0, .goto_w 3]
def bk_64_3 : List Instr := [.ireturn]
def bk_65_0 : List Instr := [.sipush 0, .istore 3, .sipush 0, .istore 4, .goto_w 1]
def bk_65_1 : List Instr := [.iload 4, .iload 2, .if_icmp .ge 4, .aload 1, .iload 4, .iaload, .invokestatic 66, .istore 5, .iload 3, .iload 5, .isub, .istore 6, .iload 6, .ifCond .lt 2, .iload 6, .sipush 5, .if_icmp .lt 3, .goto_w 2]
def bk_65_2 : List Instr := [.iload 4, .ireturn]
def bk_65_3 : List Instr := [.aload 0, .getfield 256, .iload 6, .aload 0, .aload 1, .iload 4, .iaload, .iload 6, .invokevirtual 67, .iastore, .iload 6, .sipush 1, .iadd, .istore 3, .iinc 4 1, .goto 1]
def bk_65_4 : List Instr := [.iload 2, .ifCond .eq 5, .iload 3, .sipush 1, .if_icmp .ne 6, .goto_w 5]
def bk_65_5 : List Instr := [.sipush (-1), .goto 7]
def bk_65_6 : List Instr := [.iload 2, .goto_w 7]
def bk_65_7 : List Instr := [.ireturn]
def bk_66_0 : List Instr := [.iload 0, .sipush 40, .if_icmp .ge 1, .sipush 0, .ireturn]
def bk_66_1 : List Instr := [.iload 0, .sipush 42, .if_icmp .ne 2, .sipush 1, .goto 3]
def bk_66_2 : List Instr := [.sipush 2, .goto_w 3]
def bk_66_3 : List Instr := [.ireturn]
def bk_67_0 : List Instr := [.iload 1, .sipush 40, .if_icmp .ge 3, .iload 1, .sipush 10, .if_icmp .lt 1, .iload 1, .sipush 10, .isub, .goto 2]
def bk_67_1 : List Instr := [.aload 0, .iload 1, .invokevirtual 68, .goto_w 2]
def bk_67_2 : List Instr := [.ireturn]
def bk_67_3 : List Instr := [.aload 0, .getfield 256, .iload 2, .iaload, .istore 3, .iload 1, .sipush 42, .if_icmp .ne 6, .iload 3, .ifCond .ne 4, .sipush 1, .goto 5]
def bk_67_4 : List Instr := [.sipush 0, .goto_w 5]
def bk_67_5 : List Instr := [.ireturn]
def bk_67_6 : List Instr := [.iload 2, .sipush 1, .iadd, .sipush 5, .if_icmp .ge 7, .aload 0, .getfield 256, .iload 2, .sipush 1, .iadd, .iaload, .goto 8]
def bk_67_7 : List Instr := [.sipush 0, .goto_w 8]
def bk_67_8 : List Instr := [.istore 4, .iload 1, .iload 3, .iload 4, .invokestatic 69, .ifCond .eq 9, .sipush 1, .goto 10]
def bk_67_9 : List Instr := [.sipush 0, .goto_w 10]
def bk_67_10 : List Instr := [.ireturn]
def bk_68_0 : List Instr := [.iload 1, .sipush 1, .if_icmp .lt 1, .iload 1, .sipush 6, .if_icmp .gt 1, .aload 0, .getfield 257, .iload 1, .iaload, .goto 2]
def bk_68_1 : List Instr := [.sipush 0, .goto_w 2]
def bk_68_2 : List Instr := [.ireturn]
def bk_69_0 : List Instr := [.iload 0, .tableswitch 10 40 43 #[1, 4, 10, 7]]
def bk_69_1 : List Instr := [.iload 1, .iload 2, .if_icmp .ge 2, .sipush 1, .goto 3]
def bk_69_2 : List Instr := [.sipush 0, .goto_w 3]
def bk_69_3 : List Instr := [.ireturn]
def bk_69_4 : List Instr := [.iload 1, .iload 2, .if_icmp .ne 5, .sipush 1, .goto 6]
def bk_69_5 : List Instr := [.sipush 0, .goto_w 6]
def bk_69_6 : List Instr := [.ireturn]
def bk_69_7 : List Instr := [.iload 1, .ifCond .eq 8, .iload 2, .ifCond .eq 8, .sipush 1, .goto 9]
def bk_69_8 : List Instr := [.sipush 0, .goto_w 9]
def bk_69_9 : List Instr := [.ireturn]
def bk_69_10 : List Instr := [.iload 1, .ifCond .ne 11, .iload 2, .ifCond .eq 12, .goto_w 11]
def bk_69_11 : List Instr := [.sipush 1, .goto 13]
def bk_69_12 : List Instr := [.sipush 0, .goto_w 13]
def bk_69_13 : List Instr := [.ireturn]
def bk_70_0 : List Instr := [.aload 0, .invokedynamic 1, .aload 0, .sipush 4, .newarray .int, .putfield 288, .aload 0, .sipush 4, .newarray .int, .putfield 289, .aload 0, .sipush 80, .newarray .int, .putfield 290, .return_]
def bk_71_0 : List Instr := [.iload 1, .ifCond .lt 1, .iload 1, .sipush 4, .if_icmp .ge 1, .sipush 1, .goto 2]
def bk_71_1 : List Instr := [.sipush 0, .goto_w 2]
def bk_71_2 : List Instr := [.ireturn]
def bk_72_0 : List Instr := [.aload 0, .getfield 288, .iload 1, .iaload, .ifCond .ne 1, .sipush 1, .goto 2]
def bk_72_1 : List Instr := [.sipush 0, .goto_w 2]
def bk_72_2 : List Instr := [.ireturn]
def bk_73_0 : List Instr := [.aload 0, .getfield 288, .iload 1, .iload 2, .iastore, .aload 0, .getfield 289, .iload 1, .iload 3, .iastore, .aload 0, .getfield 290, .iload 1, .sipush 20, .imul, .iload 1, .sipush 1, .iadd, .sipush 20, .imul, .sipush 0, .invokestatic 240, .return_]
def bk_74_0 : List Instr := [.aload 0, .getfield 290, .iload 1, .sipush 20, .imul, .iload 2, .iadd, .iaload, .ireturn]
def bk_75_0 : List Instr := [.aload 0, .getfield 290, .iload 1, .sipush 20, .imul, .iload 2, .iadd, .aload 0, .getfield 288, .iload 1, .iaload, .sipush 32, .if_icmp .ne 1, .iload 3, .goto 2]
def bk_75_1 : List Instr := [.iload 3, .sipush 1, .aload 0, .getfield 288, .iload 1, .iaload, .ishl, .sipush 1, .isub, .iand, .goto_w 2]
def bk_75_2 : List Instr := [.iastore, .return_]
def bk_76_0 : List Instr := [.iload 2, .ifCond .lt 1, .iload 3, .ifCond .lt 1, .iload 2, .aload 0, .getfield 289, .iload 1, .iaload, .if_icmp .gt 1, .iload 3, .aload 0, .getfield 289, .iload 1, .iaload, .iload 2, .isub, .if_icmp .gt 1, .sipush 1, .goto 2]
def bk_76_1 : List Instr := [.sipush 0, .goto_w 2]
def bk_76_2 : List Instr := [.ireturn]
def bk_77_0 : List Instr := [.aload 0, .getfield 290, .iload 1, .sipush 20, .imul, .iload 2, .iadd, .aload 0, .getfield 290, .iload 3, .sipush 20, .imul, .iload 4, .iadd, .iload 5, .invokedynamic 0, .return_]
def bk_78_0 : List Instr := [.aload 0, .invokedynamic 1, .aload 0, .sipush 3, .newarray .int, .putfield 320, .aload 0, .new 2, .dup, .invokespecial 9, .putfield 321, .aload 0, .sipush 0, .putfield 322, .return_]
def bk_79_0 : List Instr := [.aload 0, .getfield 321, .aload 1, .invokevirtual 10, .aload 0, .iload 2, .putfield 322, .return_]
def bk_80_0 : List Instr := [.aload 0, .getfield 321, .iload 1, .invokevirtual 26, .ireturn]
def bk_81_0 : List Instr := [.aload 0, .aload 1, .iload 3, .invokevirtual 79, .sipush 0, .istore 4, .goto_w 1]
def bk_81_1 : List Instr := [.iload 4, .sipush 3, .if_icmp .gt 3, .aload 0, .iload 2, .sipush 0, .iload 4, .invokevirtual 82, .ifCond .eq 2, .iload 4, .ireturn]
def bk_81_2 : List Instr := [.iinc 4 1, .goto 1]
def bk_81_3 : List Instr := [.sipush (-1), .ireturn]
def bk_82_0 : List Instr := [.iload 2, .iload 3, .if_icmp .lt 1, .aload 0, .iload 1, .invokevirtual 80, .ireturn]
def bk_82_1 : List Instr := [.aload 0, .getfield 321, .iload 1, .invokevirtual 34, .invokestatic 235, .iload 3, .iload 2, .isub, .if_icmp .le 2, .sipush 0, .ireturn]
def bk_82_2 : List Instr := [.sipush 0, .istore 4, .goto_w 3]
def bk_82_3 : List Instr := [.iload 4, .aload 0, .getfield 321, .getfield 65, .if_icmp .ge 8, .aload 0, .getfield 321, .getfield 76, .iload 4, .iaload, .istore 5, .sipush 0, .istore 6, .goto_w 4]
def bk_82_4 : List Instr := [.iload 6, .aload 0, .getfield 321, .getfield 64, .if_icmp .ge 7, .iload 4, .sipush 8, .imul, .iload 6, .iadd, .istore 7, .aload 0, .iload 1, .iload 7, .invokevirtual 83, .ifCond .ne 5, .goto 6]
def bk_82_5 : List Instr := [.aload 0, .getfield 320, .iload 2, .iload 7, .iastore, .aload 0, .iload 1, .iload 2, .sipush 1, .iadd, .iload 3, .invokevirtual 82, .istore 8, .aload 0, .getfield 321, .iload 4, .iload 5, .invokevirtual 32, .iload 8, .ifCond .eq 6, .sipush 1, .ireturn]
def bk_82_6 : List Instr := [.iinc 6 1, .goto 4]
def bk_82_7 : List Instr := [.iinc 4 1, .goto 3]
def bk_82_8 : List Instr := [.sipush 0, .ireturn]
def bk_83_0 : List Instr := [.iload 2, .ifCond .ge 1, .sipush 0, .ireturn]
def bk_83_1 : List Instr := [.iload 2, .sipush 8, .idiv, .istore 3, .iload 2, .sipush 8, .irem, .istore 4, .aload 0, .getfield 321, .iload 3, .invokevirtual 14, .ifCond .eq 2, .aload 0, .getfield 321, .iload 4, .invokevirtual 13, .ifCond .eq 2, .iload 3, .iload 1, .if_icmp .eq 2, .aload 0, .getfield 322, .iload 3, .ishr, .sipush 1, .iand, .ifCond .eq 2, .aload 0, .getfield 321, .iload 3, .iload 4, .invokevirtual 28, .ifCond .eq 3, .goto_w 2]
def bk_83_2 : List Instr := [.sipush 0, .ireturn]
def bk_83_3 : List Instr := [.aload 0, .getfield 321, .iload 3, .iload 4, .invokevirtual 31, .sipush 1, .ireturn]
def bk_84_0 : List Instr := [.aload 0, .invokedynamic 1, .aload 0, .new 1, .dup, .invokespecial 6, .putfield 352, .aload 0, .sipush 16, .anewarray 1, .putfield 353, .aload 0, .new 9, .dup, .invokespecial 70, .putfield 354, .aload 0, .new 10, .dup, .invokespecial 78, .putfield 355, .aload 0, .new 5, .dup, .invokespecial 50, .putfield 356, .aload 0, .new 0, .dup, .invokespecial 0, .putfield 357, .aload 0, .new 6, .dup, .invokespecial 54, .putfield 358, .aload 0, .new 8, .dup, .invokespecial 61, .putfield 359, .aload 0, .new 7, .dup, .invokespecial 58, .putfield 360, .aload 0, .sipush 0, .putfield 361, .aload 0, .sipush 0, .putfield 362, .aload 0, .sipush 0, .putfield 363, .sipush 0, .istore 1, .goto_w 1]
def bk_84_1 : List Instr := [.iload 1, .sipush 16, .if_icmp .ge 2, .aload 0, .getfield 353, .iload 1, .new 1, .dup, .invokespecial 6, .aastore, .iinc 1 1, .goto 1]
def bk_84_2 : List Instr := [.return_]
def bk_85_0 : List Instr := [.iload 1, .invokestatic 11, .ifCond .eq 1, .iload 2, .sipush 1, .sipush 30, .invokestatic 137, .ifCond .eq 1, .iload 3, .sipush 1, .sipush 30, .invokestatic 137, .ifCond .eq 1, .iload 4, .sipush 1, .sipush 99, .invokestatic 137, .ifCond .ne 2, .goto_w 1]
def bk_85_1 : List Instr := [.aload 0, .sipush (-100001), .invokevirtual 132, .ireturn]
def bk_85_2 : List Instr := [.aload 0, .getfield 352, .getfield 32, .getfield 64, .sipush 5, .if_icmp .lt 3, .aload 0, .sipush (-100005), .invokevirtual 132, .ireturn]
def bk_85_3 : List Instr := [.aload 0, .invokevirtual 133, .aload 0, .getfield 352, .getfield 32, .iload 1, .iload 2, .iload 3, .iload 4, .invokevirtual 15, .ireturn]
def bk_86_0 : List Instr := [.aload 0, .getfield 352, .getfield 32, .iload 1, .invokevirtual 13, .ifCond .eq 1, .iload 2, .invokestatic 11, .ifCond .ne 2, .goto_w 1]
def bk_86_1 : List Instr := [.aload 0, .sipush (-100001), .invokevirtual 132, .ireturn]
def bk_86_2 : List Instr := [.aload 0, .getfield 352, .getfield 32, .iload 1, .iload 2, .invokevirtual 19, .ifCond .eq 3, .iload 1, .goto 4]
def bk_86_3 : List Instr := [.aload 0, .sipush (-100004), .invokevirtual 132, .goto_w 4]
def bk_86_4 : List Instr := [.ireturn]
def bk_87_0 : List Instr := [.aload 0, .getfield 352, .getfield 32, .astore 3, .aload 3, .iload 1, .invokevirtual 13, .ifCond .ne 1, .aload 0, .sipush (-100001), .invokevirtual 132, .ireturn]
def bk_87_1 : List Instr := [.iload 2, .tableswitch 10 0 7 #[2, 3, 4, 5, 6, 7, 8, 9]]
def bk_87_2 : List Instr := [.aload 3, .getfield 66, .iload 1, .iaload, .ireturn]
def bk_87_3 : List Instr := [.aload 3, .getfield 67, .iload 1, .iaload, .ireturn]
def bk_87_4 : List Instr := [.aload 3, .getfield 68, .iload 1, .iaload, .ireturn]
def bk_87_5 : List Instr := [.aload 3, .iload 1, .invokevirtual 21, .ireturn]
def bk_87_6 : List Instr := [.aload 3, .getfield 73, .iload 1, .iaload, .ireturn]
def bk_87_7 : List Instr := [.aload 3, .iload 1, .invokevirtual 24, .ireturn]
def bk_87_8 : List Instr := [.aload 3, .getfield 71, .iload 1, .iaload, .ireturn]
def bk_87_9 : List Instr := [.aload 3, .getfield 72, .iload 1, .iaload, .ireturn]
def bk_87_10 : List Instr := [.aload 0, .sipush (-100001), .invokevirtual 132, .ireturn]
def bk_88_0 : List Instr := [.aload 0, .getfield 352, .getfield 32, .astore 3, .aload 3, .iload 1, .invokevirtual 13, .ifCond .ne 1, .aload 0, .sipush (-100001), .invokevirtual 132, .ireturn]
def bk_88_1 : List Instr := [.aload 3, .iload 1, .sipush 1, .invokevirtual 19, .ifCond .ne 2, .aload 0, .sipush (-100004), .invokevirtual 132, .ireturn]
def bk_88_2 : List Instr := [.aload 0, .invokevirtual 133, .aload 3, .getfield 72, .iload 1, .iaload, .istore 4, .aload 3, .getfield 72, .iload 1, .iload 2, .ifCond .eq 3, .sipush 1, .goto 4]
def bk_88_3 : List Instr := [.sipush 0, .goto_w 4]
def bk_88_4 : List Instr := [.iastore, .aload 3, .getfield 72, .iload 1, .iaload, .iload 4, .if_icmp .ne 5, .sipush 0, .goto 6]
def bk_88_5 : List Instr := [.sipush 1, .goto_w 6]
def bk_88_6 : List Instr := [.ireturn]
def bk_89_0 : List Instr := [.sipush 0, .iload 1, .invokestatic 12, .ifCond .eq 1, .sipush 1, .iload 2, .invokestatic 12, .ifCond .eq 1, .sipush 2, .iload 3, .invokestatic 12, .ifCond .eq 1, .sipush 3, .iload 4, .invokestatic 12, .ifCond .eq 1, .sipush 4, .iload 5, .invokestatic 12, .ifCond .eq 1, .sipush 5, .iload 6, .invokestatic 12, .ifCond .ne 2, .goto_w 1]
def bk_89_1 : List Instr := [.aload 0, .sipush (-100001), .invokevirtual 132, .ireturn]
def bk_89_2 : List Instr := [.aload 0, .getfield 352, .getfield 32, .getfield 65, .sipush 8, .if_icmp .lt 3, .aload 0, .sipush (-100005), .invokevirtual 132, .ireturn]
def bk_89_3 : List Instr := [.aload 0, .invokevirtual 133, .aload 0, .getfield 352, .getfield 32, .iload 1, .iload 2, .iload 3, .iload 4, .iload 5, .iload 6, .invokevirtual 16, .ireturn]
def bk_90_0 : List Instr := [.aload 0, .getfield 352, .getfield 32, .astore 3, .aload 3, .iload 1, .invokevirtual 14, .ifCond .eq 1, .iload 2, .sipush 0, .sipush 7, .invokestatic 137, .ifCond .ne 2, .goto_w 1]
def bk_90_1 : List Instr := [.aload 0, .sipush (-100001), .invokevirtual 132, .ireturn]
def bk_90_2 : List Instr := [.iload 2, .sipush 6, .if_icmp .ge 3, .aload 3, .iload 1, .iload 2, .invokevirtual 17, .ireturn]
def bk_90_3 : List Instr := [.iload 2, .sipush 6, .if_icmp .ne 4, .aload 3, .getfield 76, .iload 1, .iaload, .goto 5]
def bk_90_4 : List Instr := [.aload 3, .iload 1, .invokevirtual 34, .invokestatic 235, .goto_w 5]
def bk_90_5 : List Instr := [.ireturn]
def bk_91_0 : List Instr := [.aload 0, .getfield 352, .getfield 32, .iload 1, .invokevirtual 14, .ifCond .eq 1, .iload 2, .sipush 0, .sipush 2, .invokestatic 137, .ifCond .eq 1, .sipush 3, .iload 2, .iadd, .iload 3, .invokestatic 12, .ifCond .ne 2, .goto_w 1]
def bk_91_1 : List Instr := [.aload 0, .sipush (-100001), .invokevirtual 132, .ireturn]
def bk_91_2 : List Instr := [.aload 0, .invokevirtual 133, .aload 0, .getfield 352, .getfield 32, .iload 1, .sipush 3, .iload 2, .iadd, .iload 3, .invokevirtual 18, .ireturn]
def bk_92_0 : List Instr := [.aload 0, .getfield 352, .getfield 32, .astore 3, .aload 3, .iload 1, .invokevirtual 13, .ifCond .ne 1, .aload 0, .sipush (-100001), .invokevirtual 132, .ireturn]
def bk_92_1 : List Instr := [.iload 2, .ifCond .lt 2, .iload 2, .aload 3, .getfield 73, .iload 1, .iaload, .if_icmp .lt 3, .goto_w 2]
def bk_92_2 : List Instr := [.aload 0, .sipush (-100006), .invokevirtual 132, .ireturn]
def bk_92_3 : List Instr := [.aload 3, .iload 1, .iload 2, .invokevirtual 23, .ireturn]
def bk_93_0 : List Instr := [.aload 0, .getfield 352, .getfield 32, .iload 1, .invokevirtual 14, .ifCond .eq 1, .aload 0, .getfield 352, .getfield 32, .iload 2, .invokevirtual 13, .ifCond .ne 2, .goto_w 1]
def bk_93_1 : List Instr := [.aload 0, .sipush (-100001), .invokevirtual 132, .ireturn]
def bk_93_2 : List Instr := [.aload 0, .getfield 352, .getfield 32, .iload 1, .iload 2, .invokevirtual 22, .ifCond .eq 3, .sipush 1, .goto 4]
def bk_93_3 : List Instr := [.sipush 0, .goto_w 4]
def bk_93_4 : List Instr := [.ireturn]
def bk_94_0 : List Instr := [.aload 0, .getfield 352, .getfield 32, .astore 3, .aload 3, .iload 1, .invokevirtual 14, .ifCond .eq 1, .aload 3, .iload 2, .invokevirtual 13, .ifCond .ne 2, .goto_w 1]
def bk_94_1 : List Instr := [.aload 0, .sipush (-100001), .invokevirtual 132, .ireturn]
def bk_94_2 : List Instr := [.aload 3, .iload 1, .iload 2, .invokevirtual 27, .istore 4, .iload 4, .ifCond .eq 3, .aload 0, .iload 4, .invokevirtual 132, .ireturn]
def bk_94_3 : List Instr := [.aload 0, .invokevirtual 133, .aload 3, .iload 1, .iload 2, .invokevirtual 29, .aload 3, .getfield 73, .iload 2, .iaload, .ireturn]
def bk_95_0 : List Instr := [.aload 0, .getfield 352, .getfield 32, .astore 3, .aload 3, .iload 1, .invokevirtual 14, .ifCond .eq 1, .aload 3, .iload 2, .invokevirtual 13, .ifCond .ne 2, .goto_w 1]
def bk_95_1 : List Instr := [.aload 0, .sipush (-100001), .invokevirtual 132, .ireturn]
def bk_95_2 : List Instr := [.aload 3, .iload 1, .iload 2, .invokevirtual 28, .istore 4, .iload 4, .ifCond .eq 3, .aload 0, .iload 4, .invokevirtual 132, .ireturn]
def bk_95_3 : List Instr := [.aload 0, .getfield 352, .getfield 34, .iload 1, .aload 0, .getfield 352, .getfield 40, .aload 0, .getfield 352, .getfield 34, .getfield 96, .invokevirtual 41, .ifCond .ne 4, .aload 0, .sipush (-100002), .invokevirtual 132, .ireturn]
def bk_95_4 : List Instr := [.aload 0, .iload 1, .iload 2, .aload 0, .getfield 352, .getfield 40, .invokevirtual 136, .ifCond .ne 5, .aload 0, .sipush (-100009), .invokevirtual 132, .ireturn]
def bk_95_5 : List Instr := [.aload 0, .invokevirtual 133, .aload 3, .iload 1, .iload 2, .invokevirtual 31, .aload 0, .getfield 352, .getfield 33, .iload 1, .aload 0, .getfield 352, .getfield 42, .invokevirtual 45, .aload 0, .getfield 352, .dup, .getfield 44, .sipush 1, .iadd, .putfield 44, .aload 0, .getfield 352, .getfield 44, .ireturn]
def bk_96_0 : List Instr := [.aload 0, .getfield 352, .getfield 32, .astore 2, .aload 0, .iload 1, .invokevirtual 134, .istore 3, .iload 3, .ifCond .eq 1, .aload 0, .iload 3, .invokevirtual 132, .ireturn]
def bk_96_1 : List Instr := [.aload 2, .iload 1, .invokevirtual 26, .ifCond .ne 2, .aload 0, .sipush (-100008), .invokevirtual 132, .ireturn]
def bk_96_2 : List Instr := [.aload 0, .invokevirtual 133, .aload 2, .iload 1, .invokevirtual 30, .aload 2, .iload 1, .sipush 3, .invokevirtual 17, .ireturn]
def bk_97_0 : List Instr := [.aload 0, .invokevirtual 133, .aload 0, .getfield 352, .sipush 0, .putfield 40, .aload 0, .getfield 352, .getfield 32, .invokevirtual 33, .ireturn]
def bk_98_0 : List Instr := [.iload 1, .invokestatic 138, .ifCond .ne 1, .aload 0, .sipush (-100001), .invokevirtual 132, .ireturn]
def bk_98_1 : List Instr := [.aload 0, .invokevirtual 133, .aload 0, .getfield 352, .getfield 40, .istore 2, .aload 0, .getfield 352, .iload 1, .putfield 40, .iload 2, .ireturn]
def bk_99_0 : List Instr := [.aload 0, .iload 1, .invokevirtual 134, .istore 2, .iload 2, .ifCond .ne 1, .aload 0, .getfield 352, .getfield 32, .iload 1, .invokevirtual 34, .goto 2]
def bk_99_1 : List Instr := [.aload 0, .iload 2, .invokevirtual 132, .goto_w 2]
def bk_99_2 : List Instr := [.ireturn]
def bk_100_0 : List Instr := [.aload 0, .iload 1, .invokevirtual 134, .istore 2, .iload 2, .ifCond .eq 1, .aload 0, .iload 2, .invokevirtual 132, .ireturn]
def bk_100_1 : List Instr := [.aload 0, .getfield 355, .aload 0, .getfield 352, .getfield 32, .iload 1, .aload 0, .invokevirtual 135, .invokevirtual 81, .istore 3, .iload 3, .sipush (-1), .if_icmp .ne 2, .aload 0, .sipush (-100006), .invokevirtual 132, .goto 3]
def bk_100_2 : List Instr := [.iload 3, .goto_w 3]
def bk_100_3 : List Instr := [.ireturn]
def bk_101_0 : List Instr := [.iload 2, .ifCond .ge 1, .sipush (-100001), .goto 2]
def bk_101_1 : List Instr := [.aload 0, .iload 1, .invokevirtual 134, .goto_w 2]
def bk_101_2 : List Instr := [.istore 3, .iload 3, .ifCond .eq 3, .aload 0, .iload 3, .invokevirtual 132, .ireturn]
def bk_101_3 : List Instr := [.aload 0, .getfield 355, .aload 0, .getfield 352, .getfield 32, .iload 1, .aload 0, .invokevirtual 135, .invokevirtual 81, .istore 4, .iload 2, .iload 4, .if_icmp .ge 4, .aload 0, .getfield 355, .getfield 320, .iload 2, .iaload, .goto 5]
def bk_101_4 : List Instr := [.aload 0, .sipush (-100006), .invokevirtual 132, .goto_w 5]
def bk_101_5 : List Instr := [.ireturn]
def bk_102_0 : List Instr := [.aload 0, .getfield 352, .getfield 32, .iload 1, .invokevirtual 14, .ifCond .eq 1, .aload 0, .getfield 354, .iload 2, .invokevirtual 71, .ifCond .ne 2, .goto_w 1]
def bk_102_1 : List Instr := [.aload 0, .sipush (-100001), .invokevirtual 132, .ireturn]
def bk_102_2 : List Instr := [.aload 0, .getfield 354, .iload 2, .invokevirtual 72, .ifCond .eq 3, .aload 0, .sipush (-100002), .invokevirtual 132, .ireturn]
def bk_102_3 : List Instr := [.aload 0, .getfield 352, .getfield 32, .getfield 76, .iload 1, .iaload, .sipush (-1), .if_icmp .ne 4, .aload 0, .sipush (-100006), .invokevirtual 132, .ireturn]
def bk_102_4 : List Instr := [.aload 0, .getfield 355, .aload 0, .getfield 352, .getfield 32, .aload 0, .invokevirtual 135, .invokevirtual 79, .sipush 0, .istore 3, .goto_w 5]
def bk_102_5 : List Instr := [.iload 3, .aload 0, .getfield 354, .getfield 289, .iload 2, .iaload, .if_icmp .ge 7, .aload 0, .getfield 355, .iload 1, .aload 0, .getfield 354, .iload 2, .iload 3, .invokevirtual 74, .invokevirtual 83, .ifCond .ne 6, .iload 3, .ireturn]
def bk_102_6 : List Instr := [.iinc 3 1, .goto 5]
def bk_102_7 : List Instr := [.aload 0, .getfield 355, .iload 1, .invokevirtual 80, .ifCond .eq 8, .sipush (-1), .goto 9]
def bk_102_8 : List Instr := [.aload 0, .getfield 354, .getfield 289, .iload 2, .iaload, .goto_w 9]
def bk_102_9 : List Instr := [.ireturn]
def bk_103_0 : List Instr := [.iload 1, .sipush (-1), .if_icmp .eq 3, .aload 0, .getfield 352, .getfield 32, .iload 1, .invokevirtual 13, .ifCond .eq 1, .aload 0, .getfield 352, .getfield 32, .iload 1, .invokevirtual 36, .goto 2]
def bk_103_1 : List Instr := [.aload 0, .sipush (-100001), .invokevirtual 132, .goto_w 2]
def bk_103_2 : List Instr := [.ireturn]
def bk_103_3 : List Instr := [.sipush 0, .istore 2, .sipush 0, .istore 3, .goto_w 4]
def bk_103_4 : List Instr := [.iload 3, .aload 0, .getfield 352, .getfield 32, .getfield 64, .if_icmp .ge 5, .iload 2, .aload 0, .getfield 352, .getfield 32, .iload 3, .invokevirtual 36, .iadd, .istore 2, .iinc 3 1, .goto 4]
def bk_103_5 : List Instr := [.iload 2, .ireturn]
def bk_104_0 : List Instr := [.aload 0, .getfield 352, .getfield 32, .iload 1, .invokevirtual 14, .ifCond .ne 1, .aload 0, .sipush (-100001), .invokevirtual 132, .ireturn]
def bk_104_1 : List Instr := [.aload 0, .getfield 352, .iload 1, .invokevirtual 8, .sipush (-1), .if_icmp .eq 2, .aload 0, .sipush (-100007), .invokevirtual 132, .ireturn]
def bk_104_2 : List Instr := [.aload 0, .getfield 352, .getfield 39, .sipush 7, .if_icmp .lt 3, .aload 0, .sipush (-100005), .invokevirtual 132, .ireturn]
def bk_104_3 : List Instr := [.aload 0, .invokevirtual 133, .aload 0, .getfield 352, .getfield 37, .aload 0, .getfield 352, .getfield 39, .iload 1, .iastore, .aload 0, .getfield 352, .dup, .getfield 39, .sipush 1, .iadd, .putfield 39, .aload 0, .getfield 352, .getfield 39, .ireturn]
def bk_105_0 : List Instr := [.aload 0, .invokevirtual 133, .aload 0, .getfield 352, .getfield 39, .istore 1, .aload 0, .getfield 352, .sipush 0, .putfield 39, .iload 1, .ireturn]
def bk_106_0 : List Instr := [.aload 0, .getfield 356, .aload 0, .getfield 352, .invokevirtual 51, .istore 1, .iload 1, .sipush (-1), .if_icmp .ne 1, .aload 0, .sipush (-100006), .invokevirtual 132, .goto 2]
def bk_106_1 : List Instr := [.iload 1, .goto_w 2]
def bk_106_2 : List Instr := [.ireturn]
def bk_107_0 : List Instr := [.aload 0, .getfield 352, .getfield 32, .iload 1, .invokevirtual 14, .ifCond .ne 1, .aload 0, .sipush (-100001), .invokevirtual 132, .ireturn]
def bk_107_1 : List Instr := [.aload 0, .getfield 352, .iload 1, .invokevirtual 8, .istore 2, .iload 2, .sipush (-1), .if_icmp .eq 2, .aload 0, .getfield 356, .aload 0, .getfield 352, .invokevirtual 51, .sipush (-1), .if_icmp .ne 3, .goto_w 2]
def bk_107_2 : List Instr := [.aload 0, .sipush (-100006), .invokevirtual 132, .ireturn]
def bk_107_3 : List Instr := [.aload 0, .getfield 356, .getfield 160, .iload 2, .iaload, .ireturn]
def bk_108_0 : List Instr := [.iload 1, .sipush 0, .sipush 3, .invokestatic 137, .ifCond .ne 1, .aload 0, .sipush (-100001), .invokevirtual 132, .ireturn]
def bk_108_1 : List Instr := [.aload 0, .invokevirtual 133, .aload 0, .getfield 352, .getfield 41, .istore 2, .aload 0, .getfield 352, .iload 1, .putfield 41, .iload 2, .ireturn]
def bk_109_0 : List Instr := [.aload 0, .getfield 357, .aload 0, .getfield 352, .getfield 32, .aload 0, .getfield 352, .getfield 41, .invokevirtual 1, .ireturn]
def bk_110_0 : List Instr := [.iload 1, .invokestatic 138, .ifCond .ne 1, .aload 0, .sipush (-100001), .invokevirtual 132, .ireturn]
def bk_110_1 : List Instr := [.aload 0, .getfield 357, .aload 0, .getfield 352, .getfield 32, .aload 0, .getfield 352, .getfield 41, .invokevirtual 1, .istore 2, .aload 0, .getfield 357, .aload 0, .getfield 352, .getfield 32, .aload 0, .getfield 352, .getfield 41, .iload 2, .invokevirtual 3, .pop, .aload 0, .getfield 357, .getfield 0, .iload 1, .iaload, .ireturn]
def bk_111_0 : List Instr := [.iload 1, .invokestatic 139, .ifCond .eq 1, .iload 2, .invokestatic 139, .ifCond .eq 1, .iload 3, .sipush 0, .sipush 999, .invokestatic 137, .ifCond .ne 2, .goto_w 1]
def bk_111_1 : List Instr := [.aload 0, .sipush (-100001), .invokevirtual 132, .ireturn]
def bk_111_2 : List Instr := [.aload 0, .invokevirtual 133, .aload 0, .getfield 352, .getfield 35, .iload 1, .sipush 5, .imul, .iload 2, .iadd, .iaload, .istore 4, .aload 0, .getfield 352, .getfield 35, .iload 1, .sipush 5, .imul, .iload 2, .iadd, .iload 3, .iastore, .iload 4, .ireturn]
def bk_112_0 : List Instr := [.iload 1, .invokestatic 139, .ifCond .ne 1, .aload 0, .sipush (-100001), .invokevirtual 132, .ireturn]
def bk_112_1 : List Instr := [.aload 0, .getfield 358, .aload 0, .getfield 352, .getfield 35, .sipush (-1), .invokevirtual 55, .pop, .aload 0, .getfield 358, .getfield 192, .iload 1, .iaload, .ireturn]
def bk_113_0 : List Instr := [.iload 1, .invokestatic 139, .ifCond .eq 1, .aload 0, .getfield 358, .aload 0, .getfield 352, .getfield 35, .iload 1, .invokevirtual 57, .goto 2]
def bk_113_1 : List Instr := [.aload 0, .sipush (-100001), .invokevirtual 132, .goto_w 2]
def bk_113_2 : List Instr := [.ireturn]
def bk_114_0 : List Instr := [.aload 0, .getfield 358, .aload 0, .getfield 352, .getfield 35, .sipush (-1), .invokevirtual 55, .ireturn]
def bk_115_0 : List Instr := [.iload 1, .invokestatic 140, .ifCond .ne 1, .aload 0, .sipush (-100001), .invokevirtual 132, .ireturn]
def bk_115_1 : List Instr := [.aload 0, .invokevirtual 133, .aload 0, .getfield 352, .getfield 42, .istore 2, .aload 0, .getfield 352, .iload 1, .putfield 42, .iload 2, .ireturn]
def bk_116_0 : List Instr := [.aload 0, .getfield 352, .getfield 32, .iload 1, .invokevirtual 14, .ifCond .ne 1, .aload 0, .sipush (-100001), .invokevirtual 132, .ireturn]
def bk_116_1 : List Instr := [.aload 0, .invokevirtual 133, .aload 0, .getfield 352, .getfield 33, .iload 1, .iload 2, .ifCond .eq 2, .sipush 5, .goto 3]
def bk_116_2 : List Instr := [.sipush 4, .goto_w 3]
def bk_116_3 : List Instr := [.invokevirtual 45, .aload 0, .getfield 352, .getfield 33, .getfield 128, .ireturn]
def bk_117_0 : List Instr := [.aload 0, .getfield 352, .getfield 32, .iload 1, .invokevirtual 14, .ifCond .eq 1, .iload 2, .invokestatic 140, .ifCond .eq 1, .iload 3, .sipush 0, .sipush 9999, .invokestatic 137, .ifCond .ne 2, .goto_w 1]
def bk_117_1 : List Instr := [.aload 0, .sipush (-100001), .invokevirtual 132, .ireturn]
def bk_117_2 : List Instr := [.aload 0, .getfield 352, .getfield 33, .iload 1, .iload 2, .iload 3, .invokevirtual 46, .istore 4, .iload 4, .sipush (-1), .if_icmp .ne 3, .aload 0, .sipush (-100006), .invokevirtual 132, .goto 4]
def bk_117_3 : List Instr := [.iload 4, .goto_w 4]
def bk_117_4 : List Instr := [.ireturn]
def bk_118_0 : List Instr := [.aload 0, .getfield 354, .iload 1, .invokevirtual 71, .ifCond .ne 1, .aload 0, .sipush (-100001), .invokevirtual 132, .ireturn]
def bk_118_1 : List Instr := [.aload 0, .getfield 354, .iload 1, .invokevirtual 72, .ifCond .eq 2, .aload 0, .sipush (-100002), .invokevirtual 132, .ireturn]
def bk_118_2 : List Instr := [.aload 0, .getfield 354, .getfield 289, .iload 1, .iaload, .istore 2, .iload 2, .sipush 16, .if_icmp .le 3, .aload 0, .sipush (-100003), .invokevirtual 132, .ireturn]
def bk_118_3 : List Instr := [.sipush 0, .istore 3, .goto_w 4]
def bk_118_4 : List Instr := [.iload 3, .iload 2, .if_icmp .ge 6, .aload 0, .getfield 354, .iload 1, .iload 3, .invokevirtual 74, .invokestatic 62, .ifCond .ne 5, .aload 0, .sipush (-100001), .invokevirtual 132, .ireturn]
def bk_118_5 : List Instr := [.iinc 3 1, .goto 4]
def bk_118_6 : List Instr := [.aload 0, .invokevirtual 133, .sipush 0, .istore 3, .goto_w 7]
def bk_118_7 : List Instr := [.iload 3, .iload 2, .if_icmp .ge 8, .aload 0, .getfield 352, .getfield 36, .iload 3, .aload 0, .getfield 354, .iload 1, .iload 3, .invokevirtual 74, .iastore, .iinc 3 1, .goto 7]
def bk_118_8 : List Instr := [.aload 0, .getfield 352, .iload 2, .putfield 38, .iload 2, .ireturn]
def bk_119_0 : List Instr := [.aload 0, .getfield 359, .aload 0, .getfield 352, .getfield 36, .aload 0, .getfield 352, .getfield 38, .invokevirtual 65, .ireturn]
def bk_120_0 : List Instr := [.aload 0, .getfield 352, .getfield 32, .iload 1, .invokevirtual 14, .ifCond .eq 1, .aload 0, .getfield 352, .getfield 32, .iload 2, .invokevirtual 13, .ifCond .eq 1, .iload 3, .invokestatic 138, .ifCond .ne 2, .goto_w 1]
def bk_120_1 : List Instr := [.aload 0, .sipush (-100001), .invokevirtual 132, .ireturn]
def bk_120_2 : List Instr := [.aload 0, .iload 1, .iload 2, .iload 3, .invokevirtual 136, .ifCond .eq 3, .sipush 1, .goto 4]
def bk_120_3 : List Instr := [.sipush 0, .goto_w 4]
def bk_120_4 : List Instr := [.ireturn]
def bk_121_0 : List Instr := [.aload 0, .getfield 352, .getfield 32, .iload 1, .invokevirtual 13, .ifCond .eq 1, .iload 2, .sipush 0, .sipush 200, .invokestatic 137, .ifCond .ne 2, .goto_w 1]
def bk_121_1 : List Instr := [.aload 0, .sipush (-100001), .invokevirtual 132, .ireturn]
def bk_121_2 : List Instr := [.aload 0, .invokevirtual 133, .aload 0, .getfield 352, .getfield 32, .getfield 70, .iload 1, .iaload, .istore 3, .aload 0, .getfield 352, .getfield 32, .getfield 70, .iload 1, .iload 2, .iastore, .iload 3, .ireturn]
def bk_122_0 : List Instr := [.iload 1, .sipush 1, .sipush 30, .invokestatic 137, .ifCond .ne 1, .aload 0, .sipush (-100001), .invokevirtual 132, .ireturn]
def bk_122_1 : List Instr := [.aload 0, .invokevirtual 133, .aload 0, .getfield 352, .getfield 43, .istore 2, .aload 0, .getfield 352, .iload 1, .putfield 43, .iload 2, .ireturn]
def bk_123_0 : List Instr := [.aload 0, .getfield 360, .aload 0, .getfield 352, .getfield 32, .aload 0, .getfield 352, .getfield 43, .invokevirtual 59, .ireturn]
def bk_124_0 : List Instr := [.iload 1, .ifCond .ge 1, .aload 0, .sipush (-100001), .invokevirtual 132, .ireturn]
def bk_124_1 : List Instr := [.aload 0, .getfield 360, .aload 0, .getfield 352, .getfield 32, .aload 0, .getfield 352, .getfield 43, .invokevirtual 59, .pop, .iload 1, .aload 0, .getfield 360, .getfield 225, .if_icmp .ge 2, .aload 0, .getfield 360, .getfield 224, .iload 1, .iaload, .goto 3]
def bk_124_2 : List Instr := [.aload 0, .sipush (-100006), .invokevirtual 132, .goto_w 3]
def bk_124_3 : List Instr := [.ireturn]
def bk_125_0 : List Instr := [.aload 0, .getfield 352, .getfield 32, .iload 1, .invokevirtual 14, .ifCond .eq 1, .iload 2, .invokestatic 138, .ifCond .ne 2, .goto_w 1]
def bk_125_1 : List Instr := [.aload 0, .sipush (-100001), .invokevirtual 132, .ireturn]
def bk_125_2 : List Instr := [.aload 0, .getfield 352, .getfield 34, .getfield 96, .sipush 30, .if_icmp .lt 3, .aload 0, .sipush (-100005), .invokevirtual 132, .ireturn]
def bk_125_3 : List Instr := [.aload 0, .invokevirtual 133, .aload 0, .getfield 352, .getfield 34, .iload 1, .iload 2, .iload 3, .invokevirtual 40, .aload 0, .getfield 352, .getfield 34, .getfield 96, .ireturn]
def bk_126_0 : List Instr := [.aload 0, .getfield 352, .getfield 32, .iload 1, .invokevirtual 14, .ifCond .eq 1, .iload 2, .invokestatic 138, .ifCond .eq 1, .iload 3, .sipush 0, .aload 0, .getfield 352, .getfield 34, .getfield 96, .invokestatic 137, .ifCond .ne 2, .goto_w 1]
def bk_126_1 : List Instr := [.aload 0, .sipush (-100001), .invokevirtual 132, .ireturn]
def bk_126_2 : List Instr := [.aload 0, .getfield 352, .getfield 34, .iload 1, .iload 2, .iload 3, .invokevirtual 41, .ifCond .eq 3, .sipush 1, .goto 4]
def bk_126_3 : List Instr := [.sipush 0, .goto_w 4]
def bk_126_4 : List Instr := [.ireturn]
def bk_127_0 : List Instr := [.aload 0, .getfield 354, .iload 1, .invokevirtual 71, .ifCond .eq 1, .iload 2, .ifCond .eq 2, .iload 2, .sipush 8, .if_icmp .eq 2, .iload 2, .sipush 16, .if_icmp .eq 2, .iload 2, .sipush 32, .if_icmp .eq 2, .goto_w 1]
def bk_127_1 : List Instr := [.aload 0, .sipush (-100001), .invokevirtual 132, .ireturn]
def bk_127_2 : List Instr := [.iload 3, .ifCond .ge 3, .aload 0, .sipush (-100003), .invokevirtual 132, .ireturn]
def bk_127_3 : List Instr := [.iload 3, .sipush 20, .if_icmp .le 4, .aload 0, .sipush (-100001), .invokevirtual 132, .ireturn]
def bk_127_4 : List Instr := [.aload 0, .getfield 354, .iload 1, .iload 2, .iload 2, .ifCond .ne 5, .sipush 0, .goto 6]
def bk_127_5 : List Instr := [.iload 3, .goto_w 6]
def bk_127_6 : List Instr := [.invokevirtual 73, .aload 0, .getfield 354, .getfield 289, .iload 1, .iaload, .ireturn]
def bk_128_0 : List Instr := [.aload 0, .getfield 354, .iload 1, .invokevirtual 71, .ifCond .ne 1, .aload 0, .sipush (-100001), .invokevirtual 132, .ireturn]
def bk_128_1 : List Instr := [.aload 0, .getfield 354, .iload 1, .invokevirtual 72, .ifCond .eq 2, .aload 0, .sipush (-100002), .invokevirtual 132, .ireturn]
def bk_128_2 : List Instr := [.iload 2, .ifCond .lt 3, .iload 2, .aload 0, .getfield 354, .getfield 289, .iload 1, .iaload, .if_icmp .lt 4, .goto_w 3]
def bk_128_3 : List Instr := [.aload 0, .sipush (-100001), .invokevirtual 132, .ireturn]
def bk_128_4 : List Instr := [.aload 0, .getfield 354, .iload 1, .iload 2, .iload 3, .invokevirtual 75, .sipush 0, .ireturn]
def bk_129_0 : List Instr := [.aload 0, .getfield 354, .iload 1, .invokevirtual 71, .ifCond .eq 1, .aload 0, .getfield 354, .iload 3, .invokevirtual 71, .ifCond .ne 2, .goto_w 1]
def bk_129_1 : List Instr := [.aload 0, .sipush (-100001), .invokevirtual 132, .ireturn]
def bk_129_2 : List Instr := [.aload 0, .getfield 354, .iload 1, .invokevirtual 72, .ifCond .ne 3, .aload 0, .getfield 354, .iload 3, .invokevirtual 72, .ifCond .eq 4, .goto_w 3]
def bk_129_3 : List Instr := [.aload 0, .sipush (-100002), .invokevirtual 132, .ireturn]
def bk_129_4 : List Instr := [.aload 0, .getfield 354, .getfield 288, .iload 1, .iaload, .aload 0, .getfield 354, .getfield 288, .iload 3, .iaload, .if_icmp .eq 5, .aload 0, .sipush (-100004), .invokevirtual 132, .ireturn]
def bk_129_5 : List Instr := [.aload 0, .getfield 354, .iload 1, .iload 2, .iload 5, .invokevirtual 76, .ifCond .eq 6, .aload 0, .getfield 354, .iload 3, .iload 4, .iload 5, .invokevirtual 76, .ifCond .ne 7, .goto_w 6]
def bk_129_6 : List Instr := [.aload 0, .sipush (-100001), .invokevirtual 132, .ireturn]
def bk_129_7 : List Instr := [.aload 0, .getfield 354, .iload 1, .iload 2, .iload 3, .iload 4, .iload 5, .invokevirtual 77, .iload 5, .ireturn]
def bk_130_0 : List Instr := [.aload 0, .getfield 362, .ifCond .gt 1, .aload 0, .sipush (-100006), .invokevirtual 132, .ireturn]
def bk_130_1 : List Instr := [.aload 0, .aload 0, .getfield 361, .sipush 16, .iadd, .sipush 1, .isub, .sipush 16, .irem, .putfield 361, .aload 0, .dup, .getfield 362, .sipush 1, .isub, .putfield 362, .aload 0, .getfield 353, .aload 0, .getfield 361, .aaload, .astore 1, .aload 1, .ifnull 2, .aload 0, .getfield 352, .aload 1, .invokevirtual 7, .goto_w 2]
def bk_130_2 : List Instr := [.aload 0, .getfield 362, .ireturn]
def bk_131_0 : List Instr := [.iload 1, .tableswitch 8 0 6 #[1, 2, 3, 4, 5, 6, 7]]
def bk_131_1 : List Instr := [.aload 0, .getfield 352, .getfield 32, .getfield 64, .ireturn]
def bk_131_2 : List Instr := [.aload 0, .getfield 352, .getfield 32, .getfield 65, .ireturn]
def bk_131_3 : List Instr := [.aload 0, .getfield 352, .getfield 32, .invokevirtual 35, .ireturn]
def bk_131_4 : List Instr := [.aload 0, .getfield 352, .getfield 44, .ireturn]
def bk_131_5 : List Instr := [.aload 0, .getfield 352, .getfield 34, .getfield 96, .ireturn]
def bk_131_6 : List Instr := [.aload 0, .getfield 352, .getfield 33, .getfield 128, .ireturn]
def bk_131_7 : List Instr := [.aload 0, .getfield 363, .ireturn]
def bk_131_8 : List Instr := [.aload 0, .sipush (-100001), .invokevirtual 132, .ireturn]
def bk_132_0 : List Instr := [.aload 0, .dup, .getfield 363, .sipush 1, .iadd, .putfield 363, .iload 1, .ireturn]
def bk_133_0 : List Instr := [.aload 0, .getfield 353, .aload 0, .getfield 361, .aaload, .astore 1, .aload 1, .ifnull 1, .aload 1, .aload 0, .getfield 352, .invokevirtual 7, .goto_w 1]
def bk_133_1 : List Instr := [.aload 0, .aload 0, .getfield 361, .sipush 1, .iadd, .sipush 16, .irem, .putfield 361, .aload 0, .aload 0, .getfield 362, .sipush 1, .iadd, .sipush 16, .invokestatic 237, .putfield 362, .return_]
def bk_134_0 : List Instr := [.aload 0, .getfield 352, .getfield 32, .iload 1, .invokevirtual 14, .ifCond .ne 1, .sipush (-100001), .ireturn]
def bk_134_1 : List Instr := [.aload 0, .getfield 352, .getfield 32, .getfield 76, .iload 1, .iaload, .sipush (-1), .if_icmp .ne 2, .sipush (-100006), .goto 3]
def bk_134_2 : List Instr := [.sipush 0, .goto_w 3]
def bk_134_3 : List Instr := [.ireturn]
def bk_135_0 : List Instr := [.aload 0, .getfield 352, .getfield 34, .aload 0, .getfield 352, .getfield 32, .getfield 65, .aload 0, .getfield 352, .getfield 40, .invokevirtual 42, .ireturn]
def bk_136_0 : List Instr := [.aload 0, .getfield 352, .getfield 32, .astore 4, .aload 0, .getfield 359, .iload 3, .aload 4, .iload 1, .sipush 0, .invokevirtual 17, .aload 4, .iload 1, .sipush 2, .invokevirtual 17, .iload 2, .aload 4, .getfield 66, .iload 2, .iaload, .aload 0, .getfield 352, .getfield 42, .invokevirtual 63, .aload 0, .getfield 359, .aload 0, .getfield 352, .getfield 36, .aload 0, .getfield 352, .getfield 38, .invokevirtual 64, .ireturn]
def bk_137_0 : List Instr := [.iload 0, .iload 1, .if_icmp .lt 1, .iload 0, .iload 2, .if_icmp .gt 1, .sipush 1, .goto 2]
def bk_137_1 : List Instr := [.sipush 0, .goto_w 2]
def bk_137_2 : List Instr := [.ireturn]
def bk_138_0 : List Instr := [.iload 0, .sipush 0, .sipush 23, .invokestatic 137, .ireturn]
def bk_139_0 : List Instr := [.iload 0, .sipush 0, .sipush 4, .invokestatic 137, .ireturn]
def bk_140_0 : List Instr := [.iload 0, .sipush 0, .sipush 3, .invokestatic 137, .ireturn]
def bk_141_0 : List Instr := [.aload 0, .invokedynamic 1, .aload 0, .sipush 277, .newarray .int, .putfield 384, .aload 0, .sipush 4432, .newarray .int, .putfield 385, .aload 0, .sipush 4, .newarray .int, .putfield 388, .aload 0, .sipush 4, .newarray .int, .putfield 389, .aload 0, .sipush 80, .newarray .int, .putfield 390, .aload 0, .sipush 200, .newarray .int, .putfield 391, .aload 0, .sipush 3, .newarray .int, .putfield 392, .aload 0, .sipush 7, .newarray .int, .putfield 393, .aload 0, .sipush 7, .newarray .int, .putfield 394, .aload 0, .sipush 8, .newarray .int, .putfield 396, .aload 0, .sipush 5, .newarray .int, .putfield 397, .aload 0, .sipush 5, .newarray .int, .putfield 398, .aload 0, .sipush 8, .newarray .int, .putfield 401, .aload 0, .sipush 8, .newarray .int, .putfield 402, .aload 0, .sipush 5, .newarray .int, .putfield 403, .aload 0, .sipush 20, .newarray .int, .putfield 404, .aload 0, .getfield 384, .sipush 3, .sipush 1, .iastore, .aload 0, .getfield 384, .sipush 5, .sipush 10, .iastore, .sipush 0, .istore 1, .goto_w 1]
def bk_141_1 : List Instr := [.iload 1, .sipush 5, .if_icmp .ge 2, .aload 0, .getfield 384, .sipush 36, .iload 1, .iadd, .sipush 100, .iastore, .iinc 1 1, .goto 1]
def bk_141_2 : List Instr := [.return_]
def bk_142_0 : List Instr := [.aload 0, .dup, .getfield 387, .sipush 1, .iadd, .putfield 387, .iload 1, .ireturn]
def bk_143_0 : List Instr := [.iload 0, .iload 1, .if_icmp .lt 1, .iload 0, .iload 2, .if_icmp .gt 1, .sipush 1, .goto 2]
def bk_143_1 : List Instr := [.sipush 0, .goto_w 2]
def bk_143_2 : List Instr := [.ireturn]
def bk_144_0 : List Instr := [.iload 1, .sipush 0, .aload 0, .getfield 384, .sipush 0, .iaload, .sipush 1, .isub, .invokestatic 143, .ireturn]
def bk_145_0 : List Instr := [.iload 1, .sipush 0, .aload 0, .getfield 384, .sipush 1, .iaload, .sipush 1, .isub, .invokestatic 143, .ireturn]
def bk_146_0 : List Instr := [.iload 0, .sipush 0, .sipush 23, .invokestatic 143, .ireturn]
def bk_147_0 : List Instr := [.aload 0, .getfield 386, .sipush 16, .if_icmp .ne 3, .sipush 0, .istore 1, .goto_w 1]
def bk_147_1 : List Instr := [.iload 1, .sipush 4155, .if_icmp .ge 2, .aload 0, .getfield 385, .iload 1, .aload 0, .getfield 385, .iload 1, .sipush 277, .iadd, .iaload, .iastore, .iinc 1 1, .goto 1]
def bk_147_2 : List Instr := [.aload 0, .dup, .getfield 386, .sipush 1, .isub, .putfield 386, .goto_w 3]
def bk_147_3 : List Instr := [.sipush 0, .istore 1, .goto_w 4]
def bk_147_4 : List Instr := [.iload 1, .sipush 277, .if_icmp .ge 5, .aload 0, .getfield 385, .aload 0, .getfield 386, .sipush 277, .imul, .iload 1, .iadd, .aload 0, .getfield 384, .iload 1, .iaload, .iastore, .iinc 1 1, .goto 4]
def bk_147_5 : List Instr := [.aload 0, .dup, .getfield 386, .sipush 1, .iadd, .putfield 386, .return_]
def bk_148_0 : List Instr := [.aload 0, .getfield 386, .ifCond .ne 1, .aload 0, .sipush (-100006), .invokevirtual 142, .ireturn]
def bk_148_1 : List Instr := [.aload 0, .dup, .getfield 386, .sipush 1, .isub, .putfield 386, .sipush 0, .istore 1, .goto_w 2]
def bk_148_2 : List Instr := [.iload 1, .sipush 277, .if_icmp .ge 3, .aload 0, .getfield 384, .iload 1, .aload 0, .getfield 385, .aload 0, .getfield 386, .sipush 277, .imul, .iload 1, .iadd, .iaload, .iastore, .iinc 1 1, .goto 2]
def bk_148_3 : List Instr := [.aload 0, .getfield 386, .ireturn]
def bk_149_0 : List Instr := [.iload 1, .sipush 0, .sipush 3, .invokestatic 143, .ifCond .eq 1, .iload 2, .sipush 1, .sipush 30, .invokestatic 143, .ifCond .eq 1, .iload 3, .sipush 1, .sipush 30, .invokestatic 143, .ifCond .eq 1, .iload 4, .sipush 1, .sipush 99, .invokestatic 143, .ifCond .ne 2, .goto_w 1]
def bk_149_1 : List Instr := [.aload 0, .sipush (-100001), .invokevirtual 142, .ireturn]
def bk_149_2 : List Instr := [.aload 0, .getfield 384, .sipush 0, .iaload, .istore 5, .iload 5, .sipush 5, .if_icmp .ne 3, .aload 0, .sipush (-100005), .invokevirtual 142, .ireturn]
def bk_149_3 : List Instr := [.aload 0, .invokevirtual 147, .aload 0, .getfield 384, .sipush 11, .iload 5, .iadd, .iload 1, .iastore, .aload 0, .getfield 384, .sipush 16, .iload 5, .iadd, .iload 2, .iastore, .aload 0, .getfield 384, .sipush 21, .iload 5, .iadd, .iload 3, .iastore, .aload 0, .getfield 384, .sipush 26, .iload 5, .iadd, .iload 1, .sipush 3, .if_icmp .ne 4, .iload 4, .sipush 2, .idiv, .goto 5]
def bk_149_4 : List Instr := [.iload 4, .goto_w 5]
def bk_149_5 : List Instr := [.iastore, .aload 0, .getfield 384, .sipush 0, .dup2, .iaload, .sipush 1, .iadd, .iastore, .iload 5, .ireturn]
def bk_150_0 : List Instr := [.aload 0, .getfield 384, .sipush 11, .iload 1, .iadd, .iaload, .sipush 1, .if_icmp .eq 1, .aload 0, .getfield 384, .sipush 11, .iload 1, .iadd, .iaload, .sipush 3, .if_icmp .ne 2, .goto_w 1]
def bk_150_1 : List Instr := [.sipush 1, .goto 3]
def bk_150_2 : List Instr := [.sipush 0, .goto_w 3]
def bk_150_3 : List Instr := [.ireturn]
def bk_151_0 : List Instr := [.aload 0, .iload 1, .invokevirtual 144, .ifCond .eq 1, .iload 2, .sipush 0, .sipush 3, .invokestatic 143, .ifCond .ne 2, .goto_w 1]
def bk_151_1 : List Instr := [.aload 0, .sipush (-100001), .invokevirtual 142, .ireturn]
def bk_151_2 : List Instr := [.aload 0, .getfield 384, .sipush 11, .iload 1, .iadd, .iaload, .istore 3, .iload 2, .ifCond .eq 3, .iload 3, .iload 2, .if_icmp .eq 3, .iload 2, .sipush 1, .if_icmp .ne 4, .iload 3, .sipush 3, .if_icmp .ne 4, .goto_w 3]
def bk_151_3 : List Instr := [.iload 1, .goto 5]
def bk_151_4 : List Instr := [.aload 0, .sipush (-100004), .invokevirtual 142, .goto_w 5]
def bk_151_5 : List Instr := [.ireturn]
def bk_152_0 : List Instr := [.aload 0, .getfield 384, .sipush 51, .sipush 8, .iload 1, .imul, .iadd, .iload 2, .iadd, .iaload, .ireturn]
def bk_153_0 : List Instr := [.aload 0, .getfield 384, .sipush 16, .iload 1, .iadd, .iaload, .istore 2, .sipush 0, .istore 3, .goto_w 1]
def bk_153_1 : List Instr := [.iload 3, .aload 0, .getfield 384, .sipush 46, .iload 1, .iadd, .iaload, .if_icmp .ge 2, .iload 2, .aload 0, .getfield 384, .sipush 91, .aload 0, .iload 1, .iload 3, .invokevirtual 152, .iadd, .iaload, .isub, .istore 2, .iinc 3 1, .goto 1]
def bk_153_2 : List Instr := [.iload 2, .ireturn]
def bk_154_0 : List Instr := [.aload 0, .iload 1, .invokevirtual 144, .ifCond .eq 1, .iload 2, .sipush 0, .sipush 7, .invokestatic 143, .ifCond .ne 2, .goto_w 1]
def bk_154_1 : List Instr := [.aload 0, .sipush (-100001), .invokevirtual 142, .ireturn]
def bk_154_2 : List Instr := [.iload 2, .tableswitch 7 4 7 #[3, 4, 5, 6]]
def bk_154_3 : List Instr := [.aload 0, .getfield 384, .sipush 46, .iload 1, .iadd, .iaload, .ireturn]
def bk_154_4 : List Instr := [.aload 0, .iload 1, .invokevirtual 153, .ireturn]
def bk_154_5 : List Instr := [.aload 0, .getfield 384, .sipush 41, .iload 1, .iadd, .iaload, .ireturn]
def bk_154_6 : List Instr := [.aload 0, .getfield 384, .sipush 31, .iload 1, .iadd, .iaload, .ireturn]
def bk_154_7 : List Instr := [.aload 0, .getfield 384, .sipush 11, .sipush 5, .iload 2, .imul, .iadd, .iload 1, .iadd, .iaload, .ireturn]
def bk_155_0 : List Instr := [.aload 0, .iload 1, .invokevirtual 144, .ifCond .ne 1, .aload 0, .sipush (-100001), .invokevirtual 142, .ireturn]
def bk_155_1 : List Instr := [.aload 0, .iload 1, .invokevirtual 150, .ifCond .ne 2, .aload 0, .sipush (-100004), .invokevirtual 142, .ireturn]
def bk_155_2 : List Instr := [.aload 0, .invokevirtual 147, .aload 0, .getfield 384, .sipush 31, .iload 1, .iadd, .iaload, .istore 3, .aload 0, .getfield 384, .sipush 31, .iload 1, .iadd, .iload 2, .ifCond .eq 3, .sipush 1, .goto 4]
def bk_155_3 : List Instr := [.sipush 0, .goto_w 4]
def bk_155_4 : List Instr := [.iastore, .iload 3, .aload 0, .getfield 384, .sipush 31, .iload 1, .iadd, .iaload, .if_icmp .ne 5, .sipush 0, .goto 6]
def bk_155_5 : List Instr := [.sipush 1, .goto_w 6]
def bk_155_6 : List Instr := [.ireturn]
def bk_156_0 : List Instr := [.iload 1, .sipush 1, .sipush 9, .invokestatic 143, .ifCond .eq 1, .iload 2, .sipush 1, .sipush 30, .invokestatic 143, .ifCond .eq 1, .iload 3, .sipush 1, .sipush 99, .invokestatic 143, .ifCond .eq 1, .sipush 1, .goto 2]
def bk_156_1 : List Instr := [.sipush 0, .goto_w 2]
def bk_156_2 : List Instr := [.istore 7, .iload 7, .ifCond .eq 3, .iload 4, .invokestatic 146, .ifCond .eq 3, .iload 5, .sipush 0, .sipush 9, .invokestatic 143, .ifCond .eq 3, .iload 6, .sipush 0, .sipush 99, .invokestatic 143, .ifCond .ne 4, .goto_w 3]
def bk_156_3 : List Instr := [.aload 0, .sipush (-100001), .invokevirtual 142, .ireturn]
def bk_156_4 : List Instr := [.aload 0, .getfield 384, .sipush 1, .iaload, .istore 8, .iload 8, .sipush 8, .if_icmp .ne 5, .aload 0, .sipush (-100005), .invokevirtual 142, .ireturn]
def bk_156_5 : List Instr := [.aload 0, .invokevirtual 147, .aload 0, .getfield 384, .sipush 91, .iload 8, .iadd, .iload 1, .iastore, .aload 0, .getfield 384, .sipush 99, .iload 8, .iadd, .iload 2, .iastore, .aload 0, .getfield 384, .sipush 107, .iload 8, .iadd, .iload 3, .iastore, .aload 0, .getfield 384, .sipush 115, .iload 8, .iadd, .iload 4, .iastore, .aload 0, .getfield 384, .sipush 123, .iload 8, .iadd, .iload 5, .iastore, .aload 0, .getfield 384, .sipush 131, .iload 8, .iadd, .iload 6, .iastore, .aload 0, .getfield 384, .sipush 1, .dup2, .iaload, .sipush 1, .iadd, .iastore, .iload 8, .ireturn]
def bk_157_0 : List Instr := [.sipush 0, .istore 2, .goto_w 1]
def bk_157_1 : List Instr := [.iload 2, .aload 0, .getfield 384, .sipush 0, .iaload, .if_icmp .ge 5, .sipush 0, .istore 3, .goto_w 2]
def bk_157_2 : List Instr := [.iload 3, .aload 0, .getfield 384, .sipush 46, .iload 2, .iadd, .iaload, .if_icmp .ge 4, .aload 0, .iload 2, .iload 3, .invokevirtual 152, .iload 1, .if_icmp .ne 3, .sipush 8, .iload 2, .imul, .iload 3, .iadd, .ireturn]
def bk_157_3 : List Instr := [.iinc 3 1, .goto 2]
def bk_157_4 : List Instr := [.iinc 2 1, .goto 1]
def bk_157_5 : List Instr := [.sipush (-1), .ireturn]
def bk_158_0 : List Instr := [.aload 0, .getfield 384, .sipush 46, .iload 1, .sipush 8, .idiv, .iadd, .iaload, .sipush 1, .isub, .iload 1, .sipush 8, .irem, .isub, .ireturn]
def bk_159_0 : List Instr := [.aload 0, .iload 1, .invokevirtual 145, .ifCond .eq 1, .iload 2, .sipush 0, .sipush 7, .invokestatic 143, .ifCond .ne 2, .goto_w 1]
def bk_159_1 : List Instr := [.aload 0, .sipush (-100001), .invokevirtual 142, .ireturn]
def bk_159_2 : List Instr := [.aload 0, .iload 1, .invokevirtual 157, .istore 3, .iload 2, .lookupswitch 9 #[(6, 3), (7, 6)]]
def bk_159_3 : List Instr := [.iload 3, .ifCond .ge 4, .sipush (-1), .goto 5]
def bk_159_4 : List Instr := [.iload 3, .sipush 8, .idiv, .goto_w 5]
def bk_159_5 : List Instr := [.ireturn]
def bk_159_6 : List Instr := [.iload 3, .ifCond .ge 7, .sipush 0, .goto 8]
def bk_159_7 : List Instr := [.aload 0, .iload 3, .invokevirtual 158, .goto_w 8]
def bk_159_8 : List Instr := [.ireturn]
def bk_159_9 : List Instr := [.aload 0, .getfield 384, .sipush 91, .sipush 8, .iload 2, .imul, .iadd, .iload 1, .iadd, .iaload, .ireturn]
def bk_160_0 : List Instr := [.aload 0, .iload 1, .invokevirtual 145, .ifCond .eq 4, .iload 2, .sipush 0, .sipush 2, .invokestatic 143, .ifCond .eq 4, .iload 3, .sipush 0, .iload 2, .ifCond .ne 1, .sipush 23, .goto 3]
def bk_160_1 : List Instr := [.iload 2, .sipush 1, .if_icmp .ne 2, .sipush 9, .goto 3]
def bk_160_2 : List Instr := [.sipush 99, .goto_w 3]
def bk_160_3 : List Instr := [.invokestatic 143, .ifCond .ne 5, .goto_w 4]
def bk_160_4 : List Instr := [.aload 0, .sipush (-100001), .invokevirtual 142, .ireturn]
def bk_160_5 : List Instr := [.aload 0, .invokevirtual 147, .aload 0, .getfield 384, .sipush 115, .sipush 8, .iload 2, .imul, .iadd, .iload 1, .iadd, .iaload, .istore 4, .aload 0, .getfield 384, .sipush 115, .sipush 8, .iload 2, .imul, .iadd, .iload 1, .iadd, .iload 3, .iastore, .iload 4, .ireturn]
def bk_161_0 : List Instr := [.aload 0, .iload 1, .invokevirtual 144, .ifCond .ne 1, .aload 0, .sipush (-100001), .invokevirtual 142, .ireturn]
def bk_161_1 : List Instr := [.iload 2, .sipush 0, .aload 0, .getfield 384, .sipush 46, .iload 1, .iadd, .iaload, .sipush 1, .isub, .invokestatic 143, .ifCond .eq 2, .aload 0, .iload 1, .iload 2, .invokevirtual 152, .goto 3]
def bk_161_2 : List Instr := [.aload 0, .sipush (-100006), .invokevirtual 142, .goto_w 3]
def bk_161_3 : List Instr := [.ireturn]
def bk_162_0 : List Instr := [.aload 0, .getfield 384, .sipush 99, .iload 1, .iadd, .iaload, .aload 0, .getfield 384, .sipush 21, .iload 2, .iadd, .iaload, .if_icmp .gt 1, .aload 0, .getfield 384, .sipush 107, .iload 1, .iadd, .iaload, .aload 0, .getfield 384, .sipush 26, .iload 2, .iadd, .iaload, .if_icmp .gt 1, .sipush 1, .goto 2]
def bk_162_1 : List Instr := [.sipush 0, .goto_w 2]
def bk_162_2 : List Instr := [.ireturn]
def bk_163_0 : List Instr := [.aload 0, .iload 1, .invokevirtual 145, .ifCond .eq 1, .aload 0, .iload 2, .invokevirtual 144, .ifCond .ne 2, .goto_w 1]
def bk_163_1 : List Instr := [.aload 0, .sipush (-100001), .invokevirtual 142, .goto 4]
def bk_163_2 : List Instr := [.aload 0, .iload 1, .iload 2, .invokevirtual 162, .ifCond .eq 3, .sipush 1, .goto 4]
def bk_163_3 : List Instr := [.sipush 0, .goto_w 4]
def bk_163_4 : List Instr := [.ireturn]
def bk_164_0 : List Instr := [.aload 0, .getfield 384, .sipush 31, .iload 1, .iadd, .iaload, .sipush 1, .if_icmp .eq 1, .aload 0, .getfield 384, .sipush 41, .iload 1, .iadd, .iaload, .sipush 12, .if_icmp .ne 2, .goto_w 1]
def bk_164_1 : List Instr := [.sipush 1, .goto 3]
def bk_164_2 : List Instr := [.sipush 0, .goto_w 3]
def bk_164_3 : List Instr := [.ireturn]
def bk_165_0 : List Instr := [.aload 0, .iload 1, .invokevirtual 157, .istore 2, .iload 2, .ifCond .lt 1, .aload 0, .iload 2, .invokevirtual 158, .ifCond .ne 1, .aload 0, .iload 2, .sipush 8, .idiv, .invokevirtual 164, .ifCond .ne 1, .sipush 1, .goto 2]
def bk_165_1 : List Instr := [.sipush 0, .goto_w 2]
def bk_165_2 : List Instr := [.ireturn]
def bk_166_0 : List Instr := [.aload 0, .getfield 384, .sipush 41, .iload 1, .iadd, .dup2, .iaload, .aload 0, .iload 1, .invokevirtual 150, .ifCond .eq 1, .sipush 1, .goto 2]
def bk_166_1 : List Instr := [.sipush 0, .goto_w 2]
def bk_166_2 : List Instr := [.iadd, .iastore, .return_]
def bk_167_0 : List Instr := [.aload 0, .getfield 384, .sipush 51, .sipush 8, .iload 2, .imul, .iadd, .aload 0, .getfield 384, .sipush 46, .iload 2, .iadd, .iaload, .iadd, .iload 1, .iastore, .aload 0, .getfield 384, .sipush 46, .iload 2, .iadd, .dup2, .iaload, .sipush 1, .iadd, .iastore, .aload 0, .iload 2, .invokevirtual 166, .return_]
def bk_168_0 : List Instr := [.aload 0, .getfield 384, .sipush 46, .iload 1, .iadd, .dup2, .iaload, .sipush 1, .isub, .iastore, .aload 0, .iload 1, .invokevirtual 166, .return_]
def bk_169_0 : List Instr := [.aload 0, .iload 1, .invokevirtual 145, .ifCond .eq 1, .aload 0, .iload 2, .invokevirtual 144, .ifCond .ne 2, .goto_w 1]
def bk_169_1 : List Instr := [.aload 0, .sipush (-100001), .invokevirtual 142, .ireturn]
def bk_169_2 : List Instr := [.aload 0, .iload 1, .invokevirtual 157, .ifCond .lt 3, .aload 0, .sipush (-100007), .invokevirtual 142, .ireturn]
def bk_169_3 : List Instr := [.aload 0, .iload 1, .iload 2, .invokevirtual 162, .ifCond .ne 4, .aload 0, .sipush (-100004), .invokevirtual 142, .ireturn]
def bk_169_4 : List Instr := [.aload 0, .iload 2, .invokevirtual 164, .ifCond .eq 5, .aload 0, .sipush (-100008), .invokevirtual 142, .ireturn]
def bk_169_5 : List Instr := [.aload 0, .iload 2, .invokevirtual 153, .aload 0, .getfield 384, .sipush 91, .iload 1, .iadd, .iaload, .if_icmp .ge 6, .aload 0, .sipush (-100005), .invokevirtual 142, .ireturn]
def bk_169_6 : List Instr := [.aload 0, .invokevirtual 147, .aload 0, .iload 1, .iload 2, .invokevirtual 167, .aload 0, .getfield 384, .sipush 46, .iload 2, .iadd, .iaload, .ireturn]
def bk_170_0 : List Instr := [.aload 0, .iload 1, .invokevirtual 157, .istore 3, .iload 3, .ifCond .ge 1, .sipush (-100006), .ireturn]
def bk_170_1 : List Instr := [.iload 3, .sipush 8, .idiv, .iload 2, .if_icmp .ne 2, .sipush (-100007), .ireturn]
def bk_170_2 : List Instr := [.aload 0, .iload 1, .invokevirtual 165, .ifCond .eq 3, .aload 0, .iload 2, .invokevirtual 164, .ifCond .eq 4, .goto_w 3]
def bk_170_3 : List Instr := [.sipush (-100008), .ireturn]
def bk_170_4 : List Instr := [.aload 0, .iload 1, .iload 2, .invokevirtual 162, .ifCond .ne 5, .sipush (-100004), .ireturn]
def bk_170_5 : List Instr := [.aload 0, .iload 2, .invokevirtual 153, .aload 0, .getfield 384, .sipush 91, .iload 1, .iadd, .iaload, .if_icmp .ge 6, .sipush (-100005), .ireturn]
def bk_170_6 : List Instr := [.aload 0, .iload 1, .aload 0, .getfield 384, .sipush 2, .iaload, .aload 0, .getfield 384, .sipush 10, .iaload, .invokevirtual 228, .ifCond .eq 7, .sipush 0, .goto 8]
def bk_170_7 : List Instr := [.sipush (-100002), .goto_w 8]
def bk_170_8 : List Instr := [.ireturn]
def bk_171_0 : List Instr := [.aload 0, .aload 0, .iload 1, .invokevirtual 157, .sipush 8, .idiv, .invokevirtual 168, .aload 0, .iload 1, .iload 2, .invokevirtual 167, .return_]
def bk_172_0 : List Instr := [.aload 0, .getfield 384, .sipush 8, .iaload, .sipush 60, .if_icmp .ne 3, .sipush 1, .istore 2, .goto_w 1]
def bk_172_1 : List Instr := [.iload 2, .sipush 60, .if_icmp .ge 2, .aload 0, .getfield 384, .sipush 171, .iload 2, .iadd, .sipush 1, .isub, .aload 0, .getfield 384, .sipush 171, .iload 2, .iadd, .iaload, .iastore, .iinc 2 1, .goto 1]
def bk_172_2 : List Instr := [.aload 0, .getfield 384, .sipush 8, .dup2, .iaload, .sipush 1, .isub, .iastore, .goto_w 3]
def bk_172_3 : List Instr := [.aload 0, .getfield 384, .sipush 171, .aload 0, .getfield 384, .sipush 8, .iaload, .iadd, .iload 1, .iastore, .aload 0, .getfield 384, .sipush 8, .dup2, .iaload, .sipush 1, .iadd, .iastore, .return_]
def bk_173_0 : List Instr := [.aload 0, .iload 1, .invokevirtual 145, .ifCond .eq 1, .aload 0, .iload 2, .invokevirtual 144, .ifCond .ne 2, .goto_w 1]
def bk_173_1 : List Instr := [.aload 0, .sipush (-100001), .invokevirtual 142, .ireturn]
def bk_173_2 : List Instr := [.aload 0, .iload 1, .iload 2, .invokevirtual 170, .istore 3, .iload 3, .ifCond .eq 3, .aload 0, .iload 3, .invokevirtual 142, .ireturn]
def bk_173_3 : List Instr := [.aload 0, .iload 1, .iload 2, .aload 0, .getfield 384, .sipush 2, .iaload, .invokevirtual 218, .ifCond .ne 4, .aload 0, .sipush (-100009), .invokevirtual 142, .ireturn]
def bk_173_4 : List Instr := [.aload 0, .invokevirtual 147, .aload 0, .iload 1, .iload 2, .invokevirtual 171, .aload 0, .iload 1, .sipush 8, .aload 0, .getfield 384, .sipush 4, .iaload, .imul, .iadd, .invokevirtual 172, .aload 0, .getfield 384, .sipush 6, .dup2, .iaload, .sipush 1, .iadd, .iastore, .aload 0, .getfield 384, .sipush 6, .iaload, .ireturn]
def bk_174_0 : List Instr := [.aload 0, .iload 1, .invokevirtual 145, .ifCond .ne 1, .aload 0, .sipush (-100001), .invokevirtual 142, .ireturn]
def bk_174_1 : List Instr := [.aload 0, .iload 1, .invokevirtual 157, .istore 2, .iload 2, .ifCond .ge 2, .aload 0, .sipush (-100006), .invokevirtual 142, .ireturn]
def bk_174_2 : List Instr := [.aload 0, .iload 1, .invokevirtual 165, .ifCond .ne 3, .aload 0, .sipush (-100008), .invokevirtual 142, .ireturn]
def bk_174_3 : List Instr := [.aload 0, .invokevirtual 147, .aload 0, .iload 2, .sipush 8, .idiv, .invokevirtual 168, .aload 0, .getfield 384, .sipush 115, .iload 1, .iadd, .iaload, .ireturn]
def bk_175_0 : List Instr := [.aload 0, .invokevirtual 147, .sipush 0, .istore 1, .sipush 0, .istore 2, .goto_w 1]
def bk_175_1 : List Instr := [.iload 2, .sipush 5, .if_icmp .ge 2, .iload 1, .aload 0, .getfield 384, .sipush 41, .iload 2, .iadd, .iaload, .iadd, .istore 1, .aload 0, .getfield 384, .sipush 41, .iload 2, .iadd, .sipush 0, .iastore, .iinc 2 1, .goto 1]
def bk_175_2 : List Instr := [.aload 0, .getfield 384, .sipush 2, .sipush 0, .iastore, .iload 1, .ireturn]
def bk_176_0 : List Instr := [.iload 1, .invokestatic 146, .ifCond .ne 1, .aload 0, .sipush (-100001), .invokevirtual 142, .ireturn]
def bk_176_1 : List Instr := [.aload 0, .invokevirtual 147, .aload 0, .getfield 384, .sipush 2, .iaload, .istore 2, .aload 0, .getfield 384, .sipush 2, .iload 1, .iastore, .iload 2, .ireturn]
def bk_177_0 : List Instr := [.aload 0, .iload 1, .invokevirtual 145, .ifCond .ne 1, .aload 0, .sipush (-100001), .invokevirtual 142, .ireturn]
def bk_177_1 : List Instr := [.aload 0, .iload 1, .invokevirtual 157, .istore 2, .iload 2, .ifCond .ge 2, .aload 0, .sipush (-100006), .invokevirtual 142, .ireturn]
def bk_177_2 : List Instr := [.sipush 0, .istore 3, .iload 2, .sipush 8, .irem, .sipush 1, .iadd, .istore 4, .goto_w 3]
def bk_177_3 : List Instr := [.iload 4, .aload 0, .getfield 384, .sipush 46, .iload 2, .sipush 8, .idiv, .iadd, .iaload, .if_icmp .ge 4, .iload 3, .sipush 1, .aload 0, .iload 2, .sipush 8, .idiv, .iload 4, .invokevirtual 152, .ishl, .ior, .istore 3, .iinc 4 1, .goto 3]
def bk_177_4 : List Instr := [.iload 3, .ireturn]
def bk_178_0 : List Instr := [.sipush 0, .istore 2, .goto_w 1]
def bk_178_1 : List Instr := [.iload 2, .sipush 50, .if_icmp .ge 2, .aload 0, .getfield 391, .sipush 50, .iload 1, .imul, .iload 2, .iadd, .aload 0, .getfield 384, .sipush 41, .iload 2, .iadd, .iaload, .iastore, .iinc 2 1, .goto 1]
def bk_178_2 : List Instr := [.return_]
def bk_179_0 : List Instr := [.sipush 0, .istore 2, .goto_w 1]
def bk_179_1 : List Instr := [.iload 2, .sipush 50, .if_icmp .ge 2, .aload 0, .getfield 384, .sipush 41, .iload 2, .iadd, .aload 0, .getfield 391, .sipush 50, .iload 1, .imul, .iload 2, .iadd, .iaload, .iastore, .iinc 2 1, .goto 1]
def bk_179_2 : List Instr := [.return_]
def bk_180_0 : List Instr := [.iload 2, .iload 3, .if_icmp .ne 1, .aload 0, .iload 1, .invokevirtual 165, .ireturn]
def bk_180_1 : List Instr := [.aload 0, .iload 2, .invokevirtual 178, .sipush 0, .istore 4, .goto_w 2]
def bk_180_2 : List Instr := [.iload 4, .sipush 8, .aload 0, .getfield 384, .sipush 1, .iaload, .imul, .if_icmp .ge 5, .iload 4, .sipush 8, .idiv, .iload 1, .if_icmp .eq 4, .aload 0, .iload 4, .sipush 8, .irem, .invokevirtual 144, .ifCond .eq 4, .aload 0, .iload 4, .sipush 8, .idiv, .iload 4, .sipush 8, .irem, .invokevirtual 170, .ifCond .eq 3, .goto 4]
def bk_180_3 : List Instr := [.aload 0, .iload 4, .sipush 8, .idiv, .iload 4, .sipush 8, .irem, .invokevirtual 171, .aload 0, .getfield 392, .iload 2, .iload 4, .iastore, .aload 0, .iload 1, .iload 2, .sipush 1, .iadd, .iload 3, .invokevirtual 180, .istore 5, .aload 0, .iload 2, .invokevirtual 179, .iload 5, .ifCond .eq 4, .sipush 1, .ireturn]
def bk_180_4 : List Instr := [.iinc 4 1, .goto 2]
def bk_180_5 : List Instr := [.sipush 0, .ireturn]
def bk_181_0 : List Instr := [.sipush 0, .istore 2, .goto_w 1]
def bk_181_1 : List Instr := [.iload 2, .sipush 3, .if_icmp .gt 2, .aload 0, .iload 1, .sipush 0, .iload 2, .invokevirtual 180, .ifCond .ne 2, .iinc 2 1, .goto 1]
def bk_181_2 : List Instr := [.iload 2, .sipush 3, .if_icmp .le 3, .sipush (-1), .goto 4]
def bk_181_3 : List Instr := [.iload 2, .goto_w 4]
def bk_181_4 : List Instr := [.ireturn]
def bk_182_0 : List Instr := [.aload 0, .iload 1, .invokevirtual 145, .ifCond .ne 1, .aload 0, .sipush (-100001), .invokevirtual 142, .ireturn]
def bk_182_1 : List Instr := [.aload 0, .iload 1, .invokevirtual 157, .ifCond .ge 2, .sipush (-1), .goto 3]
def bk_182_2 : List Instr := [.aload 0, .iload 1, .invokevirtual 181, .goto_w 3]
def bk_182_3 : List Instr := [.istore 2, .iload 2, .ifCond .ge 4, .aload 0, .sipush (-100006), .invokevirtual 142, .goto 5]
def bk_182_4 : List Instr := [.iload 2, .goto_w 5]
def bk_182_5 : List Instr := [.ireturn]
def bk_183_0 : List Instr := [.aload 0, .iload 1, .invokevirtual 145, .ifCond .eq 1, .iload 2, .ifCond .ge 2, .goto_w 1]
def bk_183_1 : List Instr := [.aload 0, .sipush (-100001), .invokevirtual 142, .ireturn]
def bk_183_2 : List Instr := [.aload 0, .iload 1, .invokevirtual 157, .ifCond .ge 3, .sipush (-1), .goto 4]
def bk_183_3 : List Instr := [.aload 0, .iload 1, .invokevirtual 181, .goto_w 4]
def bk_183_4 : List Instr := [.istore 3, .iload 2, .iload 3, .if_icmp .lt 5, .aload 0, .sipush (-100006), .invokevirtual 142, .goto 6]
def bk_183_5 : List Instr := [.aload 0, .getfield 392, .iload 2, .iaload, .goto_w 6]
def bk_183_6 : List Instr := [.ireturn]
def bk_184_0 : List Instr := [.aload 0, .iload 1, .invokevirtual 145, .ifCond .eq 1, .iload 2, .invokestatic 230, .ifCond .ne 2, .goto_w 1]
def bk_184_1 : List Instr := [.aload 0, .sipush (-100001), .invokevirtual 142, .ireturn]
def bk_184_2 : List Instr := [.aload 0, .getfield 388, .iload 2, .iaload, .ifCond .ne 3, .aload 0, .sipush (-100002), .invokevirtual 142, .ireturn]
def bk_184_3 : List Instr := [.aload 0, .iload 1, .invokevirtual 157, .ifCond .ge 4, .aload 0, .sipush (-100006), .invokevirtual 142, .ireturn]
def bk_184_4 : List Instr := [.aload 0, .sipush 0, .invokevirtual 178, .sipush 0, .istore 3, .sipush 1, .istore 4, .goto_w 5]
def bk_184_5 : List Instr := [.iload 4, .ifCond .eq 9, .iload 3, .aload 0, .getfield 389, .iload 2, .iaload, .if_icmp .ge 9, .aload 0, .getfield 390, .sipush 20, .iload 2, .imul, .iload 3, .iadd, .iaload, .istore 5, .iload 5, .ifCond .lt 6, .aload 0, .iload 5, .sipush 8, .idiv, .invokevirtual 145, .ifCond .eq 6, .iload 5, .sipush 8, .idiv, .iload 1, .if_icmp .eq 6, .aload 0, .iload 5, .sipush 8, .irem, .invokevirtual 144, .ifCond .eq 6, .aload 0, .iload 5, .sipush 8, .idiv, .iload 5, .sipush 8, .irem, .invokevirtual 170, .ifCond .ne 6, .sipush 1, .goto 7]
def bk_184_6 : List Instr := [.sipush 0, .goto_w 7]
def bk_184_7 : List Instr := [.istore 4, .iload 4, .ifCond .eq 8, .aload 0, .iload 5, .sipush 8, .idiv, .iload 5, .sipush 8, .irem, .invokevirtual 171, .iinc 3 1, .goto_w 8]
def bk_184_8 : List Instr := [.goto 5]
def bk_184_9 : List Instr := [.iload 4, .ifCond .eq 10, .aload 0, .iload 1, .invokevirtual 165, .ifCond .eq 10, .sipush (-1), .goto 11]
def bk_184_10 : List Instr := [.iload 3, .goto_w 11]
def bk_184_11 : List Instr := [.istore 5, .aload 0, .sipush 0, .invokevirtual 179, .iload 5, .ireturn]
def bk_185_0 : List Instr := [.sipush 0, .istore 2, .sipush 0, .istore 3, .goto_w 1]
def bk_185_1 : List Instr := [.iload 3, .aload 0, .getfield 384, .sipush 46, .iload 1, .iadd, .iaload, .if_icmp .ge 6, .iload 3, .sipush 1, .iadd, .istore 4, .goto_w 2]
def bk_185_2 : List Instr := [.iload 4, .aload 0, .getfield 384, .sipush 46, .iload 1, .iadd, .iaload, .if_icmp .ge 5, .iload 2, .aload 0, .getfield 384, .sipush 115, .aload 0, .iload 1, .iload 4, .invokevirtual 152, .iadd, .iaload, .aload 0, .getfield 384, .sipush 115, .aload 0, .iload 1, .iload 3, .invokevirtual 152, .iadd, .iaload, .if_icmp .le 3, .sipush 2, .goto 4]
def bk_185_3 : List Instr := [.sipush 0, .goto_w 4]
def bk_185_4 : List Instr := [.iadd, .istore 2, .iinc 4 1, .goto 2]
def bk_185_5 : List Instr := [.iinc 3 1, .goto 1]
def bk_185_6 : List Instr := [.iload 2, .ireturn]
def bk_186_0 : List Instr := [.iload 1, .sipush (-1), .if_icmp .eq 1, .aload 0, .iload 1, .invokevirtual 144, .ifCond .ne 1, .aload 0, .sipush (-100001), .invokevirtual 142, .ireturn]
def bk_186_1 : List Instr := [.sipush 0, .istore 2, .sipush 0, .istore 3, .goto_w 2]
def bk_186_2 : List Instr := [.iload 3, .aload 0, .getfield 384, .sipush 0, .iaload, .if_icmp .ge 6, .iload 2, .iload 1, .sipush (-1), .if_icmp .eq 3, .iload 1, .iload 3, .if_icmp .ne 4, .goto_w 3]
def bk_186_3 : List Instr := [.aload 0, .iload 3, .invokevirtual 185, .goto 5]
def bk_186_4 : List Instr := [.sipush 0, .goto_w 5]
def bk_186_5 : List Instr := [.iadd, .istore 2, .iinc 3 1, .goto 2]
def bk_186_6 : List Instr := [.iload 2, .ireturn]
def bk_187_0 : List Instr := [.sipush 0, .istore 2, .goto_w 1]
def bk_187_1 : List Instr := [.iload 2, .aload 0, .getfield 384, .sipush 7, .iaload, .if_icmp .ge 3, .aload 0, .getfield 384, .sipush 139, .iload 2, .iadd, .iaload, .iload 1, .if_icmp .ne 2, .iload 2, .ireturn]
def bk_187_2 : List Instr := [.iinc 2 1, .goto 1]
def bk_187_3 : List Instr := [.sipush (-1), .ireturn]
def bk_188_0 : List Instr := [.aload 0, .iload 1, .invokevirtual 145, .ifCond .ne 1, .aload 0, .sipush (-100001), .invokevirtual 142, .ireturn]
def bk_188_1 : List Instr := [.aload 0, .iload 1, .invokevirtual 187, .ifCond .lt 2, .aload 0, .sipush (-100007), .invokevirtual 142, .ireturn]
def bk_188_2 : List Instr := [.aload 0, .getfield 384, .sipush 7, .iaload, .sipush 7, .if_icmp .ne 3, .aload 0, .sipush (-100005), .invokevirtual 142, .ireturn]
def bk_188_3 : List Instr := [.aload 0, .invokevirtual 147, .aload 0, .getfield 384, .sipush 139, .aload 0, .getfield 384, .sipush 7, .iaload, .iadd, .iload 1, .iastore, .aload 0, .getfield 384, .sipush 7, .dup2, .iaload, .sipush 1, .iadd, .iastore, .aload 0, .getfield 384, .sipush 7, .iaload, .ireturn]
def bk_189_0 : List Instr := [.aload 0, .invokevirtual 147, .aload 0, .getfield 384, .sipush 7, .iaload, .istore 1, .aload 0, .getfield 384, .sipush 7, .sipush 0, .iastore, .iload 1, .ireturn]
def bk_190_0 : List Instr := [.aload 0, .getfield 384, .sipush 139, .iload 1, .iadd, .iaload, .istore 3, .aload 0, .getfield 384, .sipush 16, .iload 2, .iadd, .iaload, .aload 0, .getfield 384, .sipush 91, .iload 3, .iadd, .iaload, .isub, .istore 4, .sipush 0, .istore 5, .sipush 0, .istore 6, .goto_w 1]
def bk_190_1 : List Instr := [.iload 6, .iload 1, .if_icmp .ge 5, .aload 0, .getfield 384, .sipush 139, .iload 6, .iadd, .iaload, .istore 7, .aload 0, .getfield 393, .iload 6, .iaload, .iload 2, .if_icmp .ne 4, .iload 4, .aload 0, .getfield 384, .sipush 91, .iload 7, .iadd, .iaload, .isub, .istore 4, .iload 5, .aload 0, .getfield 384, .sipush 115, .iload 3, .iadd, .iaload, .aload 0, .getfield 384, .sipush 115, .iload 7, .iadd, .iaload, .if_icmp .le 2, .sipush 2, .goto 3]
def bk_190_2 : List Instr := [.sipush 0, .goto_w 3]
def bk_190_3 : List Instr := [.iadd, .istore 5, .goto_w 4]
def bk_190_4 : List Instr := [.iinc 6 1, .goto 1]
def bk_190_5 : List Instr := [.aload 0, .iload 3, .iload 2, .invokevirtual 162, .ifCond .eq 6, .iload 4, .ifCond .lt 6, .iload 5, .goto 7]
def bk_190_6 : List Instr := [.sipush (-1), .goto_w 7]
def bk_190_7 : List Instr := [.ireturn]
def bk_191_0 : List Instr := [.iload 1, .aload 0, .getfield 384, .sipush 7, .iaload, .if_icmp .ne 3, .aload 0, .iload 2, .putfield 395, .sipush 0, .istore 3, .goto_w 1]
def bk_191_1 : List Instr := [.iload 3, .iload 1, .if_icmp .ge 2, .aload 0, .getfield 394, .iload 3, .aload 0, .getfield 393, .iload 3, .iaload, .iastore, .iinc 3 1, .goto 1]
def bk_191_2 : List Instr := [.return_]
def bk_191_3 : List Instr := [.sipush 0, .istore 3, .goto_w 4]
def bk_191_4 : List Instr := [.iload 3, .aload 0, .getfield 384, .sipush 0, .iaload, .if_icmp .ge 7, .aload 0, .iload 1, .iload 3, .invokevirtual 190, .istore 4, .iload 4, .ifCond .lt 6, .aload 0, .getfield 395, .ifCond .lt 5, .iload 2, .iload 4, .iadd, .aload 0, .getfield 395, .if_icmp .ge 6, .goto_w 5]
def bk_191_5 : List Instr := [.aload 0, .getfield 393, .iload 1, .iload 3, .iastore, .aload 0, .iload 1, .sipush 1, .iadd, .iload 2, .iload 4, .iadd, .invokevirtual 191, .goto_w 6]
def bk_191_6 : List Instr := [.iinc 3 1, .goto 4]
def bk_191_7 : List Instr := [.return_]
def bk_192_0 : List Instr := [.aload 0, .sipush (-1), .putfield 395, .aload 0, .sipush 0, .sipush 0, .invokevirtual 191, .return_]
def bk_193_0 : List Instr := [.aload 0, .invokevirtual 192, .aload 0, .getfield 395, .ifCond .ge 1, .aload 0, .sipush (-100006), .invokevirtual 142, .goto 2]
def bk_193_1 : List Instr := [.aload 0, .getfield 395, .goto_w 2]
def bk_193_2 : List Instr := [.ireturn]
def bk_194_0 : List Instr := [.aload 0, .iload 1, .invokevirtual 145, .ifCond .ne 1, .aload 0, .sipush (-100001), .invokevirtual 142, .ireturn]
def bk_194_1 : List Instr := [.aload 0, .invokevirtual 192, .aload 0, .iload 1, .invokevirtual 187, .istore 2, .aload 0, .getfield 395, .ifCond .lt 2, .iload 2, .ifCond .ge 3, .goto_w 2]
def bk_194_2 : List Instr := [.aload 0, .sipush (-100006), .invokevirtual 142, .goto 4]
def bk_194_3 : List Instr := [.aload 0, .getfield 394, .iload 2, .iaload, .goto_w 4]
def bk_194_4 : List Instr := [.ireturn]
def bk_195_0 : List Instr := [.iload 1, .sipush 0, .sipush 3, .invokestatic 143, .ifCond .ne 1, .aload 0, .sipush (-100001), .invokevirtual 142, .ireturn]
def bk_195_1 : List Instr := [.aload 0, .invokevirtual 147, .aload 0, .getfield 384, .sipush 3, .iaload, .istore 2, .aload 0, .getfield 384, .sipush 3, .iload 1, .iastore, .iload 2, .ireturn]
def bk_196_0 : List Instr := [.sipush 0, .istore 2, .goto_w 1]
def bk_196_1 : List Instr := [.iload 2, .sipush 8, .if_icmp .ge 4, .aload 0, .getfield 396, .iload 2, .iload 1, .iload 2, .ishr, .sipush 1, .iand, .sipush 1, .if_icmp .ne 2, .aload 0, .getfield 384, .sipush 123, .iload 2, .iadd, .iaload, .goto 3]
def bk_196_2 : List Instr := [.sipush 0, .goto_w 3]
def bk_196_3 : List Instr := [.iastore, .iinc 2 1, .goto 1]
def bk_196_4 : List Instr := [.return_]
def bk_197_0 : List Instr := [.sipush 0, .istore 2, .sipush 0, .istore 3, .goto_w 1]
def bk_197_1 : List Instr := [.iload 3, .aload 0, .getfield 384, .sipush 3, .iaload, .if_icmp .ge 15, .sipush (-1), .istore 4, .sipush 0, .istore 5, .goto_w 2]
def bk_197_2 : List Instr := [.iload 5, .sipush 8, .if_icmp .ge 8, .iload 2, .iload 5, .ishr, .sipush 1, .iand, .ifCond .ne 3, .aload 0, .getfield 396, .iload 5, .iaload, .ifCond .le 3, .aload 0, .getfield 384, .sipush 115, .iload 5, .iadd, .iaload, .iload 1, .if_icmp .le 3, .sipush 1, .goto 4]
def bk_197_3 : List Instr := [.sipush 0, .goto_w 4]
def bk_197_4 : List Instr := [.istore 6, .iload 6, .ifCond .eq 6, .iload 4, .ifCond .lt 5, .aload 0, .getfield 396, .iload 5, .iaload, .aload 0, .getfield 396, .iload 4, .iaload, .if_icmp .le 6, .goto_w 5]
def bk_197_5 : List Instr := [.iload 5, .goto 7]
def bk_197_6 : List Instr := [.iload 4, .goto_w 7]
def bk_197_7 : List Instr := [.istore 4, .iinc 5 1, .goto 2]
def bk_197_8 : List Instr := [.iload 2, .iload 4, .ifCond .lt 9, .sipush 1, .iload 4, .ishl, .goto 10]
def bk_197_9 : List Instr := [.sipush 0, .goto_w 10]
def bk_197_10 : List Instr := [.ior, .istore 2, .sipush 0, .istore 5, .goto_w 11]
def bk_197_11 : List Instr := [.iload 5, .sipush 8, .if_icmp .ge 14, .aload 0, .getfield 396, .iload 5, .dup2, .iaload, .iload 5, .iload 4, .if_icmp .ne 12, .sipush 1, .goto 13]
def bk_197_12 : List Instr := [.sipush 0, .goto_w 13]
def bk_197_13 : List Instr := [.isub, .iastore, .iinc 5 1, .goto 11]
def bk_197_14 : List Instr := [.iinc 3 1, .goto 1]
def bk_197_15 : List Instr := [.iload 2, .ireturn]
def bk_198_0 : List Instr := [.aload 0, .iload 1, .invokevirtual 196, .sipush 23, .istore 2, .goto_w 1]
def bk_198_1 : List Instr := [.iload 2, .ifCond .lt 2, .aload 0, .iload 2, .invokevirtual 197, .istore 3, .iinc 2 (-1), .goto 1]
def bk_198_2 : List Instr := [.sipush 0, .istore 2, .sipush 0, .istore 3, .goto_w 3]
def bk_198_3 : List Instr := [.iload 3, .sipush 8, .if_icmp .ge 4, .iload 2, .aload 0, .getfield 396, .iload 3, .iaload, .iadd, .istore 2, .iinc 3 1, .goto 3]
def bk_198_4 : List Instr := [.iload 2, .ifCond .ne 5, .sipush 1, .goto 6]
def bk_198_5 : List Instr := [.sipush 0, .goto_w 6]
def bk_198_6 : List Instr := [.ireturn]
def bk_199_0 : List Instr := [.sipush 0, .istore 1, .sipush 0, .istore 2, .goto_w 1]
def bk_199_1 : List Instr := [.iload 2, .sipush 8, .if_icmp .ge 2, .iload 1, .iload 0, .iload 2, .ishr, .sipush 1, .iand, .iadd, .istore 1, .iinc 2 1, .goto 1]
def bk_199_2 : List Instr := [.iload 1, .ireturn]
def bk_200_0 : List Instr := [.sipush 0, .istore 1, .sipush 0, .istore 2, .goto_w 1]
def bk_200_1 : List Instr := [.iload 2, .aload 0, .getfield 384, .sipush 1, .iaload, .if_icmp .ge 4, .iload 1, .aload 0, .getfield 384, .sipush 123, .iload 2, .iadd, .iaload, .ifCond .le 2, .aload 0, .iload 2, .invokevirtual 157, .ifCond .lt 2, .sipush 1, .iload 2, .ishl, .goto 3]
def bk_200_2 : List Instr := [.sipush 0, .goto_w 3]
def bk_200_3 : List Instr := [.ior, .istore 1, .iinc 2 1, .goto 1]
def bk_200_4 : List Instr := [.sipush 0, .istore 2, .sipush 1, .istore 3, .goto_w 5]
def bk_200_5 : List Instr := [.iload 3, .iload 1, .if_icmp .gt 7, .iload 3, .iload 1, .sipush (-1), .ixor, .iand, .ifCond .ne 6, .iload 3, .invokestatic 199, .iload 2, .invokestatic 199, .if_icmp .le 6, .aload 0, .iload 3, .invokevirtual 198, .ifCond .eq 6, .iload 3, .istore 2, .goto_w 6]
def bk_200_6 : List Instr := [.iinc 3 1, .goto 5]
def bk_200_7 : List Instr := [.iload 2, .ireturn]
def bk_201_0 : List Instr := [.aload 0, .invokevirtual 200, .ireturn]
def bk_202_0 : List Instr := [.iload 1, .invokestatic 146, .ifCond .ne 1, .aload 0, .sipush (-100001), .invokevirtual 142, .ireturn]
def bk_202_1 : List Instr := [.aload 0, .aload 0, .invokevirtual 200, .invokevirtual 196, .sipush 0, .istore 2, .sipush 23, .istore 3, .goto_w 2]
def bk_202_2 : List Instr := [.iload 3, .iload 1, .if_icmp .lt 3, .aload 0, .iload 3, .invokevirtual 197, .istore 2, .iinc 3 (-1), .goto 2]
def bk_202_3 : List Instr := [.iload 2, .ireturn]
def bk_203_0 : List Instr := [.iload 1, .sipush 0, .sipush 4, .invokestatic 143, .ifCond .eq 1, .iload 2, .sipush 0, .sipush 4, .invokestatic 143, .ifCond .eq 1, .iload 3, .sipush 0, .sipush 999, .invokestatic 143, .ifCond .ne 2, .goto_w 1]
def bk_203_1 : List Instr := [.aload 0, .sipush (-100001), .invokevirtual 142, .ireturn]
def bk_203_2 : List Instr := [.aload 0, .invokevirtual 147, .aload 0, .getfield 384, .sipush 146, .sipush 5, .iload 1, .imul, .iadd, .iload 2, .iadd, .iaload, .istore 4, .aload 0, .getfield 384, .sipush 146, .sipush 5, .iload 1, .imul, .iadd, .iload 2, .iadd, .iload 3, .iastore, .iload 4, .ireturn]
def bk_204_0 : List Instr := [.iload 1, .sipush 5, .if_icmp .ne 1, .sipush 0, .ireturn]
def bk_204_1 : List Instr := [.iload 1, .iload 3, .if_icmp .ne 2, .aload 0, .iload 1, .sipush 1, .iadd, .iload 2, .iload 3, .invokevirtual 204, .ireturn]
def bk_204_2 : List Instr := [.sipush (-1), .istore 4, .sipush 0, .istore 5, .goto_w 3]
def bk_204_3 : List Instr := [.iload 5, .sipush 5, .if_icmp .ge 5, .iload 2, .iload 5, .ishr, .sipush 1, .iand, .sipush 1, .if_icmp .ne 4, .iload 4, .aload 0, .getfield 384, .sipush 146, .sipush 5, .iload 1, .imul, .iadd, .iload 5, .iadd, .iaload, .aload 0, .iload 1, .sipush 1, .iadd, .iload 2, .sipush 1, .iload 5, .ishl, .sipush (-1), .ixor, .iand, .iload 3, .invokevirtual 204, .iadd, .invokestatic 236, .istore 4, .goto_w 4]
def bk_204_4 : List Instr := [.iinc 5 1, .goto 3]
def bk_204_5 : List Instr := [.iload 4, .ireturn]
def bk_205_0 : List Instr := [.sipush 31, .istore 1, .aload 0, .sipush 0, .iload 1, .sipush (-1), .invokevirtual 204, .istore 2, .iload 2, .istore 3, .sipush 0, .istore 4, .goto_w 1]
def bk_205_1 : List Instr := [.iload 4, .sipush 5, .if_icmp .ge 5, .sipush 0, .istore 5, .goto_w 2]
def bk_205_2 : List Instr := [.iload 1, .iload 5, .ishr, .sipush 1, .iand, .ifCond .eq 3, .aload 0, .getfield 384, .sipush 146, .sipush 5, .iload 4, .imul, .iadd, .iload 5, .iadd, .iaload, .aload 0, .iload 4, .sipush 1, .iadd, .iload 1, .sipush 1, .iload 5, .ishl, .sipush (-1), .ixor, .iand, .sipush (-1), .invokevirtual 204, .iadd, .iload 3, .if_icmp .eq 4, .goto_w 3]
def bk_205_3 : List Instr := [.iinc 5 1, .goto 2]
def bk_205_4 : List Instr := [.aload 0, .getfield 397, .iload 4, .iload 5, .iastore, .iload 1, .sipush 1, .iload 5, .ishl, .sipush (-1), .ixor, .iand, .istore 1, .iload 3, .aload 0, .getfield 384, .sipush 146, .sipush 5, .iload 4, .imul, .iadd, .iload 5, .iadd, .iaload, .isub, .istore 3, .iinc 4 1, .goto 1]
def bk_205_5 : List Instr := [.iload 2, .ireturn]
def bk_206_0 : List Instr := [.iload 1, .sipush 0, .sipush 4, .invokestatic 143, .ifCond .ne 1, .aload 0, .sipush (-100001), .invokevirtual 142, .ireturn]
def bk_206_1 : List Instr := [.aload 0, .invokevirtual 205, .istore 2, .aload 0, .getfield 397, .iload 1, .iaload, .ireturn]
def bk_207_0 : List Instr := [.iload 1, .sipush 0, .sipush 4, .invokestatic 143, .ifCond .ne 1, .aload 0, .sipush (-100001), .invokevirtual 142, .ireturn]
def bk_207_1 : List Instr := [.aload 0, .invokevirtual 205, .aload 0, .getfield 384, .sipush 146, .sipush 5, .iload 1, .imul, .iadd, .aload 0, .getfield 397, .iload 1, .iaload, .iadd, .iaload, .isub, .istore 2, .aload 0, .sipush 0, .sipush 31, .iload 1, .invokevirtual 204, .iload 2, .isub, .ireturn]
def bk_208_0 : List Instr := [.aload 0, .invokevirtual 205, .ireturn]
def bk_209_0 : List Instr := [.iload 1, .sipush 0, .sipush 3, .invokestatic 143, .ifCond .ne 1, .aload 0, .sipush (-100001), .invokevirtual 142, .ireturn]
def bk_209_1 : List Instr := [.aload 0, .invokevirtual 147, .aload 0, .getfield 384, .sipush 4, .iaload, .istore 2, .aload 0, .getfield 384, .sipush 4, .iload 1, .iastore, .iload 2, .ireturn]
def bk_210_0 : List Instr := [.aload 0, .iload 1, .invokevirtual 145, .ifCond .ne 1, .aload 0, .sipush (-100001), .invokevirtual 142, .ireturn]
def bk_210_1 : List Instr := [.aload 0, .invokevirtual 147, .aload 0, .sipush 64, .iload 1, .iadd, .iload 2, .ifCond .eq 2, .sipush 8, .goto 3]
def bk_210_2 : List Instr := [.sipush 0, .goto_w 3]
def bk_210_3 : List Instr := [.iadd, .invokevirtual 172, .aload 0, .getfield 384, .sipush 8, .iaload, .ireturn]
def bk_211_0 : List Instr := [.aload 0, .iload 1, .invokevirtual 145, .ifCond .eq 1, .iload 2, .sipush 0, .sipush 3, .invokestatic 143, .ifCond .eq 1, .iload 3, .sipush 0, .sipush 9999, .invokestatic 143, .ifCond .ne 2, .goto_w 1]
def bk_211_1 : List Instr := [.aload 0, .sipush (-100001), .invokevirtual 142, .ireturn]
def bk_211_2 : List Instr := [.sipush (-1), .istore 4, .sipush 0, .istore 5, .goto_w 3]
def bk_211_3 : List Instr := [.iload 5, .aload 0, .getfield 384, .sipush 8, .iaload, .if_icmp .ge 6, .aload 0, .getfield 384, .sipush 171, .iload 5, .iadd, .iaload, .sipush 64, .iload 1, .iadd, .if_icmp .ne 4, .iload 5, .goto 5]
def bk_211_4 : List Instr := [.iload 4, .goto_w 5]
def bk_211_5 : List Instr := [.istore 4, .iinc 5 1, .goto 3]
def bk_211_6 : List Instr := [.iload 4, .sipush 1, .iadd, .istore 5, .goto_w 7]
def bk_211_7 : List Instr := [.iload 4, .ifCond .lt 8, .iload 5, .aload 0, .getfield 384, .sipush 8, .iaload, .if_icmp .ge 8, .aload 0, .getfield 384, .sipush 171, .iload 5, .iadd, .iaload, .sipush 72, .iload 1, .iadd, .if_icmp .eq 8, .iinc 5 1, .goto 7]
def bk_211_8 : List Instr := [.iload 4, .ifCond .lt 9, .iload 5, .aload 0, .getfield 384, .sipush 8, .iaload, .if_icmp .ne 10, .goto_w 9]
def bk_211_9 : List Instr := [.aload 0, .sipush (-100006), .invokevirtual 142, .ireturn]
def bk_211_10 : List Instr := [.sipush 4, .newarray .int, .astore 6, .sipush 0, .istore 7, .iload 4, .istore 8, .goto_w 11]
def bk_211_11 : List Instr := [.iload 8, .iload 5, .if_icmp .ge 13, .aload 0, .getfield 384, .sipush 171, .iload 8, .iadd, .iaload, .istore 9, .iload 9, .sipush 64, .if_icmp .ge 12, .iload 9, .sipush 8, .irem, .iload 1, .if_icmp .ne 12, .aload 6, .iload 9, .sipush 8, .idiv, .dup2, .iaload, .sipush 1, .iadd, .iastore, .iinc 7 1, .goto_w 12]
def bk_211_12 : List Instr := [.iinc 8 1, .goto 11]
def bk_211_13 : List Instr := [.iload 7, .ifCond .ne 14, .aload 0, .sipush (-100006), .invokevirtual 142, .ireturn]
def bk_211_14 : List Instr := [.sipush 0, .istore 8, .sipush (-1), .istore 9, .sipush 3, .istore 10, .goto_w 15]
def bk_211_15 : List Instr := [.iload 10, .ifCond .lt 18, .iload 8, .iload 3, .aload 6, .iload 10, .iaload, .imul, .iload 7, .idiv, .iadd, .istore 8, .aload 6, .iload 10, .iaload, .ifCond .le 16, .iload 10, .goto 17]
def bk_211_16 : List Instr := [.iload 9, .goto_w 17]
def bk_211_17 : List Instr := [.istore 9, .iinc 10 (-1), .goto 15]
def bk_211_18 : List Instr := [.iload 3, .aload 6, .iload 2, .iaload, .imul, .iload 7, .idiv, .iload 2, .iload 9, .if_icmp .ne 19, .iload 3, .iload 8, .isub, .goto 20]
def bk_211_19 : List Instr := [.sipush 0, .goto_w 20]
def bk_211_20 : List Instr := [.iadd, .ireturn]
def bk_212_0 : List Instr := [.iload 0, .sipush 1, .sipush 6, .invokestatic 143, .ifCond .ne 1, .iload 0, .sipush 10, .sipush 33, .invokestatic 143, .ifCond .ne 1, .iload 0, .sipush 40, .sipush 44, .invokestatic 143, .ifCond .eq 2, .goto_w 1]
def bk_212_1 : List Instr := [.sipush 1, .goto 3]
def bk_212_2 : List Instr := [.sipush 0, .goto_w 3]
def bk_212_3 : List Instr := [.ireturn]
def bk_213_0 : List Instr := [.iload 1, .invokestatic 230, .ifCond .ne 1, .aload 0, .sipush (-100001), .invokevirtual 142, .ireturn]
def bk_213_1 : List Instr := [.aload 0, .getfield 388, .iload 1, .iaload, .ifCond .ne 2, .aload 0, .sipush (-100002), .invokevirtual 142, .ireturn]
def bk_213_2 : List Instr := [.aload 0, .getfield 389, .iload 1, .iaload, .sipush 16, .if_icmp .le 3, .aload 0, .sipush (-100003), .invokevirtual 142, .ireturn]
def bk_213_3 : List Instr := [.sipush 0, .istore 2, .goto_w 4]
def bk_213_4 : List Instr := [.iload 2, .aload 0, .getfield 389, .iload 1, .iaload, .if_icmp .ge 6, .aload 0, .getfield 390, .sipush 20, .iload 1, .imul, .iload 2, .iadd, .iaload, .invokestatic 212, .ifCond .ne 5, .aload 0, .sipush (-100001), .invokevirtual 142, .ireturn]
def bk_213_5 : List Instr := [.iinc 2 1, .goto 4]
def bk_213_6 : List Instr := [.aload 0, .invokevirtual 147, .aload 0, .getfield 384, .sipush 9, .aload 0, .getfield 389, .iload 1, .iaload, .iastore, .sipush 0, .istore 2, .goto_w 7]
def bk_213_7 : List Instr := [.iload 2, .aload 0, .getfield 389, .iload 1, .iaload, .if_icmp .ge 8, .aload 0, .getfield 384, .sipush 231, .iload 2, .iadd, .aload 0, .getfield 390, .sipush 20, .iload 1, .imul, .iload 2, .iadd, .iaload, .iastore, .iinc 2 1, .goto 7]
def bk_213_8 : List Instr := [.aload 0, .getfield 389, .iload 1, .iaload, .ireturn]
def bk_214_0 : List Instr := [.sipush 0, .istore 1, .sipush 0, .istore 2, .goto_w 1]
def bk_214_1 : List Instr := [.iload 2, .aload 0, .getfield 384, .sipush 9, .iaload, .if_icmp .ge 7, .aload 0, .getfield 384, .sipush 231, .iload 2, .iadd, .iaload, .istore 3, .iload 3, .sipush 40, .if_icmp .ge 2, .sipush 0, .goto 4]
def bk_214_2 : List Instr := [.iload 3, .sipush 42, .if_icmp .ne 3, .sipush 1, .goto 4]
def bk_214_3 : List Instr := [.sipush 2, .goto_w 4]
def bk_214_4 : List Instr := [.istore 4, .iload 1, .iload 4, .if_icmp .lt 5, .iload 3, .sipush 40, .if_icmp .ge 6, .iload 1, .sipush 5, .if_icmp .ne 6, .goto_w 5]
def bk_214_5 : List Instr := [.iload 2, .ireturn]
def bk_214_6 : List Instr := [.iload 1, .sipush 1, .iload 4, .isub, .iadd, .istore 1, .iinc 2 1, .goto 1]
def bk_214_7 : List Instr := [.iload 1, .sipush 1, .if_icmp .eq 8, .aload 0, .getfield 384, .sipush 9, .iaload, .ifCond .ne 9, .goto_w 8]
def bk_214_8 : List Instr := [.sipush (-1), .goto 10]
def bk_214_9 : List Instr := [.aload 0, .getfield 384, .sipush 9, .iaload, .goto_w 10]
def bk_214_10 : List Instr := [.ireturn]
def bk_215_0 : List Instr := [.aload 0, .invokevirtual 214, .ireturn]
def bk_216_0 : List Instr := [.iload 1, .tableswitch 7 1 6 #[1, 2, 3, 4, 5, 6]]
def bk_216_1 : List Instr := [.iload 4, .ireturn]
def bk_216_2 : List Instr := [.aload 0, .getfield 384, .sipush 91, .iload 2, .iadd, .iaload, .ireturn]
def bk_216_3 : List Instr := [.aload 0, .getfield 384, .sipush 107, .iload 2, .iadd, .iaload, .ireturn]
def bk_216_4 : List Instr := [.iload 3, .ireturn]
def bk_216_5 : List Instr := [.aload 0, .getfield 384, .sipush 11, .iload 3, .iadd, .iaload, .ireturn]
def bk_216_6 : List Instr := [.aload 0, .getfield 384, .sipush 4, .iaload, .ireturn]
def bk_216_7 : List Instr := [.iload 1, .sipush 10, .isub, .ireturn]
def bk_217_0 : List Instr := [.iload 0, .sipush 40, .if_icmp .ne 2, .iload 1, .iload 2, .if_icmp .ge 1, .sipush 1, .goto 9]
def bk_217_1 : List Instr := [.sipush 0, .goto 9]
def bk_217_2 : List Instr := [.iload 0, .sipush 41, .if_icmp .ne 4, .iload 1, .iload 2, .if_icmp .ne 3, .sipush 1, .goto 9]
def bk_217_3 : List Instr := [.sipush 0, .goto 9]
def bk_217_4 : List Instr := [.iload 0, .sipush 43, .if_icmp .ne 6, .iload 1, .ifCond .eq 5, .iload 2, .ifCond .eq 5, .sipush 1, .goto 9]
def bk_217_5 : List Instr := [.sipush 0, .goto 9]
def bk_217_6 : List Instr := [.iload 1, .ifCond .ne 7, .iload 2, .ifCond .eq 8, .goto_w 7]
def bk_217_7 : List Instr := [.sipush 1, .goto 9]
def bk_217_8 : List Instr := [.sipush 0, .goto_w 9]
def bk_217_9 : List Instr := [.ireturn]
def bk_218_0 : List Instr := [.aload 0, .getfield 384, .sipush 9, .iaload, .ifCond .ne 1, .sipush 1, .ireturn]
def bk_218_1 : List Instr := [.aload 0, .invokevirtual 214, .ifCond .lt 2, .sipush 0, .ireturn]
def bk_218_2 : List Instr := [.sipush 0, .istore 4, .sipush 0, .istore 5, .goto_w 3]
def bk_218_3 : List Instr := [.iload 5, .aload 0, .getfield 384, .sipush 9, .iaload, .if_icmp .ge 11, .aload 0, .getfield 384, .sipush 231, .iload 5, .iadd, .iaload, .istore 6, .iload 6, .sipush 40, .if_icmp .ge 4, .aload 0, .getfield 398, .iload 4, .aload 0, .iload 6, .iload 1, .iload 2, .iload 3, .invokevirtual 216, .iastore, .iinc 4 1, .goto 10]
def bk_218_4 : List Instr := [.iload 6, .sipush 42, .if_icmp .ne 7, .aload 0, .getfield 398, .iload 4, .sipush 1, .isub, .aload 0, .getfield 398, .iload 4, .sipush 1, .isub, .iaload, .ifCond .ne 5, .sipush 1, .goto 6]
def bk_218_5 : List Instr := [.sipush 0, .goto_w 6]
def bk_218_6 : List Instr := [.iastore, .goto 10]
def bk_218_7 : List Instr := [.iinc 4 (-1), .aload 0, .getfield 398, .iload 4, .sipush 1, .isub, .iload 6, .aload 0, .getfield 398, .iload 4, .sipush 1, .isub, .iaload, .aload 0, .getfield 398, .iload 4, .iaload, .invokestatic 217, .ifCond .eq 8, .sipush 1, .goto 9]
def bk_218_8 : List Instr := [.sipush 0, .goto_w 9]
def bk_218_9 : List Instr := [.iastore, .goto_w 10]
def bk_218_10 : List Instr := [.iinc 5 1, .goto 3]
def bk_218_11 : List Instr := [.aload 0, .getfield 398, .sipush 0, .iaload, .ifCond .eq 12, .sipush 1, .goto 13]
def bk_218_12 : List Instr := [.sipush 0, .goto_w 13]
def bk_218_13 : List Instr := [.ireturn]
def bk_219_0 : List Instr := [.aload 0, .iload 1, .invokevirtual 145, .ifCond .eq 1, .aload 0, .iload 2, .invokevirtual 144, .ifCond .eq 1, .iload 3, .invokestatic 146, .ifCond .ne 2, .goto_w 1]
def bk_219_1 : List Instr := [.aload 0, .sipush (-100001), .invokevirtual 142, .ireturn]
def bk_219_2 : List Instr := [.aload 0, .iload 1, .iload 2, .iload 3, .invokevirtual 218, .ifCond .eq 3, .sipush 1, .goto 4]
def bk_219_3 : List Instr := [.sipush 0, .goto_w 4]
def bk_219_4 : List Instr := [.ireturn]
def bk_220_0 : List Instr := [.aload 0, .iload 1, .invokevirtual 144, .ifCond .eq 1, .iload 2, .sipush 0, .sipush 200, .invokestatic 143, .ifCond .ne 2, .goto_w 1]
def bk_220_1 : List Instr := [.aload 0, .sipush (-100001), .invokevirtual 142, .ireturn]
def bk_220_2 : List Instr := [.aload 0, .invokevirtual 147, .aload 0, .getfield 384, .sipush 36, .iload 1, .iadd, .iaload, .istore 3, .aload 0, .getfield 384, .sipush 36, .iload 1, .iadd, .iload 2, .iastore, .iload 3, .ireturn]
def bk_221_0 : List Instr := [.iload 1, .sipush 1, .sipush 30, .invokestatic 143, .ifCond .ne 1, .aload 0, .sipush (-100001), .invokevirtual 142, .ireturn]
def bk_221_1 : List Instr := [.aload 0, .invokevirtual 147, .aload 0, .getfield 384, .sipush 5, .iaload, .istore 2, .aload 0, .getfield 384, .sipush 5, .iload 1, .iastore, .iload 2, .ireturn]
def bk_222_0 : List Instr := [.aload 0, .getfield 384, .sipush 36, .iload 1, .iadd, .iaload, .istore 2, .aload 0, .getfield 384, .sipush 11, .iload 1, .iadd, .iaload, .sipush 2, .if_icmp .ne 1, .sipush 0, .iload 2, .sipush 60, .isub, .invokestatic 236, .goto 2]
def bk_222_1 : List Instr := [.iload 2, .goto_w 2]
def bk_222_2 : List Instr := [.ireturn]
def bk_223_0 : List Instr := [.iload 2, .aload 0, .getfield 399, .if_icmp .gt 1, .iload 2, .aload 0, .getfield 399, .if_icmp .ne 3, .iload 1, .aload 0, .getfield 400, .if_icmp .ge 3, .goto_w 1]
def bk_223_1 : List Instr := [.aload 0, .iload 2, .putfield 399, .aload 0, .iload 1, .putfield 400, .sipush 0, .istore 3, .goto_w 2]
def bk_223_2 : List Instr := [.iload 3, .iload 1, .if_icmp .ge 3, .aload 0, .getfield 401, .iload 3, .aload 0, .getfield 402, .iload 3, .iaload, .iastore, .iinc 3 1, .goto 2]
def bk_223_3 : List Instr := [.sipush 0, .istore 3, .goto_w 4]
def bk_223_4 : List Instr := [.iload 3, .aload 0, .getfield 384, .sipush 0, .iaload, .if_icmp .ge 6, .aload 0, .getfield 384, .sipush 46, .iload 3, .iadd, .iaload, .aload 0, .getfield 403, .iload 3, .iaload, .isub, .istore 4, .iload 4, .ifCond .le 5, .aload 0, .getfield 384, .sipush 31, .iload 3, .iadd, .iaload, .ifCond .ne 5, .aload 0, .iload 3, .invokevirtual 222, .iload 1, .sipush 1, .iadd, .aload 0, .getfield 384, .sipush 5, .iaload, .imul, .if_icmp .lt 5, .aload 0, .getfield 402, .iload 1, .aload 0, .iload 3, .iload 4, .sipush 1, .isub, .invokevirtual 152, .iastore, .aload 0, .getfield 403, .iload 3, .dup2, .iaload, .sipush 1, .iadd, .iastore, .aload 0, .iload 1, .sipush 1, .iadd, .iload 2, .aload 0, .getfield 384, .sipush 131, .aload 0, .getfield 402, .iload 1, .iaload, .iadd, .iaload, .iadd, .invokevirtual 223, .aload 0, .getfield 403, .iload 3, .dup2, .iaload, .sipush 1, .isub, .iastore, .goto_w 5]
def bk_223_5 : List Instr := [.iinc 3 1, .goto 4]
def bk_223_6 : List Instr := [.return_]
def bk_224_0 : List Instr := [.aload 0, .sipush (-1), .putfield 399, .aload 0, .sipush 0, .putfield 400, .aload 0, .sipush 0, .sipush 0, .invokevirtual 223, .return_]
def bk_225_0 : List Instr := [.aload 0, .invokevirtual 224, .aload 0, .getfield 399, .ireturn]
def bk_226_0 : List Instr := [.iload 1, .ifCond .ge 1, .aload 0, .sipush (-100001), .invokevirtual 142, .ireturn]
def bk_226_1 : List Instr := [.aload 0, .invokevirtual 224, .iload 1, .aload 0, .getfield 400, .if_icmp .ge 2, .aload 0, .getfield 401, .iload 1, .iaload, .goto 3]
def bk_226_2 : List Instr := [.aload 0, .sipush (-100006), .invokevirtual 142, .goto_w 3]
def bk_226_3 : List Instr := [.ireturn]
def bk_227_0 : List Instr := [.aload 0, .iload 1, .invokevirtual 145, .ifCond .eq 1, .iload 2, .invokestatic 146, .ifCond .ne 2, .goto_w 1]
def bk_227_1 : List Instr := [.aload 0, .sipush (-100001), .invokevirtual 142, .ireturn]
def bk_227_2 : List Instr := [.aload 0, .getfield 384, .sipush 10, .iaload, .sipush 30, .if_icmp .ne 3, .aload 0, .sipush (-100005), .invokevirtual 142, .ireturn]
def bk_227_3 : List Instr := [.aload 0, .invokevirtual 147, .aload 0, .getfield 384, .sipush 247, .aload 0, .getfield 384, .sipush 10, .iaload, .iadd, .iload 1, .sipush 8, .iload 2, .imul, .iadd, .iload 3, .ifCond .eq 4, .sipush 256, .goto 5]
def bk_227_4 : List Instr := [.sipush 0, .goto_w 5]
def bk_227_5 : List Instr := [.iadd, .iastore, .aload 0, .getfield 384, .sipush 10, .dup2, .iaload, .sipush 1, .iadd, .iastore, .aload 0, .getfield 384, .sipush 10, .iaload, .ireturn]
def bk_228_0 : List Instr := [.sipush (-1), .istore 4, .sipush 0, .istore 5, .sipush 0, .istore 6, .goto_w 1]
def bk_228_1 : List Instr := [.iload 6, .iload 3, .if_icmp .ge 5, .aload 0, .getfield 384, .sipush 247, .iload 6, .iadd, .iaload, .istore 7, .iload 7, .sipush 8, .idiv, .sipush 32, .irem, .istore 8, .iload 7, .sipush 8, .irem, .iload 1, .if_icmp .ne 4, .iload 8, .iload 2, .if_icmp .gt 4, .iload 8, .iload 4, .if_icmp .lt 4, .iload 8, .istore 4, .iload 7, .sipush 256, .if_icmp .lt 2, .sipush 1, .goto 3]
def bk_228_2 : List Instr := [.sipush 0, .goto_w 3]
def bk_228_3 : List Instr := [.istore 5, .goto_w 4]
def bk_228_4 : List Instr := [.iinc 6 1, .goto 1]
def bk_228_5 : List Instr := [.iload 5, .ireturn]
def bk_229_0 : List Instr := [.aload 0, .iload 1, .invokevirtual 145, .ifCond .eq 1, .iload 2, .invokestatic 146, .ifCond .eq 1, .iload 3, .sipush 0, .aload 0, .getfield 384, .sipush 10, .iaload, .invokestatic 143, .ifCond .ne 2, .goto_w 1]
def bk_229_1 : List Instr := [.aload 0, .sipush (-100001), .invokevirtual 142, .ireturn]
def bk_229_2 : List Instr := [.aload 0, .iload 1, .iload 2, .iload 3, .invokevirtual 228, .ifCond .eq 3, .sipush 1, .goto 4]
def bk_229_3 : List Instr := [.sipush 0, .goto_w 4]
def bk_229_4 : List Instr := [.ireturn]
def bk_230_0 : List Instr := [.iload 0, .sipush 0, .sipush 3, .invokestatic 143, .ireturn]
def bk_231_0 : List Instr := [.iload 1, .invokestatic 230, .ifCond .eq 1, .iload 2, .ifCond .eq 2, .iload 2, .sipush 8, .if_icmp .eq 2, .iload 2, .sipush 16, .if_icmp .eq 2, .iload 2, .sipush 32, .if_icmp .eq 2, .goto_w 1]
def bk_231_1 : List Instr := [.aload 0, .sipush (-100001), .invokevirtual 142, .ireturn]
def bk_231_2 : List Instr := [.iload 3, .ifCond .ge 3, .aload 0, .sipush (-100003), .invokevirtual 142, .ireturn]
def bk_231_3 : List Instr := [.iload 3, .sipush 20, .if_icmp .le 4, .aload 0, .sipush (-100001), .invokevirtual 142, .ireturn]
def bk_231_4 : List Instr := [.aload 0, .getfield 388, .iload 1, .iload 2, .iastore, .aload 0, .getfield 389, .iload 1, .iload 2, .ifCond .ne 5, .sipush 0, .goto 6]
def bk_231_5 : List Instr := [.iload 3, .goto_w 6]
def bk_231_6 : List Instr := [.iastore, .sipush 0, .istore 4, .goto_w 7]
def bk_231_7 : List Instr := [.iload 4, .sipush 20, .if_icmp .ge 8, .aload 0, .getfield 390, .sipush 20, .iload 1, .imul, .iload 4, .iadd, .sipush 0, .iastore, .iinc 4 1, .goto 7]
def bk_231_8 : List Instr := [.aload 0, .getfield 389, .iload 1, .iaload, .ireturn]
def bk_232_0 : List Instr := [.iload 1, .invokestatic 230, .ifCond .ne 1, .aload 0, .sipush (-100001), .invokevirtual 142, .ireturn]
def bk_232_1 : List Instr := [.aload 0, .getfield 388, .iload 1, .iaload, .ifCond .ne 2, .aload 0, .sipush (-100002), .invokevirtual 142, .ireturn]
def bk_232_2 : List Instr := [.iload 2, .sipush 0, .aload 0, .getfield 389, .iload 1, .iaload, .sipush 1, .isub, .invokestatic 143, .ifCond .ne 3, .aload 0, .sipush (-100001), .invokevirtual 142, .ireturn]
def bk_232_3 : List Instr := [.sipush 32, .aload 0, .getfield 388, .iload 1, .iaload, .isub, .istore 4, .aload 0, .getfield 390, .sipush 20, .iload 1, .imul, .iload 2, .iadd, .iload 3, .iload 4, .ishl, .iload 4, .ishr, .iastore, .sipush 0, .ireturn]
def bk_233_0 : List Instr := [.iload 1, .invokestatic 230, .ifCond .eq 1, .iload 3, .invokestatic 230, .ifCond .ne 2, .goto_w 1]
def bk_233_1 : List Instr := [.aload 0, .sipush (-100001), .invokevirtual 142, .ireturn]
def bk_233_2 : List Instr := [.aload 0, .getfield 388, .iload 1, .iaload, .ifCond .eq 3, .aload 0, .getfield 388, .iload 3, .iaload, .ifCond .ne 4, .goto_w 3]
def bk_233_3 : List Instr := [.aload 0, .sipush (-100002), .invokevirtual 142, .ireturn]
def bk_233_4 : List Instr := [.aload 0, .getfield 388, .iload 1, .iaload, .aload 0, .getfield 388, .iload 3, .iaload, .if_icmp .eq 5, .aload 0, .sipush (-100004), .invokevirtual 142, .ireturn]
def bk_233_5 : List Instr := [.iload 2, .ifCond .lt 6, .iload 4, .ifCond .lt 6, .iload 5, .ifCond .lt 6, .iload 2, .i2l, .iload 5, .i2l, .ladd, .aload 0, .getfield 389, .iload 1, .iaload, .i2l, .lcmp, .ifCond .gt 6, .iload 4, .i2l, .iload 5, .i2l, .ladd, .aload 0, .getfield 389, .iload 3, .iaload, .i2l, .lcmp, .ifCond .le 7, .goto_w 6]
def bk_233_6 : List Instr := [.aload 0, .sipush (-100001), .invokevirtual 142, .ireturn]
def bk_233_7 : List Instr := [.sipush 0, .istore 6, .goto_w 8]
def bk_233_8 : List Instr := [.iload 6, .iload 5, .if_icmp .ge 9, .aload 0, .getfield 404, .iload 6, .aload 0, .getfield 390, .sipush 20, .iload 1, .imul, .iload 2, .iadd, .iload 6, .iadd, .iaload, .iastore, .iinc 6 1, .goto 8]
def bk_233_9 : List Instr := [.sipush 0, .istore 6, .goto_w 10]
def bk_233_10 : List Instr := [.iload 6, .iload 5, .if_icmp .ge 11, .aload 0, .getfield 390, .sipush 20, .iload 3, .imul, .iload 4, .iadd, .iload 6, .iadd, .aload 0, .getfield 404, .iload 6, .iaload, .iastore, .iinc 6 1, .goto 10]
def bk_233_11 : List Instr := [.iload 5, .ireturn]
def bk_234_0 : List Instr := [.iload 1, .sipush 0, .sipush 6, .invokestatic 143, .ifCond .ne 1, .aload 0, .sipush (-100001), .invokevirtual 142, .ireturn]
def bk_234_1 : List Instr := [.sipush 0, .istore 2, .sipush 0, .istore 3, .goto_w 2]
def bk_234_2 : List Instr := [.iload 3, .aload 0, .getfield 384, .sipush 0, .iaload, .if_icmp .ge 3, .iload 2, .aload 0, .getfield 384, .sipush 46, .iload 3, .iadd, .iaload, .iadd, .istore 2, .iinc 3 1, .goto 2]
def bk_234_3 : List Instr := [.iload 1, .tableswitch 10 0 5 #[4, 5, 6, 7, 8, 9]]
def bk_234_4 : List Instr := [.aload 0, .getfield 384, .sipush 0, .iaload, .ireturn]
def bk_234_5 : List Instr := [.aload 0, .getfield 384, .sipush 1, .iaload, .ireturn]
def bk_234_6 : List Instr := [.iload 2, .ireturn]
def bk_234_7 : List Instr := [.aload 0, .getfield 384, .sipush 6, .iaload, .ireturn]
def bk_234_8 : List Instr := [.aload 0, .getfield 384, .sipush 10, .iaload, .ireturn]
def bk_234_9 : List Instr := [.aload 0, .getfield 384, .sipush 8, .iaload, .ireturn]
def bk_234_10 : List Instr := [.aload 0, .getfield 387, .ireturn]
def bk_235_0 : List Instr := [.iload 0, .iload 0, .sipush 1, .iushr, .sipush 1431655765, .iand, .isub, .istore 0, .iload 0, .sipush 858993459, .iand, .iload 0, .sipush 2, .iushr, .sipush 858993459, .iand, .iadd, .istore 0, .iload 0, .iload 0, .sipush 4, .iushr, .iadd, .sipush 252645135, .iand, .istore 0, .iload 0, .iload 0, .sipush 8, .iushr, .iadd, .istore 0, .iload 0, .iload 0, .sipush 16, .iushr, .iadd, .istore 0, .iload 0, .sipush 63, .iand, .ireturn]
def bk_236_0 : List Instr := [.iload 0, .iload 1, .if_icmp .lt 1, .iload 0, .goto 2]
def bk_236_1 : List Instr := [.iload 1, .goto_w 2]
def bk_236_2 : List Instr := [.ireturn]
def bk_237_0 : List Instr := [.iload 0, .iload 1, .if_icmp .gt 1, .iload 0, .goto 2]
def bk_237_1 : List Instr := [.iload 1, .goto_w 2]
def bk_237_2 : List Instr := [.ireturn]
def bk_238_0 : List Instr := [.iload 1, .iload 2, .if_icmp .le 1]
def bk_238_1 : List Instr := [.iload 1, .ifCond .ge 2]
def bk_238_2 : List Instr := [.iload 2, .iload 0, .if_icmp .le 3]
def bk_238_3 : List Instr := [.return_]
def bk_239_0 : List Instr := [.sipush 0, .istore 2, .aload 0, .arraylength, .istore 3, .goto_w 1]
def bk_239_1 : List Instr := [.iload 2, .iload 3, .if_icmp .ge 2, .aload 0, .iload 2, .iload 1, .iastore, .iinc 2 1, .goto 1]
def bk_239_2 : List Instr := [.return_]
def bk_240_0 : List Instr := [.aload 0, .arraylength, .iload 1, .iload 2, .invokestatic 238, .iload 1, .istore 4, .goto_w 1]
def bk_240_1 : List Instr := [.iload 4, .iload 2, .if_icmp .ge 2, .aload 0, .iload 4, .iload 3, .iastore, .iinc 4 1, .goto 1]
def bk_240_2 : List Instr := [.return_]
def bk_241_0 : List Instr := [.new 11, .dup, .invokespecial 84, .astore 1, .new 12, .dup, .invokespecial 141, .astore 2, .sipush 0, .istore 3, .goto_w 1]
def bk_241_1 : List Instr := [.ret 1]
def bk_241_2 : List Instr := [.aload 1, .aload 0, .iload 3, .sipush 1, .iadd, .iaload, .aload 0, .iload 3, .sipush 2, .iadd, .iaload, .aload 0, .iload 3, .sipush 3, .iadd, .iaload, .aload 0, .iload 3, .sipush 4, .iadd, .iaload, .invokevirtual 85, .aload 2, .aload 0, .iload 3, .sipush 1, .iadd, .iaload, .aload 0, .iload 3, .sipush 2, .iadd, .iaload, .aload 0, .iload 3, .sipush 3, .iadd, .iaload, .aload 0, .iload 3, .sipush 4, .iadd, .iaload, .invokevirtual 149, .if_icmp .eq 61, .sipush 0, .ireturn]
def bk_241_3 : List Instr := [.aload 1, .aload 0, .iload 3, .sipush 1, .iadd, .iaload, .aload 0, .iload 3, .sipush 2, .iadd, .iaload, .invokevirtual 86, .aload 2, .aload 0, .iload 3, .sipush 1, .iadd, .iaload, .aload 0, .iload 3, .sipush 2, .iadd, .iaload, .invokevirtual 151, .if_icmp .eq 61, .sipush 0, .ireturn]
def bk_241_4 : List Instr := [.aload 1, .aload 0, .iload 3, .sipush 1, .iadd, .iaload, .aload 0, .iload 3, .sipush 2, .iadd, .iaload, .invokevirtual 87, .aload 2, .aload 0, .iload 3, .sipush 1, .iadd, .iaload, .aload 0, .iload 3, .sipush 2, .iadd, .iaload, .invokevirtual 154, .if_icmp .eq 61, .sipush 0, .ireturn]
def bk_241_5 : List Instr := [.aload 1, .aload 0, .iload 3, .sipush 1, .iadd, .iaload, .aload 0, .iload 3, .sipush 2, .iadd, .iaload, .ifCond .eq 6, .sipush 1, .goto 7]
def bk_241_6 : List Instr := [.sipush 0, .goto_w 7]
def bk_241_7 : List Instr := [.invokevirtual 88, .aload 2, .aload 0, .iload 3, .sipush 1, .iadd, .iaload, .aload 0, .iload 3, .sipush 2, .iadd, .iaload, .ifCond .eq 8, .sipush 1, .goto 9]
def bk_241_8 : List Instr := [.sipush 0, .goto_w 9]
def bk_241_9 : List Instr := [.invokevirtual 155, .if_icmp .eq 61, .sipush 0, .ireturn]
def bk_241_10 : List Instr := [.aload 1, .aload 0, .iload 3, .sipush 1, .iadd, .iaload, .aload 0, .iload 3, .sipush 2, .iadd, .iaload, .aload 0, .iload 3, .sipush 3, .iadd, .iaload, .aload 0, .iload 3, .sipush 4, .iadd, .iaload, .aload 0, .iload 3, .sipush 5, .iadd, .iaload, .aload 0, .iload 3, .sipush 6, .iadd, .iaload, .invokevirtual 89, .aload 2, .aload 0, .iload 3, .sipush 1, .iadd, .iaload, .aload 0, .iload 3, .sipush 2, .iadd, .iaload, .aload 0, .iload 3, .sipush 3, .iadd, .iaload, .aload 0, .iload 3, .sipush 4, .iadd, .iaload, .aload 0, .iload 3, .sipush 5, .iadd, .iaload, .aload 0, .iload 3, .sipush 6, .iadd, .iaload, .invokevirtual 156, .if_icmp .eq 61, .sipush 0, .ireturn]
def bk_241_11 : List Instr := [.aload 1, .aload 0, .iload 3, .sipush 1, .iadd, .iaload, .aload 0, .iload 3, .sipush 2, .iadd, .iaload, .invokevirtual 90, .aload 2, .aload 0, .iload 3, .sipush 1, .iadd, .iaload, .aload 0, .iload 3, .sipush 2, .iadd, .iaload, .invokevirtual 159, .if_icmp .eq 61, .sipush 0, .ireturn]
def bk_241_12 : List Instr := [.aload 1, .aload 0, .iload 3, .sipush 1, .iadd, .iaload, .aload 0, .iload 3, .sipush 2, .iadd, .iaload, .aload 0, .iload 3, .sipush 3, .iadd, .iaload, .invokevirtual 91, .aload 2, .aload 0, .iload 3, .sipush 1, .iadd, .iaload, .aload 0, .iload 3, .sipush 2, .iadd, .iaload, .aload 0, .iload 3, .sipush 3, .iadd, .iaload, .invokevirtual 160, .if_icmp .eq 61, .sipush 0, .ireturn]
def bk_241_13 : List Instr := [.aload 1, .aload 0, .iload 3, .sipush 1, .iadd, .iaload, .aload 0, .iload 3, .sipush 2, .iadd, .iaload, .invokevirtual 92, .aload 2, .aload 0, .iload 3, .sipush 1, .iadd, .iaload, .aload 0, .iload 3, .sipush 2, .iadd, .iaload, .invokevirtual 161, .if_icmp .eq 61, .sipush 0, .ireturn]
def bk_241_14 : List Instr := [.aload 1, .aload 0, .iload 3, .sipush 1, .iadd, .iaload, .aload 0, .iload 3, .sipush 2, .iadd, .iaload, .invokevirtual 93, .aload 2, .aload 0, .iload 3, .sipush 1, .iadd, .iaload, .aload 0, .iload 3, .sipush 2, .iadd, .iaload, .invokevirtual 163, .if_icmp .eq 61, .sipush 0, .ireturn]
def bk_241_15 : List Instr := [.aload 1, .aload 0, .iload 3, .sipush 1, .iadd, .iaload, .aload 0, .iload 3, .sipush 2, .iadd, .iaload, .invokevirtual 94, .aload 2, .aload 0, .iload 3, .sipush 1, .iadd, .iaload, .aload 0, .iload 3, .sipush 2, .iadd, .iaload, .invokevirtual 169, .if_icmp .eq 61, .sipush 0, .ireturn]
def bk_241_16 : List Instr := [.aload 1, .aload 0, .iload 3, .sipush 1, .iadd, .iaload, .aload 0, .iload 3, .sipush 2, .iadd, .iaload, .invokevirtual 95, .aload 2, .aload 0, .iload 3, .sipush 1, .iadd, .iaload, .aload 0, .iload 3, .sipush 2, .iadd, .iaload, .invokevirtual 173, .if_icmp .eq 61, .sipush 0, .ireturn]
def bk_241_17 : List Instr := [.aload 1, .aload 0, .iload 3, .sipush 1, .iadd, .iaload, .invokevirtual 96, .aload 2, .aload 0, .iload 3, .sipush 1, .iadd, .iaload, .invokevirtual 174, .if_icmp .eq 61, .sipush 0, .ireturn]
def bk_241_18 : List Instr := [.aload 1, .invokevirtual 97, .aload 2, .invokevirtual 175, .if_icmp .eq 61, .sipush 0, .ireturn]
def bk_241_19 : List Instr := [.aload 1, .aload 0, .iload 3, .sipush 1, .iadd, .iaload, .invokevirtual 98, .aload 2, .aload 0, .iload 3, .sipush 1, .iadd, .iaload, .invokevirtual 176, .if_icmp .eq 61, .sipush 0, .ireturn]
def bk_241_20 : List Instr := [.aload 1, .aload 0, .iload 3, .sipush 1, .iadd, .iaload, .invokevirtual 99, .aload 2, .aload 0, .iload 3, .sipush 1, .iadd, .iaload, .invokevirtual 177, .if_icmp .eq 61, .sipush 0, .ireturn]
def bk_241_21 : List Instr := [.aload 1, .aload 0, .iload 3, .sipush 1, .iadd, .iaload, .invokevirtual 100, .aload 2, .aload 0, .iload 3, .sipush 1, .iadd, .iaload, .invokevirtual 182, .if_icmp .eq 61, .sipush 0, .ireturn]
def bk_241_22 : List Instr := [.aload 1, .aload 0, .iload 3, .sipush 1, .iadd, .iaload, .aload 0, .iload 3, .sipush 2, .iadd, .iaload, .invokevirtual 101, .aload 2, .aload 0, .iload 3, .sipush 1, .iadd, .iaload, .aload 0, .iload 3, .sipush 2, .iadd, .iaload, .invokevirtual 183, .if_icmp .eq 61, .sipush 0, .ireturn]
def bk_241_23 : List Instr := [.aload 1, .aload 0, .iload 3, .sipush 1, .iadd, .iaload, .aload 0, .iload 3, .sipush 2, .iadd, .iaload, .invokevirtual 102, .aload 2, .aload 0, .iload 3, .sipush 1, .iadd, .iaload, .aload 0, .iload 3, .sipush 2, .iadd, .iaload, .invokevirtual 184, .if_icmp .eq 61, .sipush 0, .ireturn]
def bk_241_24 : List Instr := [.aload 1, .aload 0, .iload 3, .sipush 1, .iadd, .iaload, .invokevirtual 103, .aload 2, .aload 0, .iload 3, .sipush 1, .iadd, .iaload, .invokevirtual 186, .if_icmp .eq 61, .sipush 0, .ireturn]
def bk_241_25 : List Instr := [.aload 1, .aload 0, .iload 3, .sipush 1, .iadd, .iaload, .invokevirtual 104, .aload 2, .aload 0, .iload 3, .sipush 1, .iadd, .iaload, .invokevirtual 188, .if_icmp .eq 61, .sipush 0, .ireturn]
def bk_241_26 : List Instr := [.aload 1, .invokevirtual 105, .aload 2, .invokevirtual 189, .if_icmp .eq 61, .sipush 0, .ireturn]
def bk_241_27 : List Instr := [.aload 1, .invokevirtual 106, .aload 2, .invokevirtual 193, .if_icmp .eq 61, .sipush 0, .ireturn]
def bk_241_28 : List Instr := [.aload 1, .aload 0, .iload 3, .sipush 1, .iadd, .iaload, .invokevirtual 107, .aload 2, .aload 0, .iload 3, .sipush 1, .iadd, .iaload, .invokevirtual 194, .if_icmp .eq 61, .sipush 0, .ireturn]
def bk_241_29 : List Instr := [.aload 1, .aload 0, .iload 3, .sipush 1, .iadd, .iaload, .invokevirtual 108, .aload 2, .aload 0, .iload 3, .sipush 1, .iadd, .iaload, .invokevirtual 195, .if_icmp .eq 61, .sipush 0, .ireturn]
def bk_241_30 : List Instr := [.aload 1, .invokevirtual 109, .aload 2, .invokevirtual 201, .if_icmp .eq 61, .sipush 0, .ireturn]
def bk_241_31 : List Instr := [.aload 1, .aload 0, .iload 3, .sipush 1, .iadd, .iaload, .invokevirtual 110, .aload 2, .aload 0, .iload 3, .sipush 1, .iadd, .iaload, .invokevirtual 202, .if_icmp .eq 61, .sipush 0, .ireturn]
def bk_241_32 : List Instr := [.aload 1, .aload 0, .iload 3, .sipush 1, .iadd, .iaload, .aload 0, .iload 3, .sipush 2, .iadd, .iaload, .aload 0, .iload 3, .sipush 3, .iadd, .iaload, .invokevirtual 111, .aload 2, .aload 0, .iload 3, .sipush 1, .iadd, .iaload, .aload 0, .iload 3, .sipush 2, .iadd, .iaload, .aload 0, .iload 3, .sipush 3, .iadd, .iaload, .invokevirtual 203, .if_icmp .eq 61, .sipush 0, .ireturn]
def bk_241_33 : List Instr := [.aload 1, .aload 0, .iload 3, .sipush 1, .iadd, .iaload, .invokevirtual 112, .aload 2, .aload 0, .iload 3, .sipush 1, .iadd, .iaload, .invokevirtual 206, .if_icmp .eq 61, .sipush 0, .ireturn]
def bk_241_34 : List Instr := [.aload 1, .aload 0, .iload 3, .sipush 1, .iadd, .iaload, .invokevirtual 113, .aload 2, .aload 0, .iload 3, .sipush 1, .iadd, .iaload, .invokevirtual 207, .if_icmp .eq 61, .sipush 0, .ireturn]
def bk_241_35 : List Instr := [.aload 1, .invokevirtual 114, .aload 2, .invokevirtual 208, .if_icmp .eq 61, .sipush 0, .ireturn]
def bk_241_36 : List Instr := [.aload 1, .aload 0, .iload 3, .sipush 1, .iadd, .iaload, .invokevirtual 115, .aload 2, .aload 0, .iload 3, .sipush 1, .iadd, .iaload, .invokevirtual 209, .if_icmp .eq 61, .sipush 0, .ireturn]
def bk_241_37 : List Instr := [.aload 1, .aload 0, .iload 3, .sipush 1, .iadd, .iaload, .aload 0, .iload 3, .sipush 2, .iadd, .iaload, .ifCond .eq 38, .sipush 1, .goto 39]
def bk_241_38 : List Instr := [.sipush 0, .goto_w 39]
def bk_241_39 : List Instr := [.invokevirtual 116, .aload 2, .aload 0, .iload 3, .sipush 1, .iadd, .iaload, .aload 0, .iload 3, .sipush 2, .iadd, .iaload, .ifCond .eq 40, .sipush 1, .goto 41]
def bk_241_40 : List Instr := [.sipush 0, .goto_w 41]
def bk_241_41 : List Instr := [.invokevirtual 210, .if_icmp .eq 61, .sipush 0, .ireturn]
def bk_241_42 : List Instr := [.aload 1, .aload 0, .iload 3, .sipush 1, .iadd, .iaload, .aload 0, .iload 3, .sipush 2, .iadd, .iaload, .aload 0, .iload 3, .sipush 3, .iadd, .iaload, .invokevirtual 117, .aload 2, .aload 0, .iload 3, .sipush 1, .iadd, .iaload, .aload 0, .iload 3, .sipush 2, .iadd, .iaload, .aload 0, .iload 3, .sipush 3, .iadd, .iaload, .invokevirtual 211, .if_icmp .eq 61, .sipush 0, .ireturn]
def bk_241_43 : List Instr := [.aload 1, .aload 0, .iload 3, .sipush 1, .iadd, .iaload, .invokevirtual 118, .aload 2, .aload 0, .iload 3, .sipush 1, .iadd, .iaload, .invokevirtual 213, .if_icmp .eq 61, .sipush 0, .ireturn]
def bk_241_44 : List Instr := [.aload 1, .invokevirtual 119, .aload 2, .invokevirtual 215, .if_icmp .eq 61, .sipush 0, .ireturn]
def bk_241_45 : List Instr := [.aload 1, .aload 0, .iload 3, .sipush 1, .iadd, .iaload, .aload 0, .iload 3, .sipush 2, .iadd, .iaload, .aload 0, .iload 3, .sipush 3, .iadd, .iaload, .invokevirtual 120, .aload 2, .aload 0, .iload 3, .sipush 1, .iadd, .iaload, .aload 0, .iload 3, .sipush 2, .iadd, .iaload, .aload 0, .iload 3, .sipush 3, .iadd, .iaload, .invokevirtual 219, .if_icmp .eq 61, .sipush 0, .ireturn]
def bk_241_46 : List Instr := [.aload 1, .aload 0, .iload 3, .sipush 1, .iadd, .iaload, .aload 0, .iload 3, .sipush 2, .iadd, .iaload, .invokevirtual 121, .aload 2, .aload 0, .iload 3, .sipush 1, .iadd, .iaload, .aload 0, .iload 3, .sipush 2, .iadd, .iaload, .invokevirtual 220, .if_icmp .eq 61, .sipush 0, .ireturn]
def bk_241_47 : List Instr := [.aload 1, .aload 0, .iload 3, .sipush 1, .iadd, .iaload, .invokevirtual 122, .aload 2, .aload 0, .iload 3, .sipush 1, .iadd, .iaload, .invokevirtual 221, .if_icmp .eq 61, .sipush 0, .ireturn]
def bk_241_48 : List Instr := [.aload 1, .invokevirtual 123, .aload 2, .invokevirtual 225, .if_icmp .eq 61, .sipush 0, .ireturn]
def bk_241_49 : List Instr := [.aload 1, .aload 0, .iload 3, .sipush 1, .iadd, .iaload, .invokevirtual 124, .aload 2, .aload 0, .iload 3, .sipush 1, .iadd, .iaload, .invokevirtual 226, .if_icmp .eq 61, .sipush 0, .ireturn]
def bk_241_50 : List Instr := [.aload 1, .aload 0, .iload 3, .sipush 1, .iadd, .iaload, .aload 0, .iload 3, .sipush 2, .iadd, .iaload, .aload 0, .iload 3, .sipush 3, .iadd, .iaload, .ifCond .eq 51, .sipush 1, .goto 52]
def bk_241_51 : List Instr := [.sipush 0, .goto_w 52]
def bk_241_52 : List Instr := [.invokevirtual 125, .aload 2, .aload 0, .iload 3, .sipush 1, .iadd, .iaload, .aload 0, .iload 3, .sipush 2, .iadd, .iaload, .aload 0, .iload 3, .sipush 3, .iadd, .iaload, .ifCond .eq 53, .sipush 1, .goto 54]
def bk_241_53 : List Instr := [.sipush 0, .goto_w 54]
def bk_241_54 : List Instr := [.invokevirtual 227, .if_icmp .eq 61, .sipush 0, .ireturn]
def bk_241_55 : List Instr := [.aload 1, .aload 0, .iload 3, .sipush 1, .iadd, .iaload, .aload 0, .iload 3, .sipush 2, .iadd, .iaload, .aload 0, .iload 3, .sipush 3, .iadd, .iaload, .invokevirtual 126, .aload 2, .aload 0, .iload 3, .sipush 1, .iadd, .iaload, .aload 0, .iload 3, .sipush 2, .iadd, .iaload, .aload 0, .iload 3, .sipush 3, .iadd, .iaload, .invokevirtual 229, .if_icmp .eq 61, .sipush 0, .ireturn]
def bk_241_56 : List Instr := [.aload 1, .aload 0, .iload 3, .sipush 1, .iadd, .iaload, .aload 0, .iload 3, .sipush 2, .iadd, .iaload, .aload 0, .iload 3, .sipush 3, .iadd, .iaload, .invokevirtual 127, .aload 2, .aload 0, .iload 3, .sipush 1, .iadd, .iaload, .aload 0, .iload 3, .sipush 2, .iadd, .iaload, .aload 0, .iload 3, .sipush 3, .iadd, .iaload, .invokevirtual 231, .if_icmp .eq 61, .sipush 0, .ireturn]
def bk_241_57 : List Instr := [.aload 1, .aload 0, .iload 3, .sipush 1, .iadd, .iaload, .aload 0, .iload 3, .sipush 2, .iadd, .iaload, .aload 0, .iload 3, .sipush 3, .iadd, .iaload, .invokevirtual 128, .aload 2, .aload 0, .iload 3, .sipush 1, .iadd, .iaload, .aload 0, .iload 3, .sipush 2, .iadd, .iaload, .aload 0, .iload 3, .sipush 3, .iadd, .iaload, .invokevirtual 232, .if_icmp .eq 61, .sipush 0, .ireturn]
def bk_241_58 : List Instr := [.aload 1, .aload 0, .iload 3, .sipush 1, .iadd, .iaload, .aload 0, .iload 3, .sipush 2, .iadd, .iaload, .aload 0, .iload 3, .sipush 3, .iadd, .iaload, .aload 0, .iload 3, .sipush 4, .iadd, .iaload, .aload 0, .iload 3, .sipush 5, .iadd, .iaload, .invokevirtual 129, .aload 2, .aload 0, .iload 3, .sipush 1, .iadd, .iaload, .aload 0, .iload 3, .sipush 2, .iadd, .iaload, .aload 0, .iload 3, .sipush 3, .iadd, .iaload, .aload 0, .iload 3, .sipush 4, .iadd, .iaload, .aload 0, .iload 3, .sipush 5, .iadd, .iaload, .invokevirtual 233, .if_icmp .eq 61, .sipush 0, .ireturn]
def bk_241_59 : List Instr := [.aload 1, .invokevirtual 130, .aload 2, .invokevirtual 148, .if_icmp .eq 61, .sipush 0, .ireturn]
def bk_241_60 : List Instr := [.aload 1, .aload 0, .iload 3, .sipush 1, .iadd, .iaload, .invokevirtual 131, .aload 2, .aload 0, .iload 3, .sipush 1, .iadd, .iaload, .invokevirtual 234, .if_icmp .eq 61, .sipush 0, .ireturn]
def bk_241_61 : List Instr := [.iinc 3 7, .goto 1]
def bk_241_62 : List Instr := [.sipush 1, .ireturn]
def bk_241_63 : List Instr := [.iload 3, .aload 0, .arraylength, .sipush 7, .isub, .if_icmp .gt 62, .aload 0, .iload 3, .iaload, .sipush 63, .iand, .tableswitch 61 0 46 #[2, 3, 4, 5, 10, 11, 12, 13, 14, 15, 16, 17, 18, 19, 20, 21, 22, 23, 24, 25, 26, 27, 28, 29, 30, 31, 32, 33, 34, 35, 36, 37, 42, 43, 44, 45, 46, 47, 48, 49, 50, 55, 56, 57, 58, 59, 60]]
def bk_0 : List (List Instr) := [bk_0_0]
def bk_1 : List (List Instr) := [bk_1_0, bk_1_1, bk_1_2, bk_1_3]
def bk_2 : List (List Instr) := [bk_2_0, bk_2_1, bk_2_2, bk_2_3, bk_2_4, bk_2_5, bk_2_6]
def bk_3 : List (List Instr) := [bk_3_0, bk_3_1, bk_3_2, bk_3_3, bk_3_4, bk_3_5, bk_3_6, bk_3_7, bk_3_8, bk_3_9, bk_3_10, bk_3_11]
def bk_4 : List (List Instr) := [bk_4_0, bk_4_1, bk_4_2, bk_4_3]
def bk_5 : List (List Instr) := [bk_5_0, bk_5_1, bk_5_2]
def bk_6 : List (List Instr) := [bk_6_0]
def bk_7 : List (List Instr) := [bk_7_0]
def bk_8 : List (List Instr) := [bk_8_0, bk_8_1, bk_8_2, bk_8_3]
def bk_9 : List (List Instr) := [bk_9_0]
def bk_10 : List (List Instr) := [bk_10_0]
def bk_11 : List (List Instr) := [bk_11_0, bk_11_1, bk_11_2]
def bk_12 : List (List Instr) := [bk_12_0, bk_12_1, bk_12_2]
def bk_13 : List (List Instr) := [bk_13_0, bk_13_1, bk_13_2]
def bk_14 : List (List Instr) := [bk_14_0, bk_14_1, bk_14_2]
def bk_15 : List (List Instr) := [bk_15_0]
def bk_16 : List (List Instr) := [bk_16_0]
def bk_17 : List (List Instr) := [bk_17_0]
def bk_18 : List (List Instr) := [bk_18_0]
def bk_19 : List (List Instr) := [bk_19_0, bk_19_1, bk_19_2, bk_19_3]
def bk_20 : List (List Instr) := [bk_20_0, bk_20_1, bk_20_2, bk_20_3]
def bk_21 : List (List Instr) := [bk_21_0, bk_21_1, bk_21_2]
def bk_22 : List (List Instr) := [bk_22_0, bk_22_1, bk_22_2]
def bk_23 : List (List Instr) := [bk_23_0]
def bk_24 : List (List Instr) := [bk_24_0, bk_24_1, bk_24_2]
def bk_25 : List (List Instr) := [bk_25_0, bk_25_1, bk_25_2, bk_25_3]
def bk_26 : List (List Instr) := [bk_26_0, bk_26_1, bk_26_2, bk_26_3, bk_26_4]
def bk_27 : List (List Instr) := [bk_27_0, bk_27_1, bk_27_2, bk_27_3, bk_27_4, bk_27_5]
def bk_28 : List (List Instr) := [bk_28_0, bk_28_1, bk_28_2, bk_28_3, bk_28_4, bk_28_5, bk_28_6, bk_28_7]
def bk_29 : List (List Instr) := [bk_29_0, bk_29_1]
def bk_30 : List (List Instr) := [bk_30_0]
def bk_31 : List (List Instr) := [bk_31_0]
def bk_32 : List (List Instr) := [bk_32_0]
def bk_33 : List (List Instr) := [bk_33_0, bk_33_1, bk_33_2]
def bk_34 : List (List Instr) := [bk_34_0, bk_34_1, bk_34_2, bk_34_3]
def bk_35 : List (List Instr) := [bk_35_0, bk_35_1, bk_35_2]
def bk_36 : List (List Instr) := [bk_36_0, bk_36_1, bk_36_2, bk_36_3, bk_36_4, bk_36_5, bk_36_6]
def bk_37 : List (List Instr) := [bk_37_0, bk_37_1, bk_37_2]
def bk_38 : List (List Instr) := [bk_38_0]
def bk_39 : List (List Instr) := [bk_39_0]
def bk_40 : List (List Instr) := [bk_40_0, bk_40_1, bk_40_2]
def bk_41 : List (List Instr) := [bk_41_0, bk_41_1, bk_41_2, bk_41_3, bk_41_4, bk_41_5]
def bk_42 : List (List Instr) := [bk_42_0, bk_42_1, bk_42_2, bk_42_3, bk_42_4]
def bk_43 : List (List Instr) := [bk_43_0]
def bk_44 : List (List Instr) := [bk_44_0]
def bk_45 : List (List Instr) := [bk_45_0, bk_45_1]
def bk_46 : List (List Instr) := [bk_46_0, bk_46_1, bk_46_2, bk_46_3, bk_46_4, bk_46_5, bk_46_6, bk_46_7, bk_46_8, bk_46_9, bk_46_10, bk_46_11, bk_46_12]
def bk_47 : List (List Instr) := [bk_47_0, bk_47_1, bk_47_2, bk_47_3]
def bk_48 : List (List Instr) := [bk_48_0, bk_48_1, bk_48_2, bk_48_3]
def bk_49 : List (List Instr) := [bk_49_0, bk_49_1, bk_49_2, bk_49_3, bk_49_4]
def bk_50 : List (List Instr) := [bk_50_0]
def bk_51 : List (List Instr) := [bk_51_0]
def bk_52 : List (List Instr) := [bk_52_0, bk_52_1, bk_52_2, bk_52_3, bk_52_4, bk_52_5, bk_52_6]
def bk_53 : List (List Instr) := [bk_53_0, bk_53_1, bk_53_2, bk_53_3, bk_53_4, bk_53_5, bk_53_6]
def bk_54 : List (List Instr) := [bk_54_0]
def bk_55 : List (List Instr) := [bk_55_0]
def bk_56 : List (List Instr) := [bk_56_0, bk_56_1, bk_56_2, bk_56_3, bk_56_4, bk_56_5, bk_56_6]
def bk_57 : List (List Instr) := [bk_57_0]
def bk_58 : List (List Instr) := [bk_58_0]
def bk_59 : List (List Instr) := [bk_59_0, bk_59_1, bk_59_2, bk_59_3, bk_59_4]
def bk_60 : List (List Instr) := [bk_60_0, bk_60_1, bk_60_2, bk_60_3, bk_60_4, bk_60_5, bk_60_6, bk_60_7]
def bk_61 : List (List Instr) := [bk_61_0]
def bk_62 : List (List Instr) := [bk_62_0, bk_62_1, bk_62_2, bk_62_3, bk_62_4, bk_62_5]
def bk_63 : List (List Instr) := [bk_63_0]
def bk_64 : List (List Instr) := [bk_64_0, bk_64_1, bk_64_2, bk_64_3]
def bk_65 : List (List Instr) := [bk_65_0, bk_65_1, bk_65_2, bk_65_3, bk_65_4, bk_65_5, bk_65_6, bk_65_7]
def bk_66 : List (List Instr) := [bk_66_0, bk_66_1, bk_66_2, bk_66_3]
def bk_67 : List (List Instr) := [bk_67_0, bk_67_1, bk_67_2, bk_67_3, bk_67_4, bk_67_5, bk_67_6, bk_67_7, bk_67_8, bk_67_9, bk_67_10]
def bk_68 : List (List Instr) := [bk_68_0, bk_68_1, bk_68_2]
def bk_69 : List (List Instr) := [bk_69_0, bk_69_1, bk_69_2, bk_69_3, bk_69_4, bk_69_5, bk_69_6, bk_69_7, bk_69_8, bk_69_9, bk_69_10, bk_69_11, bk_69_12, bk_69_13]
def bk_70 : List (List Instr) := [bk_70_0]
def bk_71 : List (List Instr) := [bk_71_0, bk_71_1, bk_71_2]
def bk_72 : List (List Instr) := [bk_72_0, bk_72_1, bk_72_2]
def bk_73 : List (List Instr) := [bk_73_0]
def bk_74 : List (List Instr) := [bk_74_0]
def bk_75 : List (List Instr) := [bk_75_0, bk_75_1, bk_75_2]
def bk_76 : List (List Instr) := [bk_76_0, bk_76_1, bk_76_2]
def bk_77 : List (List Instr) := [bk_77_0]
def bk_78 : List (List Instr) := [bk_78_0]
def bk_79 : List (List Instr) := [bk_79_0]
def bk_80 : List (List Instr) := [bk_80_0]
def bk_81 : List (List Instr) := [bk_81_0, bk_81_1, bk_81_2, bk_81_3]
def bk_82 : List (List Instr) := [bk_82_0, bk_82_1, bk_82_2, bk_82_3, bk_82_4, bk_82_5, bk_82_6, bk_82_7, bk_82_8]
def bk_83 : List (List Instr) := [bk_83_0, bk_83_1, bk_83_2, bk_83_3]
def bk_84 : List (List Instr) := [bk_84_0, bk_84_1, bk_84_2]
def bk_85 : List (List Instr) := [bk_85_0, bk_85_1, bk_85_2, bk_85_3]
def bk_86 : List (List Instr) := [bk_86_0, bk_86_1, bk_86_2, bk_86_3, bk_86_4]
def bk_87 : List (List Instr) := [bk_87_0, bk_87_1, bk_87_2, bk_87_3, bk_87_4, bk_87_5, bk_87_6, bk_87_7, bk_87_8, bk_87_9, bk_87_10]
def bk_88 : List (List Instr) := [bk_88_0, bk_88_1, bk_88_2, bk_88_3, bk_88_4, bk_88_5, bk_88_6]
def bk_89 : List (List Instr) := [bk_89_0, bk_89_1, bk_89_2, bk_89_3]
def bk_90 : List (List Instr) := [bk_90_0, bk_90_1, bk_90_2, bk_90_3, bk_90_4, bk_90_5]
def bk_91 : List (List Instr) := [bk_91_0, bk_91_1, bk_91_2]
def bk_92 : List (List Instr) := [bk_92_0, bk_92_1, bk_92_2, bk_92_3]
def bk_93 : List (List Instr) := [bk_93_0, bk_93_1, bk_93_2, bk_93_3, bk_93_4]
def bk_94 : List (List Instr) := [bk_94_0, bk_94_1, bk_94_2, bk_94_3]
def bk_95 : List (List Instr) := [bk_95_0, bk_95_1, bk_95_2, bk_95_3, bk_95_4, bk_95_5]
def bk_96 : List (List Instr) := [bk_96_0, bk_96_1, bk_96_2]
def bk_97 : List (List Instr) := [bk_97_0]
def bk_98 : List (List Instr) := [bk_98_0, bk_98_1]
def bk_99 : List (List Instr) := [bk_99_0, bk_99_1, bk_99_2]
def bk_100 : List (List Instr) := [bk_100_0, bk_100_1, bk_100_2, bk_100_3]
def bk_101 : List (List Instr) := [bk_101_0, bk_101_1, bk_101_2, bk_101_3, bk_101_4, bk_101_5]
def bk_102 : List (List Instr) := [bk_102_0, bk_102_1, bk_102_2, bk_102_3, bk_102_4, bk_102_5, bk_102_6, bk_102_7, bk_102_8, bk_102_9]
def bk_103 : List (List Instr) := [bk_103_0, bk_103_1, bk_103_2, bk_103_3, bk_103_4, bk_103_5]
def bk_104 : List (List Instr) := [bk_104_0, bk_104_1, bk_104_2, bk_104_3]
def bk_105 : List (List Instr) := [bk_105_0]
def bk_106 : List (List Instr) := [bk_106_0, bk_106_1, bk_106_2]
def bk_107 : List (List Instr) := [bk_107_0, bk_107_1, bk_107_2, bk_107_3]
def bk_108 : List (List Instr) := [bk_108_0, bk_108_1]
def bk_109 : List (List Instr) := [bk_109_0]
def bk_110 : List (List Instr) := [bk_110_0, bk_110_1]
def bk_111 : List (List Instr) := [bk_111_0, bk_111_1, bk_111_2]
def bk_112 : List (List Instr) := [bk_112_0, bk_112_1]
def bk_113 : List (List Instr) := [bk_113_0, bk_113_1, bk_113_2]
def bk_114 : List (List Instr) := [bk_114_0]
def bk_115 : List (List Instr) := [bk_115_0, bk_115_1]
def bk_116 : List (List Instr) := [bk_116_0, bk_116_1, bk_116_2, bk_116_3]
def bk_117 : List (List Instr) := [bk_117_0, bk_117_1, bk_117_2, bk_117_3, bk_117_4]
def bk_118 : List (List Instr) := [bk_118_0, bk_118_1, bk_118_2, bk_118_3, bk_118_4, bk_118_5, bk_118_6, bk_118_7, bk_118_8]
def bk_119 : List (List Instr) := [bk_119_0]
def bk_120 : List (List Instr) := [bk_120_0, bk_120_1, bk_120_2, bk_120_3, bk_120_4]
def bk_121 : List (List Instr) := [bk_121_0, bk_121_1, bk_121_2]
def bk_122 : List (List Instr) := [bk_122_0, bk_122_1]
def bk_123 : List (List Instr) := [bk_123_0]
def bk_124 : List (List Instr) := [bk_124_0, bk_124_1, bk_124_2, bk_124_3]
def bk_125 : List (List Instr) := [bk_125_0, bk_125_1, bk_125_2, bk_125_3]
def bk_126 : List (List Instr) := [bk_126_0, bk_126_1, bk_126_2, bk_126_3, bk_126_4]
def bk_127 : List (List Instr) := [bk_127_0, bk_127_1, bk_127_2, bk_127_3, bk_127_4, bk_127_5, bk_127_6]
def bk_128 : List (List Instr) := [bk_128_0, bk_128_1, bk_128_2, bk_128_3, bk_128_4]
def bk_129 : List (List Instr) := [bk_129_0, bk_129_1, bk_129_2, bk_129_3, bk_129_4, bk_129_5, bk_129_6, bk_129_7]
def bk_130 : List (List Instr) := [bk_130_0, bk_130_1, bk_130_2]
def bk_131 : List (List Instr) := [bk_131_0, bk_131_1, bk_131_2, bk_131_3, bk_131_4, bk_131_5, bk_131_6, bk_131_7, bk_131_8]
def bk_132 : List (List Instr) := [bk_132_0]
def bk_133 : List (List Instr) := [bk_133_0, bk_133_1]
def bk_134 : List (List Instr) := [bk_134_0, bk_134_1, bk_134_2, bk_134_3]
def bk_135 : List (List Instr) := [bk_135_0]
def bk_136 : List (List Instr) := [bk_136_0]
def bk_137 : List (List Instr) := [bk_137_0, bk_137_1, bk_137_2]
def bk_138 : List (List Instr) := [bk_138_0]
def bk_139 : List (List Instr) := [bk_139_0]
def bk_140 : List (List Instr) := [bk_140_0]
def bk_141 : List (List Instr) := [bk_141_0, bk_141_1, bk_141_2]
def bk_142 : List (List Instr) := [bk_142_0]
def bk_143 : List (List Instr) := [bk_143_0, bk_143_1, bk_143_2]
def bk_144 : List (List Instr) := [bk_144_0]
def bk_145 : List (List Instr) := [bk_145_0]
def bk_146 : List (List Instr) := [bk_146_0]
def bk_147 : List (List Instr) := [bk_147_0, bk_147_1, bk_147_2, bk_147_3, bk_147_4, bk_147_5]
def bk_148 : List (List Instr) := [bk_148_0, bk_148_1, bk_148_2, bk_148_3]
def bk_149 : List (List Instr) := [bk_149_0, bk_149_1, bk_149_2, bk_149_3, bk_149_4, bk_149_5]
def bk_150 : List (List Instr) := [bk_150_0, bk_150_1, bk_150_2, bk_150_3]
def bk_151 : List (List Instr) := [bk_151_0, bk_151_1, bk_151_2, bk_151_3, bk_151_4, bk_151_5]
def bk_152 : List (List Instr) := [bk_152_0]
def bk_153 : List (List Instr) := [bk_153_0, bk_153_1, bk_153_2]
def bk_154 : List (List Instr) := [bk_154_0, bk_154_1, bk_154_2, bk_154_3, bk_154_4, bk_154_5, bk_154_6, bk_154_7]
def bk_155 : List (List Instr) := [bk_155_0, bk_155_1, bk_155_2, bk_155_3, bk_155_4, bk_155_5, bk_155_6]
def bk_156 : List (List Instr) := [bk_156_0, bk_156_1, bk_156_2, bk_156_3, bk_156_4, bk_156_5]
def bk_157 : List (List Instr) := [bk_157_0, bk_157_1, bk_157_2, bk_157_3, bk_157_4, bk_157_5]
def bk_158 : List (List Instr) := [bk_158_0]
def bk_159 : List (List Instr) := [bk_159_0, bk_159_1, bk_159_2, bk_159_3, bk_159_4, bk_159_5, bk_159_6, bk_159_7, bk_159_8, bk_159_9]
def bk_160 : List (List Instr) := [bk_160_0, bk_160_1, bk_160_2, bk_160_3, bk_160_4, bk_160_5]
def bk_161 : List (List Instr) := [bk_161_0, bk_161_1, bk_161_2, bk_161_3]
def bk_162 : List (List Instr) := [bk_162_0, bk_162_1, bk_162_2]
def bk_163 : List (List Instr) := [bk_163_0, bk_163_1, bk_163_2, bk_163_3, bk_163_4]
def bk_164 : List (List Instr) := [bk_164_0, bk_164_1, bk_164_2, bk_164_3]
def bk_165 : List (List Instr) := [bk_165_0, bk_165_1, bk_165_2]
def bk_166 : List (List Instr) := [bk_166_0, bk_166_1, bk_166_2]
def bk_167 : List (List Instr) := [bk_167_0]
def bk_168 : List (List Instr) := [bk_168_0]
def bk_169 : List (List Instr) := [bk_169_0, bk_169_1, bk_169_2, bk_169_3, bk_169_4, bk_169_5, bk_169_6]
def bk_170 : List (List Instr) := [bk_170_0, bk_170_1, bk_170_2, bk_170_3, bk_170_4, bk_170_5, bk_170_6, bk_170_7, bk_170_8]
def bk_171 : List (List Instr) := [bk_171_0]
def bk_172 : List (List Instr) := [bk_172_0, bk_172_1, bk_172_2, bk_172_3]
def bk_173 : List (List Instr) := [bk_173_0, bk_173_1, bk_173_2, bk_173_3, bk_173_4]
def bk_174 : List (List Instr) := [bk_174_0, bk_174_1, bk_174_2, bk_174_3]
def bk_175 : List (List Instr) := [bk_175_0, bk_175_1, bk_175_2]
def bk_176 : List (List Instr) := [bk_176_0, bk_176_1]
def bk_177 : List (List Instr) := [bk_177_0, bk_177_1, bk_177_2, bk_177_3, bk_177_4]
def bk_178 : List (List Instr) := [bk_178_0, bk_178_1, bk_178_2]
def bk_179 : List (List Instr) := [bk_179_0, bk_179_1, bk_179_2]
def bk_180 : List (List Instr) := [bk_180_0, bk_180_1, bk_180_2, bk_180_3, bk_180_4, bk_180_5]
def bk_181 : List (List Instr) := [bk_181_0, bk_181_1, bk_181_2, bk_181_3, bk_181_4]
def bk_182 : List (List Instr) := [bk_182_0, bk_182_1, bk_182_2, bk_182_3, bk_182_4, bk_182_5]
def bk_183 : List (List Instr) := [bk_183_0, bk_183_1, bk_183_2, bk_183_3, bk_183_4, bk_183_5, bk_183_6]
def bk_184 : List (List Instr) := [bk_184_0, bk_184_1, bk_184_2, bk_184_3, bk_184_4, bk_184_5, bk_184_6, bk_184_7, bk_184_8, bk_184_9, bk_184_10, bk_184_11]
def bk_185 : List (List Instr) := [bk_185_0, bk_185_1, bk_185_2, bk_185_3, bk_185_4, bk_185_5, bk_185_6]
def bk_186 : List (List Instr) := [bk_186_0, bk_186_1, bk_186_2, bk_186_3, bk_186_4, bk_186_5, bk_186_6]
def bk_187 : List (List Instr) := [bk_187_0, bk_187_1, bk_187_2, bk_187_3]
def bk_188 : List (List Instr) := [bk_188_0, bk_188_1, bk_188_2, bk_188_3]
def bk_189 : List (List Instr) := [bk_189_0]
def bk_190 : List (List Instr) := [bk_190_0, bk_190_1, bk_190_2, bk_190_3, bk_190_4, bk_190_5, bk_190_6, bk_190_7]
def bk_191 : List (List Instr) := [bk_191_0, bk_191_1, bk_191_2, bk_191_3, bk_191_4, bk_191_5, bk_191_6, bk_191_7]
def bk_192 : List (List Instr) := [bk_192_0]
def bk_193 : List (List Instr) := [bk_193_0, bk_193_1, bk_193_2]
def bk_194 : List (List Instr) := [bk_194_0, bk_194_1, bk_194_2, bk_194_3, bk_194_4]
def bk_195 : List (List Instr) := [bk_195_0, bk_195_1]
def bk_196 : List (List Instr) := [bk_196_0, bk_196_1, bk_196_2, bk_196_3, bk_196_4]
def bk_197 : List (List Instr) := [bk_197_0, bk_197_1, bk_197_2, bk_197_3, bk_197_4, bk_197_5, bk_197_6, bk_197_7, bk_197_8, bk_197_9, bk_197_10, bk_197_11, bk_197_12, bk_197_13, bk_197_14, bk_197_15]
def bk_198 : List (List Instr) := [bk_198_0, bk_198_1, bk_198_2, bk_198_3, bk_198_4, bk_198_5, bk_198_6]
def bk_199 : List (List Instr) := [bk_199_0, bk_199_1, bk_199_2]
def bk_200 : List (List Instr) := [bk_200_0, bk_200_1, bk_200_2, bk_200_3, bk_200_4, bk_200_5, bk_200_6, bk_200_7]
def bk_201 : List (List Instr) := [bk_201_0]
def bk_202 : List (List Instr) := [bk_202_0, bk_202_1, bk_202_2, bk_202_3]
def bk_203 : List (List Instr) := [bk_203_0, bk_203_1, bk_203_2]
def bk_204 : List (List Instr) := [bk_204_0, bk_204_1, bk_204_2, bk_204_3, bk_204_4, bk_204_5]
def bk_205 : List (List Instr) := [bk_205_0, bk_205_1, bk_205_2, bk_205_3, bk_205_4, bk_205_5]
def bk_206 : List (List Instr) := [bk_206_0, bk_206_1]
def bk_207 : List (List Instr) := [bk_207_0, bk_207_1]
def bk_208 : List (List Instr) := [bk_208_0]
def bk_209 : List (List Instr) := [bk_209_0, bk_209_1]
def bk_210 : List (List Instr) := [bk_210_0, bk_210_1, bk_210_2, bk_210_3]
def bk_211 : List (List Instr) := [bk_211_0, bk_211_1, bk_211_2, bk_211_3, bk_211_4, bk_211_5, bk_211_6, bk_211_7, bk_211_8, bk_211_9, bk_211_10, bk_211_11, bk_211_12, bk_211_13, bk_211_14, bk_211_15, bk_211_16, bk_211_17, bk_211_18, bk_211_19, bk_211_20]
def bk_212 : List (List Instr) := [bk_212_0, bk_212_1, bk_212_2, bk_212_3]
def bk_213 : List (List Instr) := [bk_213_0, bk_213_1, bk_213_2, bk_213_3, bk_213_4, bk_213_5, bk_213_6, bk_213_7, bk_213_8]
def bk_214 : List (List Instr) := [bk_214_0, bk_214_1, bk_214_2, bk_214_3, bk_214_4, bk_214_5, bk_214_6, bk_214_7, bk_214_8, bk_214_9, bk_214_10]
def bk_215 : List (List Instr) := [bk_215_0]
def bk_216 : List (List Instr) := [bk_216_0, bk_216_1, bk_216_2, bk_216_3, bk_216_4, bk_216_5, bk_216_6, bk_216_7]
def bk_217 : List (List Instr) := [bk_217_0, bk_217_1, bk_217_2, bk_217_3, bk_217_4, bk_217_5, bk_217_6, bk_217_7, bk_217_8, bk_217_9]
def bk_218 : List (List Instr) := [bk_218_0, bk_218_1, bk_218_2, bk_218_3, bk_218_4, bk_218_5, bk_218_6, bk_218_7, bk_218_8, bk_218_9, bk_218_10, bk_218_11, bk_218_12, bk_218_13]
def bk_219 : List (List Instr) := [bk_219_0, bk_219_1, bk_219_2, bk_219_3, bk_219_4]
def bk_220 : List (List Instr) := [bk_220_0, bk_220_1, bk_220_2]
def bk_221 : List (List Instr) := [bk_221_0, bk_221_1]
def bk_222 : List (List Instr) := [bk_222_0, bk_222_1, bk_222_2]
def bk_223 : List (List Instr) := [bk_223_0, bk_223_1, bk_223_2, bk_223_3, bk_223_4, bk_223_5, bk_223_6]
def bk_224 : List (List Instr) := [bk_224_0]
def bk_225 : List (List Instr) := [bk_225_0]
def bk_226 : List (List Instr) := [bk_226_0, bk_226_1, bk_226_2, bk_226_3]
def bk_227 : List (List Instr) := [bk_227_0, bk_227_1, bk_227_2, bk_227_3, bk_227_4, bk_227_5]
def bk_228 : List (List Instr) := [bk_228_0, bk_228_1, bk_228_2, bk_228_3, bk_228_4, bk_228_5]
def bk_229 : List (List Instr) := [bk_229_0, bk_229_1, bk_229_2, bk_229_3, bk_229_4]
def bk_230 : List (List Instr) := [bk_230_0]
def bk_231 : List (List Instr) := [bk_231_0, bk_231_1, bk_231_2, bk_231_3, bk_231_4, bk_231_5, bk_231_6, bk_231_7, bk_231_8]
def bk_232 : List (List Instr) := [bk_232_0, bk_232_1, bk_232_2, bk_232_3]
def bk_233 : List (List Instr) := [bk_233_0, bk_233_1, bk_233_2, bk_233_3, bk_233_4, bk_233_5, bk_233_6, bk_233_7, bk_233_8, bk_233_9, bk_233_10, bk_233_11]
def bk_234 : List (List Instr) := [bk_234_0, bk_234_1, bk_234_2, bk_234_3, bk_234_4, bk_234_5, bk_234_6, bk_234_7, bk_234_8, bk_234_9, bk_234_10]
def bk_235 : List (List Instr) := [bk_235_0]
def bk_236 : List (List Instr) := [bk_236_0, bk_236_1, bk_236_2]
def bk_237 : List (List Instr) := [bk_237_0, bk_237_1, bk_237_2]
def bk_238 : List (List Instr) := [bk_238_0, bk_238_1, bk_238_2, bk_238_3]
def bk_239 : List (List Instr) := [bk_239_0, bk_239_1, bk_239_2]
def bk_240 : List (List Instr) := [bk_240_0, bk_240_1, bk_240_2]
def bk_241 : List (List Instr) := [bk_241_0, bk_241_1, bk_241_2, bk_241_3, bk_241_4, bk_241_5, bk_241_6, bk_241_7, bk_241_8, bk_241_9, bk_241_10, bk_241_11, bk_241_12, bk_241_13, bk_241_14, bk_241_15, bk_241_16, bk_241_17, bk_241_18, bk_241_19, bk_241_20, bk_241_21, bk_241_22, bk_241_23, bk_241_24, bk_241_25, bk_241_26, bk_241_27, bk_241_28, bk_241_29, bk_241_30, bk_241_31, bk_241_32, bk_241_33, bk_241_34, bk_241_35, bk_241_36, bk_241_37, bk_241_38, bk_241_39, bk_241_40, bk_241_41, bk_241_42, bk_241_43, bk_241_44, bk_241_45, bk_241_46, bk_241_47, bk_241_48, bk_241_49, bk_241_50, bk_241_51, bk_241_52, bk_241_53, bk_241_54, bk_241_55, bk_241_56, bk_241_57, bk_241_58, bk_241_59, bk_241_60, bk_241_61, bk_241_62, bk_241_63]
def ex_bs : List (List (List Instr)) := [bk_0, bk_1, bk_2, bk_3, bk_4, bk_5, bk_6, bk_7, bk_8, bk_9, bk_10, bk_11, bk_12, bk_13, bk_14, bk_15, bk_16, bk_17, bk_18, bk_19, bk_20, bk_21, bk_22, bk_23, bk_24, bk_25, bk_26, bk_27, bk_28, bk_29, bk_30, bk_31, bk_32, bk_33, bk_34, bk_35, bk_36, bk_37, bk_38, bk_39, bk_40, bk_41, bk_42, bk_43, bk_44, bk_45, bk_46, bk_47, bk_48, bk_49, bk_50, bk_51, bk_52, bk_53, bk_54, bk_55, bk_56, bk_57, bk_58, bk_59, bk_60, bk_61, bk_62, bk_63, bk_64, bk_65, bk_66, bk_67, bk_68, bk_69, bk_70, bk_71, bk_72, bk_73, bk_74, bk_75, bk_76, bk_77, bk_78, bk_79, bk_80, bk_81, bk_82, bk_83, bk_84, bk_85, bk_86, bk_87, bk_88, bk_89, bk_90, bk_91, bk_92, bk_93, bk_94, bk_95, bk_96, bk_97, bk_98, bk_99, bk_100, bk_101, bk_102, bk_103, bk_104, bk_105, bk_106, bk_107, bk_108, bk_109, bk_110, bk_111, bk_112, bk_113, bk_114, bk_115, bk_116, bk_117, bk_118, bk_119, bk_120, bk_121, bk_122, bk_123, bk_124, bk_125, bk_126, bk_127, bk_128, bk_129, bk_130, bk_131, bk_132, bk_133, bk_134, bk_135, bk_136, bk_137, bk_138, bk_139, bk_140, bk_141, bk_142, bk_143, bk_144, bk_145, bk_146, bk_147, bk_148, bk_149, bk_150, bk_151, bk_152, bk_153, bk_154, bk_155, bk_156, bk_157, bk_158, bk_159, bk_160, bk_161, bk_162, bk_163, bk_164, bk_165, bk_166, bk_167, bk_168, bk_169, bk_170, bk_171, bk_172, bk_173, bk_174, bk_175, bk_176, bk_177, bk_178, bk_179, bk_180, bk_181, bk_182, bk_183, bk_184, bk_185, bk_186, bk_187, bk_188, bk_189, bk_190, bk_191, bk_192, bk_193, bk_194, bk_195, bk_196, bk_197, bk_198, bk_199, bk_200, bk_201, bk_202, bk_203, bk_204, bk_205, bk_206, bk_207, bk_208, bk_209, bk_210, bk_211, bk_212, bk_213, bk_214, bk_215, bk_216, bk_217, bk_218, bk_219, bk_220, bk_221, bk_222, bk_223, bk_224, bk_225, bk_226, bk_227, bk_228, bk_229, bk_230, bk_231, bk_232, bk_233, bk_234, bk_235, bk_236, bk_237, bk_238, bk_239, bk_240, bk_241]
def ex_bk (m b : Nat) : List Instr := ((ex_bs.getD m []).getD b [])
def ex_pc : List (List Nat) := [[0],
  [0, 12, 55, 61],
  [0, 4, 35, 36, 50, 51, 59],
  [0, 6, 34, 41, 60, 64, 80, 115, 121, 144, 153, 154],
  [0, 8, 66, 72],
  [0, 2, 30],
  [0],
  [0],
  [0, 2, 22, 28],
  [0],
  [0],
  [0, 16, 17],
  [0, 32, 33],
  [0, 16, 17],
  [0, 16, 17],
  [0],
  [0],
  [0],
  [0],
  [0, 10, 31, 43],
  [0, 20, 24, 25],
  [0, 21, 27],
  [0, 33, 34],
  [0],
  [0, 9, 39],
  [0, 20, 24, 25],
  [0, 21, 23, 52, 53],
  [0, 13, 25, 36, 55, 56],
  [0, 13, 26, 42, 45, 57, 76, 77],
  [0, 12],
  [0],
  [0],
  [0],
  [0, 4, 34],
  [0, 16, 26, 60],
  [0, 4, 27],
  [0, 4, 30, 58, 59, 67, 73],
  [0, 26, 32],
  [0],
  [0],
  [0, 36, 37],
  [0, 9, 81, 82, 84, 90],
  [0, 5, 33, 34, 42],
  [0],
  [0],
  [0, 49],
  [0, 17, 24, 34, 40, 68, 75, 84, 124, 126, 134, 165, 167],
  [0, 7, 33, 39],
  [0, 4, 34, 40],
  [0, 8, 43, 44, 53],
  [0],
  [0],
  [0, 17, 49, 76, 122, 170, 176],
  [0, 21, 66, 67, 80, 81, 90],
  [0],
  [0],
  [0, 38, 39, 58, 61, 112, 118],
  [0],
  [0],
  [0, 7, 33, 39, 46],
  [0, 26, 55, 62, 72, 105, 169, 175],
  [0],
  [0, 11, 23, 35, 39, 40],
  [0],
  [0, 23, 27, 28],
  [0, 5, 37, 40, 68, 77, 81, 82],
  [0, 8, 18, 19],
  [0, 19, 24, 25, 46, 47, 48, 66, 67, 83, 84],
  [0, 20, 21],
  [0, 32, 41, 42, 43, 52, 53, 54, 66, 67, 68, 76, 80, 81],
  [0],
  [0, 13, 14],
  [0, 13, 14],
  [0],
  [0],
  [0, 25, 37],
  [0, 34, 35],
  [0],
  [0],
  [0],
  [0],
  [0, 9, 29, 35],
  [0, 11, 30, 33, 60, 95, 132, 138, 144],
  [0, 6, 69, 71],
  [0, 118, 143],
  [0, 38, 45, 66],
  [0, 21, 28, 47, 53],
  [0, 23, 72, 79, 86, 93, 99, 106, 112, 119, 126],
  [0, 23, 39, 64, 65, 81, 82],
  [0, 51, 58, 80],
  [0, 26, 33, 46, 61, 69],
  [0, 33, 40],
  [0, 23, 37, 44],
  [0, 28, 35, 54, 55],
  [0, 24, 31, 51],
  [0, 24, 31, 51, 89, 112],
  [0, 24, 39],
  [0],
  [0, 14],
  [0, 24, 29],
  [0, 16, 50, 51],
  [0, 9, 14, 25, 64, 70],
  [0, 25, 32, 50, 73, 93, 128, 134, 149, 158],
  [0, 33, 39, 40, 44, 78],
  [0, 21, 41, 60],
  [0],
  [0, 26, 27],
  [0, 21, 50, 57],
  [0, 16],
  [0],
  [0, 14],
  [0, 25, 32],
  [0, 14],
  [0, 25, 31],
  [0],
  [0, 14],
  [0, 21, 41, 42],
  [0, 32, 39, 69, 71],
  [0, 18, 36, 60, 62, 89, 95, 101, 130],
  [0],
  [0, 35, 42, 56, 57],
  [0, 25, 32],
  [0, 17],
  [0],
  [0, 11, 56, 62],
  [0, 21, 28, 50],
  [0, 39, 46, 66, 67],
  [0, 33, 40, 52, 65, 79, 80],
  [0, 18, 36, 53, 60],
  [0, 22, 29, 51, 58, 86, 115, 122],
  [0, 14, 62],
  [0, 44, 55, 66, 77, 85, 96, 107, 112],
  [0],
  [0, 22],
  [0, 17, 38, 39],
  [0],
  [0],
  [0, 14, 15],
  [0],
  [0],
  [0],
  [0, 146, 168],
  [0],
  [0, 14, 15],
  [0],
  [0],
  [0],
  [0, 11, 40, 50, 52, 86],
  [0, 14, 26, 60],
  [0, 40, 47, 68, 126, 128],
  [0, 26, 30, 31],
  [0, 17, 24, 53, 57, 63],
  [0],
  [0, 12, 48],
  [0, 18, 25, 56, 66, 72, 82, 92],
  [0, 15, 30, 60, 61, 79, 80],
  [0, 34, 35, 72, 79, 101],
  [0, 2, 14, 44, 50, 56],
  [0],
  [0, 18, 25, 60, 68, 72, 73, 81, 86, 87],
  [0, 28, 38, 40, 46, 53],
  [0, 15, 43, 49],
  [0, 46, 47],
  [0, 16, 25, 38, 39],
  [0, 27, 31, 32],
  [0, 33, 34],
  [0, 22, 23],
  [0],
  [0],
  [0, 16, 23, 38, 54, 69, 93],
  [0, 13, 24, 40, 43, 55, 75, 100, 102],
  [0],
  [0, 14, 48, 59],
  [0, 16, 23, 40, 62],
  [0, 15, 32, 47],
  [0, 8, 41],
  [0, 14],
  [0, 15, 32, 42, 80],
  [0, 2, 34],
  [0, 2, 34],
  [0, 11, 19, 74, 119, 125],
  [0, 2, 23, 32, 33],
  [0, 15, 27, 32, 46, 47],
  [0, 12, 19, 31, 36, 51, 57],
  [0, 15, 22, 38, 53, 63, 150, 151, 175, 178, 195, 196],
  [0, 4, 22, 73, 74, 82, 88],
  [0, 20, 24, 45, 53, 54, 62],
  [0, 2, 29, 35],
  [0, 15, 30, 49],
  [0],
  [0, 38, 111, 112, 115, 121, 140, 141],
  [0, 18, 41, 42, 44, 85, 103, 109],
  [0],
  [0, 20, 24],
  [0, 15, 36, 45, 51],
  [0, 16],
  [0, 2, 34, 35, 42],
  [0, 4, 20, 64, 65, 94, 99, 101, 109, 122, 123, 128, 154, 155, 163, 169],
  [0, 8, 24, 28, 49, 57, 58],
  [0, 4, 24],
  [0, 4, 41, 42, 50, 54, 88, 94],
  [0],
  [0, 14, 27, 44],
  [0, 29, 36],
  [0, 7, 22, 28, 83, 89],
  [0, 16, 25, 72, 78, 121],
  [0, 16],
  [0, 16],
  [0],
  [0, 16],
  [0, 15, 33, 34],
  [0, 28, 35, 41, 76, 78, 86, 92, 133, 150, 157, 169, 220, 226, 238, 247, 280, 282, 290, 312, 313],
  [0, 32, 36, 37],
  [0, 14, 30, 48, 50, 84, 90, 109, 146],
  [0, 4, 36, 46, 47, 66, 68, 81, 96, 100, 107],
  [0],
  [0, 40, 43, 53, 63, 65, 75, 82],
  [0, 15, 19, 34, 38, 56, 60, 68, 72, 73],
  [0, 12, 21, 27, 81, 112, 113, 117, 156, 157, 158, 164, 177, 178],
  [0, 23, 30, 44, 45],
  [0, 19, 26],
  [0, 17],
  [0, 34, 35],
  [0, 24, 36, 59, 61, 183, 189],
  [0],
  [0],
  [0, 11, 32, 38],
  [0, 15, 22, 41, 76, 77],
  [0, 9, 76, 77, 79, 85],
  [0, 30, 37, 51, 52],
  [0],
  [0, 29, 36, 47, 60, 80, 81, 85, 111],
  [0, 14, 30, 53],
  [0, 14, 21, 39, 46, 68, 117, 124, 127, 161, 164, 199],
  [0, 17, 21, 49, 88, 95, 102, 104, 112, 120, 128],
  [0],
  [0, 9, 10],
  [0, 9, 10],
  [0, 46, 59, 73],
  [0, 5, 20],
  [0, 10, 27],
  [0, 18, 236, 289, 322, 355, 373, 374, 395, 396, 404, 479, 512, 555, 588, 621, 654, 687, 710, 723, 746, 769, 792, 825, 858, 881, 904, 917, 930, 953, 976, 989, 1012, 1055, 1078, 1101, 1114, 1137, 1155, 1156, 1177, 1178, 1186, 1229, 1252, 1265, 1308, 1341, 1364, 1377, 1400, 1423, 1424, 1450, 1451, 1459, 1502, 1545, 1588, 1651, 1664, 1687, 1693, 18]]
abbrev m_X0_init : Nat := 0
abbrev m_X0_mostCars : Nat := 1
abbrev m_X0_waitingCars : Nat := 2
abbrev m_X0_shareHours : Nat := 3
abbrev m_X0_neediest : Nat := 4
abbrev m_X0_chargeThose : Nat := 5
abbrev m_X1_init : Nat := 6
abbrev m_X1_become : Nat := 7
abbrev m_X1_placeInEvening : Nat := 8
abbrev m_X2_init : Nat := 9
abbrev m_X2_become : Nat := 10
abbrev m_X2_isKind : Nat := 11
abbrev m_X2_isFact : Nat := 12
abbrev m_X2_hasLane : Nat := 13
abbrev m_X2_hasCar : Nat := 14
abbrev m_X2_addLane : Nat := 15
abbrev m_X2_addCar : Nat := 16
abbrev m_X2_fact : Nat := 17
abbrev m_X2_changeFact : Nat := 18
abbrev m_X2_isOfKind : Nat := 19
abbrev m_X2_cycleOf : Nat := 20
abbrev m_X2_bears : Nat := 21
abbrev m_X2_suits : Nat := 22
abbrev m_X2_carAt : Nat := 23
abbrev m_X2_lengthLeft : Nat := 24
abbrev m_X2_isShut : Nat := 25
abbrev m_X2_isFree : Nat := 26
abbrev m_X2_parkFinding : Nat := 27
abbrev m_X2_shuntFinding : Nat := 28
abbrev m_X2_bring : Nat := 29
abbrev m_X2_take : Nat := 30
abbrev m_X2_move : Nat := 31
abbrev m_X2_moveBack : Nat := 32
abbrev m_X2_forgetCycles : Nat := 33
abbrev m_X2_carsAhead : Nat := 34
abbrev m_X2_carsInLanes : Nat := 35
abbrev m_X2_morningOf : Nat := 36
abbrev m_X2_floodMinute : Nat := 37
abbrev m_X3_init : Nat := 38
abbrev m_X3_become : Nat := 39
abbrev m_X3_add : Nat := 40
abbrev m_X3_isThere : Nat := 41
abbrev m_X3_carsWithKey : Nat := 42
abbrev m_X4_init : Nat := 43
abbrev m_X4_become : Nat := 44
abbrev m_X4_add : Nat := 45
abbrev m_X4_shareOf : Nat := 46
abbrev m_X4_latestUnharmed : Nat := 47
abbrev m_X4_firstHarmed : Nat := 48
abbrev m_X4_shuntsBy : Nat := 49
abbrev m_X5_init : Nat := 50
abbrev m_X5_leastMornings : Nat := 51
abbrev m_X5_assign : Nat := 52
abbrev m_X5_added : Nat := 53
abbrev m_X6_init : Nat := 54
abbrev m_X6_mostBids : Nat := 55
abbrev m_X6_give : Nat := 56
abbrev m_X6_rentOf : Nat := 57
abbrev m_X7_init : Nat := 58
abbrev m_X7_mostWorth : Nat := 59
abbrev m_X7_takeMore : Nat := 60
abbrev m_X8_init : Nat := 61
abbrev m_X8_isSign : Nat := 62
abbrev m_X8_suppose : Nat := 63
abbrev m_X8_let : Nat := 64
abbrev m_X8_firstFault : Nat := 65
abbrev m_X8_asked : Nat := 66
abbrev m_X8_worked : Nat := 67
abbrev m_X8_knownBy : Nat := 68
abbrev m_X8_joins : Nat := 69
abbrev m_X9_init : Nat := 70
abbrev m_X9_isSheet : Nat := 71
abbrev m_X9_isMissing : Nat := 72
abbrev m_X9_begin : Nat := 73
abbrev m_X9_number : Nat := 74
abbrev m_X9_write : Nat := 75
abbrev m_X9_hasSpan : Nat := 76
abbrev m_X9_carryOver : Nat := 77
abbrev m_X10_init : Nat := 78
abbrev m_X10_begin : Nat := 79
abbrev m_X10_frees : Nat := 80
abbrev m_X10_shortest : Nat := 81
abbrev m_X10_search : Nat := 82
abbrev m_X10_carryOut : Nat := 83
abbrev m_X11_init : Nat := 84
abbrev m_X11_lane : Nat := 85
abbrev m_X11_as : Nat := 86
abbrev m_X11_laneIs : Nat := 87
abbrev m_X11_breaks : Nat := 88
abbrev m_X11_car : Nat := 89
abbrev m_X11_carIs : Nat := 90
abbrev m_X11_tell : Nat := 91
abbrev m_X11_at : Nat := 92
abbrev m_X11_fits : Nat := 93
abbrev m_X11_park : Nat := 94
abbrev m_X11_shunt : Nat := 95
abbrev m_X11_leave : Nat := 96
abbrev m_X11_night : Nat := 97
abbrev m_X11_hour : Nat := 98
abbrev m_X11_ahead : Nat := 99
abbrev m_X11_fewest : Nat := 100
abbrev m_X11_step : Nat := 101
abbrev m_X11_proves : Nat := 102
abbrev m_X11_morning : Nat := 103
abbrev m_X11_arrive : Nat := 104
abbrev m_X11_clear : Nat := 105
abbrev m_X11_plan : Nat := 106
abbrev m_X11_planned : Nat := 107
abbrev m_X11_chargers : Nat := 108
abbrev m_X11_charged : Nat := 109
abbrev m_X11_charging : Nat := 110
abbrev m_X11_bid : Nat := 111
abbrev m_X11_given : Nat := 112
abbrev m_X11_rent : Nat := 113
abbrev m_X11_giving : Nat := 114
abbrev m_X11_porter : Nat := 115
abbrev m_X11_look : Nat := 116
abbrev m_X11_harm : Nat := 117
abbrev m_X11_text : Nat := 118
abbrev m_X11_wrong : Nat := 119
abbrev m_X11_lets : Nat := 120
abbrev m_X11_flood : Nat := 121
abbrev m_X11_pace : Nat := 122
abbrev m_X11_rescue : Nat := 123
abbrev m_X11_rescued : Nat := 124
abbrev m_X11_note : Nat := 125
abbrev m_X11_key : Nat := 126
abbrev m_X11_sheet : Nat := 127
abbrev m_X11_put : Nat := 128
abbrev m_X11_copy : Nat := 129
abbrev m_X11_undo : Nat := 130
abbrev m_X11_all : Nat := 131
abbrev m_X11_refuse : Nat := 132
abbrev m_X11_keepForUndo : Nat := 133
abbrev m_X11_inLaneFinding : Nat := 134
abbrev m_X11_keysNow : Nat := 135
abbrev m_X11_isLet : Nat := 136
abbrev m_X11_isWithin : Nat := 137
abbrev m_X11_isHour : Nat := 138
abbrev m_X11_isTenant : Nat := 139
abbrev m_X11_isPorter : Nat := 140
abbrev m_X12_init : Nat := 141
abbrev m_X12_finding : Nat := 142
abbrev m_X12_within : Nat := 143
abbrev m_X12_isLane : Nat := 144
abbrev m_X12_isCar : Nat := 145
abbrev m_X12_isHour : Nat := 146
abbrev m_X12_keep : Nat := 147
abbrev m_X12_undo : Nat := 148
abbrev m_X12_lane : Nat := 149
abbrev m_X12_isLift : Nat := 150
abbrev m_X12_as : Nat := 151
abbrev m_X12_carAt : Nat := 152
abbrev m_X12_leftOf : Nat := 153
abbrev m_X12_laneIs : Nat := 154
abbrev m_X12_breaks : Nat := 155
abbrev m_X12_car : Nat := 156
abbrev m_X12_standOf : Nat := 157
abbrev m_X12_manyAhead : Nat := 158
abbrev m_X12_carIs : Nat := 159
abbrev m_X12_tell : Nat := 160
abbrev m_X12_at : Nat := 161
abbrev m_X12_canFit : Nat := 162
abbrev m_X12_fits : Nat := 163
abbrev m_X12_isStuck : Nat := 164
abbrev m_X12_isFree : Nat := 165
abbrev m_X12_turns : Nat := 166
abbrev m_X12_comes : Nat := 167
abbrev m_X12_goes : Nat := 168
abbrev m_X12_park : Nat := 169
abbrev m_X12_hinders : Nat := 170
abbrev m_X12_does : Nat := 171
abbrev m_X12_led : Nat := 172
abbrev m_X12_shunt : Nat := 173
abbrev m_X12_leave : Nat := 174
abbrev m_X12_night : Nat := 175
abbrev m_X12_hour : Nat := 176
abbrev m_X12_ahead : Nat := 177
abbrev m_X12_lay : Nat := 178
abbrev m_X12_bring : Nat := 179
abbrev m_X12_frees : Nat := 180
abbrev m_X12_findFewest : Nat := 181
abbrev m_X12_fewest : Nat := 182
abbrev m_X12_step : Nat := 183
abbrev m_X12_proves : Nat := 184
abbrev m_X12_morningOf : Nat := 185
abbrev m_X12_morning : Nat := 186
abbrev m_X12_arrivalOf : Nat := 187
abbrev m_X12_arrive : Nat := 188
abbrev m_X12_clear : Nat := 189
abbrev m_X12_moreBy : Nat := 190
abbrev m_X12_plans : Nat := 191
abbrev m_X12_findPlan : Nat := 192
abbrev m_X12_plan : Nat := 193
abbrev m_X12_planned : Nat := 194
abbrev m_X12_chargers : Nat := 195
abbrev m_X12_begin : Nat := 196
abbrev m_X12_charge : Nat := 197
abbrev m_X12_canAll : Nat := 198
abbrev m_X12_many : Nat := 199
abbrev m_X12_findCharged : Nat := 200
abbrev m_X12_charged : Nat := 201
abbrev m_X12_charging : Nat := 202
abbrev m_X12_bid : Nat := 203
abbrev m_X12_mostFrom : Nat := 204
abbrev m_X12_findGiving : Nat := 205
abbrev m_X12_given : Nat := 206
abbrev m_X12_rent : Nat := 207
abbrev m_X12_giving : Nat := 208
abbrev m_X12_porter : Nat := 209
abbrev m_X12_look : Nat := 210
abbrev m_X12_harm : Nat := 211
abbrev m_X12_isSign : Nat := 212
abbrev m_X12_text : Nat := 213
abbrev m_X12_wrongAt : Nat := 214
abbrev m_X12_wrong : Nat := 215
abbrev m_X12_readBy : Nat := 216
abbrev m_X12_joined : Nat := 217
abbrev m_X12_isLet : Nat := 218
abbrev m_X12_lets : Nat := 219
abbrev m_X12_flood : Nat := 220
abbrev m_X12_pace : Nat := 221
abbrev m_X12_minuteOf : Nat := 222
abbrev m_X12_rescues : Nat := 223
abbrev m_X12_findRescue : Nat := 224
abbrev m_X12_rescue : Nat := 225
abbrev m_X12_rescued : Nat := 226
abbrev m_X12_note : Nat := 227
abbrev m_X12_hasKey : Nat := 228
abbrev m_X12_key : Nat := 229
abbrev m_X12_isSheet : Nat := 230
abbrev m_X12_sheet : Nat := 231
abbrev m_X12_put : Nat := 232
abbrev m_X12_copy : Nat := 233
abbrev m_X12_all : Nat := 234
abbrev m_J6_bitCount_0f7a4 : Nat := 235
abbrev m_J9_max_7cf53 : Nat := 236
abbrev m_J9_min_7cf53 : Nat := 237
abbrev m_J7_rangeCheck_23922 : Nat := 238
abbrev m_J7_fill_53178 : Nat := 239
abbrev m_J7_fill_fda19 : Nat := 240
abbrev m_L_law : Nat := 241
end
section
/-! an abstract machine over the tables: whole numbers for ints, places in a list of cells for references -/
abbrev ex_V : Type := Int ⊕ (Nat ⊕ Int)
abbrev ex_C : Type := Nat ⊕ (List (Option Nat) ⊕ (Nat × List (Option (Option Nat))))
abbrev ex_S : Type := Nat → Int → Int
abbrev ex_H : Type := List ex_C × ex_S
abbrev ex_R : Type := List ex_V × ex_H
abbrev ex_O : Type := Option ((List ex_V × List ex_V × ex_H) ⊕ ((Nat × List ex_V × List ex_V × ex_H) ⊕ ((Nat × List ex_V × List ex_V × ex_H) ⊕ ex_R)))
abbrev vI (z : Int) : ex_V := .inl z
abbrev vR (a : Nat) : ex_V := .inr (.inl a)
abbrev vL (z : Int) : ex_V := .inr (.inr z)
abbrev cA (n : Nat) : ex_C := .inl n
abbrev cQ (r : List (Option Nat)) : ex_C := .inr (.inl r)
abbrev cO (c : Nat) (f : List (Option (Option Nat))) : ex_C := .inr (.inr (c, f))
abbrev oN (ls st : List ex_V) (h : ex_H) : ex_O := some (.inl (ls, st, h))
abbrev oJ (b : Nat) (ls st : List ex_V) (h : ex_H) : ex_O := some (.inr (.inl (b, ls, st, h)))
abbrev oC (m : Nat) (as rest : List ex_V) (h : ex_H) : ex_O := some (.inr (.inr (.inl (m, as, rest, h))))
abbrev oR (vs : List ex_V) (h : ex_H) : ex_O := some (.inr (.inr (.inr (vs, h))))
def ex_wr (z : Int) : Int := (Int32.ofInt z).toInt
def ex_w64 (z : Int) : Int := (Int64.ofInt z).toInt
def ex_u (f : Int → Int) (i z : Int) : Int → Int := fun j => if j = i then z else f j
def ex_ar (σ : ex_S) (a : Nat) (f : Int → Int) : ex_S := fun b => if b = a then f else σ b
def ex_and (a b : Int) : Int := (Int32.ofInt a &&& Int32.ofInt b).toInt
def ex_or (a b : Int) : Int := (Int32.ofInt a ||| Int32.ofInt b).toInt
def ex_xor (a b : Int) : Int := (Int32.ofInt a ^^^ Int32.ofInt b).toInt
def ex_shl (a b : Int) : Int := (Int32.ofInt a <<< (Int32.ofInt b &&& 31)).toInt
def ex_shr (a b : Int) : Int := (Int32.ofInt a >>> (Int32.ofInt b &&& 31)).toInt
def ex_ushr (a b : Int) : Int := ((Int32.ofInt a).toUInt32 >>> ((Int32.ofInt b).toUInt32 &&& Int32.toUInt32 31)).toInt32.toInt
def ex_div (a b : Int) : Int := (Int32.ofInt a / Int32.ofInt b).toInt
def ex_rem (a b : Int) : Int := (Int32.ofInt a - Int32.ofInt a / Int32.ofInt b * Int32.ofInt b).toInt
def ex_cpy (f g : Int → Int) (sp dp n : Int) : Int → Int := fun j => if dp ≤ j ∧ j < dp + n then f (sp + (j - dp)) else g j
def ex_sh : ex_V → Bool
  | .inr (.inr _) => false
  | _ => true
/-- a call: its arguments off the stack; the receiver is an object of the method's class -/
def ex_ca (kd m : Nat) (st : List ex_V) (h : ex_H) : ex_O := match ex_mt[m]? with
  | some (k, own, n, _, _) => if k = kd ∧ n ≤ st.length ∧ st.length ≤ n + 8 ∧ st.all ex_sh = true then
      (if kd = 0 then oC m (st.take n).reverse (st.drop n) h else match (st.take n).reverse with
        | .inr (.inl a) :: _ => (match h.1[a]? with
          | some (.inr (.inr (c, _))) => if c = own then oC m (st.take n).reverse (st.drop n) h else none
          | _ => none)
        | _ => none) else none
  | none => none
def ex_bin (f : Int → Int → Int) (ls st : List ex_V) (h : ex_H) : ex_O := match st with
  | .inl b :: .inl a :: st' => oN ls (.inl (f a b) :: st') h
  | _ => none
def ex_br (p : Prop) [Decidable p] (t : Nat) (ls st : List ex_V) (h : ex_H) : ex_O := if p then oJ t ls st h else oN ls st h
def ex_if (c : Jvm.ClassFile.Cond) (a b : Int) (t : Nat) (ls st : List ex_V) (h : ex_H) : ex_O := match c with
  | .eq => ex_br (a = b) t ls st h
  | .ne => ex_br (a ≠ b) t ls st h
  | .lt => ex_br (a < b) t ls st h
  | .ge => ex_br (b ≤ a) t ls st h
  | .gt => ex_br (b < a) t ls st h
  | .le => ex_br (a ≤ b) t ls st h
def ex_st (rt : Nat) (ls st : List ex_V) (h : ex_H) : Instr → ex_O
  | .iload k => match ls[k]? with
    | some (.inl z) => oN ls (.inl z :: st) h
    | _ => none
  | .aload k => match ls[k]? with
    | some (.inr (.inl a)) => oN ls (.inr (.inl a) :: st) h
    | _ => none
  | .istore k => match st with
    | .inl z :: st' => if k < ls.length then oN (ls.set k (.inl z)) st' h else none
    | _ => none
  | .astore k => match st with
    | .inr (.inl a) :: st' => if k < ls.length then oN (ls.set k (.inr (.inl a))) st' h else none
    | _ => none
  | .iinc k c => match ls[k]? with
    | some (.inl z) => oN (ls.set k (.inl (ex_wr (z + c)))) st h
    | _ => none
  | .sipush v => oN ls (.inl v :: st) h
  | .iadd => ex_bin (fun a b => ex_wr (a + b)) ls st h
  | .isub => ex_bin (fun a b => ex_wr (a - b)) ls st h
  | .imul => ex_bin (fun a b => ex_wr (a * b)) ls st h
  | .iand => ex_bin ex_and ls st h
  | .ior => ex_bin ex_or ls st h
  | .ixor => ex_bin ex_xor ls st h
  | .ishl => ex_bin ex_shl ls st h
  | .ishr => ex_bin ex_shr ls st h
  | .iushr => ex_bin ex_ushr ls st h
  | .idiv => match st with
    | .inl b :: .inl a :: st' => if b = 0 then none else oN ls (.inl (ex_div a b) :: st') h
    | _ => none
  | .irem => match st with
    | .inl b :: .inl a :: st' => if b = 0 then none else oN ls (.inl (ex_rem a b) :: st') h
    | _ => none
  | .i2l => match st with
    | .inl a :: st' => oN ls (.inr (.inr a) :: st') h
    | _ => none
  | .ladd => match st with
    | .inr (.inr b) :: .inr (.inr a) :: st' => oN ls (.inr (.inr (ex_w64 (a + b))) :: st') h
    | _ => none
  | .lcmp => match st with
    | .inr (.inr b) :: .inr (.inr a) :: st' => oN ls (.inl (if b < a then 1 else if a = b then 0 else -1) :: st') h
    | _ => none
  | .dup => match st with
    | v :: st' => if ex_sh v = true then oN ls (v :: v :: st') h else none
    | _ => none
  | .dup2 => match st with
    | v :: w :: st' => if ex_sh v = true ∧ ex_sh w = true then oN ls (v :: w :: v :: w :: st') h else none
    | _ => none
  | .pop => match st with
    | v :: st' => if ex_sh v = true then oN ls st' h else none
    | _ => none
  | .arraylength => match st with
    | .inr (.inl a) :: st' => (match h.1[a]? with
      | some (.inl n) => oN ls (.inl (ex_wr n) :: st') h
      | _ => none)
    | _ => none
  | .iaload => match st with
    | .inl i :: .inr (.inl a) :: st' => (match h.1[a]? with
      | some (.inl n) => if 0 ≤ i ∧ i < (n : Int) then oN ls (.inl (h.2 a i) :: st') h else none
      | _ => none)
    | _ => none
  | .iastore => match st with
    | .inl z :: .inl i :: .inr (.inl a) :: st' => (match h.1[a]? with
      | some (.inl n) => if 4 ≤ a ∧ 0 ≤ i ∧ i < (n : Int) then oN ls st' (h.1, ex_ar h.2 a (ex_u (h.2 a) i z)) else none
      | _ => none)
    | _ => none
  | .aaload => match st with
    | .inl i :: .inr (.inl a) :: st' => (match h.1[a]? with
      | some (.inr (.inl r)) => if 4 ≤ a ∧ 0 ≤ i ∧ i < (r.length : Int) then (match r[i.toNat]? with
        | some (some x) => oN ls (.inr (.inl x) :: st') h
        | _ => none) else none
      | _ => none)
    | _ => none
  | .aastore => match st with
    | .inr (.inl v) :: .inl i :: .inr (.inl a) :: st' => (match h.1[a]? with
      | some (.inr (.inl r)) => if 4 ≤ a ∧ 0 ≤ i ∧ i < (r.length : Int) then (match h.1[v]? with
        | some (.inr (.inr (1, _))) => if 4 ≤ v then oN ls st' (h.1.set a (.inr (.inl (r.set i.toNat (some v)))), h.2) else none
        | _ => none) else none
      | _ => none)
    | _ => none
  | .newarray .int => match st with
    | .inl n :: st' => if 0 ≤ n ∧ n ≤ 65536 ∧ 4 ≤ h.1.length then oN ls (.inr (.inl h.1.length) :: st') (h.1 ++ [.inl n.toNat], ex_ar h.2 h.1.length (fun _ => 0)) else none
    | _ => none
  | .anewarray c => match st with
    | .inl n :: st' => if c = 1 ∧ 0 ≤ n ∧ n ≤ 65536 ∧ 4 ≤ h.1.length then oN ls (.inr (.inl h.1.length) :: st') (h.1 ++ [.inr (.inl (List.replicate n.toNat none))], h.2) else none
    | _ => none
  | .new c => match ex_cf[c]? with
    | some f => if 4 ≤ h.1.length then oN ls (.inr (.inl h.1.length) :: st) (h.1 ++ [.inr (.inr (c, f))], ex_ar h.2 h.1.length (fun _ => 0)) else none
    | none => none
  | .getfield q => match st with
    | .inr (.inl a) :: st' => (match h.1[a]? with
      | some (.inr (.inr (c, f))) => if 4 ≤ a ∧ c = q / 32 then (match f[q % 32]? with
        | some none => oN ls (.inl (h.2 a ((q % 32 : Nat) : Int)) :: st') h
        | some (some (some x)) => oN ls (.inr (.inl x) :: st') h
        | _ => none) else none
      | _ => none)
    | _ => none
  | .putfield q => match st with
    | v :: .inr (.inl a) :: st' => (match h.1[a]? with
      | some (.inr (.inr (c, f))) => if 4 ≤ a ∧ c = q / 32 then (match f[q % 32]?, v with
        | some none, .inl z => oN ls st' (h.1, ex_ar h.2 a (ex_u (h.2 a) ((q % 32 : Nat) : Int) z))
        | some (some _), .inr (.inl x) => oN ls st' (h.1.set a (.inr (.inr (c, f.set (q % 32) (some (some x))))), h.2)
        | _, _ => none) else none
      | _ => none)
    | _ => none
  | .getstatic k => if k < 3 then oN ls (.inr (.inl (k + 1)) :: st) h else none
  | .if_icmp c t => match st with
    | .inl b :: .inl a :: st' => ex_if c a b t.toNat ls st' h
    | _ => none
  | .ifCond c t => match st with
    | .inl a :: st' => ex_if c a 0 t.toNat ls st' h
    | _ => none
  | .ifnull _ => match st with
    | .inr (.inl _) :: st' => oN ls st' h
    | _ => none
  | .goto t => oJ t.toNat ls st h
  | .goto_w t => oJ t.toNat ls st h
  | .tableswitch df lo hi of => match st with
    | .inl a :: st' => if a < lo ∨ hi < a then oJ df.toNat ls st' h else (match of[(a - lo).toNat]? with
      | some t => oJ t.toNat ls st' h
      | none => none)
    | _ => none
  | .lookupswitch df ps => match st with
    | .inl a :: st' => oJ (Op.lookupswitch.offset ps.toList df a).toNat ls st' h
    | _ => none
  | .invokestatic m => ex_ca 0 m st h
  | .invokevirtual m => ex_ca 1 m st h
  | .invokespecial m => ex_ca 2 m st h
  | .invokedynamic k => if k = 1 then (match st with
      | .inr (.inl _) :: st' => if st'.length ≤ 8 ∧ st'.all ex_sh = true then oN ls st' h else none
      | _ => none) else (match st with
      | .inl n :: .inl dp :: .inr (.inl b) :: .inl sp :: .inr (.inl a) :: st' => (match h.1[a]?, h.1[b]? with
        | some (.inl n0), some (.inl n1) => if 4 ≤ a ∧ 4 ≤ b ∧ 0 ≤ sp ∧ 0 ≤ dp ∧ 0 ≤ n ∧ sp + n ≤ (n0 : Int) ∧ dp + n ≤ (n1 : Int) ∧ st'.length ≤ 8 ∧ st'.all ex_sh = true then
            oN ls st' (h.1, ex_ar h.2 b (ex_cpy (h.2 a) (h.2 b) sp dp n)) else none
        | _, _ => none)
      | _ => none)
  | .ireturn => match st with
    | [.inl z] => if rt = 1 ∨ (rt = 2 ∧ (z = 0 ∨ z = 1)) then oR [.inl z] h else none
    | _ => none
  | .return_ => match st with
    | [] => if rt = 0 then oR [] h else none
    | _ => none
  | .ret _ => match st with
    | [] => oR ls h
    | _ => none
  | _ => none
/-- a stretch of code: what it does up to its next jump, or its end -/
def ex_xs (rt : Nat) (J : Nat → List ex_V → List ex_V → ex_H → Option ex_R) (C : Nat → List ex_V → ex_H → Option ex_R) : List Instr → List ex_V → List ex_V → ex_H → Option ex_R
  | [], _, _, _ => none
  | i :: is, ls, st, h => match ex_st rt ls st h i with
    | none => none
    | some (.inl (ls', st', h')) => ex_xs rt J C is ls' st' h'
    | some (.inr (.inl (b, ls', st', h'))) => J b ls' st' h'
    | some (.inr (.inr (.inl (m, as, rest, h')))) => (match C m as h' with
      | some (vs, h'') => ex_xs rt J C is ls (vs ++ rest) h''
      | none => none)
    | some (.inr (.inr (.inr r))) => some r
def ex_rt (m : Nat) : Nat := match ex_mt[m]? with
  | some (_, _, _, _, r) => r
  | none => 0
def ex_fr (m : Nat) (as : List ex_V) : List ex_V := match ex_mt[m]? with
  | some (_, _, n, mL, _) => as ++ List.replicate (mL - n) (.inr (.inr 0))
  | none => as
def ex_k (f : Nat → Option ex_R) (d : Nat) : Option ex_R := match d with
  | 0 => none
  | d' + 1 => f d'
/-- the machine: d calls deep at most, n jumps at most -/
def ex_run : Nat → Nat → Nat → Nat → List ex_V → List ex_V → ex_H → Option ex_R
  | 0, _, _, _, _, _, _ => none
  | n + 1, d, m, b, ls, st, h => ex_xs (ex_rt m) (fun b' ls' st' h' => ex_run n d m b' ls' st' h')
      (fun m' as h' => ex_k (fun d' => ex_run n d' m' 0 (ex_fr m' as) [] h') d) (ex_bk m b) ls st h
/-! more fuel, more depth: the same answer -/
theorem ex_xs_mono {rt : Nat} {J J' : Nat → List ex_V → List ex_V → ex_H → Option ex_R} {C C' : Nat → List ex_V → ex_H → Option ex_R} (hJ : ∀ b ls st h r, J b ls st h = some r → J' b ls st h = some r) (hC : ∀ m as h r, C m as h = some r → C' m as h = some r) :
    ∀ (is : List Instr) (ls st : List ex_V) (h : ex_H) (r : ex_R), ex_xs rt J C is ls st h = some r → ex_xs rt J' C' is ls st h = some r := by
  intro is
  induction is with
  | nil => intro ls st h r e; simp [ex_xs] at e
  | cons i is ih =>
    intro ls st h r e
    unfold ex_xs at e ⊢
    split at e
    · cases e
    · exact ih _ _ _ _ e
    · exact hJ _ _ _ _ _ e
    · split at e
      · next hc => rw [hC _ _ _ _ hc]; exact ih _ _ _ _ e
      · cases e
    · exact e
theorem ex_run_mono : ∀ (n d m b : Nat) (ls st : List ex_V) (h : ex_H) (r : ex_R), ex_run n d m b ls st h = some r → ∀ n' d' : Nat, n ≤ n' → d ≤ d' → ex_run n' d' m b ls st h = some r := by
  intro n
  induction n with
  | zero => intro d m b ls st h r e; simp [ex_run] at e
  | succ n ih =>
    intro d m b ls st h r e n' d' hn hd
    obtain ⟨n'', rfl⟩ : ∃ k, n' = k + 1 := ⟨n' - 1, by omega⟩
    unfold ex_run at e ⊢
    refine ex_xs_mono (fun b ls st h r e => ih _ _ _ _ _ _ _ e _ _ (by omega) hd) (fun m as h r e => ?_) _ _ _ _ _ e
    cases d with
    | zero => cases e
    | succ d =>
      obtain ⟨d'', rfl⟩ : ∃ k, d' = k + 1 := ⟨d' - 1, by omega⟩
      exact ih _ _ _ _ _ _ _ e _ _ (by omega) (by omega)
/-- what a run comes to, however long it is -/
noncomputable def ex_ev (d m b : Nat) (ls st : List ex_V) (h : ex_H) : Option ex_R := by
  classical exact if e : ∃ r n, ex_run n d m b ls st h = some r then some e.choose else none
noncomputable def ex_cl (d m : Nat) (as : List ex_V) (h : ex_H) : Option ex_R := ex_ev d m 0 (ex_fr m as) [] h
/-- a call that stands d deep -/
noncomputable def ex_cd (d m : Nat) (as : List ex_V) (h : ex_H) : Option ex_R := ex_k (fun d' => ex_cl d' m as h) d
theorem ex_ev_some {d m b : Nat} {ls st : List ex_V} {h : ex_H} {r : ex_R} : ex_ev d m b ls st h = some r ↔ ∃ n, ex_run n d m b ls st h = some r := by
  classical
  unfold ex_ev
  constructor
  · intro e
    split at e
    · next hx =>
      cases e
      exact hx.choose_spec
    · cases e
  · rintro ⟨n, e⟩
    have hx : ∃ r n, ex_run n d m b ls st h = some r := ⟨r, n, e⟩
    rw [dif_pos hx]
    obtain ⟨n2, e2⟩ := hx.choose_spec
    have a1 := ex_run_mono _ _ _ _ _ _ _ _ e (n + n2) d (by omega) (Nat.le_refl _)
    have a2 := ex_run_mono _ _ _ _ _ _ _ _ e2 (n + n2) d (by omega) (Nat.le_refl _)
    rw [a1] at a2
    exact congrArg some (Option.some.inj a2).symm
theorem ex_ev_mono {d d' m b : Nat} {ls st : List ex_V} {h : ex_H} {r : ex_R} (e : ex_ev d m b ls st h = some r) (hd : d ≤ d') : ex_ev d' m b ls st h = some r := by
  obtain ⟨n, e⟩ := ex_ev_some.mp e
  exact ex_ev_some.mpr ⟨n, ex_run_mono _ _ _ _ _ _ _ _ e _ _ (Nat.le_refl _) hd⟩
theorem ex_cl_mono {d d' m : Nat} {as : List ex_V} {h : ex_H} {r : ex_R} (e : ex_cl d m as h = some r) (hd : d ≤ d') : ex_cl d' m as h = some r := ex_ev_mono e hd
theorem ex_xs_cont {rt : Nat} {J : Nat → List ex_V → List ex_V → ex_H → Option ex_R} {C : Nat → List ex_V → ex_H → Option ex_R} {Jn : Nat → Nat → List ex_V → List ex_V → ex_H → Option ex_R} {Cn : Nat → Nat → List ex_V → ex_H → Option ex_R}
    (mJ : ∀ n n' b ls st h r, n ≤ n' → Jn n b ls st h = some r → Jn n' b ls st h = some r) (mC : ∀ n n' m as h r, n ≤ n' → Cn n m as h = some r → Cn n' m as h = some r)
    (hJ : ∀ b ls st h r, J b ls st h = some r → ∃ n, Jn n b ls st h = some r) (hC : ∀ m as h r, C m as h = some r → ∃ n, Cn n m as h = some r) :
    ∀ (is : List Instr) (ls st : List ex_V) (h : ex_H) (r : ex_R), ex_xs rt J C is ls st h = some r → ∃ n, ex_xs rt (Jn n) (Cn n) is ls st h = some r := by
  intro is
  induction is with
  | nil => intro ls st h r e; simp [ex_xs] at e
  | cons i is ih =>
    intro ls st h r e
    unfold ex_xs at e ⊢
    split at e
    · cases e
    · exact ih _ _ _ _ e
    · exact hJ _ _ _ _ _ e
    · split at e
      · next hc =>
        obtain ⟨n1, e1⟩ := hC _ _ _ _ hc
        obtain ⟨n2, e2⟩ := ih _ _ _ _ e
        refine ⟨n1 + n2, ?_⟩
        simp only [mC _ (n1 + n2) _ _ _ _ (by omega) e1]
        exact ex_xs_mono (fun b ls st h r e => mJ _ _ _ _ _ _ _ (by omega) e) (fun m as h r e => mC _ _ _ _ _ _ (by omega) e) _ _ _ _ _ e2
      · cases e
    · exact ⟨0, e⟩
theorem ex_ev_eq (d m b : Nat) (ls st : List ex_V) (h : ex_H) : ex_ev d m b ls st h = ex_xs (ex_rt m) (ex_ev d m) (ex_cd d) (ex_bk m b) ls st h := by
  have key : ∀ r, ex_ev d m b ls st h = some r ↔ ex_xs (ex_rt m) (ex_ev d m) (ex_cd d) (ex_bk m b) ls st h = some r := by
    intro r
    rw [ex_ev_some]
    constructor
    · rintro ⟨n, e⟩
      cases n with
      | zero => simp [ex_run] at e
      | succ n =>
        unfold ex_run at e
        refine ex_xs_mono (fun b ls st h r e => ex_ev_some.mpr ⟨n, e⟩) (fun m as h r e => ?_) _ _ _ _ _ e
        cases d with
        | zero => cases e
        | succ d => exact ex_ev_some.mpr ⟨n, e⟩
    · intro e
      obtain ⟨n, e⟩ := ex_xs_cont (Jn := fun n b' ls' st' h' => ex_run n d m b' ls' st' h') (Cn := fun n m' as h' => ex_k (fun d' => ex_run n d' m' 0 (ex_fr m' as) [] h') d) (fun n n' b ls st h r hn e => ex_run_mono _ _ _ _ _ _ _ _ e _ _ hn (Nat.le_refl _)) (fun n n' m as h r hn e => by
          cases d with
          | zero => cases e
          | succ d => exact ex_run_mono _ _ _ _ _ _ _ _ e _ _ hn (Nat.le_refl _)) (fun b ls st h r e => ex_ev_some.mp e) (fun m as h r e => by
          cases d with
          | zero => cases e
          | succ d => exact ex_ev_some.mp e) _ _ _ _ _ e
      exact ⟨n + 1, e⟩
  cases ha : ex_ev d m b ls st h with
  | some r => exact ((key r).mp ha).symm
  | none =>
    cases hb : ex_xs (ex_rt m) (ex_ev d m) (ex_cd d) (ex_bk m b) ls st h with
    | none => rfl
    | some r => rw [(key r).mpr hb] at ha; cases ha
theorem ex_cd_of {d d' m : Nat} {as : List ex_V} {h : ex_H} {r : ex_R} (e : ex_cl d m as h = some r) (hd : d < d') : ex_cd d' m as h = some r := by
  obtain ⟨k, rfl⟩ : ∃ k, d' = k + 1 := ⟨d' - 1, by omega⟩
  exact ex_cl_mono e (by omega)
end
section
/-! the links of the program, as words of the tables; what is checked of each instruction -/
def ex_nm (k : Nat) : String := ex_cn.getD k ""
def ex_my : List (MethodName × ByteArray × Nat × Option FieldType) := [(yX0_init, cX0_init, 1, none),
  (yX0_mostCars, cX0_mostCars, 6, some .int),
  (yX0_waitingCars, cX0_waitingCars, 5, some .int),
  (yX0_shareHours, cX0_shareHours, 8, some .boolean),
  (yX0_neediest, cX0_neediest, 6, some .int),
  (yX0_chargeThose, cX0_chargeThose, 4, some .int),
  (yX1_init, cX1_init, 1, none),
  (yX1_become, cX1_become, 2, none),
  (yX1_placeInEvening, cX1_placeInEvening, 3, some .int),
  (yX2_init, cX2_init, 1, none),
  (yX2_become, cX2_become, 2, none),
  (yX2_isKind, cX2_isKind, 1, some .boolean),
  (yX2_isFact, cX2_isFact, 2, some .boolean),
  (yX2_hasLane, cX2_hasLane, 2, some .boolean),
  (yX2_hasCar, cX2_hasCar, 2, some .boolean),
  (yX2_addLane, cX2_addLane, 6, some .int),
  (yX2_addCar, cX2_addCar, 9, some .int),
  (yX2_fact, cX2_fact, 3, some .int),
  (yX2_changeFact, cX2_changeFact, 5, some .int),
  (yX2_isOfKind, cX2_isOfKind, 5, some .boolean),
  (yX2_cycleOf, cX2_cycleOf, 2, some .int),
  (yX2_bears, cX2_bears, 2, some .int),
  (yX2_suits, cX2_suits, 3, some .boolean),
  (yX2_carAt, cX2_carAt, 3, some .int),
  (yX2_lengthLeft, cX2_lengthLeft, 4, some .int),
  (yX2_isShut, cX2_isShut, 2, some .boolean),
  (yX2_isFree, cX2_isFree, 3, some .boolean),
  (yX2_parkFinding, cX2_parkFinding, 3, some .int),
  (yX2_shuntFinding, cX2_shuntFinding, 3, some .int),
  (yX2_bring, cX2_bring, 3, none),
  (yX2_take, cX2_take, 3, none),
  (yX2_move, cX2_move, 3, none),
  (yX2_moveBack, cX2_moveBack, 4, none),
  (yX2_forgetCycles, cX2_forgetCycles, 3, some .int),
  (yX2_carsAhead, cX2_carsAhead, 5, some .int),
  (yX2_carsInLanes, cX2_carsInLanes, 3, some .int),
  (yX2_morningOf, cX2_morningOf, 6, some .int),
  (yX2_floodMinute, cX2_floodMinute, 2, some .int),
  (yX3_init, cX3_init, 1, none),
  (yX3_become, cX3_become, 2, none),
  (yX3_add, cX3_add, 4, none),
  (yX3_isThere, cX3_isThere, 7, some .boolean),
  (yX3_carsWithKey, cX3_carsWithKey, 5, some .int),
  (yX4_init, cX4_init, 1, none),
  (yX4_become, cX4_become, 2, none),
  (yX4_add, cX4_add, 3, none),
  (yX4_shareOf, cX4_shareOf, 11, some .int),
  (yX4_latestUnharmed, cX4_latestUnharmed, 3, some .int),
  (yX4_firstHarmed, cX4_firstHarmed, 4, some .int),
  (yX4_shuntsBy, cX4_shuntsBy, 7, some .int),
  (yX5_init, cX5_init, 1, none),
  (yX5_leastMornings, cX5_leastMornings, 2, some .int),
  (yX5_assign, cX5_assign, 8, none),
  (yX5_added, cX5_added, 7, some .int),
  (yX6_init, cX6_init, 1, none),
  (yX6_mostBids, cX6_mostBids, 3, some .int),
  (yX6_give, cX6_give, 7, none),
  (yX6_rentOf, cX6_rentOf, 5, some .int),
  (yX7_init, cX7_init, 1, none),
  (yX7_mostWorth, cX7_mostWorth, 4, some .int),
  (yX7_takeMore, cX7_takeMore, 8, none),
  (yX8_init, cX8_init, 1, none),
  (yX8_isSign, cX8_isSign, 1, some .boolean),
  (yX8_suppose, cX8_suppose, 7, none),
  (yX8_let, cX8_let, 3, some .boolean),
  (yX8_firstFault, cX8_firstFault, 7, some .int),
  (yX8_asked, cX8_asked, 1, some .int),
  (yX8_worked, cX8_worked, 5, some .int),
  (yX8_knownBy, cX8_knownBy, 2, some .int),
  (yX8_joins, cX8_joins, 3, some .boolean),
  (yX9_init, cX9_init, 1, none),
  (yX9_isSheet, cX9_isSheet, 2, some .boolean),
  (yX9_isMissing, cX9_isMissing, 2, some .boolean),
  (yX9_begin, cX9_begin, 4, none),
  (yX9_number, cX9_number, 3, some .int),
  (yX9_write, cX9_write, 4, none),
  (yX9_hasSpan, cX9_hasSpan, 4, some .boolean),
  (yX9_carryOver, cX9_carryOver, 6, none),
  (yX10_init, cX10_init, 1, none),
  (yX10_begin, cX10_begin, 3, none),
  (yX10_frees, cX10_frees, 2, some .boolean),
  (yX10_shortest, cX10_shortest, 5, some .int),
  (yX10_search, cX10_search, 9, some .boolean),
  (yX10_carryOut, cX10_carryOut, 5, some .boolean),
  (yX11_init, cX11_init, 2, none),
  (yX11_lane, cX11_lane, 5, some .int),
  (yX11_as, cX11_as, 3, some .int),
  (yX11_laneIs, cX11_laneIs, 4, some .int),
  (yX11_breaks, cX11_breaks, 5, some .int),
  (yX11_car, cX11_car, 7, some .int),
  (yX11_carIs, cX11_carIs, 4, some .int),
  (yX11_tell, cX11_tell, 4, some .int),
  (yX11_at, cX11_at, 4, some .int),
  (yX11_fits, cX11_fits, 3, some .int),
  (yX11_park, cX11_park, 5, some .int),
  (yX11_shunt, cX11_shunt, 5, some .int),
  (yX11_leave, cX11_leave, 4, some .int),
  (yX11_night, cX11_night, 1, some .int),
  (yX11_hour, cX11_hour, 3, some .int),
  (yX11_ahead, cX11_ahead, 3, some .int),
  (yX11_fewest, cX11_fewest, 4, some .int),
  (yX11_step, cX11_step, 5, some .int),
  (yX11_proves, cX11_proves, 4, some .int),
  (yX11_morning, cX11_morning, 4, some .int),
  (yX11_arrive, cX11_arrive, 2, some .int),
  (yX11_clear, cX11_clear, 2, some .int),
  (yX11_plan, cX11_plan, 2, some .int),
  (yX11_planned, cX11_planned, 3, some .int),
  (yX11_chargers, cX11_chargers, 3, some .int),
  (yX11_charged, cX11_charged, 1, some .int),
  (yX11_charging, cX11_charging, 3, some .int),
  (yX11_bid, cX11_bid, 5, some .int),
  (yX11_given, cX11_given, 2, some .int),
  (yX11_rent, cX11_rent, 2, some .int),
  (yX11_giving, cX11_giving, 1, some .int),
  (yX11_porter, cX11_porter, 3, some .int),
  (yX11_look, cX11_look, 3, some .int),
  (yX11_harm, cX11_harm, 5, some .int),
  (yX11_text, cX11_text, 4, some .int),
  (yX11_wrong, cX11_wrong, 1, some .int),
  (yX11_lets, cX11_lets, 4, some .int),
  (yX11_flood, cX11_flood, 4, some .int),
  (yX11_pace, cX11_pace, 3, some .int),
  (yX11_rescue, cX11_rescue, 1, some .int),
  (yX11_rescued, cX11_rescued, 2, some .int),
  (yX11_note, cX11_note, 4, some .int),
  (yX11_key, cX11_key, 4, some .int),
  (yX11_sheet, cX11_sheet, 4, some .int),
  (yX11_put, cX11_put, 4, some .int),
  (yX11_copy, cX11_copy, 6, some .int),
  (yX11_undo, cX11_undo, 2, some .int),
  (yX11_all, cX11_all, 2, some .int),
  (yX11_refuse, cX11_refuse, 2, some .int),
  (yX11_keepForUndo, cX11_keepForUndo, 2, none),
  (yX11_inLaneFinding, cX11_inLaneFinding, 2, some .int),
  (yX11_keysNow, cX11_keysNow, 1, some .int),
  (yX11_isLet, cX11_isLet, 5, some .boolean),
  (yX11_isWithin, cX11_isWithin, 3, some .boolean),
  (yX11_isHour, cX11_isHour, 1, some .boolean),
  (yX11_isTenant, cX11_isTenant, 1, some .boolean),
  (yX11_isPorter, cX11_isPorter, 1, some .boolean),
  (yX12_init, cX12_init, 2, none),
  (yX12_finding, cX12_finding, 2, some .int),
  (yX12_within, cX12_within, 3, some .boolean),
  (yX12_isLane, cX12_isLane, 2, some .boolean),
  (yX12_isCar, cX12_isCar, 2, some .boolean),
  (yX12_isHour, cX12_isHour, 1, some .boolean),
  (yX12_keep, cX12_keep, 2, none),
  (yX12_undo, cX12_undo, 2, some .int),
  (yX12_lane, cX12_lane, 6, some .int),
  (yX12_isLift, cX12_isLift, 2, some .boolean),
  (yX12_as, cX12_as, 4, some .int),
  (yX12_carAt, cX12_carAt, 3, some .int),
  (yX12_leftOf, cX12_leftOf, 4, some .int),
  (yX12_laneIs, cX12_laneIs, 3, some .int),
  (yX12_breaks, cX12_breaks, 4, some .int),
  (yX12_car, cX12_car, 9, some .int),
  (yX12_standOf, cX12_standOf, 4, some .int),
  (yX12_manyAhead, cX12_manyAhead, 2, some .int),
  (yX12_carIs, cX12_carIs, 4, some .int),
  (yX12_tell, cX12_tell, 5, some .int),
  (yX12_at, cX12_at, 3, some .int),
  (yX12_canFit, cX12_canFit, 3, some .boolean),
  (yX12_fits, cX12_fits, 3, some .int),
  (yX12_isStuck, cX12_isStuck, 2, some .boolean),
  (yX12_isFree, cX12_isFree, 3, some .boolean),
  (yX12_turns, cX12_turns, 2, none),
  (yX12_comes, cX12_comes, 3, none),
  (yX12_goes, cX12_goes, 2, none),
  (yX12_park, cX12_park, 3, some .int),
  (yX12_hinders, cX12_hinders, 4, some .int),
  (yX12_does, cX12_does, 3, none),
  (yX12_led, cX12_led, 3, none),
  (yX12_shunt, cX12_shunt, 4, some .int),
  (yX12_leave, cX12_leave, 3, some .int),
  (yX12_night, cX12_night, 3, some .int),
  (yX12_hour, cX12_hour, 3, some .int),
  (yX12_ahead, cX12_ahead, 5, some .int),
  (yX12_lay, cX12_lay, 3, none),
  (yX12_bring, cX12_bring, 3, none),
  (yX12_frees, cX12_frees, 6, some .boolean),
  (yX12_findFewest, cX12_findFewest, 3, some .int),
  (yX12_fewest, cX12_fewest, 3, some .int),
  (yX12_step, cX12_step, 4, some .int),
  (yX12_proves, cX12_proves, 6, some .int),
  (yX12_morningOf, cX12_morningOf, 5, some .int),
  (yX12_morning, cX12_morning, 4, some .int),
  (yX12_arrivalOf, cX12_arrivalOf, 3, some .int),
  (yX12_arrive, cX12_arrive, 2, some .int),
  (yX12_clear, cX12_clear, 2, some .int),
  (yX12_moreBy, cX12_moreBy, 8, some .int),
  (yX12_plans, cX12_plans, 5, none),
  (yX12_findPlan, cX12_findPlan, 1, none),
  (yX12_plan, cX12_plan, 1, some .int),
  (yX12_planned, cX12_planned, 3, some .int),
  (yX12_chargers, cX12_chargers, 3, some .int),
  (yX12_begin, cX12_begin, 3, none),
  (yX12_charge, cX12_charge, 7, some .int),
  (yX12_canAll, cX12_canAll, 4, some .boolean),
  (yX12_many, cX12_many, 3, some .int),
  (yX12_findCharged, cX12_findCharged, 4, some .int),
  (yX12_charged, cX12_charged, 1, some .int),
  (yX12_charging, cX12_charging, 4, some .int),
  (yX12_bid, cX12_bid, 5, some .int),
  (yX12_mostFrom, cX12_mostFrom, 6, some .int),
  (yX12_findGiving, cX12_findGiving, 6, some .int),
  (yX12_given, cX12_given, 3, some .int),
  (yX12_rent, cX12_rent, 3, some .int),
  (yX12_giving, cX12_giving, 1, some .int),
  (yX12_porter, cX12_porter, 3, some .int),
  (yX12_look, cX12_look, 3, some .int),
  (yX12_harm, cX12_harm, 11, some .int),
  (yX12_isSign, cX12_isSign, 1, some .boolean),
  (yX12_text, cX12_text, 3, some .int),
  (yX12_wrongAt, cX12_wrongAt, 5, some .int),
  (yX12_wrong, cX12_wrong, 1, some .int),
  (yX12_readBy, cX12_readBy, 5, some .int),
  (yX12_joined, cX12_joined, 3, some .boolean),
  (yX12_isLet, cX12_isLet, 7, some .boolean),
  (yX12_lets, cX12_lets, 4, some .int),
  (yX12_flood, cX12_flood, 4, some .int),
  (yX12_pace, cX12_pace, 3, some .int),
  (yX12_minuteOf, cX12_minuteOf, 3, some .int),
  (yX12_rescues, cX12_rescues, 5, none),
  (yX12_findRescue, cX12_findRescue, 1, none),
  (yX12_rescue, cX12_rescue, 1, some .int),
  (yX12_rescued, cX12_rescued, 2, some .int),
  (yX12_note, cX12_note, 4, some .int),
  (yX12_hasKey, cX12_hasKey, 9, some .boolean),
  (yX12_key, cX12_key, 4, some .int),
  (yX12_isSheet, cX12_isSheet, 1, some .boolean),
  (yX12_sheet, cX12_sheet, 5, some .int),
  (yX12_put, cX12_put, 5, some .int),
  (yX12_copy, cX12_copy, 7, some .int),
  (yX12_all, cX12_all, 4, some .int),
  (yJ6_bitCount_0f7a4, cJ6_bitCount_0f7a4, 1, some .int),
  (yJ9_max_7cf53, cJ9_max_7cf53, 2, some .int),
  (yJ9_min_7cf53, cJ9_min_7cf53, 2, some .int),
  (yJ7_rangeCheck_23922, cJ7_rangeCheck_23922, 3, none),
  (yJ7_fill_53178, cJ7_fill_53178, 4, none),
  (yJ7_fill_fda19, cJ7_fill_fda19, 5, none),
  (yL_law, cL_law, 4, some .boolean)]
def ex_y (m : Nat) : MethodName := match ex_my[m]? with
  | some q => q.1
  | none => yL_law
def ex_fT (q : Nat) : String × String × String × Bool := match vwCl[q / 32]? with
  | some c => c.2.1 (q % 32)
  | none => ("", "", "", false)
def ex_sN (k : Nat) : String := ["KIND_ABOVE", "LEAST_FACT", "MOST_FACT"].getD k ""
/-- a link: its kind, the class, the place in its pool, what it names -/
abbrev ex_L : Type := Nat × Nat × Nat × Int
def ex_lw (q : ex_L) : Cond := match q.1 with
  | 1 => .fieldLink (ex_nm q.2.1) q.2.2.1 (ex_fT q.2.2.2.toNat).1 (ex_fT q.2.2.2.toNat).2.1 (ex_fT q.2.2.2.toNat).2.2.1
  | 2 => .methodLink (ex_nm q.2.1) q.2.2.1 (ex_y q.2.2.2.toNat)
  | 3 => .methodLinkNest (ex_nm q.2.1) q.2.2.1 (ex_y q.2.2.2.toNat) "CellarCars"
  | 4 => .constant (ex_nm q.2.1) q.2.2.1 (Int32.ofInt q.2.2.2)
  | 5 => .classLink (ex_nm q.2.1) q.2.2.1 (ex_nm q.2.2.2.toNat)
  | 6 => .fieldLink (ex_nm q.2.1) q.2.2.1 "CellarCars$Garage" (ex_sN q.2.2.2.toNat) "[I"
  | 7 => .methodLink (ex_nm q.2.1) q.2.2.1 objectInit
  | _ => .methodLink (ex_nm q.2.1) q.2.2.1 arraycopyName
def ex_lk_0 : List ex_L := [(7, 0, 3, 0), (1, 0, 9, 0), (1, 0, 15, 1), (2, 0, 18, 2), (2, 0, 22, 235), (2, 0, 28, 3), (1, 0, 32, 65), (1, 0, 38, 76), (2, 0, 41, 17), (2, 0, 45, 4), (2, 0, 49, 5)]
def ex_lp_0 : List Nat := [314, 315, 317, 805, 810, 811, 103, 127, 809, 815, 819]
def ex_lk_1 : List ex_L := [(7, 1, 3, 0), (5, 1, 9, 2), (3, 1, 11, 9), (1, 1, 12, 32), (5, 1, 18, 4), (3, 1, 20, 43), (1, 1, 21, 33), (5, 1, 25, 3), (3, 1, 27, 38), (1, 1, 28, 34), (1, 1, 32, 35), (1, 1, 36, 36), (1, 1, 39, 37), (1, 1, 42, 38), (1, 1, 46, 39), (1, 1, 49, 40), (1, 1, 52, 41), (1, 1, 55, 42), (1, 1, 58, 43), (1, 1, 61, 44), (2, 1, 64, 10), (2, 1, 68, 44), (2, 1, 71, 39), (8, 1, 74, 0)]
def ex_lp_1 : List Nat := [90, 91, 93, 195, 158, 160, 198, 175, 177, 200, 202, 204, 206, 209, 211, 214, 216, 218, 220, 222, 440, 447, 452, 457]
def ex_lk_2 : List ex_L := [(7, 2, 3, 0), (1, 2, 9, 64), (1, 2, 15, 65), (1, 2, 18, 66), (1, 2, 22, 67), (1, 2, 25, 68), (1, 2, 28, 69), (1, 2, 31, 70), (1, 2, 34, 71), (1, 2, 37, 72), (1, 2, 40, 73), (1, 2, 43, 74), (1, 2, 46, 75), (1, 2, 49, 76), (8, 2, 52, 0), (6, 2, 58, 0), (6, 2, 61, 1), (6, 2, 64, 2), (2, 2, 67, 17), (2, 2, 71, 21), (2, 2, 75, 23), (2, 2, 78, 25), (4, 2, 82, (-100007)), (2, 2, 83, 22), (4, 2, 87, (-100004)), (4, 2, 88, (-100008)), (2, 2, 89, 24), (4, 2, 92, (-100005)), (4, 2, 93, (-100006)), (2, 2, 94, 26), (2, 2, 97, 20), (2, 2, 100, 30), (2, 2, 104, 29), (2, 2, 108, 31), (2, 2, 111, 236)]
def ex_lp_2 : List Nat := [96, 97, 102, 106, 108, 111, 113, 114, 116, 118, 121, 124, 125, 126, 444, 421, 509, 511, 494, 558, 490, 570, 567, 568, 569, 574, 575, 576, 593, 594, 581, 638, 642, 722, 934]
def ex_lk_3 : List ex_L := [(7, 3, 3, 0), (1, 3, 9, 96), (1, 3, 15, 97), (1, 3, 19, 98), (1, 3, 22, 99), (8, 3, 25, 0), (2, 3, 31, 41)]
def ex_lp_3 : List Nat := [180, 181, 183, 184, 185, 456, 689]
def ex_lk_4 : List ex_L := [(7, 4, 3, 0), (1, 4, 9, 128), (1, 4, 15, 129), (1, 4, 19, 130), (8, 4, 22, 0), (2, 4, 28, 47), (2, 4, 32, 48), (2, 4, 36, 49)]
def ex_lp_4 : List Nat := [163, 164, 166, 167, 451, 880, 884, 888]
def ex_lk_5 : List ex_L := [(7, 5, 3, 0), (1, 5, 9, 160), (1, 5, 15, 161), (1, 5, 18, 162), (1, 5, 21, 163), (2, 5, 25, 239), (2, 5, 31, 52), (1, 5, 35, 39), (8, 5, 40, 0), (1, 5, 46, 32), (1, 5, 50, 37), (2, 5, 55, 17), (1, 5, 59, 64), (1, 5, 62, 67), (2, 5, 65, 22), (2, 5, 69, 53)]
def ex_lp_5 : List Nat := [294, 295, 297, 298, 299, 775, 778, 212, 782, 197, 207, 783, 100, 109, 784, 785]
def ex_lk_6 : List ex_L := [(7, 6, 3, 0), (1, 6, 9, 192), (1, 6, 15, 193), (1, 6, 18, 194), (2, 6, 22, 56), (8, 6, 26, 0), (2, 6, 32, 55)]
def ex_lp_6 : List Nat := [328, 329, 331, 332, 843, 847, 856]
def ex_lk_7 : List ex_L := [(7, 7, 3, 0), (1, 7, 9, 224), (1, 7, 15, 225), (1, 7, 19, 226), (1, 7, 22, 227), (1, 7, 25, 228), (1, 7, 28, 64), (1, 7, 33, 72), (1, 7, 36, 73), (2, 7, 39, 60), (8, 7, 43, 0), (2, 7, 49, 37), (2, 7, 53, 23), (2, 7, 57, 17)]
def ex_lp_7 : List Nat := [358, 359, 361, 363, 364, 365, 98, 119, 122, 925, 929, 930, 937, 938]
def ex_lk_8 : List ex_L := [(7, 8, 3, 0), (1, 8, 11, 256), (1, 8, 15, 257), (2, 8, 18, 65), (2, 8, 22, 66), (2, 8, 26, 67), (2, 8, 30, 68), (2, 8, 33, 69)]
def ex_lp_8 : List Nat := [345, 346, 347, 615, 619, 622, 626, 630]
def ex_lk_9 : List ex_L := [(7, 9, 3, 0), (1, 9, 9, 288), (1, 9, 15, 289), (1, 9, 18, 290), (2, 9, 21, 240), (8, 9, 27, 0)]
def ex_lp_9 : List Nat := [257, 258, 260, 262, 963, 989]
def ex_lk_10 : List ex_L := [(7, 10, 3, 0), (1, 10, 9, 320), (5, 10, 15, 2), (3, 10, 17, 9), (1, 10, 18, 321), (1, 10, 22, 322), (2, 10, 26, 10), (2, 10, 30, 26), (2, 10, 34, 79), (2, 10, 38, 82), (2, 10, 42, 80), (2, 10, 45, 34), (2, 10, 49, 235), (1, 10, 54, 65), (1, 10, 57, 76), (1, 10, 60, 64), (2, 10, 63, 83), (2, 10, 67, 32), (2, 10, 71, 14), (2, 10, 74, 13), (2, 10, 77, 28), (2, 10, 81, 31)]
def ex_lp_10 : List Nat := [275, 278, 276, 277, 280, 281, 698, 707, 694, 699, 703, 708, 709, 104, 128, 101, 710, 718, 714, 715, 716, 717]
def ex_lk_11 : List ex_L := [(7, 11, 1, 0), (5, 11, 7, 1), (3, 11, 9, 6), (1, 11, 10, 352), (1, 11, 16, 353), (5, 11, 20, 9), (3, 11, 22, 70), (1, 11, 23, 354), (5, 11, 27, 10), (3, 11, 29, 78), (1, 11, 30, 355), (5, 11, 34, 5), (3, 11, 36, 50), (1, 11, 37, 356), (5, 11, 41, 0), (3, 11, 43, 0), (1, 11, 44, 357), (5, 11, 48, 6), (3, 11, 50, 54), (1, 11, 51, 358), (5, 11, 55, 8), (3, 11, 57, 61), (1, 11, 58, 359), (5, 11, 62, 7), (3, 11, 64, 58), (1, 11, 65, 360), (1, 11, 69, 361), (1, 11, 73, 362), (1, 11, 76, 363), (2, 11, 79, 11), (2, 11, 85, 137), (4, 11, 89, (-100001)), (2, 11, 90, 132), (1, 11, 94, 32), (1, 11, 98, 64), (4, 11, 101, (-100005)), (2, 11, 102, 133), (2, 11, 105, 15), (2, 11, 109, 13), (2, 11, 112, 19), (4, 11, 116, (-100004)), (1, 11, 117, 66), (1, 11, 121, 67), (1, 11, 124, 68), (2, 11, 127, 21), (1, 11, 130, 73), (2, 11, 133, 24), (1, 11, 136, 71), (1, 11, 139, 72), (2, 11, 142, 12), (1, 11, 145, 65), (2, 11, 148, 16), (2, 11, 152, 14), (2, 11, 155, 17), (1, 11, 159, 76), (2, 11, 162, 34), (2, 11, 165, 235), (2, 11, 170, 18), (4, 11, 174, (-100006)), (2, 11, 175, 23), (2, 11, 178, 22), (2, 11, 181, 27), (2, 11, 184, 29), (2, 11, 188, 28), (1, 11, 191, 34), (1, 11, 195, 40), (1, 11, 198, 96), (2, 11, 203, 41), (4, 11, 206, (-100002)), (2, 11, 207, 136), (4, 11, 210, (-100009)), (2, 11, 211, 31), (1, 11, 214, 33), (1, 11, 218, 42), (2, 11, 221, 45), (1, 11, 226, 44), (2, 11, 229, 134), (2, 11, 232, 26), (4, 11, 235, (-100008)), (2, 11, 236, 30), (2, 11, 240, 33), (2, 11, 244, 138), (2, 11, 247, 135), (2, 11, 250, 81), (1, 11, 254, 320), (2, 11, 257, 71), (2, 11, 260, 72), (2, 11, 263, 79), (1, 11, 267, 289), (2, 11, 270, 74), (2, 11, 273, 83), (2, 11, 276, 80), (2, 11, 279, 36), (2, 11, 282, 8), (4, 11, 285, (-100007)), (1, 11, 286, 39), (1, 11, 289, 37), (2, 11, 292, 51), (1, 11, 296, 160), (1, 11, 299, 41), (2, 11, 302, 1), (2, 11, 306, 3), (1, 11, 310, 0), (2, 11, 313, 139), (1, 11, 316, 35), (2, 11, 319, 55), (1, 11, 323, 192), (2, 11, 324, 57), (2, 11, 327, 140), (1, 11, 330, 128), (2, 11, 331, 46), (4, 11, 334, (-100003)), (2, 11, 335, 62), (1, 11, 338, 36), (1, 11, 341, 38), (2, 11, 344, 65), (1, 11, 347, 70), (1, 11, 350, 43), (2, 11, 353, 59), (1, 11, 356, 225), (1, 11, 359, 224), (2, 11, 360, 40), (2, 11, 363, 73), (2, 11, 366, 75), (1, 11, 369, 288), (2, 11, 372, 76), (2, 11, 375, 77), (2, 11, 379, 7), (2, 11, 383, 35), (2, 11, 386, 237), (2, 11, 391, 42), (2, 11, 394, 63), (2, 11, 398, 64)]
def ex_lp_11 : List Nat := [82, 85, 87, 377, 378, 252, 254, 379, 270, 272, 380, 289, 291, 381, 309, 311, 382, 323, 325, 383, 340, 342, 384, 353, 355, 385, 386, 387, 388, 418, 423, 426, 427, 196, 99, 431, 432, 461, 469, 473, 477, 107, 110, 112, 482, 123, 486, 117, 120, 506, 105, 513, 521, 525, 129, 526, 530, 540, 548, 549, 554, 563, 577, 589, 201, 215, 182, 598, 602, 603, 633, 634, 199, 219, 643, 223, 651, 655, 656, 657, 662, 670, 681, 690, 279, 731, 735, 739, 261, 740, 744, 745, 750, 758, 762, 213, 208, 771, 296, 217, 801, 827, 316, 832, 203, 839, 330, 852, 865, 165, 876, 896, 897, 205, 210, 904, 115, 221, 921, 362, 360, 947, 959, 973, 259, 981, 985, 436, 998, 458, 685, 607, 611]
def ex_lk_12 : List ex_L := [(7, 12, 1, 0), (1, 12, 9, 384), (1, 12, 13, 385), (1, 12, 16, 388), (1, 12, 19, 389), (1, 12, 22, 390), (1, 12, 25, 391), (1, 12, 28, 392), (1, 12, 31, 393), (1, 12, 34, 394), (1, 12, 37, 396), (1, 12, 40, 397), (1, 12, 43, 398), (1, 12, 46, 401), (1, 12, 49, 402), (1, 12, 52, 403), (1, 12, 55, 404), (1, 12, 58, 387), (2, 12, 62, 143), (1, 12, 66, 386), (4, 12, 69, (-100006)), (2, 12, 70, 142), (4, 12, 74, (-100001)), (4, 12, 75, (-100005)), (2, 12, 76, 147), (2, 12, 79, 144), (4, 12, 83, (-100004)), (2, 12, 84, 152), (2, 12, 88, 153), (2, 12, 91, 150), (2, 12, 94, 146), (2, 12, 97, 145), (2, 12, 100, 157), (2, 12, 103, 158), (2, 12, 106, 162), (2, 12, 110, 164), (2, 12, 113, 166), (4, 12, 117, (-100007)), (4, 12, 118, (-100008)), (2, 12, 119, 167), (2, 12, 123, 165), (2, 12, 126, 228), (4, 12, 129, (-100002)), (2, 12, 130, 168), (2, 12, 133, 170), (2, 12, 136, 218), (4, 12, 139, (-100009)), (2, 12, 140, 171), (2, 12, 143, 172), (2, 12, 146, 178), (2, 12, 149, 180), (2, 12, 152, 179), (2, 12, 155, 181), (2, 12, 158, 230), (2, 12, 161, 185), (2, 12, 164, 187), (1, 12, 167, 395), (2, 12, 170, 190), (2, 12, 173, 191), (2, 12, 176, 192), (2, 12, 179, 196), (2, 12, 182, 197), (2, 12, 185, 199), (2, 12, 188, 198), (2, 12, 191, 200), (2, 12, 195, 204), (2, 12, 199, 236), (2, 12, 204, 205), (4, 12, 207, (-100003)), (2, 12, 208, 212), (2, 12, 211, 214), (2, 12, 214, 216), (2, 12, 218, 217), (1, 12, 221, 399), (1, 12, 224, 400), (2, 12, 227, 222), (2, 12, 230, 223), (2, 12, 233, 224)]
def ex_lp_12 : List Nat := [1007, 1008, 1009, 1012, 1013, 1014, 1015, 1016, 1017, 1018, 1020, 1021, 1022, 1025, 1026, 1027, 1028, 1011, 1085, 1010, 1076, 1077, 1088, 1089, 1090, 1098, 1102, 1111, 1107, 1119, 1127, 1134, 1138, 1142, 1158, 1167, 1176, 1166, 1171, 1172, 1188, 1192, 1196, 1217, 1184, 1197, 1212, 1213, 1221, 1253, 1249, 1257, 1245, 1269, 1276, 1284, 1019, 1304, 1300, 1296, 1331, 1335, 1324, 1327, 1320, 1355, 1359, 1351, 1384, 1385, 1201, 1205, 1209, 1023, 1024, 1416, 1412, 1408]
def ex_lk_13 : List ex_L := [(4, 13, 265, 1431655765), (4, 13, 266, 858993459), (4, 13, 267, 252645135)]
def ex_lp_13 : List Nat := [533, 534, 535]
def ex_lk_15 : List ex_L := [(2, 15, 13, 238)]
def ex_lp_15 : List Nat := [966]
def ex_lk_16 : List ex_L := [(5, 16, 7, 11), (2, 16, 9, 84), (5, 16, 10, 12), (2, 16, 12, 141), (2, 16, 13, 85), (2, 16, 17, 149), (2, 16, 18, 86), (2, 16, 22, 151), (2, 16, 23, 87), (2, 16, 26, 154), (2, 16, 27, 88), (2, 16, 31, 155), (2, 16, 32, 89), (2, 16, 36, 156), (2, 16, 37, 90), (2, 16, 40, 159), (2, 16, 41, 91), (2, 16, 45, 160), (2, 16, 46, 92), (2, 16, 49, 161), (2, 16, 50, 93), (2, 16, 53, 163), (2, 16, 54, 94), (2, 16, 57, 169), (2, 16, 58, 95), (2, 16, 61, 173), (2, 16, 62, 96), (2, 16, 66, 174), (2, 16, 67, 97), (2, 16, 71, 175), (2, 16, 72, 98), (2, 16, 75, 176), (2, 16, 76, 99), (2, 16, 79, 177), (2, 16, 80, 100), (2, 16, 83, 182), (2, 16, 84, 101), (2, 16, 87, 183), (2, 16, 88, 102), (2, 16, 91, 184), (2, 16, 92, 103), (2, 16, 95, 186), (2, 16, 96, 104), (2, 16, 99, 188), (2, 16, 100, 105), (2, 16, 103, 189), (2, 16, 104, 106), (2, 16, 107, 193), (2, 16, 108, 107), (2, 16, 111, 194), (2, 16, 112, 108), (2, 16, 115, 195), (2, 16, 116, 109), (2, 16, 119, 201), (2, 16, 120, 110), (2, 16, 123, 202), (2, 16, 124, 111), (2, 16, 127, 203), (2, 16, 128, 112), (2, 16, 131, 206), (2, 16, 132, 113), (2, 16, 135, 207), (2, 16, 136, 114), (2, 16, 139, 208), (2, 16, 140, 115), (2, 16, 143, 209), (2, 16, 144, 116), (2, 16, 147, 210), (2, 16, 148, 117), (2, 16, 151, 211), (2, 16, 152, 118), (2, 16, 155, 213), (2, 16, 156, 119), (2, 16, 159, 215), (2, 16, 160, 120), (2, 16, 163, 219), (2, 16, 164, 121), (2, 16, 167, 220), (2, 16, 168, 122), (2, 16, 171, 221), (2, 16, 172, 123), (2, 16, 175, 225), (2, 16, 176, 124), (2, 16, 179, 226), (2, 16, 180, 125), (2, 16, 184, 227), (2, 16, 185, 126), (2, 16, 188, 229), (2, 16, 189, 127), (2, 16, 192, 231), (2, 16, 193, 128), (2, 16, 196, 232), (2, 16, 197, 129), (2, 16, 201, 233), (2, 16, 202, 130), (2, 16, 205, 148), (2, 16, 206, 131), (2, 16, 209, 234)]
def ex_lp_16 : List Nat := [77, 79, 1002, 1004, 414, 1081, 465, 1094, 478, 1103, 498, 1115, 502, 1123, 517, 1130, 536, 1146, 544, 1150, 550, 1154, 559, 1162, 585, 1180, 647, 1225, 658, 1229, 666, 1233, 673, 1237, 677, 1241, 723, 1261, 727, 1265, 746, 1272, 754, 1280, 763, 1288, 767, 1292, 789, 1308, 793, 1312, 797, 1316, 823, 1339, 828, 1343, 835, 1347, 848, 1360, 857, 1364, 861, 1368, 868, 1372, 872, 1376, 892, 1380, 900, 1388, 905, 1392, 909, 1396, 913, 1400, 917, 1404, 939, 1420, 943, 1424, 951, 1428, 955, 1432, 969, 1436, 977, 1440, 990, 1072, 994, 1444]
def ex_lk (own : Nat) : List ex_L := match own with
  | 0 => ex_lk_0
  | 1 => ex_lk_1
  | 2 => ex_lk_2
  | 3 => ex_lk_3
  | 4 => ex_lk_4
  | 5 => ex_lk_5
  | 6 => ex_lk_6
  | 7 => ex_lk_7
  | 8 => ex_lk_8
  | 9 => ex_lk_9
  | 10 => ex_lk_10
  | 11 => ex_lk_11
  | 12 => ex_lk_12
  | 13 => ex_lk_13
  | 15 => ex_lk_15
  | 16 => ex_lk_16
  | _ => []
set_option maxRecDepth 100000 in
theorem ex_lo_0 : (List.zip ex_lk_0 ex_lp_0).all (fun q => decide (lw_tbl[q.2]? = some (ex_lw q.1))) = true ∧ ex_lk_0.length = ex_lp_0.length := by decide +kernel
set_option maxRecDepth 100000 in
theorem ex_lo_1 : (List.zip ex_lk_1 ex_lp_1).all (fun q => decide (lw_tbl[q.2]? = some (ex_lw q.1))) = true ∧ ex_lk_1.length = ex_lp_1.length := by decide +kernel
set_option maxRecDepth 100000 in
theorem ex_lo_2 : (List.zip ex_lk_2 ex_lp_2).all (fun q => decide (lw_tbl[q.2]? = some (ex_lw q.1))) = true ∧ ex_lk_2.length = ex_lp_2.length := by decide +kernel
set_option maxRecDepth 100000 in
theorem ex_lo_3 : (List.zip ex_lk_3 ex_lp_3).all (fun q => decide (lw_tbl[q.2]? = some (ex_lw q.1))) = true ∧ ex_lk_3.length = ex_lp_3.length := by decide +kernel
set_option maxRecDepth 100000 in
theorem ex_lo_4 : (List.zip ex_lk_4 ex_lp_4).all (fun q => decide (lw_tbl[q.2]? = some (ex_lw q.1))) = true ∧ ex_lk_4.length = ex_lp_4.length := by decide +kernel
set_option maxRecDepth 100000 in
theorem ex_lo_5 : (List.zip ex_lk_5 ex_lp_5).all (fun q => decide (lw_tbl[q.2]? = some (ex_lw q.1))) = true ∧ ex_lk_5.length = ex_lp_5.length := by decide +kernel
set_option maxRecDepth 100000 in
theorem ex_lo_6 : (List.zip ex_lk_6 ex_lp_6).all (fun q => decide (lw_tbl[q.2]? = some (ex_lw q.1))) = true ∧ ex_lk_6.length = ex_lp_6.length := by decide +kernel
set_option maxRecDepth 100000 in
theorem ex_lo_7 : (List.zip ex_lk_7 ex_lp_7).all (fun q => decide (lw_tbl[q.2]? = some (ex_lw q.1))) = true ∧ ex_lk_7.length = ex_lp_7.length := by decide +kernel
set_option maxRecDepth 100000 in
theorem ex_lo_8 : (List.zip ex_lk_8 ex_lp_8).all (fun q => decide (lw_tbl[q.2]? = some (ex_lw q.1))) = true ∧ ex_lk_8.length = ex_lp_8.length := by decide +kernel
set_option maxRecDepth 100000 in
theorem ex_lo_9 : (List.zip ex_lk_9 ex_lp_9).all (fun q => decide (lw_tbl[q.2]? = some (ex_lw q.1))) = true ∧ ex_lk_9.length = ex_lp_9.length := by decide +kernel
set_option maxRecDepth 100000 in
theorem ex_lo_10 : (List.zip ex_lk_10 ex_lp_10).all (fun q => decide (lw_tbl[q.2]? = some (ex_lw q.1))) = true ∧ ex_lk_10.length = ex_lp_10.length := by decide +kernel
set_option maxRecDepth 100000 in
theorem ex_lo_11 : (List.zip ex_lk_11 ex_lp_11).all (fun q => decide (lw_tbl[q.2]? = some (ex_lw q.1))) = true ∧ ex_lk_11.length = ex_lp_11.length := by decide +kernel
set_option maxRecDepth 100000 in
theorem ex_lo_12 : (List.zip ex_lk_12 ex_lp_12).all (fun q => decide (lw_tbl[q.2]? = some (ex_lw q.1))) = true ∧ ex_lk_12.length = ex_lp_12.length := by decide +kernel
set_option maxRecDepth 100000 in
theorem ex_lo_13 : (List.zip ex_lk_13 ex_lp_13).all (fun q => decide (lw_tbl[q.2]? = some (ex_lw q.1))) = true ∧ ex_lk_13.length = ex_lp_13.length := by decide +kernel
set_option maxRecDepth 100000 in
theorem ex_lo_15 : (List.zip ex_lk_15 ex_lp_15).all (fun q => decide (lw_tbl[q.2]? = some (ex_lw q.1))) = true ∧ ex_lk_15.length = ex_lp_15.length := by decide +kernel
set_option maxRecDepth 100000 in
theorem ex_lo_16 : (List.zip ex_lk_16 ex_lp_16).all (fun q => decide (lw_tbl[q.2]? = some (ex_lw q.1))) = true ∧ ex_lk_16.length = ex_lp_16.length := by decide +kernel
theorem ex_lo_of {L : List ex_L} {P : List Nat} (h : (List.zip L P).all (fun q => decide (lw_tbl[q.2]? = some (ex_lw q.1))) = true ∧ L.length = P.length) : ∀ q ∈ L, ex_lw q ∈ lw_tbl := by
  intro q hq
  obtain ⟨i, hi⟩ := List.getElem?_of_mem hq
  obtain ⟨hl, hv⟩ := List.getElem?_eq_some_iff.mp hi
  have hp : i < P.length := by rw [← h.2]; exact hl
  have h1 := List.all_eq_true.mp h.1 (L[i], P[i]) (by
    have : (List.zip L P)[i]? = some (L[i], P[i]) := by
      rw [List.getElem?_zip_eq_some]
      exact ⟨List.getElem?_eq_getElem hl, List.getElem?_eq_getElem hp⟩
    exact List.mem_of_getElem? this)
  rw [hv] at h1
  exact List.mem_of_getElem? (of_decide_eq_true h1)
theorem ex_lk_in (own : Nat) : ∀ q ∈ ex_lk own, ex_lw q ∈ lw_tbl := by
  unfold ex_lk
  split
  · exact ex_lo_of ex_lo_0
  · exact ex_lo_of ex_lo_1
  · exact ex_lo_of ex_lo_2
  · exact ex_lo_of ex_lo_3
  · exact ex_lo_of ex_lo_4
  · exact ex_lo_of ex_lo_5
  · exact ex_lo_of ex_lo_6
  · exact ex_lo_of ex_lo_7
  · exact ex_lo_of ex_lo_8
  · exact ex_lo_of ex_lo_9
  · exact ex_lo_of ex_lo_10
  · exact ex_lo_of ex_lo_11
  · exact ex_lo_of ex_lo_12
  · exact ex_lo_of ex_lo_13
  · exact ex_lo_of ex_lo_15
  · exact ex_lo_of ex_lo_16
  · intro q hq; cases hq
end
section
/-! each instruction of the tables is one of the bytes; each method is one of the tables' words -/
def ck_lk (own kd : Nat) (t : Int) : List Nat := (ex_lk own).filterMap (fun q => if q.1 = kd ∧ q.2.2.2 = t then some q.2.2.1 else none)
def ck_of (pcs : List Nat) (pc : Nat) (t : Int) : Int := ((pcs.getD t.toNat 0 : Nat) : Int) - (pc : Int)
def ck_n (k : Nat) (f : Fin 4 → Instr) : List (Instr × Nat) := if h : k < 4 then [(f ⟨k, h⟩, 1)] else []
def rw_i (own kd : Nat) (pcs : List Nat) (pc : Nat) : Instr → List (Instr × Nat)
  | .iload k => (.iload k, 2) :: ck_n k .iload_n
  | .aload k => (.aload k, 2) :: ck_n k .aload_n
  | .istore k => (.istore k, 2) :: ck_n k .istore_n
  | .astore k => (.astore k, 2) :: ck_n k .astore_n
  | .iinc k c => if -32768 ≤ c ∧ c ≤ 32767 then [(.iinc k c, 3)] else []
  | .sipush v => (if -1 ≤ v ∧ v ≤ 5 then [(.iconst v, 1)] else []) ++ ((if -128 ≤ v ∧ v ≤ 127 then [(.bipush v, 2)] else []) ++ ((if -32768 ≤ v ∧ v ≤ 32767 then [(.sipush v, 3)] else [])
      ++ (if -2147483648 ≤ v ∧ v ≤ 2147483647 then (ck_lk own 4 v).map (fun x => (.ldc x, 2)) ++ (ck_lk own 4 v).map (fun x => (.ldc_w x, 3)) else [])))
  | .iadd => [(.iadd, 1)]
  | .isub => [(.isub, 1)]
  | .imul => [(.imul, 1)]
  | .iand => [(.iand, 1)]
  | .ior => [(.ior, 1)]
  | .ixor => [(.ixor, 1)]
  | .ishl => [(.ishl, 1)]
  | .ishr => [(.ishr, 1)]
  | .iushr => [(.iushr, 1)]
  | .idiv => [(.idiv, 1)]
  | .irem => [(.irem, 1)]
  | .i2l => [(.i2l, 1)]
  | .ladd => [(.ladd, 1)]
  | .lcmp => [(.lcmp, 1)]
  | .dup => [(.dup, 1)]
  | .dup2 => [(.dup2, 1)]
  | .pop => [(.pop, 1)]
  | .arraylength => [(.arraylength, 1)]
  | .iaload => [(.iaload, 1)]
  | .iastore => [(.iastore, 1)]
  | .aaload => [(.aaload, 1)]
  | .aastore => [(.aastore, 1)]
  | .newarray .int => [(.newarray .int, 2)]
  | .anewarray c => (ck_lk own 5 c).map (fun x => (.anewarray x, 3))
  | .new c => (ck_lk own 5 c).map (fun x => (.new x, 3))
  | .getfield q => (ck_lk own 1 q).map (fun x => (.getfield x, 3))
  | .putfield q => if (ex_fT q).2.2.2 = false ∨ (kd = 2 ∧ own = q / 32) then (ck_lk own 1 q).map (fun x => (.putfield x, 3)) else []
  | .getstatic k => (ck_lk own 6 k).map (fun x => (.getstatic x, 3))
  | .if_icmp c t => [(.if_icmp c (ck_of pcs pc t), 3)]
  | .ifCond c t => [(.ifCond c (ck_of pcs pc t), 3)]
  | .ifnull t => [(.ifnull (ck_of pcs pc t), 3)]
  | .goto t => [(.goto (ck_of pcs pc t), 3)]
  | .tableswitch df lo hi of => [(.tableswitch (ck_of pcs pc df) lo hi (of.map (ck_of pcs pc)), 1 + (3 - pc % 4) + 12 + 4 * of.size)]
  | .lookupswitch df ps => if (ps.toList.zip (ps.toList.drop 1)).all (fun (a, next) => a.1 < next.1) = true then [(.lookupswitch (ck_of pcs pc df) (ps.map (fun q => (q.1, ck_of pcs pc q.2))), 1 + (3 - pc % 4) + 8 + 8 * ps.size)] else []
  | .invokestatic m => (ck_lk own 2 m).map (fun x => (.invokestatic x, 3))
  | .invokevirtual m => (ck_lk own 2 m).map (fun x => (.invokevirtual x, 3))
  | .invokespecial m => (ck_lk own 2 m).map (fun x => (.invokespecial x, 3)) ++ (ck_lk own 3 m).map (fun x => (.invokespecial x, 3))
  | .invokedynamic k => if k = 1 then (ck_lk own 7 0).map (fun x => (.invokespecial x, 3)) else (ck_lk own 8 0).map (fun x => (.invokestatic x, 3))
  | .ireturn => [(.ireturn, 1)]
  | .return_ => [(.return_, 1)]
  | _ => []
/-- the targets of jumps are blocks -/
def ck_t (pcs : List Nat) : Instr → Bool
  | .if_icmp _ t => decide (t.toNat < pcs.length)
  | .ifCond _ t => decide (t.toNat < pcs.length)
  | .goto t => decide (t.toNat < pcs.length)
  | .tableswitch df _ _ of => decide (df.toNat < pcs.length) && of.toList.all (fun t => decide (t.toNat < pcs.length))
  | .lookupswitch df ps => decide (df.toNat < pcs.length) && ps.toList.all (fun q => decide (q.2.toNat < pcs.length))
  | _ => true
def ck_L (own kd : Nat) (pcs : List Nat) (law : Bool) (cc : ByteArray) : Nat → List Instr → Bool
  | _, [] => true
  | pc, .goto_w t :: _ => decide (pcs[t.toNat]? = some pc)
  | pc, .ret k :: _ => law && decide (k = 1 ∧ pcs[1]? = some pc)
  | pc, i :: is => match decode cc pc with
    | .ok (raw, len) => (rw_i own kd pcs pc i).any (fun q => decide (q = (raw, len))) && (ck_t pcs i && ck_L own kd pcs law cc (pc + len) is)
    | _ => false
def ck_M (m : Nat) : Bool := match ex_mt[m]?, ex_my[m]?, ex_bs[m]?, ex_pc[m]? with
  | some (kd, own, _, _, _), some (_, cc, _, _), some bs, some pcs => decide (bs.length = pcs.length) && (decide (pcs[0]? = some 0) && (List.zip pcs bs).all (fun q => ck_L own kd pcs (decide (m = 241)) cc q.1 q.2))
  | _, _, _, _ => false
set_option maxRecDepth 100000 in
theorem ck_g0 : (List.range' 0 12).all ck_M = true := by decide +kernel
set_option maxRecDepth 100000 in
theorem ck_g1 : (List.range' 12 12).all ck_M = true := by decide +kernel
set_option maxRecDepth 100000 in
theorem ck_g2 : (List.range' 24 12).all ck_M = true := by decide +kernel
set_option maxRecDepth 100000 in
theorem ck_g3 : (List.range' 36 12).all ck_M = true := by decide +kernel
set_option maxRecDepth 100000 in
theorem ck_g4 : (List.range' 48 12).all ck_M = true := by decide +kernel
set_option maxRecDepth 100000 in
theorem ck_g5 : (List.range' 60 12).all ck_M = true := by decide +kernel
set_option maxRecDepth 100000 in
theorem ck_g6 : (List.range' 72 12).all ck_M = true := by decide +kernel
set_option maxRecDepth 100000 in
theorem ck_g7 : (List.range' 84 12).all ck_M = true := by decide +kernel
set_option maxRecDepth 100000 in
theorem ck_g8 : (List.range' 96 12).all ck_M = true := by decide +kernel
set_option maxRecDepth 100000 in
theorem ck_g9 : (List.range' 108 12).all ck_M = true := by decide +kernel
set_option maxRecDepth 100000 in
theorem ck_g10 : (List.range' 120 12).all ck_M = true := by decide +kernel
set_option maxRecDepth 100000 in
theorem ck_g11 : (List.range' 132 12).all ck_M = true := by decide +kernel
set_option maxRecDepth 100000 in
theorem ck_g12 : (List.range' 144 12).all ck_M = true := by decide +kernel
set_option maxRecDepth 100000 in
theorem ck_g13 : (List.range' 156 12).all ck_M = true := by decide +kernel
set_option maxRecDepth 100000 in
theorem ck_g14 : (List.range' 168 12).all ck_M = true := by decide +kernel
set_option maxRecDepth 100000 in
theorem ck_g15 : (List.range' 180 12).all ck_M = true := by decide +kernel
set_option maxRecDepth 100000 in
theorem ck_g16 : (List.range' 192 12).all ck_M = true := by decide +kernel
set_option maxRecDepth 100000 in
theorem ck_g17 : (List.range' 204 12).all ck_M = true := by decide +kernel
set_option maxRecDepth 100000 in
theorem ck_g18 : (List.range' 216 12).all ck_M = true := by decide +kernel
set_option maxRecDepth 100000 in
theorem ck_g19 : (List.range' 228 12).all ck_M = true := by decide +kernel
set_option maxRecDepth 100000 in
theorem ck_g20 : (List.range' 240 1).all ck_M = true := by decide +kernel
theorem ck_all (m : Nat) (h : m < 241) : ck_M m = true := by
  by_cases h0 : m < 12
  · exact List.all_eq_true.mp ck_g0 m (by rw [List.mem_range'_1]; omega)
  by_cases h1 : m < 24
  · exact List.all_eq_true.mp ck_g1 m (by rw [List.mem_range'_1]; omega)
  by_cases h2 : m < 36
  · exact List.all_eq_true.mp ck_g2 m (by rw [List.mem_range'_1]; omega)
  by_cases h3 : m < 48
  · exact List.all_eq_true.mp ck_g3 m (by rw [List.mem_range'_1]; omega)
  by_cases h4 : m < 60
  · exact List.all_eq_true.mp ck_g4 m (by rw [List.mem_range'_1]; omega)
  by_cases h5 : m < 72
  · exact List.all_eq_true.mp ck_g5 m (by rw [List.mem_range'_1]; omega)
  by_cases h6 : m < 84
  · exact List.all_eq_true.mp ck_g6 m (by rw [List.mem_range'_1]; omega)
  by_cases h7 : m < 96
  · exact List.all_eq_true.mp ck_g7 m (by rw [List.mem_range'_1]; omega)
  by_cases h8 : m < 108
  · exact List.all_eq_true.mp ck_g8 m (by rw [List.mem_range'_1]; omega)
  by_cases h9 : m < 120
  · exact List.all_eq_true.mp ck_g9 m (by rw [List.mem_range'_1]; omega)
  by_cases h10 : m < 132
  · exact List.all_eq_true.mp ck_g10 m (by rw [List.mem_range'_1]; omega)
  by_cases h11 : m < 144
  · exact List.all_eq_true.mp ck_g11 m (by rw [List.mem_range'_1]; omega)
  by_cases h12 : m < 156
  · exact List.all_eq_true.mp ck_g12 m (by rw [List.mem_range'_1]; omega)
  by_cases h13 : m < 168
  · exact List.all_eq_true.mp ck_g13 m (by rw [List.mem_range'_1]; omega)
  by_cases h14 : m < 180
  · exact List.all_eq_true.mp ck_g14 m (by rw [List.mem_range'_1]; omega)
  by_cases h15 : m < 192
  · exact List.all_eq_true.mp ck_g15 m (by rw [List.mem_range'_1]; omega)
  by_cases h16 : m < 204
  · exact List.all_eq_true.mp ck_g16 m (by rw [List.mem_range'_1]; omega)
  by_cases h17 : m < 216
  · exact List.all_eq_true.mp ck_g17 m (by rw [List.mem_range'_1]; omega)
  by_cases h18 : m < 228
  · exact List.all_eq_true.mp ck_g18 m (by rw [List.mem_range'_1]; omega)
  by_cases h19 : m < 240
  · exact List.all_eq_true.mp ck_g19 m (by rw [List.mem_range'_1]; omega)
  by_cases h20 : m < 241
  · exact List.all_eq_true.mp ck_g20 m (by rw [List.mem_range'_1]; omega)
  omega
def ex_mp : List (Nat × Nat × Nat × Nat) := [(313, 68, 312, 0),
  (804, 68, 802, 803),
  (808, 68, 807, 11),
  (814, 68, 812, 813),
  (818, 68, 817, 12),
  (822, 68, 821, 13),
  (89, 61, 88, 0),
  (439, 61, 437, 438),
  (761, 61, 759, 760),
  (95, 62, 94, 0),
  (443, 62, 441, 442),
  (420, 62, 419, 0),
  (508, 62, 507, 0),
  (472, 62, 470, 471),
  (524, 62, 522, 523),
  (464, 62, 462, 463),
  (516, 62, 514, 515),
  (497, 62, 495, 496),
  (543, 62, 541, 542),
  (476, 62, 474, 475),
  (584, 62, 583, 2),
  (485, 62, 483, 484),
  (557, 62, 555, 556),
  (493, 62, 491, 492),
  (489, 62, 487, 488),
  (573, 62, 571, 572),
  (597, 62, 595, 596),
  (566, 62, 564, 565),
  (592, 62, 590, 591),
  (580, 62, 578, 579),
  (641, 62, 639, 640),
  (637, 62, 635, 636),
  (721, 62, 719, 720),
  (665, 62, 663, 664),
  (529, 62, 527, 528),
  (1001, 62, 999, 1000),
  (753, 62, 751, 752),
  (933, 62, 931, 932),
  (179, 64, 178, 0),
  (455, 64, 453, 454),
  (950, 64, 948, 949),
  (601, 64, 599, 600),
  (688, 64, 686, 687),
  (162, 63, 161, 0),
  (450, 63, 448, 449),
  (646, 63, 644, 645),
  (879, 63, 877, 878),
  (883, 63, 882, 15),
  (887, 63, 886, 16),
  (891, 63, 890, 17),
  (293, 67, 292, 0),
  (774, 67, 772, 773),
  (781, 67, 780, 9),
  (788, 67, 787, 10),
  (327, 69, 326, 0),
  (842, 69, 840, 841),
  (846, 69, 845, 14),
  (855, 69, 853, 854),
  (357, 71, 356, 0),
  (924, 71, 922, 923),
  (928, 71, 927, 18),
  (344, 70, 343, 0),
  (899, 70, 898, 0),
  (610, 70, 608, 609),
  (614, 70, 612, 613),
  (618, 70, 616, 617),
  (621, 70, 620, 0),
  (625, 70, 624, 4),
  (629, 70, 628, 5),
  (632, 70, 631, 0),
  (256, 65, 255, 0),
  (734, 65, 732, 733),
  (738, 65, 736, 737),
  (962, 65, 960, 961),
  (743, 65, 741, 742),
  (976, 65, 974, 975),
  (984, 65, 982, 983),
  (988, 65, 986, 987),
  (274, 66, 273, 0),
  (697, 66, 695, 696),
  (706, 66, 704, 705),
  (693, 66, 691, 692),
  (702, 66, 701, 8),
  (713, 66, 711, 712),
  (81, 60, 80, 0),
  (417, 60, 415, 416),
  (468, 60, 466, 467),
  (481, 60, 479, 480),
  (501, 60, 499, 500),
  (505, 60, 503, 504),
  (520, 60, 518, 519),
  (539, 60, 537, 538),
  (547, 60, 545, 546),
  (553, 60, 551, 552),
  (562, 60, 560, 561),
  (588, 60, 586, 587),
  (650, 60, 648, 649),
  (661, 60, 659, 660),
  (669, 60, 667, 668),
  (676, 60, 674, 675),
  (680, 60, 678, 679),
  (726, 60, 724, 725),
  (730, 60, 728, 729),
  (749, 60, 747, 748),
  (757, 60, 755, 756),
  (766, 60, 764, 765),
  (770, 60, 768, 769),
  (792, 60, 790, 791),
  (796, 60, 794, 795),
  (800, 60, 798, 799),
  (826, 60, 824, 825),
  (831, 60, 829, 830),
  (838, 60, 836, 837),
  (851, 60, 849, 850),
  (860, 60, 858, 859),
  (864, 60, 862, 863),
  (871, 60, 869, 870),
  (875, 60, 873, 874),
  (895, 60, 893, 894),
  (903, 60, 901, 902),
  (908, 60, 906, 907),
  (912, 60, 910, 911),
  (916, 60, 914, 915),
  (920, 60, 918, 919),
  (942, 60, 940, 941),
  (946, 60, 944, 945),
  (954, 60, 952, 953),
  (958, 60, 956, 957),
  (972, 60, 970, 971),
  (980, 60, 978, 979),
  (993, 60, 991, 992),
  (997, 60, 995, 996),
  (430, 60, 429, 0),
  (435, 60, 434, 1),
  (654, 60, 653, 6),
  (684, 60, 683, 7),
  (606, 60, 605, 3),
  (425, 60, 424, 0),
  (672, 60, 671, 0),
  (834, 60, 833, 0),
  (867, 60, 866, 0),
  (1006, 72, 1005, 0),
  (1080, 72, 1079, 19),
  (1087, 72, 1086, 0),
  (1101, 72, 1100, 21),
  (1137, 72, 1136, 25),
  (1129, 72, 1128, 0),
  (1093, 72, 1092, 20),
  (1075, 72, 1073, 1074),
  (1084, 72, 1082, 1083),
  (1122, 72, 1121, 24),
  (1097, 72, 1095, 1096),
  (1114, 72, 1113, 23),
  (1110, 72, 1109, 22),
  (1106, 72, 1104, 1105),
  (1118, 72, 1116, 1117),
  (1126, 72, 1124, 1125),
  (1141, 72, 1140, 26),
  (1145, 72, 1144, 27),
  (1133, 72, 1131, 1132),
  (1149, 72, 1147, 1148),
  (1153, 72, 1151, 1152),
  (1161, 72, 1160, 28),
  (1157, 72, 1155, 1156),
  (1170, 72, 1169, 29),
  (1191, 72, 1190, 33),
  (1179, 72, 1178, 31),
  (1175, 72, 1174, 30),
  (1220, 72, 1219, 39),
  (1165, 72, 1163, 1164),
  (1187, 72, 1186, 32),
  (1216, 72, 1215, 38),
  (1224, 72, 1223, 40),
  (1183, 72, 1181, 1182),
  (1228, 72, 1226, 1227),
  (1232, 72, 1230, 1231),
  (1236, 72, 1234, 1235),
  (1240, 72, 1238, 1239),
  (1256, 72, 1255, 43),
  (1260, 72, 1259, 44),
  (1252, 72, 1251, 42),
  (1248, 72, 1247, 41),
  (1244, 72, 1242, 1243),
  (1264, 72, 1262, 1263),
  (1268, 72, 1266, 1267),
  (1279, 72, 1278, 45),
  (1275, 72, 1273, 1274),
  (1287, 72, 1286, 46),
  (1283, 72, 1281, 1282),
  (1291, 72, 1289, 1290),
  (1307, 72, 1306, 49),
  (1303, 72, 1302, 48),
  (1299, 72, 1298, 47),
  (1295, 72, 1293, 1294),
  (1311, 72, 1309, 1310),
  (1315, 72, 1313, 1314),
  (1334, 72, 1333, 52),
  (1338, 72, 1337, 53),
  (1330, 72, 1329, 51),
  (1326, 72, 1325, 0),
  (1323, 72, 1322, 50),
  (1319, 72, 1317, 1318),
  (1342, 72, 1340, 1341),
  (1346, 72, 1344, 1345),
  (1358, 72, 1357, 55),
  (1354, 72, 1353, 54),
  (1350, 72, 1348, 1349),
  (1363, 72, 1361, 1362),
  (1367, 72, 1365, 1366),
  (1371, 72, 1369, 1370),
  (1375, 72, 1373, 1374),
  (1379, 72, 1377, 1378),
  (1387, 72, 1386, 0),
  (1383, 72, 1381, 1382),
  (1204, 72, 1203, 36),
  (1391, 72, 1389, 1390),
  (1208, 72, 1207, 37),
  (1211, 72, 1210, 0),
  (1200, 72, 1199, 35),
  (1395, 72, 1393, 1394),
  (1399, 72, 1397, 1398),
  (1403, 72, 1401, 1402),
  (1419, 72, 1418, 58),
  (1415, 72, 1414, 57),
  (1411, 72, 1410, 56),
  (1407, 72, 1405, 1406),
  (1423, 72, 1421, 1422),
  (1427, 72, 1425, 1426),
  (1195, 72, 1194, 34),
  (1431, 72, 1429, 1430),
  (1271, 72, 1270, 0),
  (1435, 72, 1433, 1434),
  (1439, 72, 1437, 1438),
  (1443, 72, 1441, 1442),
  (1447, 72, 1445, 1446),
  (532, 75, 531, 0),
  (936, 74, 935, 0),
  (460, 74, 459, 0),
  (968, 76, 967, 0),
  (777, 76, 776, 0),
  (965, 76, 964, 0)]
def ex_rf (r : Nat) : Option FieldType := match r with
  | 0 => none
  | 1 => some .int
  | _ => some .boolean
def mk_ok (m : Nat) : Bool := match ex_mt[m]?, ex_my[m]?, ex_mp[m]? with
  | some (kd, own, n, mL, r), some (y, cc, mL', ret), some (p1, p2, p3, p4) => decide (mL = mL' ∧ ret = ex_rf r ∧ y.cls = ex_nm own ∧ plainFor y = true ∧ y.cls ≠ "java/lang/invoke/MethodHandle" ∧ y.cls ≠ "java/lang/invoke/VarHandle") &&
     (decide ((parseMethodDescriptor y.desc).map (fun d => d.parameters.length) = some (if kd = 0 then n else n - 1)) && (decide (n ≤ mL ∧ mL ≤ 20 ∧ (kd = 0 ∨ 1 ≤ n) ∧ kd ≤ 2 ∧ (kd = 2 → y.name = "<init>" ∧ r = 0)) &&
     (decide (lw_tbl[p2]? = some (.initialized y.cls)) && (decide (lw_tbl[p3]? = some (if kd = 0 then .static y else .instanceMethod y)) && decide (kd = 1 → lw_tbl[p4]? = some (.selects y.cls y y))))))
  | _, _, _ => false
set_option maxRecDepth 100000 in
theorem mk_g0 : (List.range' 0 12).all mk_ok = true := by decide +kernel
set_option maxRecDepth 100000 in
theorem mk_g1 : (List.range' 12 12).all mk_ok = true := by decide +kernel
set_option maxRecDepth 100000 in
theorem mk_g2 : (List.range' 24 12).all mk_ok = true := by decide +kernel
set_option maxRecDepth 100000 in
theorem mk_g3 : (List.range' 36 12).all mk_ok = true := by decide +kernel
set_option maxRecDepth 100000 in
theorem mk_g4 : (List.range' 48 12).all mk_ok = true := by decide +kernel
set_option maxRecDepth 100000 in
theorem mk_g5 : (List.range' 60 12).all mk_ok = true := by decide +kernel
set_option maxRecDepth 100000 in
theorem mk_g6 : (List.range' 72 12).all mk_ok = true := by decide +kernel
set_option maxRecDepth 100000 in
theorem mk_g7 : (List.range' 84 12).all mk_ok = true := by decide +kernel
set_option maxRecDepth 100000 in
theorem mk_g8 : (List.range' 96 12).all mk_ok = true := by decide +kernel
set_option maxRecDepth 100000 in
theorem mk_g9 : (List.range' 108 12).all mk_ok = true := by decide +kernel
set_option maxRecDepth 100000 in
theorem mk_g10 : (List.range' 120 12).all mk_ok = true := by decide +kernel
set_option maxRecDepth 100000 in
theorem mk_g11 : (List.range' 132 12).all mk_ok = true := by decide +kernel
set_option maxRecDepth 100000 in
theorem mk_g12 : (List.range' 144 12).all mk_ok = true := by decide +kernel
set_option maxRecDepth 100000 in
theorem mk_g13 : (List.range' 156 12).all mk_ok = true := by decide +kernel
set_option maxRecDepth 100000 in
theorem mk_g14 : (List.range' 168 12).all mk_ok = true := by decide +kernel
set_option maxRecDepth 100000 in
theorem mk_g15 : (List.range' 180 12).all mk_ok = true := by decide +kernel
set_option maxRecDepth 100000 in
theorem mk_g16 : (List.range' 192 12).all mk_ok = true := by decide +kernel
set_option maxRecDepth 100000 in
theorem mk_g17 : (List.range' 204 12).all mk_ok = true := by decide +kernel
set_option maxRecDepth 100000 in
theorem mk_g18 : (List.range' 216 12).all mk_ok = true := by decide +kernel
set_option maxRecDepth 100000 in
theorem mk_g19 : (List.range' 228 12).all mk_ok = true := by decide +kernel
set_option maxRecDepth 100000 in
theorem mk_g20 : (List.range' 240 1).all mk_ok = true := by decide +kernel
set_option maxRecDepth 100000 in
theorem mc_g0 : ((ex_my.drop 0).take 24).map (fun q => some (Cond.code q.1 q.2.1 q.2.2.1 q.2.2.2)) = ((ex_mp.drop 0).take 24).map (fun p => lw_tbl[p.1]?) := rfl
set_option maxRecDepth 100000 in
theorem mc_g1 : ((ex_my.drop 24).take 24).map (fun q => some (Cond.code q.1 q.2.1 q.2.2.1 q.2.2.2)) = ((ex_mp.drop 24).take 24).map (fun p => lw_tbl[p.1]?) := rfl
set_option maxRecDepth 100000 in
theorem mc_g2 : ((ex_my.drop 48).take 24).map (fun q => some (Cond.code q.1 q.2.1 q.2.2.1 q.2.2.2)) = ((ex_mp.drop 48).take 24).map (fun p => lw_tbl[p.1]?) := rfl
set_option maxRecDepth 100000 in
theorem mc_g3 : ((ex_my.drop 72).take 24).map (fun q => some (Cond.code q.1 q.2.1 q.2.2.1 q.2.2.2)) = ((ex_mp.drop 72).take 24).map (fun p => lw_tbl[p.1]?) := rfl
set_option maxRecDepth 100000 in
theorem mc_g4 : ((ex_my.drop 96).take 24).map (fun q => some (Cond.code q.1 q.2.1 q.2.2.1 q.2.2.2)) = ((ex_mp.drop 96).take 24).map (fun p => lw_tbl[p.1]?) := rfl
set_option maxRecDepth 100000 in
theorem mc_g5 : ((ex_my.drop 120).take 24).map (fun q => some (Cond.code q.1 q.2.1 q.2.2.1 q.2.2.2)) = ((ex_mp.drop 120).take 24).map (fun p => lw_tbl[p.1]?) := rfl
set_option maxRecDepth 100000 in
theorem mc_g6 : ((ex_my.drop 144).take 24).map (fun q => some (Cond.code q.1 q.2.1 q.2.2.1 q.2.2.2)) = ((ex_mp.drop 144).take 24).map (fun p => lw_tbl[p.1]?) := rfl
set_option maxRecDepth 100000 in
theorem mc_g7 : ((ex_my.drop 168).take 24).map (fun q => some (Cond.code q.1 q.2.1 q.2.2.1 q.2.2.2)) = ((ex_mp.drop 168).take 24).map (fun p => lw_tbl[p.1]?) := rfl
set_option maxRecDepth 100000 in
theorem mc_g8 : ((ex_my.drop 192).take 24).map (fun q => some (Cond.code q.1 q.2.1 q.2.2.1 q.2.2.2)) = ((ex_mp.drop 192).take 24).map (fun p => lw_tbl[p.1]?) := rfl
set_option maxRecDepth 100000 in
theorem mc_g9 : ((ex_my.drop 216).take 24).map (fun q => some (Cond.code q.1 q.2.1 q.2.2.1 q.2.2.2)) = ((ex_mp.drop 216).take 24).map (fun p => lw_tbl[p.1]?) := rfl
set_option maxRecDepth 100000 in
theorem mc_g10 : ((ex_my.drop 240).take 1).map (fun q => some (Cond.code q.1 q.2.1 q.2.2.1 q.2.2.2)) = ((ex_mp.drop 240).take 1).map (fun p => lw_tbl[p.1]?) := rfl
theorem mk_all (m : Nat) (h : m < 241) : mk_ok m = true := by
  by_cases h0 : m < 12
  · exact List.all_eq_true.mp mk_g0 m (by rw [List.mem_range'_1]; omega)
  by_cases h1 : m < 24
  · exact List.all_eq_true.mp mk_g1 m (by rw [List.mem_range'_1]; omega)
  by_cases h2 : m < 36
  · exact List.all_eq_true.mp mk_g2 m (by rw [List.mem_range'_1]; omega)
  by_cases h3 : m < 48
  · exact List.all_eq_true.mp mk_g3 m (by rw [List.mem_range'_1]; omega)
  by_cases h4 : m < 60
  · exact List.all_eq_true.mp mk_g4 m (by rw [List.mem_range'_1]; omega)
  by_cases h5 : m < 72
  · exact List.all_eq_true.mp mk_g5 m (by rw [List.mem_range'_1]; omega)
  by_cases h6 : m < 84
  · exact List.all_eq_true.mp mk_g6 m (by rw [List.mem_range'_1]; omega)
  by_cases h7 : m < 96
  · exact List.all_eq_true.mp mk_g7 m (by rw [List.mem_range'_1]; omega)
  by_cases h8 : m < 108
  · exact List.all_eq_true.mp mk_g8 m (by rw [List.mem_range'_1]; omega)
  by_cases h9 : m < 120
  · exact List.all_eq_true.mp mk_g9 m (by rw [List.mem_range'_1]; omega)
  by_cases h10 : m < 132
  · exact List.all_eq_true.mp mk_g10 m (by rw [List.mem_range'_1]; omega)
  by_cases h11 : m < 144
  · exact List.all_eq_true.mp mk_g11 m (by rw [List.mem_range'_1]; omega)
  by_cases h12 : m < 156
  · exact List.all_eq_true.mp mk_g12 m (by rw [List.mem_range'_1]; omega)
  by_cases h13 : m < 168
  · exact List.all_eq_true.mp mk_g13 m (by rw [List.mem_range'_1]; omega)
  by_cases h14 : m < 180
  · exact List.all_eq_true.mp mk_g14 m (by rw [List.mem_range'_1]; omega)
  by_cases h15 : m < 192
  · exact List.all_eq_true.mp mk_g15 m (by rw [List.mem_range'_1]; omega)
  by_cases h16 : m < 204
  · exact List.all_eq_true.mp mk_g16 m (by rw [List.mem_range'_1]; omega)
  by_cases h17 : m < 216
  · exact List.all_eq_true.mp mk_g17 m (by rw [List.mem_range'_1]; omega)
  by_cases h18 : m < 228
  · exact List.all_eq_true.mp mk_g18 m (by rw [List.mem_range'_1]; omega)
  by_cases h19 : m < 240
  · exact List.all_eq_true.mp mk_g19 m (by rw [List.mem_range'_1]; omega)
  by_cases h20 : m < 241
  · exact List.all_eq_true.mp mk_g20 m (by rw [List.mem_range'_1]; omega)
  omega
end
section
/-! the abstract machine's cells as the kit's worlds -/
def ex_r32 (z : Int) : Prop := -2147483648 ≤ z ∧ z ≤ 2147483647
def ex_r64 (z : Int) : Prop := -9223372036854775808 ≤ z ∧ z ≤ 9223372036854775807
theorem i_wr (x : Int32) : ex_r32 x.toInt := by
  have h1 := Int32.toInt_lt x
  have h2 := Int32.le_toInt x
  unfold ex_r32
  omega
theorem i_wr' (z : Int) : ex_r32 (ex_wr z) := i_wr _
theorem i_to {z : Int} (h : ex_r32 z) : (Int32.ofInt z).toInt = z := by
  unfold ex_r32 at h
  exact Int32.toInt_ofInt_of_le (by omega) (by omega)
theorem i_wr_id {z : Int} (h1 : -2147483648 ≤ z) (h2 : z ≤ 2147483647) : ex_wr z = z := i_to ⟨h1, h2⟩
theorem i_lt {a b : Int} (ha : ex_r32 a) (hb : ex_r32 b) : Int32.ofInt a < Int32.ofInt b ↔ a < b := by rw [Int32.lt_iff_toInt_lt, i_to ha, i_to hb]
theorem i_le {a b : Int} (ha : ex_r32 a) (hb : ex_r32 b) : Int32.ofInt a ≤ Int32.ofInt b ↔ a ≤ b := by rw [Int32.le_iff_toInt_le, i_to ha, i_to hb]
theorem i_eq {a b : Int} (ha : ex_r32 a) (hb : ex_r32 b) : Int32.ofInt a = Int32.ofInt b ↔ a = b := by rw [← Int32.toInt_inj, i_to ha, i_to hb]
theorem i_0 : Int32.ofInt 0 = 0 := rfl
theorem i_r0 : ex_r32 0 := by unfold ex_r32; omega
theorem i_eq0 {a : Int} (ha : ex_r32 a) : Int32.ofInt a = 0 ↔ a = 0 := by rw [← i_0]; exact i_eq ha i_r0
theorem i_lt0 {a : Int} (ha : ex_r32 a) : Int32.ofInt a < 0 ↔ a < 0 := by rw [← i_0]; exact i_lt ha i_r0
theorem i_cl {z : Int} (h : ex_r32 z) (h0 : 0 ≤ z) : (Int32.ofInt z).toNatClampNeg = z.toNat := by
  unfold ex_r32 at h
  exact Int32.toNatClampNeg_ofInt_of_le (by omega) (by omega)
theorem i_in {z : Int} {n : Nat} (h : ex_r32 z) (h0 : 0 ≤ z) (hn : z < (n : Int)) : vp_in (Int32.ofInt z) n := by
  rw [vp_in_iff, i_to h]
  exact ⟨h0, hn⟩
theorem i_nat (n : Nat) : Int32.ofNat n = Int32.ofInt (n : Int) := Int32.ofInt_eq_ofNat.symm
theorem i_of (z : Int) : Int32.ofInt (ex_wr z) = Int32.ofInt z := by unfold ex_wr; rw [Int32.ofInt_toInt]
def ex_vv (ad : Nat → Nat) : ex_V → Value
  | .inl z => .int (Int32.ofInt z)
  | .inr (.inl a) => .ref (ad a)
  | .inr (.inr z) => .long (Int64.ofInt z)
def ex_rg (n : Nat) : ex_V → Prop
  | .inl z => ex_r32 z
  | .inr (.inl a) => a < n
  | .inr (.inr z) => ex_r64 z
theorem ex_rg_le {n n' : Nat} (h : n ≤ n') {v : ex_V} (hv : ex_rg n v) : ex_rg n' v := by
  obtain z | a | z := v
  · exact hv
  · exact Nat.lt_of_lt_of_le hv h
  · exact hv
/-- references of a cell lie among the cells -/
def ex_cv (n : Nat) : ex_C → Prop
  | .inl _ => True
  | .inr (.inl r) => ∀ (k b : Nat), r[k]? = some (some b) → b < n
  | .inr (.inr (c, f)) => (∀ (k b : Nat), f[k]? = some (some (some b)) → b < n) ∧ f.map Option.isSome = (ex_cf.getD c []).map Option.isSome
theorem ex_cv_le {n n' : Nat} (h : n ≤ n') {c : ex_C} (hv : ex_cv n c) : ex_cv n' c := by
  obtain z | r | ⟨c, f⟩ := c
  · trivial
  · exact fun k b hb => Nat.lt_of_lt_of_le (hv k b hb) h
  · exact ⟨fun k b hb => Nat.lt_of_lt_of_le (hv.1 k b hb) h, hv.2⟩
def ex_ext (ad ad' : Nat → Nat) (n : Nat) : Prop := ∀ k, k < n → ad' k = ad k
theorem ex_vv_ext {ad ad' : Nat → Nat} {n : Nat} (h : ex_ext ad ad' n) {v : ex_V} (hv : ex_rg n v) : ex_vv ad' v = ex_vv ad v := by
  obtain z | a | z := v
  · rfl
  · show Value.ref (ad' a) = Value.ref (ad a)
    rw [h a hv]
  · rfl
theorem ex_st_ext {ad ad' : Nat → Nat} {n : Nat} (h : ex_ext ad ad' n) {st : List ex_V} (hv : ∀ v ∈ st, ex_rg n v) : st.map (ex_vv ad') = st.map (ex_vv ad) := List.map_congr_left (fun v m => ex_vv_ext h (hv v m))
/-- a field -/
def ex_fv (ad : Nat → Nat) (g : Int → Int) (k : Nat) : Option (Option Nat) → Value
  | none => .int (Int32.ofInt (g (k : Int)))
  | some r => va_rf (r.map ad)
def ex_ce (ad : Nat → Nat) (A1 A2 : ClassId) (g : Int → Int) : ex_C → va_E
  | .inl n => .inl (A1, n, .inl (fun j => Int32.ofInt (g (j : Int))))
  | .inr (.inl r) => .inl (A2, r.length, .inr (.inr (.inr (.inr (fun j => (r.getD j none).map ad)))))
  | .inr (.inr (c, f)) => .inr (c, f.mapIdx (ex_fv ad g))
theorem ex_ce_ext {ad ad' : Nat → Nat} {n : Nat} (h : ex_ext ad ad' n) {A1 A2 : ClassId} {g : Int → Int} {c : ex_C} (hv : ex_cv n c) : ex_ce ad' A1 A2 g c = ex_ce ad A1 A2 g c := by
  obtain z | r | ⟨c, f⟩ := c
  · rfl
  · have e : (fun j => (r.getD j none).map ad') = (fun j => (r.getD j none).map ad) := by
      funext j
      rw [List.getD_eq_getElem?_getD]
      cases hr : r[j]? with
      | none => rfl
      | some x =>
        cases x with
        | none => rfl
        | some b => exact congrArg some (h b (hv j b hr))
    rw [ex_ce, ex_ce, e]
  · show (Sum.inr (c, f.mapIdx (ex_fv ad' g)) : va_E) = .inr (c, f.mapIdx (ex_fv ad g))
    have e : f.mapIdx (ex_fv ad' g) = f.mapIdx (ex_fv ad g) := by
      apply List.ext_getElem?
      intro i
      rw [List.getElem?_mapIdx, List.getElem?_mapIdx]
      cases hf : f[i]? with
      | none => rfl
      | some x =>
        cases x with
        | none => rfl
        | some y =>
          cases y with
          | none => rfl
          | some b =>
            show some (va_rf (some (ad' b))) = some (va_rf (some (ad b)))
            rw [h b (hv.1 i b hf)]
    rw [e]
def ex_W (ad : Nat → Nat) (A1 A2 : ClassId) (h : ex_H) : va_W := (h.1.drop 4).mapIdx (fun i c => (ad (4 + i), ex_ce ad A1 A2 (h.2 (4 + i)) c))
theorem ex_W_at (ad : Nat → Nat) (A1 A2 : ClassId) (h : ex_H) {a : Nat} (ha : 4 ≤ a) : (ex_W ad A1 A2 h)[a - 4]? = (h.1[a]?).map (fun c => (ad a, ex_ce ad A1 A2 (h.2 a) c)) := by
  unfold ex_W
  rw [List.getElem?_mapIdx, List.getElem?_drop]
  have e : 4 + (a - 4) = a := by omega
  rw [e]
theorem ex_W_len (ad : Nat → Nat) (A1 A2 : ClassId) (h : ex_H) : (ex_W ad A1 A2 h).length = h.1.length - 4 := by
  unfold ex_W
  rw [List.length_mapIdx, List.length_drop]
/-- one cell changes -/
theorem ex_W_set {ad : Nat → Nat} {A1 A2 : ClassId} {h h' : ex_H} {a : Nat} (ha : 4 ≤ a) {c : ex_C} (hc : h'.1[a]? = some c) (ho : ∀ b, b ≠ a → h'.1[b]? = h.1[b]?) (hs : ∀ b, b ≠ a → h'.2 b = h.2 b) {E : Nat × va_E} (hE : E = (ad a, ex_ce ad A1 A2 (h'.2 a) c)) (hl : a < h.1.length) :
    (ex_W ad A1 A2 h).set (a - 4) E = ex_W ad A1 A2 h' := by
  apply List.ext_getElem?
  intro i
  by_cases hi : i = a - 4
  · subst hi
    rw [List.getElem?_set_self (by rw [ex_W_len]; omega), ex_W_at _ _ _ _ ha, hc, hE]
    rfl
  · rw [List.getElem?_set_ne (Ne.symm hi)]
    have e : i = (4 + i) - 4 := by omega
    rw [e, ex_W_at _ _ _ _ (by omega), ex_W_at _ _ _ _ (by omega), ho _ (by omega), hs _ (by omega)]
/-- a cell more -/
theorem ex_W_push {ad ad' : Nat → Nat} {A1 A2 : ClassId} {h : ex_H} {σ : ex_S} {c : ex_C} {q : Nat} {E : va_E} (h4 : 4 ≤ h.1.length) (hq : ad' h.1.length = q) (he : E = ex_ce ad' A1 A2 (σ h.1.length) c)
    (hold : ∀ a c, 4 ≤ a → h.1[a]? = some c → ad' a = ad a ∧ ex_ce ad' A1 A2 (σ a) c = ex_ce ad A1 A2 (h.2 a) c) : ex_W ad A1 A2 h ++ [(q, E)] = ex_W ad' A1 A2 (h.1 ++ [c], σ) := by
  apply List.ext_getElem?
  intro i
  have e : i = (4 + i) - 4 := by omega
  by_cases hi : 4 + i < h.1.length
  · rw [List.getElem?_append_left (by rw [ex_W_len]; omega)]
    rw [e, ex_W_at _ _ _ _ (by omega), ex_W_at _ _ _ _ (by omega)]
    show Option.map _ (h.1[4 + i]?) = Option.map _ ((h.1 ++ [c])[4 + i]?)
    rw [List.getElem?_append_left hi, List.getElem?_eq_getElem hi]
    obtain ⟨h1, h2⟩ := hold (4 + i) _ (by omega) (List.getElem?_eq_getElem hi)
    simp only [Option.map_some, h1, h2]
  · rw [List.getElem?_append_right (by rw [ex_W_len]; omega), ex_W_len]
    rw [show (ex_W ad' A1 A2 (h.1 ++ [c], σ))[i]? = (ex_W ad' A1 A2 (h.1 ++ [c], σ))[(4 + i) - 4]? by rw [← e], ex_W_at _ _ _ _ (by omega)]
    show _ = Option.map _ ((h.1 ++ [c])[4 + i]?)
    rw [List.getElem?_append_right (by omega)]
    by_cases hz : i - (h.1.length - 4) = 0
    · have hz2 : 4 + i - h.1.length = 0 := by omega
      have hz3 : 4 + i = h.1.length := by omega
      rw [hz, hz2, hz3]
      simp [hq, he]
    · rw [List.getElem?_eq_none (by simp; omega), List.getElem?_eq_none (by simp; omega)]
      rfl
/-- slots of cells -/
def ex_sz : ex_C → Nat
  | .inl n => n
  | .inr (.inl r) => r.length
  | .inr (.inr (_, f)) => f.length
def ex_tot (l : List ex_C) : Nat := (l.map ex_sz).sum
theorem ex_tot_app (l m : List ex_C) : ex_tot (l ++ m) = ex_tot l + ex_tot m := by unfold ex_tot; rw [List.map_append, List.sum_append]
theorem ex_tot_set : ∀ (l : List ex_C) (a : Nat) (c c' : ex_C), l[a]? = some c → ex_sz c' = ex_sz c → ex_tot (l.set a c') = ex_tot l
  | [], a, c, c', h, _ => by simp at h
  | x :: l, 0, c, c', h, e => by
    have hx : x = c := by simpa using h
    subst hx
    simp [ex_tot, e]
  | x :: l, a + 1, c, c', h, e => by
    have := ex_tot_set l a c c' (by simpa using h) e
    simp only [ex_tot, List.set_cons_succ, List.map_cons, List.sum_cons] at *
    omega
/-- pairs of the locals that hold a value of one word -/
def ex_pr (ad : Nat → Nat) (ls : List ex_V) : List (Nat × Value) := ls.zipIdx.filterMap (fun q => if ex_sh q.1 = true then some (q.2, ex_vv ad q.1) else none)
theorem ex_pr_mem {ad : Nat → Nat} {ls : List ex_V} {q : Nat × Value} : q ∈ ex_pr ad ls ↔ ∃ v, ls[q.1]? = some v ∧ ex_sh v = true ∧ q.2 = ex_vv ad v := by
  unfold ex_pr
  rw [List.mem_filterMap]
  constructor
  · rintro ⟨⟨v, k⟩, hm, he⟩
    rw [List.mem_zipIdx_iff_getElem?] at hm
    dsimp only at he hm
    split at he
    · next hs =>
      cases he
      exact ⟨v, hm, hs, rfl⟩
    · cases he
  · rintro ⟨v, h1, h2, h3⟩
    refine ⟨(v, q.1), List.mem_zipIdx_iff_getElem?.mpr h1, ?_⟩
    rw [if_pos h2, ← h3]
theorem ex_has_sub {L : Array Slot} {n : Nat} {l l' : List (Nat × Value)} (h : lv_has L n l) (hs : ∀ q ∈ l', q ∈ l) : lv_has L n l' := ⟨h.1, h.2.1, fun q hq => h.2.2 q (hs q hq)⟩
theorem ex_has_at {ad : Nat → Nat} {L : Array Slot} {n : Nat} {ls : List ex_V} (h : lv_has L n (ex_pr ad ls)) {k : Nat} {v : ex_V} (hk : ls[k]? = some v) (hs : ex_sh v = true) : L[k]? = some (.val (ex_vv ad v)) := h.2.2 (k, ex_vv ad v) (ex_pr_mem.mpr ⟨v, hk, hs, rfl⟩)
theorem ex_cat {ad : Nat → Nat} {v : ex_V} (h : ex_sh v = true) : (ex_vv ad v).category = 1 := by
  obtain z | a | z := v
  · rfl
  · rfl
  · cases h
/-- a store -/
theorem ex_has_set {ad : Nat → Nat} {L' : Array Slot} {n k : Nat} {ls : List ex_V} {v : ex_V} {w : Value} (hw : w = ex_vv ad v) (h : lv_has L' n ((k, w) :: (ex_pr ad ls).filter (fun q => !(q.1 == k) && !(q.1 + 1 == k && q.2.category == 2)))) : lv_has L' n (ex_pr ad (ls.set k v)) := by
  refine ex_has_sub h (fun q hq => ?_)
  obtain ⟨u, h1, h2, h3⟩ := ex_pr_mem.mp hq
  obtain ⟨i, x⟩ := q
  dsimp only at h1 h3
  by_cases hi : i = k
  · subst hi
    have hlt : i < ls.length := by
      have := (List.getElem?_eq_some_iff.mp h1).1
      simpa using this
    rw [List.getElem?_set_self hlt] at h1
    cases h1
    rw [h3, ← hw]
    exact List.mem_cons_self
  · rw [List.getElem?_set_ne (Ne.symm hi)] at h1
    refine List.mem_cons_of_mem _ (List.mem_filter.mpr ⟨ex_pr_mem.mpr ⟨u, h1, h2, h3⟩, ?_⟩)
    dsimp only
    rw [h3]
    simp [hi, ex_cat h2]
/-- the words that keep -/
def lw_gd : List Cond := lw_tbl.filter goodWord
theorem lw_gd_mem {w : Cond} (h1 : w ∈ lw_tbl) (h2 : goodWord w = true) : w ∈ lw_gd := List.mem_filter.mpr ⟨h1, h2⟩
theorem lw_gd_good {w : Cond} (h : w ∈ lw_gd) : goodWord w = true := (List.mem_filter.mp h).2
theorem lw_lk {own : Nat} {q : ex_L} (h : q ∈ ex_lk own) (h3 : q.1 ≠ 3) : ex_lw q ∈ lw_gd := by
  refine lw_gd_mem (ex_lk_in own q h) ?_
  unfold ex_lw
  split <;> first | rfl | contradiction
/-- the classes -/
def nw_t (T : u_T) (k : Nat) : FieldType := (parseFieldDescriptor (T k).2.2.1).getD .int
def nw_ok (c : Nat) : Bool := match ex_cf[c]?, vwCl[c]? with
  | some f, some q => decide (q.2.2 = f.length) && ((List.range f.length).all (fun j => match f[j]? with
      | some none => decide (parseFieldDescriptor (q.2.1 j).2.2.1 = some .int)
      | some (some none) => (match parseFieldDescriptor (q.2.1 j).2.2.1 with
        | some (.object _) => true
        | some (.array _) => true
        | _ => false)
      | _ => false) && ((List.range f.length).all (fun a => (List.range f.length).all (fun b => decide (a ≠ b → (q.2.1 a).2.1 ≠ (q.2.1 b).2.1))) &&
      ((List.range f.length).all (fun j => decide ((q.2.1 j).1 = q.1)) && (decide (q.1 = ex_nm c) && (decide (Cond.instantiable q.1 f.length ∈ lw_tbl) && (decide (Cond.initialized q.1 ∈ lw_tbl) &&
      (u_ws q.1 q.2.1 q.2.2).all (fun w => decide (w ∈ lw_tbl) && goodWord w)))))))
  | _, _ => false
set_option maxRecDepth 100000 in
theorem nw_all : (List.range 13).all nw_ok = true := by decide +kernel
theorem nw_cf : ex_cf.length = 13 ∧ vwCl.length = 13 := by decide +kernel
def fk_ok (q : ex_L) : Bool := decide (q.1 = 1 → q.2.2.2.toNat / 32 < 13 ∧ 0 ≤ q.2.2.2) && (match vwCl[q.2.2.2.toNat / 32]? with
  | some r => decide (q.1 = 1 → q.2.2.2.toNat % 32 < r.2.2)
  | none => decide (q.1 ≠ 1))
theorem fk_all (own : Nat) : ∀ q ∈ ex_lk own, fk_ok q = true := by
  have key : ∀ (L : List ex_L), L.all fk_ok = true → ∀ q ∈ L, fk_ok q = true := fun L hL q hq => List.all_eq_true.mp hL q hq
  unfold ex_lk
  split <;> first | exact key _ (by decide +kernel) | (intro q hq; cases hq)
end
section
/-! each instruction of the abstract machine is one of the machine -/
def ex_T (A : Nat → Prop) (t nn : Nat → Nat) (g : Nat → Int → Int) (U : State) (H : Heap) : Prop :=
  (∀ k, k < 4 → va_T .int (t k) (nn k) (fun j => .int (Int32.ofInt (g k (j : Int)))) A U H) ∧ (∀ k, k < 3 → va_Z "CellarCars$Garage" (ex_sN k) "[I" (.ref (t (k + 1))) A U H) ∧ (∀ own q, q ∈ ex_lk own → q.1 = 3 → va_Nw (ex_lw q) U) ∧ va_AO "CellarCars$Desk" U
abbrev ex_ty (A1 A2 : ClassId) : List (ClassId × FieldType) := [(A1, .int), (A2, .object "CellarCars$Desk")]
def ex_X (p : Program) (s : State) (m : MethodId) (args : Array Value) (meth : Method) (c : Code) (D : va_G) (A1 A2 : ClassId) (A : Nat → Prop) (t nn : Nat → Nat) (g : Nat → Int → Int) (own kd nL : Nat) (cc : ByteArray) : Prop :=
  p.tables.exec = Jvm.exec ∧ c.code = cc ∧ c.maxLocals = nL ∧ s.vm.findClass (ex_nm own) = some m.cls ∧ (∀ w ∈ lw_gd, w.before args s = true) ∧ (kd = 2 → meth.name = "<init>") ∧ va_K D vwCl (ex_ty A1 A2) s ∧ ex_T A t nn g s s.heap ∧ (∀ q, s.heap.size ≤ q → A q)
/-- what stays of the cells -/
def ex_B (t nn : Nat → Nat) (g : Nat → Int → Int) (ad : Nat → Nat) (h : ex_H) : Prop :=
  (∀ a i, ex_r32 (h.2 a i)) ∧ (∀ k, k < 4 → ad k = t k ∧ h.1[k]? = some (.inl (nn k)) ∧ h.2 k = g k) ∧ (∀ (a : Nat) (c : ex_C), h.1[a]? = some c → ex_cv h.1.length c) ∧ 4 ≤ h.1.length
def ex_Y (s : State) (D : va_G) (A1 A2 : ClassId) (A : Nat → Prop) (t nn : Nat → Nat) (g : Nat → Int → Int) (nL : Nat) (ad : Nat → Nat) (L : Array Slot) (H : Heap) (locs : List Loc) (ls st : List ex_V) (h : ex_H) : Prop :=
  va_P D vwCl (ex_W ad A1 A2 h) H ∧ va_D A (ex_W ad A1 A2 h) ∧ va_S A s.heap H locs ∧ ex_B t nn g ad h ∧ lv_has L nL (ex_pr ad ls) ∧ ls.length ≤ nL ∧ (∀ v ∈ ls, ex_rg h.1.length v) ∧ (∀ v ∈ st, ex_rg h.1.length v)
def ex_K (p : Program) (l : Launch) (e : Env) (R : Room) (s : State) (m : MethodId) (args : Array Value) (below : List Frame) (meth : Method) (c : Code) (Q : State → Prop) (D : va_G) (A1 A2 : ClassId) (A : Nat → Prop) (t nn : Nat → Nat) (g : Nat → Int → Int) (nL cells slots : Nat) (ad : Nat → Nat) (h : ex_H) (pc : Nat) (ls' st' : List ex_V) (h' : ex_H) : Prop :=
  ∀ (ad' : Nat → Nat) (L' : Array Slot) (H' : Heap) (locs' : List Loc) (cells' slots' : Nat), ex_ext ad ad' h.1.length → cells + h'.1.length = cells' + h.1.length → slots + ex_tot h'.1 = slots' + ex_tot h.1 → ex_Y s D A1 A2 A t nn g nL ad' L' H' locs' ls' st' h' →
    W p l e R s m args below meth c H' locs' cells' slots' Q (F0 m pc L' (st'.map (ex_vv ad')))
theorem ex_any {l : List (Instr × Nat)} {raw : Instr} {len : Nat} (h : l.any (fun q => decide (q = (raw, len))) = true) : (raw, len) ∈ l := by
  obtain ⟨q, h1, h2⟩ := List.any_eq_true.mp h
  have := of_decide_eq_true h2
  rw [← this]
  exact h1
theorem ck_n_mem {k : Nat} {f : Fin 4 → Instr} {q : Instr × Nat} (h : q ∈ ck_n k f) : ∃ j : Fin 4, (j : Nat) = k ∧ q = (f j, 1) := by
  unfold ck_n at h
  split at h
  · next hk => exact ⟨⟨k, hk⟩, rfl, List.mem_singleton.mp h⟩
  · cases h
theorem ck_lk_mem {own kd : Nat} {tg : Int} {x : Nat} (h : x ∈ ck_lk own kd tg) : ∃ q ∈ ex_lk own, q.1 = kd ∧ q.2.2.2 = tg ∧ q.2.2.1 = x := by
  unfold ck_lk at h
  obtain ⟨q, h1, h2⟩ := List.mem_filterMap.mp h
  split at h2
  · next hq => exact ⟨q, h1, hq.1, hq.2, Option.some.inj h2⟩
  · cases h2
theorem ex_lk_own {own : Nat} {q : ex_L} (h : q ∈ ex_lk own) : q.2.1 = own := by
  have key : ∀ (o : Nat) (L : List ex_L), L.all (fun q => decide (q.2.1 = o)) = true → ∀ q ∈ L, q.2.1 = o := fun o L hL q hq => of_decide_eq_true (List.all_eq_true.mp hL q hq)
  unfold ex_lk at h
  split at h <;> first | exact key _ _ (by decide +kernel) q h | cases h
theorem ex_mem_set {n : Nat} {ls : List ex_V} {k : Nat} {v : ex_V} (h : ∀ x ∈ ls, ex_rg n x) (hv : ex_rg n v) : ∀ x ∈ ls.set k v, ex_rg n x := by
  intro x hx
  rcases List.mem_or_eq_of_mem_set hx with h1 | h1
  · exact h x h1
  · rw [h1]; exact hv
section XS
variable {p : Program} {l : Launch} {e : Env} {R : Room} {s : State} {m : MethodId} {args : Array Value} {below : List Frame} {meth : Method} {c : Code} {H : Heap} {locs : List Loc} {cells slots : Nat} {Q : State → Prop}
variable {D : va_G} {A1 A2 : ClassId} {A : Nat → Prop} {t nn : Nat → Nat} {g : Nat → Int → Int} {own kd nL rt : Nat} {cc : ByteArray} {pcs : List Nat} {pc len : Nat} {raw : Instr}
variable {ad : Nat → Nat} {L : Array Slot} {ls st ls' st' : List ex_V} {h h' : ex_H}
/-- the heap stays, the locals stay -/
theorem ex_Y.sk (Y : ex_Y s D A1 A2 A t nn g nL ad L H locs ls st h) (hv : ∀ v ∈ st', ex_rg h.1.length v) : ex_Y s D A1 A2 A t nn g nL ad L H locs ls st' h := by
  obtain ⟨y1, y2, y3, y4, y5, y6, y7, y8⟩ := Y
  exact ⟨y1, y2, y3, y4, y5, y6, y7, hv⟩
theorem ex_K.go {pc' : Nat} (k : ex_K p l e R s m args below meth c Q D A1 A2 A t nn g nL cells slots ad h pc' ls' st' h) (Y : ex_Y s D A1 A2 A t nn g nL ad L H locs ls' st' h) : W p l e R s m args below meth c H locs cells slots Q (F0 m pc' L (st'.map (ex_vv ad))) :=
  k ad L H locs cells slots (fun _ _ => rfl) rfl rfl Y
theorem sw_iload {k : Nat} (X : ex_X p s m args meth c D A1 A2 A t nn g own kd nL cc) (Y : ex_Y s D A1 A2 A t nn g nL ad L H locs ls st h) (hd : decode cc pc = .ok (raw, len)) (hm : (raw, len) ∈ rw_i own kd pcs pc (.iload k)) (he : ex_st rt ls st h (.iload k) = oN ls' st' h')
    (kk : ex_K p l e R s m args below meth c Q D A1 A2 A t nn g nL cells slots ad h (pc + len) ls' st' h') : W p l e R s m args below meth c H locs cells slots Q (F0 m pc L (st.map (ex_vv ad))) := by
  obtain ⟨hx, hb, -⟩ := X
  dsimp only [ex_st] at he
  split at he
  · next z hz =>
    cases he
    have Y0 := Y
    obtain ⟨y1, y2, y3, y4, y5, y6, y7, y8⟩ := Y0
    have hL := ex_has_at y5 hz rfl
    have hr := y7 _ (List.mem_of_getElem? hz)
    have Y' : ex_Y s D A1 A2 A t nn g nL ad L H locs ls (.inl z :: st) h := Y.sk (fun v hv => by rcases List.mem_cons.mp hv with rfl | h1; exact hr; exact y8 v h1)
    rcases List.mem_cons.mp hm with h1 | h1
    · cases h1
      exact lv_iload hx hb hd hL (kk.go Y')
    · obtain ⟨j, hj, h2⟩ := ck_n_mem h1
      cases h2
      exact lv_iload_n hx hb hd hj hL (kk.go Y')
  · cases he
theorem sw_aload {k : Nat} (X : ex_X p s m args meth c D A1 A2 A t nn g own kd nL cc) (Y : ex_Y s D A1 A2 A t nn g nL ad L H locs ls st h) (hd : decode cc pc = .ok (raw, len)) (hm : (raw, len) ∈ rw_i own kd pcs pc (.aload k)) (he : ex_st rt ls st h (.aload k) = oN ls' st' h')
    (kk : ex_K p l e R s m args below meth c Q D A1 A2 A t nn g nL cells slots ad h (pc + len) ls' st' h') : W p l e R s m args below meth c H locs cells slots Q (F0 m pc L (st.map (ex_vv ad))) := by
  obtain ⟨hx, hb, -⟩ := X
  dsimp only [ex_st] at he
  split at he
  · next z hz =>
    cases he
    have Y0 := Y
    obtain ⟨y1, y2, y3, y4, y5, y6, y7, y8⟩ := Y0
    have hL := ex_has_at y5 hz rfl
    have hr := y7 _ (List.mem_of_getElem? hz)
    have Y' : ex_Y s D A1 A2 A t nn g nL ad L H locs ls (.inr (.inl z) :: st) h := Y.sk (fun v hv => by rcases List.mem_cons.mp hv with rfl | h1; exact hr; exact y8 v h1)
    rcases List.mem_cons.mp hm with h1 | h1
    · cases h1
      exact lv_aload hx hb hd hL (kk.go Y')
    · obtain ⟨j, hj, h2⟩ := ck_n_mem h1
      cases h2
      exact lv_aload_n hx hb hd hj hL (kk.go Y')
  · cases he
theorem ex_Y.loc {k : Nat} {v : ex_V} {w : Value} {L' : Array Slot} (Y : ex_Y s D A1 A2 A t nn g nL ad L H locs ls st h) (hw : w = ex_vv ad v) (hL : lv_has L' nL ((k, w) :: (ex_pr ad ls).filter (fun q => !(q.1 == k) && !(q.1 + 1 == k && q.2.category == 2)))) (hr : ex_rg h.1.length v) (hv : ∀ v ∈ st', ex_rg h.1.length v) : ex_Y s D A1 A2 A t nn g nL ad L' H locs (ls.set k v) st' h := by
  obtain ⟨y1, y2, y3, y4, y5, y6, y7, y8⟩ := Y
  exact ⟨y1, y2, y3, y4, ex_has_set hw hL, by rw [List.length_set]; exact y6, ex_mem_set y7 hr, hv⟩
theorem sw_istore {k : Nat} (X : ex_X p s m args meth c D A1 A2 A t nn g own kd nL cc) (Y : ex_Y s D A1 A2 A t nn g nL ad L H locs ls st h) (hd : decode cc pc = .ok (raw, len)) (hm : (raw, len) ∈ rw_i own kd pcs pc (.istore k)) (he : ex_st rt ls st h (.istore k) = oN ls' st' h')
    (kk : ex_K p l e R s m args below meth c Q D A1 A2 A t nn g nL cells slots ad h (pc + len) ls' st' h') : W p l e R s m args below meth c H locs cells slots Q (F0 m pc L (st.map (ex_vv ad))) := by
  obtain ⟨hx, hb, -⟩ := X
  dsimp only [ex_st] at he
  cases st with
  | nil => cases he
  | cons v0 st0 =>
    obtain z | z | z := v0
    · dsimp only at he
      split at he
      · next hk =>
        cases he
        have Y0 := Y
        obtain ⟨y1, y2, y3, y4, y5, y6, y7, y8⟩ := Y0
        have hr := y8 _ List.mem_cons_self
        have hs : ∀ v ∈ st', ex_rg h.1.length v := fun v hv => y8 v (List.mem_cons_of_mem _ hv)
        rcases List.mem_cons.mp hm with h1 | h1
        · cases h1
          exact lv_istore hx hb hd y5 (by omega) rfl (fun L' hL => kk.go (Y.loc (v := .inl z) rfl hL hr hs))
        · obtain ⟨j, hj, h2⟩ := ck_n_mem h1
          cases h2
          exact lv_istore_n hx hb hd hj y5 (by omega) rfl (fun L' hL => kk.go (Y.loc (v := .inl z) rfl hL hr hs))
      · cases he
    · cases he
    · cases he
theorem sw_astore {k : Nat} (X : ex_X p s m args meth c D A1 A2 A t nn g own kd nL cc) (Y : ex_Y s D A1 A2 A t nn g nL ad L H locs ls st h) (hd : decode cc pc = .ok (raw, len)) (hm : (raw, len) ∈ rw_i own kd pcs pc (.astore k)) (he : ex_st rt ls st h (.astore k) = oN ls' st' h')
    (kk : ex_K p l e R s m args below meth c Q D A1 A2 A t nn g nL cells slots ad h (pc + len) ls' st' h') : W p l e R s m args below meth c H locs cells slots Q (F0 m pc L (st.map (ex_vv ad))) := by
  obtain ⟨hx, hb, -⟩ := X
  dsimp only [ex_st] at he
  cases st with
  | nil => cases he
  | cons v0 st0 =>
    obtain z | z | z := v0
    · cases he
    · dsimp only at he
      split at he
      · next hk =>
        cases he
        have Y0 := Y
        obtain ⟨y1, y2, y3, y4, y5, y6, y7, y8⟩ := Y0
        have hr := y8 _ List.mem_cons_self
        have hs : ∀ v ∈ st', ex_rg h.1.length v := fun v hv => y8 v (List.mem_cons_of_mem _ hv)
        rcases List.mem_cons.mp hm with h1 | h1
        · cases h1
          exact lv_astore hx hb hd y5 (by omega) rfl (fun L' hL => kk.go (Y.loc (v := .inr (.inl z)) rfl hL hr hs))
        · obtain ⟨j, hj, h2⟩ := ck_n_mem h1
          cases h2
          exact lv_astore_n hx hb hd hj y5 (by omega) rfl (fun L' hL => kk.go (Y.loc (v := .inr (.inl z)) rfl hL hr hs))
      · cases he
    · cases he
theorem sw_iinc {k : Nat} {x : Int} (X : ex_X p s m args meth c D A1 A2 A t nn g own kd nL cc) (Y : ex_Y s D A1 A2 A t nn g nL ad L H locs ls st h) (hd : decode cc pc = .ok (raw, len)) (hm : (raw, len) ∈ rw_i own kd pcs pc (.iinc k x)) (he : ex_st rt ls st h (.iinc k x) = oN ls' st' h')
    (kk : ex_K p l e R s m args below meth c Q D A1 A2 A t nn g nL cells slots ad h (pc + len) ls' st' h') : W p l e R s m args below meth c H locs cells slots Q (F0 m pc L (st.map (ex_vv ad))) := by
  obtain ⟨hx, hb, -⟩ := X
  dsimp only [ex_st] at he
  split at he
  · next z hz =>
    cases he
    have Y0 := Y
    obtain ⟨y1, y2, y3, y4, y5, y6, y7, y8⟩ := Y0
    have hlt := (List.getElem?_eq_some_iff.mp hz).1
    have hm1 : (k, Value.int (Int32.ofInt z)) ∈ ex_pr ad ls := ex_pr_mem.mpr ⟨.inl z, hz, rfl, rfl⟩
    obtain ⟨i, hi⟩ := List.getElem?_of_mem hm1
    dsimp only [rw_i] at hm
    split at hm
    · cases List.mem_singleton.mp hm
      exact lv_iinc hx hb hd y5 hi rfl (by omega) rfl (fun L' hL => kk.go (Y.loc (v := .inl (ex_wr (z + x))) (by show _ = Value.int _; rw [i_of, Int32.ofInt_add]) hL (i_wr' _) y8))
    · cases hm
  · cases he
theorem sw_push {v : Int} (X : ex_X p s m args meth c D A1 A2 A t nn g own kd nL cc) (Y : ex_Y s D A1 A2 A t nn g nL ad L H locs ls st h) (hd : decode cc pc = .ok (raw, len)) (hm : (raw, len) ∈ rw_i own kd pcs pc (.sipush v)) (he : ex_st rt ls st h (.sipush v) = oN ls' st' h')
    (kk : ex_K p l e R s m args below meth c Q D A1 A2 A t nn g nL cells slots ad h (pc + len) ls' st' h') : W p l e R s m args below meth c H locs cells slots Q (F0 m pc L (st.map (ex_vv ad))) := by
  obtain ⟨hx, hb, hml, hown, hts, -⟩ := X
  cases he
  have y8 := Y.2.2.2.2.2.2.2
  have Y' : ex_r32 v → ex_Y s D A1 A2 A t nn g nL ad L H locs ls (.inl v :: st) h := fun hr => Y.sk (fun w hw => by rcases List.mem_cons.mp hw with rfl | h1; exact hr; exact y8 w h1)
  have cst : ∀ x, x ∈ ck_lk own 4 v → (Jvm.Cond.constant (ex_nm own) x (Int32.ofInt v)).before args s = true := by
    intro x hx
    obtain ⟨⟨q1, q2, q3, q4⟩, h1, h2, h3, h4⟩ := ck_lk_mem hx
    have ho := ex_lk_own h1
    dsimp only at h2 h3 h4 ho
    subst h2; subst h3; subst h4; subst ho
    exact hts _ (lw_lk h1 (fun q => by cases q))
  dsimp only [rw_i] at hm
  rcases List.mem_append.mp hm with h1 | h1
  · split at h1
    · next hv =>
      cases List.mem_singleton.mp h1
      exact lv_iconst hx hb hd rfl (kk.go (Y' (by unfold ex_r32; omega)))
    · cases h1
  · rcases List.mem_append.mp h1 with h1 | h1
    · split at h1
      · next hv =>
        cases List.mem_singleton.mp h1
        have hr : ex_r32 v := by unfold ex_r32; omega
        exact lv_bipush hx hb hd (v := Int32.ofInt v) (by rw [← Int32.toInt_inj, Int8.toInt_toInt32, i_to hr]; exact Int8.toInt_ofInt_of_le (by omega) (by omega)) (kk.go (Y' hr))
      · cases h1
    · rcases List.mem_append.mp h1 with h1 | h1
      · split at h1
        · next hv =>
          cases List.mem_singleton.mp h1
          have hr : ex_r32 v := by unfold ex_r32; omega
          exact lv_sipush hx hb hd (v := Int32.ofInt v) (by rw [← Int32.toInt_inj, Int16.toInt_toInt32, i_to hr]; exact Int16.toInt_ofInt_of_le (by omega) (by omega)) (kk.go (Y' hr))
        · cases h1
      · split at h1
        · next hv =>
          have hr : ex_r32 v := hv
          rcases List.mem_append.mp h1 with h1 | h1
          · obtain ⟨x, hx1, hx2⟩ := List.mem_map.mp h1
            cases hx2
            exact lv_ldc hx hb hown (cst x hx1) hd (kk.go (Y' hr))
          · obtain ⟨x, hx1, hx2⟩ := List.mem_map.mp h1
            cases hx2
            exact lv_ldcw hx hb hown (cst x hx1) hd (kk.go (Y' hr))
        · cases h1
/-- the top of the stack: its words' ranges -/
theorem ex_top2 {a b : ex_V} {n : Nat} {st0 : List ex_V} (y : ∀ v ∈ b :: a :: st0, ex_rg n v) : ex_rg n b ∧ ex_rg n a ∧ ∀ v ∈ st0, ex_rg n v :=
  ⟨y b List.mem_cons_self, y a (List.mem_cons_of_mem _ List.mem_cons_self), fun v hv => y v (List.mem_cons_of_mem _ (List.mem_cons_of_mem _ hv))⟩
theorem ex_cons1 {n : Nat} {v : ex_V} {st0 : List ex_V} (h1 : ex_rg n v) (h2 : ∀ w ∈ st0, ex_rg n w) : ∀ w ∈ v :: st0, ex_rg n w := fun w hw => by
  rcases List.mem_cons.mp hw with rfl | h; exact h1; exact h2 w h
theorem sw_bin {f : Int → Int → Int} {F : Int32 → Int32 → Int32} (Y : ex_Y s D A1 A2 A t nn g nL ad L H locs ls st h) (he : ex_bin f ls st h = oN ls' st' h') (hf : ∀ a b : Int, Int32.ofInt (f a b) = F (Int32.ofInt a) (Int32.ofInt b)) (hr : ∀ a b : Int, ex_r32 (f a b))
    (row : ∀ {x y : Int32} {rest : List Value}, W p l e R s m args below meth c H locs cells slots Q (F0 m (pc + 1) L (.int (F x y) :: rest)) → W p l e R s m args below meth c H locs cells slots Q (F0 m pc L (.int y :: .int x :: rest)))
    (kk : ex_K p l e R s m args below meth c Q D A1 A2 A t nn g nL cells slots ad h (pc + 1) ls' st' h') : W p l e R s m args below meth c H locs cells slots Q (F0 m pc L (st.map (ex_vv ad))) := by
  unfold ex_bin at he
  split at he
  · next b a st0 =>
    cases he
    obtain ⟨-, -, y⟩ := ex_top2 Y.2.2.2.2.2.2.2
    refine row (x := Int32.ofInt a) (y := Int32.ofInt b) ?_
    rw [← hf]
    exact kk.go (Y.sk (ex_cons1 (hr a b) y))
  · cases he
theorem ex_top1 {a : ex_V} {n : Nat} {st0 : List ex_V} (y : ∀ v ∈ a :: st0, ex_rg n v) : ex_rg n a ∧ ∀ v ∈ st0, ex_rg n v := ⟨y a List.mem_cons_self, fun v hv => y v (List.mem_cons_of_mem _ hv)⟩
theorem sw_div {F : Int32 → Int32 → Int32} {f : Int → Int → Int} (he : (match st with
      | .inl b :: .inl a :: st' => if b = 0 then none else oN ls (.inl (f a b) :: st') h
      | _ => none) = oN ls' st' h') (Y : ex_Y s D A1 A2 A t nn g nL ad L H locs ls st h) (hf : ∀ a b : Int, Int32.ofInt (f a b) = F (Int32.ofInt a) (Int32.ofInt b)) (hr : ∀ a b : Int, ex_r32 (f a b))
    (row : ∀ {x y : Int32} {rest : List Value}, ¬ y = 0 → W p l e R s m args below meth c H locs cells slots Q (F0 m (pc + 1) L (.int (F x y) :: rest)) → W p l e R s m args below meth c H locs cells slots Q (F0 m pc L (.int y :: .int x :: rest)))
    (kk : ex_K p l e R s m args below meth c Q D A1 A2 A t nn g nL cells slots ad h (pc + 1) ls' st' h') : W p l e R s m args below meth c H locs cells slots Q (F0 m pc L (st.map (ex_vv ad))) := by
  rcases st with _ | ⟨b | b | b, _ | ⟨a | a | a, st0⟩⟩
  · cases he
  · cases he
  · dsimp only at he
    by_cases hb : b = 0
    · rw [if_pos hb] at he; cases he
    · rw [if_neg hb] at he
      cases he
      obtain ⟨y1, -, y⟩ := ex_top2 Y.2.2.2.2.2.2.2
      refine row (x := Int32.ofInt a) (y := Int32.ofInt b) (fun q => hb ((i_eq0 y1).mp q)) ?_
      rw [← hf]
      exact kk.go (Y.sk (ex_cons1 (hr a b) y))
  all_goals cases he
theorem sw_i2l (X : ex_X p s m args meth c D A1 A2 A t nn g own kd nL cc) (Y : ex_Y s D A1 A2 A t nn g nL ad L H locs ls st h) (hd : decode cc pc = .ok (.i2l, 1)) (he : ex_st rt ls st h .i2l = oN ls' st' h')
    (kk : ex_K p l e R s m args below meth c Q D A1 A2 A t nn g nL cells slots ad h (pc + 1) ls' st' h') : W p l e R s m args below meth c H locs cells slots Q (F0 m pc L (st.map (ex_vv ad))) := by
  dsimp only [ex_st] at he
  split at he
  · next a st0 =>
    cases he
    obtain ⟨y1, y⟩ := ex_top1 Y.2.2.2.2.2.2.2
    have hr : ex_r32 a := y1
    have h64 : ex_r64 a := by unfold ex_r32 at hr; unfold ex_r64; omega
    refine lv_i2l X.1 X.2.1 hd (v := Int64.ofInt a) ?_ (kk.go (Y.sk (ex_cons1 h64 y)))
    rw [← Int64.toInt_inj, Int32.toInt_toInt64, i_to hr]
    unfold ex_r64 at h64
    exact (Int64.toInt_ofInt_of_le (by omega) (by omega)).symm
  · cases he
theorem l_r (x : Int64) : ex_r64 x.toInt := by
  have h1 := Int64.toInt_lt x
  have h2 := Int64.le_toInt x
  unfold ex_r64
  omega
theorem l_to {z : Int} (h : ex_r64 z) : (Int64.ofInt z).toInt = z := by
  unfold ex_r64 at h
  exact Int64.toInt_ofInt_of_le (by omega) (by omega)
theorem sw_ladd (X : ex_X p s m args meth c D A1 A2 A t nn g own kd nL cc) (Y : ex_Y s D A1 A2 A t nn g nL ad L H locs ls st h) (hd : decode cc pc = .ok (.ladd, 1)) (he : ex_st rt ls st h .ladd = oN ls' st' h')
    (kk : ex_K p l e R s m args below meth c Q D A1 A2 A t nn g nL cells slots ad h (pc + 1) ls' st' h') : W p l e R s m args below meth c H locs cells slots Q (F0 m pc L (st.map (ex_vv ad))) := by
  dsimp only [ex_st] at he
  split at he
  · next b a st0 =>
    cases he
    obtain ⟨y1, y2, y⟩ := ex_top2 Y.2.2.2.2.2.2.2
    refine lv_ladd X.1 X.2.1 (x := Int64.ofInt a) (y := Int64.ofInt b) hd ?_
    have e1 : Int64.ofInt a + Int64.ofInt b = Int64.ofInt (ex_w64 (a + b)) := by unfold ex_w64; rw [Int64.ofInt_toInt, Int64.ofInt_add]
    rw [e1]
    exact kk.go (Y.sk (st' := .inr (.inr (ex_w64 (a + b))) :: st0) (ex_cons1 (l_r _) y))
  · cases he
theorem sw_lcmp (X : ex_X p s m args meth c D A1 A2 A t nn g own kd nL cc) (Y : ex_Y s D A1 A2 A t nn g nL ad L H locs ls st h) (hd : decode cc pc = .ok (.lcmp, 1)) (he : ex_st rt ls st h .lcmp = oN ls' st' h')
    (kk : ex_K p l e R s m args below meth c Q D A1 A2 A t nn g nL cells slots ad h (pc + 1) ls' st' h') : W p l e R s m args below meth c H locs cells slots Q (F0 m pc L (st.map (ex_vv ad))) := by
  dsimp only [ex_st] at he
  split at he
  · next b a st0 =>
    cases he
    obtain ⟨y1, y2, y⟩ := ex_top2 Y.2.2.2.2.2.2.2
    refine W.lcmp X.1 X.2.1 (x := Int64.ofInt a) (y := Int64.ofInt b) hd ?_
    have e1 : lg_cmp (Int64.ofInt a) (Int64.ofInt b) = Int32.ofInt (if b < a then 1 else if a = b then 0 else -1) := by
      unfold lg_cmp
      simp only [gt_iff_lt, Int64.lt_iff_toInt_lt, ← Int64.toInt_inj, l_to y1, l_to y2]
      split
      · rfl
      · split <;> rfl
    rw [e1]
    exact kk.go (Y.sk (st' := .inl (if b < a then 1 else if a = b then 0 else -1) :: st0) (ex_cons1 (by show ex_r32 _; unfold ex_r32; split; omega; split <;> omega) y))
  · cases he
theorem sw_dup (X : ex_X p s m args meth c D A1 A2 A t nn g own kd nL cc) (Y : ex_Y s D A1 A2 A t nn g nL ad L H locs ls st h) (hd : decode cc pc = .ok (.dup, 1)) (he : ex_st rt ls st h .dup = oN ls' st' h')
    (kk : ex_K p l e R s m args below meth c Q D A1 A2 A t nn g nL cells slots ad h (pc + 1) ls' st' h') : W p l e R s m args below meth c H locs cells slots Q (F0 m pc L (st.map (ex_vv ad))) := by
  dsimp only [ex_st] at he
  split at he
  · next v st0 =>
    split at he
    · next hv =>
      cases he
      obtain ⟨y1, y⟩ := ex_top1 Y.2.2.2.2.2.2.2
      exact lv_dup X.1 X.2.1 hd (ex_cat hv) (kk.go (Y.sk (ex_cons1 y1 (ex_cons1 y1 y))))
    · cases he
  · cases he
theorem sw_dup2 (X : ex_X p s m args meth c D A1 A2 A t nn g own kd nL cc) (Y : ex_Y s D A1 A2 A t nn g nL ad L H locs ls st h) (hd : decode cc pc = .ok (.dup2, 1)) (he : ex_st rt ls st h .dup2 = oN ls' st' h')
    (kk : ex_K p l e R s m args below meth c Q D A1 A2 A t nn g nL cells slots ad h (pc + 1) ls' st' h') : W p l e R s m args below meth c H locs cells slots Q (F0 m pc L (st.map (ex_vv ad))) := by
  dsimp only [ex_st] at he
  split at he
  · next v w st0 =>
    split at he
    · next hv =>
      cases he
      obtain ⟨y1, y2, y⟩ := ex_top2 Y.2.2.2.2.2.2.2
      exact lv_dup2_11 X.1 X.2.1 hd (ex_cat hv.1) (ex_cat hv.2) (kk.go (Y.sk (ex_cons1 y1 (ex_cons1 y2 (ex_cons1 y1 (ex_cons1 y2 y))))))
    · cases he
  · cases he
theorem sw_pop (X : ex_X p s m args meth c D A1 A2 A t nn g own kd nL cc) (Y : ex_Y s D A1 A2 A t nn g nL ad L H locs ls st h) (hd : decode cc pc = .ok (.pop, 1)) (he : ex_st rt ls st h .pop = oN ls' st' h')
    (kk : ex_K p l e R s m args below meth c Q D A1 A2 A t nn g nL cells slots ad h (pc + 1) ls' st' h') : W p l e R s m args below meth c H locs cells slots Q (F0 m pc L (st.map (ex_vv ad))) := by
  dsimp only [ex_st] at he
  split at he
  · next v st0 =>
    split at he
    · next hv =>
      cases he
      obtain ⟨y1, y⟩ := ex_top1 Y.2.2.2.2.2.2.2
      exact lv_pop X.1 X.2.1 hd (ex_cat hv) (kk.go (Y.sk y))
    · cases he
  · cases he
theorem ex_W_arr {a n : Nat} (ha : 4 ≤ a) (hc : h.1[a]? = some (.inl n)) : (ex_W ad A1 A2 h)[a - 4]? = some (ad a, .inl (A1, n, .inl (fun j => Int32.ofInt (h.2 a (j : Int))))) := by
  rw [ex_W_at _ _ _ _ ha, hc]; rfl
theorem ex_W_qar {a : Nat} {r : List (Option Nat)} (ha : 4 ≤ a) (hc : h.1[a]? = some (.inr (.inl r))) : (ex_W ad A1 A2 h)[a - 4]? = some (ad a, .inl (A2, r.length, .inr (.inr (.inr (.inr (fun j => (r.getD j none).map ad)))))) := by
  rw [ex_W_at _ _ _ _ ha, hc]; rfl
theorem ex_W_obj {a k : Nat} {f : List (Option (Option Nat))} (ha : 4 ≤ a) (hc : h.1[a]? = some (.inr (.inr (k, f)))) : (ex_W ad A1 A2 h)[a - 4]? = some (ad a, .inr (k, f.mapIdx (ex_fv ad (h.2 a)))) := by
  rw [ex_W_at _ _ _ _ ha, hc]; rfl
theorem sw_alen (X : ex_X p s m args meth c D A1 A2 A t nn g own kd nL cc) (Y : ex_Y s D A1 A2 A t nn g nL ad L H locs ls st h) (hd : decode cc pc = .ok (.arraylength, 1)) (he : ex_st rt ls st h .arraylength = oN ls' st' h')
    (kk : ex_K p l e R s m args below meth c Q D A1 A2 A t nn g nL cells slots ad h (pc + 1) ls' st' h') : W p l e R s m args below meth c H locs cells slots Q (F0 m pc L (st.map (ex_vv ad))) := by
  obtain ⟨hx, hb, -, -, -, -, hK, hT, -⟩ := X
  dsimp only [ex_st] at he
  split at he
  · next a st0 =>
    split at he
    · next n hn =>
      cases he
      have Y0 := Y
      obtain ⟨hP, hD, hS, hB, -, -, -, y8⟩ := Y0
      obtain ⟨y1, y⟩ := ex_top1 y8
      have Y' := Y.sk (st' := .inl (ex_wr n) :: st0) (ex_cons1 (i_wr' _) y)
      have e1 : Int32.ofNat n = Int32.ofInt (ex_wr n) := by rw [i_of, i_nat]
      by_cases ha : 4 ≤ a
      · exact va_alen hx hb hK hP (a - 4) 0 (ex_W_arr ha hn) rfl e1 hd (kk.go Y')
      · obtain ⟨b1, b2, b3⟩ := hB.2.1 a (by omega)
        rw [b2] at hn
        cases hn
        show W p l e R s m args below meth c H locs cells slots Q (F0 m pc L (.ref (ad a) :: st0.map (ex_vv ad)))
        rw [b1]
        exact va_tlen hx hb (hT.1 a (by omega)) hS e1 hd (kk.go Y')
    · cases he
  · cases he
theorem sw_iald (X : ex_X p s m args meth c D A1 A2 A t nn g own kd nL cc) (Y : ex_Y s D A1 A2 A t nn g nL ad L H locs ls st h) (hd : decode cc pc = .ok (.iaload, 1)) (he : ex_st rt ls st h .iaload = oN ls' st' h')
    (kk : ex_K p l e R s m args below meth c Q D A1 A2 A t nn g nL cells slots ad h (pc + 1) ls' st' h') : W p l e R s m args below meth c H locs cells slots Q (F0 m pc L (st.map (ex_vv ad))) := by
  obtain ⟨hx, hb, -, -, -, -, hK, hT, -⟩ := X
  dsimp only [ex_st] at he
  split at he
  · next i a st0 =>
    split at he
    · next n hn =>
      split at he
      · next hi =>
        cases he
        have Y0 := Y
        obtain ⟨hP, hD, hS, hB, -, -, -, y8⟩ := Y0
        obtain ⟨y1, y2, y⟩ := ex_top2 y8
        have hr : ex_r32 i := y1
        have Y' := Y.sk (st' := .inl (h.2 a i) :: st0) (ex_cons1 (hB.1 a i) y)
        have hz : ((i.toNat : Nat) : Int) = i := Int.toNat_of_nonneg hi.1
        by_cases ha : 4 ≤ a
        · refine va_iald hx hb hK hP (a - 4) 0 (ex_W_arr ha hn) rfl (i_in hr hi.1 hi.2) hd ?_
          rw [i_cl hr hi.1, hz]
          exact kk.go Y'
        · obtain ⟨b1, b2, b3⟩ := hB.2.1 a (by omega)
          rw [b2] at hn
          cases hn
          show W p l e R s m args below meth c H locs cells slots Q (F0 m pc L (.int (Int32.ofInt i) :: .ref (ad a) :: st0.map (ex_vv ad)))
          rw [b1]
          refine va_ti hx hb (hT.1 a (by omega)) hS (i_in hr hi.1 hi.2) (v := .int (Int32.ofInt (h.2 a i))) ?_ hd (kk.go Y')
          rw [i_cl hr hi.1, hz, b3]
      · cases he
    · cases he
  · cases he
theorem ex_ar_self (σ : ex_S) (a : Nat) (f : Int → Int) : ex_ar σ a f a = f := by unfold ex_ar; rw [if_pos rfl]
theorem ex_ar_ne (σ : ex_S) {a b : Nat} (f : Int → Int) (hb : b ≠ a) : ex_ar σ a f b = σ b := by unfold ex_ar; rw [if_neg hb]
theorem ex_B.ar {a : Nat} {f : Int → Int} (hB : ex_B t nn g ad h) (ha : 4 ≤ a) (hf : ∀ i, ex_r32 (f i)) : ex_B t nn g ad (h.1, ex_ar h.2 a f) := by
  obtain ⟨b1, b2, b3, b4⟩ := hB
  refine ⟨fun b i => ?_, fun k hk => ?_, b3, b4⟩
  · show ex_r32 (ex_ar h.2 a f b i)
    by_cases hb : b = a
    · rw [hb, ex_ar_self]; exact hf i
    · rw [ex_ar_ne _ _ hb]; exact b1 b i
  · obtain ⟨c1, c2, c3⟩ := b2 k hk
    exact ⟨c1, c2, by show ex_ar h.2 a f k = g k; rw [ex_ar_ne _ _ (by omega)]; exact c3⟩
theorem ex_u_r {f : Int → Int} {i z : Int} (hf : ∀ j, ex_r32 (f j)) (hz : ex_r32 z) (j : Int) : ex_r32 (ex_u f i z j) := by
  unfold ex_u
  split
  · exact hz
  · exact hf j
/-- a cell of ints is written -/
theorem ex_Y.ar {a : Nat} {f : Int → Int} {H' : Heap} {locs' : List Loc} {E : va_E} (Y : ex_Y s D A1 A2 A t nn g nL ad L H locs ls st h) (ha : 4 ≤ a) {cx : ex_C} (hc : h.1[a]? = some cx) (hf : ∀ i, ex_r32 (f i)) (hE : E = ex_ce ad A1 A2 f cx) (hP : va_P D vwCl ((ex_W ad A1 A2 h).set (a - 4) (ad a, E)) H') (hD : va_D A ((ex_W ad A1 A2 h).set (a - 4) (ad a, E))) (hS : va_S A s.heap H' locs') (hv : ∀ v ∈ st', ex_rg h.1.length v) : ex_Y s D A1 A2 A t nn g nL ad L H' locs' ls st' (h.1, ex_ar h.2 a f) := by
  obtain ⟨y1, y2, y3, y4, y5, y6, y7, y8⟩ := Y
  have e : (ex_W ad A1 A2 h).set (a - 4) (ad a, E) = ex_W ad A1 A2 (h.1, ex_ar h.2 a f) := ex_W_set (h := h) (h' := (h.1, ex_ar h.2 a f)) (E := (ad a, E)) ha (c := cx) hc (fun _ _ => rfl) (fun b hb => ex_ar_ne _ _ hb) (by show _ = (ad a, ex_ce ad A1 A2 (ex_ar h.2 a f a) cx); rw [ex_ar_self, hE]) (List.getElem?_eq_some_iff.mp hc).1
  rw [e] at hP hD
  exact ⟨hP, hD, hS, y4.ar ha hf, y5, y6, y7, hv⟩
theorem sw_iast (X : ex_X p s m args meth c D A1 A2 A t nn g own kd nL cc) (Y : ex_Y s D A1 A2 A t nn g nL ad L H locs ls st h) (hd : decode cc pc = .ok (.iastore, 1)) (he : ex_st rt ls st h .iastore = oN ls' st' h')
    (kk : ex_K p l e R s m args below meth c Q D A1 A2 A t nn g nL cells slots ad h (pc + 1) ls' st' h') : W p l e R s m args below meth c H locs cells slots Q (F0 m pc L (st.map (ex_vv ad))) := by
  obtain ⟨hx, hb, -, -, -, -, hK, hT, -⟩ := X
  dsimp only [ex_st] at he
  split at he
  · next z i a st0 =>
    split at he
    · next n hn =>
      split at he
      · next hi =>
        cases he
        have Y0 := Y
        obtain ⟨hP, hD, hS, hB, -, -, -, y8⟩ := Y0
        obtain ⟨y1, y2, y⟩ := ex_top2 y8
        obtain ⟨y3, y⟩ := ex_top1 y
        have hr : ex_r32 i := y2
        have hz : ((i.toNat : Nat) : Int) = i := Int.toNat_of_nonneg hi.2.1
        refine va_iast hx hb hK hP hD hS (a - 4) 0 (ex_W_arr hi.1 hn) rfl (i_in hr hi.2.1 hi.2.2) hd (fun H1 locs1 hP1 hD1 hS1 => ?_)
        refine kk ad L H1 locs1 cells slots (fun _ _ => rfl) rfl rfl (Y.ar hi.1 hn (ex_u_r (hB.1 a) y1) ?_ hP1 hD1 hS1 y)
        refine congrArg (fun F => (Sum.inl (A1, n, Sum.inl F) : va_E)) (funext fun j => ?_)
        rw [i_cl hr hi.2.1]
        unfold upd ex_u
        by_cases hj : j = i.toNat
        · rw [if_pos hj, if_pos (by rw [hj]; exact hz)]
        · rw [if_neg hj, if_neg (by omega)]
      · cases he
    · cases he
  · cases he
theorem sw_aald (X : ex_X p s m args meth c D A1 A2 A t nn g own kd nL cc) (Y : ex_Y s D A1 A2 A t nn g nL ad L H locs ls st h) (hd : decode cc pc = .ok (.aaload, 1)) (he : ex_st rt ls st h .aaload = oN ls' st' h')
    (kk : ex_K p l e R s m args below meth c Q D A1 A2 A t nn g nL cells slots ad h (pc + 1) ls' st' h') : W p l e R s m args below meth c H locs cells slots Q (F0 m pc L (st.map (ex_vv ad))) := by
  obtain ⟨hx, hb, -, -, -, -, hK, hT, -⟩ := X
  dsimp only [ex_st] at he
  split at he
  · next i a st0 =>
    split at he
    · next r hn =>
      split at he
      · next hi =>
        split at he
        · next x hx1 =>
          cases he
          have Y0 := Y
          obtain ⟨hP, hD, hS, hB, -, -, -, y8⟩ := Y0
          obtain ⟨y1, y2, y⟩ := ex_top2 y8
          have hr : ex_r32 i := y1
          refine va_aldq hx hb hK hP (a - 4) 1 (ex_W_qar hi.1 hn) rfl (i_in hr hi.2.1 hi.2.2) hd ?_
          rw [i_cl hr hi.2.1, List.getD_eq_getElem?_getD, hx1]
          exact kk.go (Y.sk (st' := .inr (.inl x) :: st0) (ex_cons1 (hB.2.2.1 a _ hn i.toNat x hx1) y))
        · cases he
      · cases he
    · cases he
  · cases he
/-- a cell's references are written -/
theorem ex_Y.sh {a : Nat} {H' : Heap} {locs' : List Loc} {E : va_E} {cx cy : ex_C} (Y : ex_Y s D A1 A2 A t nn g nL ad L H locs ls st h) (ha : 4 ≤ a) (hc : h.1[a]? = some cx) (hcv : ex_cv h.1.length cy) (hE : E = ex_ce ad A1 A2 (h.2 a) cy) (hP : va_P D vwCl ((ex_W ad A1 A2 h).set (a - 4) (ad a, E)) H') (hD : va_D A ((ex_W ad A1 A2 h).set (a - 4) (ad a, E))) (hS : va_S A s.heap H' locs') (hv : ∀ v ∈ st', ex_rg h.1.length v) : ex_Y s D A1 A2 A t nn g nL ad L H' locs' ls st' (h.1.set a cy, h.2) := by
  obtain ⟨y1, y2, y3, ⟨b1, b2, b3, b4⟩, y5, y6, y7, y8⟩ := Y
  have hl := (List.getElem?_eq_some_iff.mp hc).1
  have e : (ex_W ad A1 A2 h).set (a - 4) (ad a, E) = ex_W ad A1 A2 (h.1.set a cy, h.2) := ex_W_set (h := h) (h' := (h.1.set a cy, h.2)) (E := (ad a, E)) ha (c := cy) (List.getElem?_set_self hl) (fun b hb => List.getElem?_set_ne (Ne.symm hb)) (fun b hb => rfl) (by rw [hE]) hl
  rw [e] at hP hD
  have hlen : (h.1.set a cy).length = h.1.length := List.length_set
  refine ⟨hP, hD, hS, ⟨b1, fun k hk => ?_, fun b cz hz => ?_, by show 4 ≤ (h.1.set a cy).length; rw [hlen]; exact b4⟩, y5, y6, ?_, ?_⟩
  · obtain ⟨c1, c2, c3⟩ := b2 k hk
    exact ⟨c1, by show (h.1.set a cy)[k]? = _; rw [List.getElem?_set_ne (by omega)]; exact c2, c3⟩
  · show ex_cv (h.1.set a cy).length cz
    rw [hlen]
    by_cases hb : b = a
    · subst hb
      have hz' : (h.1.set b cy)[b]? = some cz := hz
      rw [List.getElem?_set_self hl] at hz'
      cases hz'
      exact hcv
    · have hz' : (h.1.set a cy)[b]? = some cz := hz
      rw [List.getElem?_set_ne (Ne.symm hb)] at hz'
      exact b3 b cz hz'
  · show ∀ v ∈ ls, ex_rg (h.1.set a cy).length v
    rw [hlen]; exact y7
  · show ∀ v ∈ st', ex_rg (h.1.set a cy).length v
    rw [hlen]; exact hv
theorem sw_aast (X : ex_X p s m args meth c D A1 A2 A t nn g own kd nL cc) (Y : ex_Y s D A1 A2 A t nn g nL ad L H locs ls st h) (hd : decode cc pc = .ok (.aastore, 1)) (he : ex_st rt ls st h .aastore = oN ls' st' h')
    (kk : ex_K p l e R s m args below meth c Q D A1 A2 A t nn g nL cells slots ad h (pc + 1) ls' st' h') : W p l e R s m args below meth c H locs cells slots Q (F0 m pc L (st.map (ex_vv ad))) := by
  obtain ⟨hx, hb, -, -, -, -, hK, hT, -⟩ := X
  dsimp only [ex_st] at he
  split at he
  · next v i a st0 =>
    split at he
    · next r hn =>
      split at he
      · next hi =>
        split at he
        · next f hf =>
          split at he
          · next hv4 =>
            cases he
            have Y0 := Y
            obtain ⟨hP, hD, hS, hB, -, -, -, y8⟩ := Y0
            obtain ⟨y1, y2, y⟩ := ex_top2 y8
            obtain ⟨y3, y⟩ := ex_top1 y
            have hr : ex_r32 i := y2
            refine va_astq hx hb hK hP hD hS (a - 4) 1 (v - 4) 1 (r := (RX1, TX1, 13)) (ex_W_qar hi.1 hn) rfl (ex_W_obj hv4 hf) rfl (i_in hr hi.2.1 hi.2.2) hd (fun H1 locs1 hP1 hD1 hS1 => ?_)
            have hsz : ex_sz (.inr (.inl (r.set i.toNat (some v)))) = ex_sz (.inr (.inl r)) := by show (r.set i.toNat (some v)).length = r.length; exact List.length_set
            refine kk ad L H1 locs1 cells slots (fun _ _ => rfl) (by show cells + (h.1.set a _).length = _; rw [List.length_set]) (by show slots + ex_tot (h.1.set a _) = _; rw [ex_tot_set _ _ _ _ hn hsz]) (Y.sh hi.1 hn ?_ ?_ hP1 hD1 hS1 y)
            · intro k b hb
              by_cases hk : k = i.toNat
              · subst hk
                rw [List.getElem?_set_self (by omega)] at hb
                cases hb
                exact y1
              · rw [List.getElem?_set_ne (Ne.symm hk)] at hb
                exact hB.2.2.1 a _ hn k b hb
            · show (Sum.inl (A2, r.length, _) : va_E) = .inl (A2, (r.set i.toNat (some v)).length, _)
              rw [List.length_set]
              refine congrArg (fun F => (Sum.inl (A2, r.length, Sum.inr (Sum.inr (Sum.inr (Sum.inr F)))) : va_E)) (funext fun j => ?_)
              rw [i_cl hr hi.2.1]
              unfold va_up
              simp only [List.getD_eq_getElem?_getD]
              by_cases hj : j = i.toNat
              · subst hj
                rw [if_pos rfl, List.getElem?_set_self (by omega)]
                rfl
              · rw [if_neg hj, List.getElem?_set_ne (Ne.symm hj)]
          · cases he
        · cases he
      · cases he
    · cases he
  · cases he
/-- a new cell -/
theorem ex_Y.new {q : Nat} {H' : Heap} {E : va_E} {cx : ex_C} {σ : ex_S} (Y : ex_Y s D A1 A2 A t nn g nL ad L H locs ls st h) (hσ : ∀ b, b < h.1.length → σ b = h.2 b) (hσr : ∀ b i, ex_r32 (σ b i)) (hcv : ex_cv (h.1.length + 1) cx) (hE : ∀ ad' : Nat → Nat, E = ex_ce ad' A1 A2 (σ h.1.length) cx) (hP : va_P D vwCl (ex_W ad A1 A2 h ++ [(q, E)]) H') (hD : va_D A (ex_W ad A1 A2 h ++ [(q, E)])) (hS : va_S A s.heap H' locs) (hv : ∀ v ∈ st', ex_rg h.1.length v) :
    ex_ext ad (fun k => if k = h.1.length then q else ad k) h.1.length ∧ ex_Y s D A1 A2 A t nn g nL (fun k => if k = h.1.length then q else ad k) L H' locs ls (.inr (.inl h.1.length) :: st') (h.1 ++ [cx], σ) := by
  obtain ⟨y1, y2, y3, ⟨b1, b2, b3, b4⟩, y5, y6, y7, y8⟩ := Y
  have hext : ex_ext ad (fun k => if k = h.1.length then q else ad k) h.1.length := fun k hk => by show (if k = _ then _ else _) = _; rw [if_neg (by omega)]
  have e : ex_W ad A1 A2 h ++ [(q, E)] = ex_W (fun k => if k = h.1.length then q else ad k) A1 A2 (h.1 ++ [cx], σ) := ex_W_push b4 (by show (if h.1.length = _ then _ else _) = _; rw [if_pos rfl]) (hE _) (fun a ca ha hc => by
    have hl := (List.getElem?_eq_some_iff.mp hc).1
    exact ⟨hext a hl, by rw [hσ a hl]; exact ex_ce_ext hext (b3 a ca hc)⟩)
  rw [e] at hP hD
  have hlen : (h.1 ++ [cx]).length = h.1.length + 1 := by simp
  refine ⟨hext, hP, hD, hS, ⟨hσr, fun k hk => ?_, fun b cz hz => ?_, by show 4 ≤ (h.1 ++ [cx]).length; omega⟩, ex_has_sub y5 (fun w hw => ?_), y6, ?_, ?_⟩
  · obtain ⟨c1, c2, c3⟩ := b2 k hk
    refine ⟨(hext k (by omega)).trans c1, ?_, (hσ k (by omega)).trans c3⟩
    show (h.1 ++ [cx])[k]? = _
    rw [List.getElem?_append_left (by omega)]
    exact c2
  · show ex_cv (h.1 ++ [cx]).length cz
    rw [hlen]
    have hz' : (h.1 ++ [cx])[b]? = some cz := hz
    by_cases hb : b < h.1.length
    · rw [List.getElem?_append_left hb] at hz'
      exact ex_cv_le (by omega) (b3 b cz hz')
    · rw [List.getElem?_append_right (by omega)] at hz'
      have h0 : b - h.1.length < 1 := (List.getElem?_eq_some_iff.mp hz').1
      rw [show b - h.1.length = 0 by omega] at hz'
      cases hz'
      exact hcv
  · obtain ⟨v, h1, h2, h3⟩ := ex_pr_mem.mp hw
    exact ex_pr_mem.mpr ⟨v, h1, h2, by rw [h3]; exact ex_vv_ext hext (y7 v (List.mem_of_getElem? h1))⟩
  · intro v hv1
    show ex_rg (h.1 ++ [cx]).length v
    rw [hlen]
    exact ex_rg_le (by omega) (y7 v hv1)
  · intro v hv1
    show ex_rg (h.1 ++ [cx]).length v
    rw [hlen]
    rcases List.mem_cons.mp hv1 with rfl | h1
    · exact Nat.lt_succ_self _
    · exact ex_rg_le (by omega) (hv v h1)
theorem ex_z_r {b : Nat} {n : Nat} (hr : ∀ a i, ex_r32 (h.2 a i)) (i : Int) : ex_r32 (ex_ar h.2 n (fun _ => 0) b i) := by
  by_cases hb : b = n
  · rw [hb, ex_ar_self]; exact i_r0
  · rw [ex_ar_ne _ _ hb]; exact hr b i
theorem lw_gd_int : Cond.arrayClass .int ∈ lw_gd := lw_gd_mem (by decide +kernel) rfl
theorem sw_newa (X : ex_X p s m args meth c D A1 A2 A t nn g own kd nL cc) (Y : ex_Y s D A1 A2 A t nn g nL ad L H locs ls st h) (hd : decode cc pc = .ok (.newarray .int, 2)) (he : ex_st rt ls st h (.newarray .int) = oN ls' st' h')
    (hc : cells + h'.1.length ≤ R.cells + h.1.length) (hs : slots + ex_tot h'.1 ≤ R.slots + ex_tot h.1)
    (kk : ex_K p l e R s m args below meth c Q D A1 A2 A t nn g nL cells slots ad h (pc + 2) ls' st' h') : W p l e R s m args below meth c H locs cells slots Q (F0 m pc L (st.map (ex_vv ad))) := by
  obtain ⟨hx, hb, -, -, hts, -, hK, hT, hA⟩ := X
  dsimp only [ex_st] at he
  split at he
  · next n st0 =>
    split at he
    · next hn =>
      cases he
      have Y0 := Y
      obtain ⟨hP, hD, hS, hB, -, -, -, y8⟩ := Y0
      obtain ⟨y1, y⟩ := ex_top1 y8
      have hr : ex_r32 n := y1
      have hlen : (h.1 ++ [(.inl n.toNat : ex_C)]).length = h.1.length + 1 := by simp
      have htot : ex_tot (h.1 ++ [(.inl n.toNat : ex_C)]) = ex_tot h.1 + n.toNat := by rw [ex_tot_app]; simp [ex_tot, ex_sz]
      have hc' : cells + (h.1 ++ [(.inl n.toNat : ex_C)]).length ≤ R.cells + h.1.length := hc
      have hs' : slots + ex_tot (h.1 ++ [(.inl n.toNat : ex_C)]) ≤ R.slots + ex_tot h.1 := hs
      have harr : (Cond.arrayClass (Op.newarray.typeOf .int)).before args s = true := hts (.arrayClass .int) lw_gd_int
      refine va_newa (atype := .int) hx hb harr (ty := .int) rfl hK hP hD hS hA (N' := n.toNat) (a0 := (n.toNat, .inl (fun _ => 0))) (fun cA => rfl) (fun q => by have := (i_lt0 hr).mp q; omega) (i_cl hr hn.1) (by show n.toNat * 4 ≤ _; omega) (by omega) (by omega) hd (fun q cA H1 hK1 hP1 hD1 hS1 => ?_)
      have hcA : cA = A1 := by
        have r1 := va_nm_int (hK.2 0 _ rfl).2
        have r2 := va_nm_int (hK1.2 2 _ rfl).2
        exact Option.some.inj (r2.symm.trans r1)
      subst hcA
      obtain ⟨hext, Y'⟩ := Y.new (q := q) (cx := .inl n.toNat) (σ := ex_ar h.2 h.1.length (fun _ => 0)) (st' := st0) (fun b hb => ex_ar_ne _ _ (by omega)) (fun b i => ex_z_r hB.1 i) trivial (fun ad' => by rw [ex_ar_self]; rfl) hP1 hD1 hS1 y
      have w := kk _ L H1 locs (cells + 1) (slots + n.toNat) hext (by show cells + (h.1 ++ [(.inl n.toNat : ex_C)]).length = _; omega) (by show slots + ex_tot (h.1 ++ [(.inl n.toNat : ex_C)]) = _; omega) Y'
      rw [List.map_cons, ex_st_ext hext y] at w
      have e1 : ex_vv (fun k => if k = h.1.length then q else ad k) (.inr (.inl h.1.length)) = .ref q := by show Value.ref (if h.1.length = h.1.length then q else _) = _; rw [if_pos rfl]
      rw [e1] at w
      exact w
    · cases he
  · cases he
theorem sw_anew {k : Nat} (X : ex_X p s m args meth c D A1 A2 A t nn g own kd nL cc) (Y : ex_Y s D A1 A2 A t nn g nL ad L H locs ls st h) (hd : decode cc pc = .ok (raw, len)) (hm : (raw, len) ∈ rw_i own kd pcs pc (.anewarray k)) (he : ex_st rt ls st h (.anewarray k) = oN ls' st' h')
    (hc : cells + h'.1.length ≤ R.cells + h.1.length) (hs : slots + ex_tot h'.1 ≤ R.slots + ex_tot h.1)
    (kk : ex_K p l e R s m args below meth c Q D A1 A2 A t nn g nL cells slots ad h (pc + len) ls' st' h') : W p l e R s m args below meth c H locs cells slots Q (F0 m pc L (st.map (ex_vv ad))) := by
  obtain ⟨hx, hb, -, hown, hts, -, hK, hT, hA⟩ := X
  dsimp only [ex_st] at he
  split at he
  · next n st0 =>
    split at he
    · next hn =>
      cases he
      obtain ⟨hk1, hn⟩ := hn
      subst hk1
      obtain ⟨x, hx1, hx2⟩ := List.mem_map.mp hm
      cases hx2
      obtain ⟨⟨q1, q2, q3, q4⟩, h1, h2, h3, h4⟩ := ck_lk_mem hx1
      have ho := ex_lk_own h1
      dsimp only at h2 h3 h4 ho
      subst h2; subst h3; subst h4; subst ho
      have hlk := hts _ (lw_lk h1 (fun q => by cases q))
      have Y0 := Y
      obtain ⟨hP, hD, hS, hB, -, -, -, y8⟩ := Y0
      obtain ⟨y1, y⟩ := ex_top1 y8
      have hr : ex_r32 n := y1
      have hlen : (h.1 ++ [(.inr (.inl (List.replicate n.toNat none)) : ex_C)]).length = h.1.length + 1 := by simp
      have htot : ex_tot (h.1 ++ [(.inr (.inl (List.replicate n.toNat none)) : ex_C)]) = ex_tot h.1 + n.toNat := by rw [ex_tot_app]; simp [ex_tot, ex_sz]
      have hc' : cells + (h.1 ++ [(.inr (.inl (List.replicate n.toNat none)) : ex_C)]).length ≤ R.cells + h.1.length := hc
      have hs' : slots + ex_tot (h.1 ++ [(.inr (.inl (List.replicate n.toNat none)) : ex_C)]) ≤ R.slots + ex_tot h.1 := hs
      have hcl := i_cl hr hn.1
      refine W.anew hx hb hown hlk hT.2.2.2 rfl hd (n := Int32.ofInt n) rfl (fun q => by have := (i_lt0 hr).mp q; omega) (by rw [hcl]; omega) (by omega) (by rw [hcl]; omega) (fun cA kA comp f1 f2 f3 f4 => ?_)
      have hcA : cA = A2 := by
        obtain ⟨kB, cB, g1, g2, g3, g4⟩ := (hK.2 1 _ rfl).2
        exact Option.some.inj (f1.symm.trans g4)
      subst hcA
      rw [hcl]
      have hP1 : va_P D vwCl (ex_W ad A1 cA h ++ [(H.size, .inl (cA, n.toNat, .inr (.inr (.inr (.inr (fun _ => none))))))]) (H.push { cls := cA, slots := Array.replicate n.toNat .null, vm := .none }) := by
        refine (hP.kept (fun k x hx => ?_)).app (fun k x hx => ?_)
        · rw [Array.getElem?_push, if_neg (Nat.ne_of_lt (hP k x hx).lt)]
        · have hz : k < 1 := (List.getElem?_eq_some_iff.mp hx).1
          rw [show k = 0 by omega] at hx
          cases hx
          show (H.push _)[H.size]? = some (vp_cell _ _)
          rw [Array.getElem?_push, if_pos rfl, arrV_new]
          rfl
      have hD1 : va_D A (ex_W ad A1 cA h ++ [(H.size, .inl (cA, n.toNat, .inr (.inr (.inr (.inr (fun _ => none))))))]) := hD.push hP rfl (hA _ hS.1)
      have hS1 : va_S A s.heap (H.push { cls := cA, slots := Array.replicate n.toNat .null, vm := .none }) locs := by
        refine ⟨by rw [Array.size_push]; exact Nat.le_succ_of_le hS.1, fun x x1 x2 => ?_, hS.2.2⟩
        rw [Array.getElem?_push, if_neg (Nat.ne_of_lt (Nat.lt_of_lt_of_le x1 hS.1))]
        exact hS.2.1 x x1 x2
      obtain ⟨hext, Y'⟩ := Y.new (q := H.size) (cx := .inr (.inl (List.replicate n.toNat none))) (σ := h.2) (st' := st0) (fun b hb => rfl) hB.1 (fun k b hb => by
        have := List.mem_of_getElem? hb
        simp at this) (fun ad' => by
        show (Sum.inl (cA, n.toNat, _) : va_E) = .inl (cA, (List.replicate n.toNat (none : Option Nat)).length, _)
        rw [List.length_replicate]
        refine congrArg (fun F => (Sum.inl (cA, n.toNat, Sum.inr (Sum.inr (Sum.inr (Sum.inr F)))) : va_E)) (funext fun j => ?_)
        rw [List.getD_eq_getElem?_getD, List.getElem?_replicate]
        split <;> rfl) hP1 hD1 hS1 y
      have w := kk _ L _ locs (cells + 1) (slots + n.toNat) hext (by show cells + (h.1 ++ [(.inr (.inl (List.replicate n.toNat none)) : ex_C)]).length = _; omega) (by show slots + ex_tot (h.1 ++ [(.inr (.inl (List.replicate n.toNat none)) : ex_C)]) = _; omega) Y'
      rw [List.map_cons, ex_st_ext hext y] at w
      have e1 : ex_vv (fun k => if k = h.1.length then H.size else ad k) (.inr (.inl h.1.length)) = .ref H.size := by show Value.ref (if h.1.length = h.1.length then H.size else _) = _; rw [if_pos rfl]
      rw [e1] at w
      exact w
    · cases he
  · cases he
theorem nw_of {k : Nat} {f : List (Option (Option Nat))} (hk : ex_cf[k]? = some f) : ∃ T : u_T, vwCl[k]? = some (ex_nm k, T, f.length) ∧ (∀ j, j < f.length → (f[j]? = some none ∧ parseFieldDescriptor (T j).2.2.1 = some .int) ∨ (f[j]? = some (some none) ∧ ((∃ n, parseFieldDescriptor (T j).2.2.1 = some (.object n)) ∨ ∃ n, parseFieldDescriptor (T j).2.2.1 = some (.array n)))) ∧
    (∀ a, a < f.length → ∀ b, b < f.length → a ≠ b → (T a).2.1 ≠ (T b).2.1) ∧ (∀ j, j < f.length → (T j).1 = ex_nm k) ∧ Cond.instantiable (ex_nm k) f.length ∈ lw_tbl ∧ Cond.initialized (ex_nm k) ∈ lw_tbl ∧ (∀ w ∈ u_ws (ex_nm k) T f.length, w ∈ lw_gd) := by
  have hlt : k < 13 := by rw [← nw_cf.1]; exact (List.getElem?_eq_some_iff.mp hk).1
  have h0 := List.all_eq_true.mp nw_all k (List.mem_range.mpr hlt)
  unfold nw_ok at h0
  rw [hk] at h0
  cases hq : vwCl[k]? with
  | none => rw [hq] at h0; cases h0
  | some q =>
    obtain ⟨C, T, N⟩ := q
    rw [hq] at h0
    dsimp only at h0
    simp only [Bool.and_eq_true, decide_eq_true_eq] at h0
    obtain ⟨h1, h2, h3, h4, h5, h6, h7, h8⟩ := h0
    subst h1
    subst h5
    refine ⟨T, rfl, fun j hj => ?_, fun a ha b hb hab => ?_, fun j hj => ?_, h6, h7, fun w hw => ?_⟩
    · have := List.all_eq_true.mp h2 j (List.mem_range.mpr hj)
      split at this
      · next e1 => exact Or.inl ⟨e1, of_decide_eq_true this⟩
      · next e1 =>
        refine Or.inr ⟨e1, ?_⟩
        split at this
        · next n e2 => exact Or.inl ⟨n, e2⟩
        · next n e2 => exact Or.inr ⟨n, e2⟩
        · cases this
      · cases this
    · have := of_decide_eq_true (List.all_eq_true.mp (List.all_eq_true.mp h3 a (List.mem_range.mpr ha)) b (List.mem_range.mpr hb))
      exact this hab
    · exact of_decide_eq_true (List.all_eq_true.mp h4 j (List.mem_range.mpr hj))
    · have := List.all_eq_true.mp h8 w hw
      simp only [Bool.and_eq_true, decide_eq_true_eq] at this
      exact lw_gd_mem this.1 this.2
theorem nw_ty {f : List (Option (Option Nat))} {T : u_T} (hty : ∀ j, j < f.length → (f[j]? = some none ∧ parseFieldDescriptor (T j).2.2.1 = some .int) ∨ (f[j]? = some (some none) ∧ ((∃ n, parseFieldDescriptor (T j).2.2.1 = some (.object n)) ∨ ∃ n, parseFieldDescriptor (T j).2.2.1 = some (.array n)))) : ∀ j, j < f.length → parseFieldDescriptor (T j).2.2.1 = some (nw_t T j) := by
  intro j hj
  unfold nw_t
  rcases hty j hj with ⟨-, h⟩ | ⟨-, ⟨n, h⟩ | ⟨n, h⟩⟩ <;> rw [h] <;> rfl
theorem nw_lt {k : Nat} {f : List (Option (Option Nat))} (hk : ex_cf[k]? = some f) : k < 13 := by rw [← nw_cf.1]; exact (List.getElem?_eq_some_iff.mp hk).1
theorem ex_nm_cn {k : Nat} : ex_nm k = ex_cn.getD k "" := rfl
theorem sw_new {k : Nat} (X : ex_X p s m args meth c D A1 A2 A t nn g own kd nL cc) (Y : ex_Y s D A1 A2 A t nn g nL ad L H locs ls st h) (hd : decode cc pc = .ok (raw, len)) (hm : (raw, len) ∈ rw_i own kd pcs pc (.new k)) (he : ex_st rt ls st h (.new k) = oN ls' st' h')
    (hc : cells + h'.1.length ≤ R.cells + h.1.length) (hs : slots + ex_tot h'.1 ≤ R.slots + ex_tot h.1)
    (kk : ex_K p l e R s m args below meth c Q D A1 A2 A t nn g nL cells slots ad h (pc + len) ls' st' h') : W p l e R s m args below meth c H locs cells slots Q (F0 m pc L (st.map (ex_vv ad))) := by
  obtain ⟨hx, hb, -, hown, hts, -, hK, hT, hA⟩ := X
  dsimp only [ex_st] at he
  split at he
  · next f hf =>
    split at he
    · next h4 =>
      cases he
      obtain ⟨x, hx1, hx2⟩ := List.mem_map.mp hm
      cases hx2
      obtain ⟨⟨q1, q2, q3, q4⟩, h1, h2, h3, h5⟩ := ck_lk_mem hx1
      have ho := ex_lk_own h1
      dsimp only at h2 h3 h5 ho
      subst h2; subst h3; subst h5; subst ho
      have hlk := hts _ (lw_lk h1 (fun q => by cases q))
      obtain ⟨T, t1, t2, t3, t4, t5, t6, t7⟩ := nw_of hf
      have Y0 := Y
      obtain ⟨hP, hD, hS, hB, -, -, -, y8⟩ := Y0
      have hlen : (h.1 ++ [(.inr (.inr (k, f)) : ex_C)]).length = h.1.length + 1 := by simp
      have htot : ex_tot (h.1 ++ [(.inr (.inr (k, f)) : ex_C)]) = ex_tot h.1 + f.length := by rw [ex_tot_app]; simp [ex_tot, ex_sz]
      have hc' : cells + (h.1 ++ [(.inr (.inr (k, f)) : ex_C)]).length ≤ R.cells + h.1.length := hc
      have hs' : slots + ex_tot (h.1 ++ [(.inr (.inr (k, f)) : ex_C)]) ≤ R.slots + ex_tot h.1 := hs
      have hfv : ∀ (ad' : Nat → Nat), f.mapIdx (ex_fv ad' (fun _ => 0)) = f.mapIdx (ex_fv ad (fun _ => 0)) := by
        intro ad'
        apply List.ext_getElem?
        intro i
        rw [List.getElem?_mapIdx, List.getElem?_mapIdx]
        by_cases hi : i < f.length
        · rcases t2 i hi with ⟨e1, -⟩ | ⟨e1, -⟩ <;> rw [e1] <;> rfl
        · rw [List.getElem?_eq_none (by omega)]; rfl
      refine va_new (ci := k) (fs := f.mapIdx (ex_fv ad (fun _ => 0))) (C := ex_nm k) (T := T) (N := f.length) hx hb hts t7 (nw_t T) (nw_ty t2) hown hlk (hts _ (lw_gd_mem t5 rfl)) (hts _ (lw_gd_mem t6 rfl)) hK hP hD hS hA t1 (fun j hj => ?_) (by omega) (by omega) hd (fun q H1 hP1 hD1 hS1 => ?_)
      · unfold vp_V nw_t
        rw [List.getD_eq_getElem?_getD, List.getElem?_mapIdx]
        rcases t2 j hj with ⟨e1, e2⟩ | ⟨e1, ⟨n, e2⟩ | ⟨n, e2⟩⟩ <;> rw [e1, e2] <;> rfl
      · obtain ⟨hext, Y'⟩ := Y.new (q := q) (cx := .inr (.inr (k, f))) (σ := ex_ar h.2 h.1.length (fun _ => 0)) (st' := st) (fun b hb => ex_ar_ne _ _ (by omega)) (fun b i => ex_z_r hB.1 i) ⟨(fun i b hb => by
          have hi := (List.getElem?_eq_some_iff.mp hb).1
          rcases t2 i hi with ⟨e1, -⟩ | ⟨e1, -⟩ <;> rw [e1] at hb <;> cases hb), by rw [List.getD_eq_getElem?_getD, hf]; rfl⟩ (fun ad' => by rw [ex_ar_self]; show _ = (Sum.inr (k, f.mapIdx (ex_fv ad' (fun _ => 0))) : va_E); rw [hfv ad']) hP1 hD1 hS1 y8
        have w := kk _ L H1 locs (cells + 1) (slots + f.length) hext (by show cells + (h.1 ++ [(.inr (.inr (k, f)) : ex_C)]).length = _; omega) (by show slots + ex_tot (h.1 ++ [(.inr (.inr (k, f)) : ex_C)]) = _; omega) Y'
        rw [List.map_cons, ex_st_ext hext y8] at w
        have e1 : ex_vv (fun k => if k = h.1.length then q else ad k) (.inr (.inl h.1.length)) = .ref q := by show Value.ref (if h.1.length = h.1.length then q else _) = _; rw [if_pos rfl]
        rw [e1] at w
        exact w
    · cases he
  · cases he
/-- the link of a field -/
theorem fk_of {q x : Nat} (hx : x ∈ ck_lk own 1 (q : Int)) (hts : ∀ w ∈ lw_gd, w.before args s = true) : ∃ (f : List (Option (Option Nat))), ex_cf[q / 32]? = some f ∧ q % 32 < f.length ∧ ∀ T : u_T, vwCl[q / 32]? = some (ex_nm (q / 32), T, f.length) → (Cond.fieldLink (ex_nm own) x (T (q % 32)).1 (T (q % 32)).2.1 (T (q % 32)).2.2.1).before args s = true := by
  obtain ⟨⟨q1, q2, q3, q4⟩, h1, h2, h3, h5⟩ := ck_lk_mem hx
  have ho := ex_lk_own h1
  have hk := fk_all own _ h1
  dsimp only at h2 h3 h5 ho
  subst h2; subst h3; subst h5; subst ho
  have hlk := hts _ (lw_lk h1 (fun q => by cases q))
  unfold fk_ok at hk
  simp only [Bool.and_eq_true, decide_eq_true_eq] at hk
  obtain ⟨k1, k2⟩ := hk
  have hz : ((q : Int)).toNat = q := Int.toNat_natCast q
  have hlt := (k1 trivial).1
  rw [hz] at hlt k2
  have hf : ex_cf[q / 32]? = some (ex_cf[q / 32]'(by rw [nw_cf.1]; exact hlt)) := List.getElem?_eq_getElem _
  obtain ⟨T0, t1, -⟩ := nw_of hf
  rw [t1] at k2
  refine ⟨_, hf, (of_decide_eq_true k2) trivial, fun T hT => ?_⟩
  have e1 : ex_fT q = T (q % 32) := by unfold ex_fT; rw [hT]
  have e2 : ex_lw (1, q2, q3, (q : Int)) = Cond.fieldLink (ex_nm q2) q3 (T (q % 32)).1 (T (q % 32)).2.1 (T (q % 32)).2.2.1 := by
    show Cond.fieldLink (ex_nm q2) q3 (ex_fT ((q : Int)).toNat).1 (ex_fT ((q : Int)).toNat).2.1 (ex_fT ((q : Int)).toNat).2.2.1 = _
    rw [hz, e1]
  rw [← e2]
  exact hlk
theorem cv_at {n k : Nat} {f f0 : List (Option (Option Nat))} (h1 : ex_cv n (.inr (.inr (k, f)))) (h2 : ex_cf[k]? = some f0) : f.length = f0.length ∧ ∀ j : Nat, (f[j]?).map Option.isSome = (f0[j]?).map Option.isSome := by
  have e := h1.2
  rw [List.getD_eq_getElem?_getD, h2] at e
  have e' : f.map Option.isSome = f0.map Option.isSome := e
  refine ⟨by rw [← List.length_map (f := Option.isSome), e', List.length_map], fun j => ?_⟩
  rw [← List.getElem?_map, ← List.getElem?_map, e']
theorem sw_get {q : Nat} (X : ex_X p s m args meth c D A1 A2 A t nn g own kd nL cc) (Y : ex_Y s D A1 A2 A t nn g nL ad L H locs ls st h) (hd : decode cc pc = .ok (raw, len)) (hm : (raw, len) ∈ rw_i own kd pcs pc (.getfield q)) (he : ex_st rt ls st h (.getfield q) = oN ls' st' h')
    (kk : ex_K p l e R s m args below meth c Q D A1 A2 A t nn g nL cells slots ad h (pc + len) ls' st' h') : W p l e R s m args below meth c H locs cells slots Q (F0 m pc L (st.map (ex_vv ad))) := by
  obtain ⟨hx, hb, -, hown, hts, -, hK, hT, hA⟩ := X
  dsimp only [ex_st] at he
  split at he
  · next a st0 =>
    split at he
    · next k f hf =>
      split at he
      · next ha =>
        obtain ⟨ha, hk⟩ := ha
        subst hk
        obtain ⟨x, hx1, hx2⟩ := List.mem_map.mp hm
        cases hx2
        obtain ⟨f0, f1, f2, f3⟩ := fk_of hx1 hts
        obtain ⟨T, t1, t2, t3, t4, t5, t6, t7⟩ := nw_of f1
        have Y0 := Y
        obtain ⟨hP, hD, hS, hB, -, -, -, y8⟩ := Y0
        obtain ⟨y1, y⟩ := ex_top1 y8
        have hcv := hB.2.2.1 a _ hf
        split at he
        · next e1 =>
          cases he
          refine va_get (D := D) (ci := q / 32) (v := .int (Int32.ofInt (h.2 a ((q % 32 : Nat) : Int)))) (C := ex_nm (q / 32)) (T := T) (N := f0.length) hx hb hts t7 hown hK hP (a - 4) (ex_W_obj ha hf) t1 (q % 32) f2 (f3 T t1) (fun _ h9 => h9) (by rw [List.getElem?_mapIdx, e1]; rfl) hd (kk.go (Y.sk (st' := .inl (h.2 a ((q % 32 : Nat) : Int)) :: st0) (ex_cons1 (hB.1 _ _) y)))
        · next r e1 =>
          cases he
          refine va_get (D := D) (ci := q / 32) (v := .ref (ad r)) (C := ex_nm (q / 32)) (T := T) (N := f0.length) hx hb hts t7 hown hK hP (a - 4) (ex_W_obj ha hf) t1 (q % 32) f2 (f3 T t1) (fun _ h9 => h9) (by rw [List.getElem?_mapIdx, e1]; rfl) hd (kk.go (Y.sk (st' := .inr (.inl r) :: st0) (ex_cons1 (hcv.1 _ _ e1) y)))
        · cases he
      · cases he
    · cases he
  · cases he
theorem sw_put {q : Nat} (X : ex_X p s m args meth c D A1 A2 A t nn g own kd nL cc) (Y : ex_Y s D A1 A2 A t nn g nL ad L H locs ls st h) (hd : decode cc pc = .ok (raw, len)) (hm : (raw, len) ∈ rw_i own kd pcs pc (.putfield q)) (he : ex_st rt ls st h (.putfield q) = oN ls' st' h')
    (kk : ex_K p l e R s m args below meth c Q D A1 A2 A t nn g nL cells slots ad h (pc + len) ls' st' h') : W p l e R s m args below meth c H locs cells slots Q (F0 m pc L (st.map (ex_vv ad))) := by
  obtain ⟨hx, hb, -, hown, hts, hin, hK, hT, hA⟩ := X
  dsimp only [ex_st] at he
  split at he
  · next v a st0 =>
    split at he
    · next k f hf =>
      split at he
      · next ha =>
        obtain ⟨ha, hk⟩ := ha
        subst hk
        dsimp only [rw_i] at hm
        split at hm
        · next hfin =>
          obtain ⟨x, hx1, hx2⟩ := List.mem_map.mp hm
          cases hx2
          obtain ⟨f0, f1, f2, f3⟩ := fk_of hx1 hts
          obtain ⟨T, t1, t2, t3, t4, t5, t6, t7⟩ := nw_of f1
          have hfT : ex_fT q = T (q % 32) := by unfold ex_fT; rw [t1]
          have Y0 := Y
          obtain ⟨hP, hD, hS, hB, -, -, -, y8⟩ := Y0
          obtain ⟨y1, y2, y⟩ := ex_top2 y8
          have hcv := hB.2.2.1 a _ hf
          obtain ⟨cv1, cv2⟩ := cv_at hcv f1
          have cv3 := cv2 (q % 32)
          -- the row, for a value and its type
          have row : ∀ (w : Value) (ty : FieldType), parseFieldDescriptor (T (q % 32)).2.2.1 = some ty → narrow ty w = w → fits ty w = true → q % 32 < (f.mapIdx (ex_fv ad (h.2 a))).length →
              (∀ (H1 : Heap) (locs1 : List Loc), va_P D vwCl ((ex_W ad A1 A2 h).set (a - 4) (ad a, .inr (q / 32, (f.mapIdx (ex_fv ad (h.2 a))).set (q % 32) w))) H1 → va_D A ((ex_W ad A1 A2 h).set (a - 4) (ad a, .inr (q / 32, (f.mapIdx (ex_fv ad (h.2 a))).set (q % 32) w))) → va_S A s.heap H1 locs1 → W p l e R s m args below meth c H1 locs1 cells slots Q (F0 m (pc + 3) L (st0.map (ex_vv ad)))) →
              W p l e R s m args below meth c H locs cells slots Q (F0 m pc L (w :: .ref (ad a) :: st0.map (ex_vv ad))) := by
            intro w ty w1 w2 w3 w4 w5
            cases hF : (T (q % 32)).2.2.2 with
            | false => exact va_put (D := D) (ci := q / 32) (v := w) (ty := ty) (C := ex_nm (q / 32)) (T := T) (N := f0.length) hx hb hts t7 (nw_t T) (nw_ty t2) t3 hown hK hP hD hS (a - 4) (ex_W_obj ha hf) t1 (q % 32) f2 (f3 T t1) (fun _ h9 => h9) hF w1 w2 w3 w4 hd w5
            | true =>
              rw [hfT, hF] at hfin
              rcases hfin with h1 | ⟨h1, h2⟩
              · cases h1
              · exact va_putF (D := D) (ci := q / 32) (v := w) (ty := ty) (C := ex_nm (q / 32)) (T := T) (N := f0.length) hx hb hts t7 (nw_t T) (nw_ty t2) t3 hown hK hP hD hS (a - 4) (ex_W_obj ha hf) t1 (q % 32) f2 (f3 T t1) (fun _ h9 => h9) hF (hin h1) (by rw [t4 _ f2, h2]) w1 w2 w3 w4 hd w5
          split at he
          · next z e1 =>
            cases he
            have hlt := (List.getElem?_eq_some_iff.mp e1).1
            have hp : parseFieldDescriptor (T (q % 32)).2.2.1 = some .int := by
              rcases t2 (q % 32) f2 with ⟨g1, g2⟩ | ⟨g1, g2⟩
              · exact g2
              · rw [e1, g1] at cv3; cases cv3
            refine row (.int (Int32.ofInt z)) .int hp rfl rfl (by rw [List.length_mapIdx]; exact hlt) (fun H1 locs1 hP1 hD1 hS1 => ?_)
            refine kk ad L H1 locs1 cells slots (fun _ _ => rfl) rfl rfl (Y.ar ha hf (f := ex_u (h.2 a) ((q % 32 : Nat) : Int) z) (ex_u_r (hB.1 a) y1) ?_ hP1 hD1 hS1 y)
            show (Sum.inr (q / 32, _) : va_E) = .inr (q / 32, _)
            congr 2
            apply List.ext_getElem?
            intro i
            rw [List.getElem?_mapIdx]
            by_cases hi : i = q % 32
            · subst hi
              rw [List.getElem?_set_self (by rw [List.length_mapIdx]; exact hlt), e1]
              show _ = some (Value.int (Int32.ofInt (ex_u (h.2 a) ((q % 32 : Nat) : Int) z ((q % 32 : Nat) : Int))))
              unfold ex_u
              rw [if_pos rfl]
            · rw [List.getElem?_set_ne (Ne.symm hi), List.getElem?_mapIdx]
              cases f[i]? with
              | none => rfl
              | some u =>
                cases u with
                | some r => rfl
                | none =>
                  show some (Value.int (Int32.ofInt (h.2 a (i : Int)))) = some (Value.int (Int32.ofInt (ex_u (h.2 a) ((q % 32 : Nat) : Int) z (i : Int))))
                  unfold ex_u
                  rw [if_neg (by omega)]
          · next r0 r e1 =>
            cases he
            have hlt := (List.getElem?_eq_some_iff.mp e1).1
            have hp : ∃ ty, parseFieldDescriptor (T (q % 32)).2.2.1 = some ty ∧ narrow ty (.ref (ad r)) = .ref (ad r) ∧ fits ty (.ref (ad r)) = true := by
              rcases t2 (q % 32) f2 with ⟨g1, g2⟩ | ⟨g1, ⟨n, g2⟩ | ⟨n, g2⟩⟩
              · rw [e1, g1] at cv3; cases cv3
              · exact ⟨_, g2, rfl, rfl⟩
              · exact ⟨_, g2, rfl, rfl⟩
            obtain ⟨ty, p1, p2, p3⟩ := hp
            refine row (.ref (ad r)) ty p1 p2 p3 (by rw [List.length_mapIdx]; exact hlt) (fun H1 locs1 hP1 hD1 hS1 => ?_)
            have hsz : ex_sz (.inr (.inr (q / 32, f.set (q % 32) (some (some r))))) = ex_sz (.inr (.inr (q / 32, f))) := by show (f.set _ _).length = f.length; exact List.length_set
            refine kk ad L H1 locs1 cells slots (fun _ _ => rfl) (by show cells + (h.1.set a _).length = _; rw [List.length_set]) (by show slots + ex_tot (h.1.set a _) = _; rw [ex_tot_set _ _ _ _ hf hsz]) (Y.sh ha hf ⟨fun i b hb => ?_, ?_⟩ ?_ hP1 hD1 hS1 y)
            · by_cases hi : i = q % 32
              · subst hi
                rw [List.getElem?_set_self hlt] at hb
                cases hb
                exact y1
              · rw [List.getElem?_set_ne (Ne.symm hi)] at hb
                exact hcv.1 i b hb
            · rw [← hcv.2, List.map_set]
              apply List.ext_getElem?
              intro i
              by_cases hi : i = q % 32
              · subst hi
                rw [List.getElem?_set_self (by rw [List.length_map]; exact hlt), List.getElem?_map, e1]
                rfl
              · rw [List.getElem?_set_ne (Ne.symm hi)]
            · show (Sum.inr (q / 32, _) : va_E) = .inr (q / 32, _)
              congr 2
              apply List.ext_getElem?
              intro i
              rw [List.getElem?_mapIdx]
              by_cases hi : i = q % 32
              · subst hi
                rw [List.getElem?_set_self (by rw [List.length_mapIdx]; exact hlt), List.getElem?_set_self hlt]
                rfl
              · rw [List.getElem?_set_ne (Ne.symm hi), List.getElem?_set_ne (Ne.symm hi), List.getElem?_mapIdx]
          · cases he
        · cases hm
      · cases he
    · cases he
  · cases he
theorem sw_gets {k : Nat} (X : ex_X p s m args meth c D A1 A2 A t nn g own kd nL cc) (Y : ex_Y s D A1 A2 A t nn g nL ad L H locs ls st h) (hd : decode cc pc = .ok (raw, len)) (hm : (raw, len) ∈ rw_i own kd pcs pc (.getstatic k)) (he : ex_st rt ls st h (.getstatic k) = oN ls' st' h')
    (kk : ex_K p l e R s m args below meth c Q D A1 A2 A t nn g nL cells slots ad h (pc + len) ls' st' h') : W p l e R s m args below meth c H locs cells slots Q (F0 m pc L (st.map (ex_vv ad))) := by
  obtain ⟨hx, hb, -, hown, hts, hin, hK, hT, hA⟩ := X
  dsimp only [ex_st] at he
  split at he
  · next hk =>
    cases he
    obtain ⟨x, hx1, hx2⟩ := List.mem_map.mp hm
    cases hx2
    obtain ⟨⟨q1, q2, q3, q4⟩, h1, h2, h3, h5⟩ := ck_lk_mem hx1
    have ho := ex_lk_own h1
    dsimp only at h2 h3 h5 ho
    subst h2; subst h3; subst h5; subst ho
    have hlk := hts _ (lw_lk h1 (fun q => by cases q))
    have Y0 := Y
    obtain ⟨hP, hD, hS, hB, -, -, -, y8⟩ := Y0
    have e1 : ex_vv ad (.inr (.inl (k + 1))) = .ref (t (k + 1)) := by show Value.ref (ad (k + 1)) = _; rw [(hB.2.1 (k + 1) (by omega)).1]
    have w := kk.go (Y.sk (st' := .inr (.inl (k + 1)) :: st) (ex_cons1 (by show k + 1 < h.1.length; have := hB.2.2.2; omega) y8))
    rw [List.map_cons, e1] at w
    exact va_gets hx hb (hT.2.1 k hk) hS hown hlk (fun _ h9 => h9) hd w
  · cases he
end XS
end
section
/-! cells only come -/
def ex_gr (l l' : List ex_C) : Prop := l.length ≤ l'.length ∧ ex_tot l ≤ ex_tot l'
theorem ex_gr.rf {l : List ex_C} : ex_gr l l := ⟨Nat.le_refl _, Nat.le_refl _⟩
theorem ex_gr.tr {l m n : List ex_C} (h : ex_gr l m) (k : ex_gr m n) : ex_gr l n := ⟨Nat.le_trans h.1 k.1, Nat.le_trans h.2 k.2⟩
theorem ex_gr.app {l m : List ex_C} : ex_gr l (l ++ m) := ⟨by rw [List.length_append]; omega, by rw [ex_tot_app]; omega⟩
theorem ex_gr.set {l : List ex_C} {a : Nat} {c c' : ex_C} (h : l[a]? = some c) (e : ex_sz c' = ex_sz c) : ex_gr l (l.set a c') := ⟨by rw [List.length_set]; omega, by rw [ex_tot_set l a c c' h e]; omega⟩
theorem ex_gr.setq {l : List ex_C} {a : Nat} {r r' : List (Option Nat)} (e : r'.length = r.length) (h : l[a]? = some (.inr (.inl r))) : ex_gr l (l.set a (.inr (.inl r'))) := ex_gr.set h e
theorem ex_gr.seto {l : List ex_C} {a k : Nat} {r r' : List (Option (Option Nat))} (e : r'.length = r.length) (h : l[a]? = some (.inr (.inr (k, r)))) : ex_gr l (l.set a (.inr (.inr (k, r')))) := ex_gr.set h e
theorem ex_bin_gr {f : Int → Int → Int} {ls st : List ex_V} {h : ex_H} {o : (List ex_V × List ex_V × ex_H) ⊕ ((Nat × List ex_V × List ex_V × ex_H) ⊕ ((Nat × List ex_V × List ex_V × ex_H) ⊕ ex_R))} (he : ex_bin f ls st h = some o) : ∃ st', o = .inl (ls, st', h) := by
  unfold ex_bin at he
  split at he
  · exact ⟨_, (Option.some.inj he).symm⟩
  · cases he
/-- the heap of an outcome -/
def ex_oh : ((List ex_V × List ex_V × ex_H) ⊕ ((Nat × List ex_V × List ex_V × ex_H) ⊕ ((Nat × List ex_V × List ex_V × ex_H) ⊕ ex_R))) → ex_H
  | .inl (_, _, h) => h
  | .inr (.inl (_, _, _, h)) => h
  | .inr (.inr (.inl (_, _, _, h))) => h
  | .inr (.inr (.inr (_, h))) => h
theorem ex_if_gr {c : Jvm.ClassFile.Cond} {a b : Int} {t : Nat} {ls st : List ex_V} {h : ex_H} {o : (List ex_V × List ex_V × ex_H) ⊕ ((Nat × List ex_V × List ex_V × ex_H) ⊕ ((Nat × List ex_V × List ex_V × ex_H) ⊕ ex_R))} (he : ex_if c a b t ls st h = some o) : ex_oh o = h := by
  unfold ex_if at he
  cases c <;> (dsimp only [ex_br] at he; split at he <;> (cases he; rfl))
theorem ex_ca_gr {kd m : Nat} {st : List ex_V} {h : ex_H} {o : (List ex_V × List ex_V × ex_H) ⊕ ((Nat × List ex_V × List ex_V × ex_H) ⊕ ((Nat × List ex_V × List ex_V × ex_H) ⊕ ex_R))} (he : ex_ca kd m st h = some o) : ex_oh o = h := by
  unfold ex_ca at he
  repeat' split at he
  all_goals first | (cases he; done) | (cases he; rfl)
theorem ex_st_gr {rt : Nat} {ls st : List ex_V} {h : ex_H} {i : Instr} {o : (List ex_V × List ex_V × ex_H) ⊕ ((Nat × List ex_V × List ex_V × ex_H) ⊕ ((Nat × List ex_V × List ex_V × ex_H) ⊕ ex_R))} (he : ex_st rt ls st h i = some o) : ex_gr h.1 (ex_oh o).1 := by
  unfold ex_st at he
  split at he
  all_goals first
    | (cases he; done)
    | (obtain ⟨st', rfl⟩ := ex_bin_gr he; exact ex_gr.rf)
    | (rw [ex_ca_gr he]; exact ex_gr.rf)
    | (cases he; exact ex_gr.rf)
    | (repeat' split at he
       all_goals first
         | (cases he; done)
         | (cases he; exact ex_gr.rf)
         | (cases he; exact ex_gr.app)
         | (rw [ex_if_gr he]; exact ex_gr.rf)
         | (cases he; exact ex_gr.setq List.length_set (by assumption))
         | (cases he; exact ex_gr.seto List.length_set (by assumption)))
theorem ex_xs_gr {rt : Nat} {J : Nat → List ex_V → List ex_V → ex_H → Option ex_R} {C : Nat → List ex_V → ex_H → Option ex_R} (hJ : ∀ b ls st h r, J b ls st h = some r → ex_gr h.1 r.2.1) (hC : ∀ m as h r, C m as h = some r → ex_gr h.1 r.2.1) :
    ∀ (is : List Instr) (ls st : List ex_V) (h : ex_H) (r : ex_R), ex_xs rt J C is ls st h = some r → ex_gr h.1 r.2.1 := by
  intro is
  induction is with
  | nil => intro ls st h r e; simp [ex_xs] at e
  | cons i is ih =>
    intro ls st h r e
    unfold ex_xs at e
    split at e
    · cases e
    · next hs => exact (ex_st_gr hs).tr (ih _ _ _ _ e)
    · next hs => exact (ex_st_gr hs).tr (hJ _ _ _ _ _ e)
    · next hs =>
      split at e
      · next hc => exact ((ex_st_gr hs).tr (hC _ _ _ _ hc)).tr (ih _ _ _ _ e)
      · cases e
    · next hs =>
      cases e
      exact ex_st_gr hs
theorem ex_run_gr : ∀ (n d m b : Nat) (ls st : List ex_V) (h : ex_H) (r : ex_R), ex_run n d m b ls st h = some r → ex_gr h.1 r.2.1 := by
  intro n
  induction n with
  | zero => intro d m b ls st h r e; simp [ex_run] at e
  | succ n ih =>
    intro d m b ls st h r e
    unfold ex_run at e
    refine ex_xs_gr (fun b ls st h r e => ih _ _ _ _ _ _ _ e) (fun m as h r e => ?_) _ _ _ _ _ e
    cases d with
    | zero => cases e
    | succ d => exact ih _ _ _ _ _ _ _ e
/-! jumps -/
def ex_cP (c : Jvm.ClassFile.Cond) (a b : Int) : Prop := match c with
  | .eq => a = b
  | .ne => a ≠ b
  | .lt => a < b
  | .ge => b ≤ a
  | .gt => b < a
  | .le => a ≤ b
theorem ex_if_t {c : Jvm.ClassFile.Cond} {a b : Int} {t : Nat} {ls st : List ex_V} {h : ex_H} (hc : ex_cP c a b) : ex_if c a b t ls st h = oJ t ls st h := by
  cases c <;> (unfold ex_cP at hc; dsimp only at hc; dsimp only [ex_if, ex_br]; rw [if_pos hc])
theorem ex_if_f {c : Jvm.ClassFile.Cond} {a b : Int} {t : Nat} {ls st : List ex_V} {h : ex_H} (hc : ¬ ex_cP c a b) : ex_if c a b t ls st h = oN ls st h := by
  cases c <;> (unfold ex_cP at hc; dsimp only at hc; dsimp only [ex_if, ex_br]; rw [if_neg hc])
theorem ck_of_eq {pcs : List Nat} {pc pt : Nat} {t : Int} (h : pcs[t.toNat]? = some pt) : (pc : Int) + ck_of pcs pc t = (pt : Int) := by
  unfold ck_of
  rw [List.getD_eq_getElem?_getD, h]
  show (pc : Int) + ((pt : Int) - pc) = pt
  omega
section XJ
variable {p : Program} {l : Launch} {e : Env} {R : Room} {s : State} {m : MethodId} {args : Array Value} {below : List Frame} {meth : Method} {c : Code} {H : Heap} {locs : List Loc} {cells slots : Nat} {Q : State → Prop}
variable {cc : ByteArray} {pcs : List Nat} {pc pt : Nat} {L : Array Slot} {rest : List Value}
theorem sw_icmp {c0 : Jvm.ClassFile.Cond} {tg a b : Int} (hx : p.tables.exec = Jvm.exec) (hb : c.code = cc) (ha : ex_r32 a) (hb2 : ex_r32 b) (hd : decode cc pc = .ok (.if_icmp c0 (ck_of pcs pc tg), 3)) (ht : pcs[tg.toNat]? = some pt)
    (kt : ex_cP c0 a b → W p l e R s m args below meth c H locs cells slots Q (F0 m pt L rest)) (kf : ¬ ex_cP c0 a b → W p l e R s m args below meth c H locs cells slots Q (F0 m (pc + 3) L rest)) : W p l e R s m args below meth c H locs cells slots Q (F0 m pc L (.int (Int32.ofInt b) :: .int (Int32.ofInt a) :: rest)) := by
  have h1 := ck_of_eq (pc := pc) ht
  cases c0 with
  | eq => exact lv_icmp_eq hx hb hd h1 (fun q => kt ((i_eq ha hb2).mp q)) (fun q => kf (fun z => q ((i_eq ha hb2).mpr z)))
  | ne => exact lv_icmp_ne hx hb hd h1 (fun q => kt (fun z => q ((i_eq ha hb2).mpr z))) (fun q => kf (fun z => z ((i_eq ha hb2).mp q)))
  | lt => exact lv_icmp_lt hx hb hd h1 (fun q => kt ((i_lt ha hb2).mp q)) (fun q => kf (fun z => q ((i_lt ha hb2).mpr z)))
  | ge => exact lv_icmp_ge hx hb hd h1 (fun q => kt ((i_le hb2 ha).mp q)) (fun q => kf (fun z => q ((i_le hb2 ha).mpr z)))
  | gt => exact lv_icmp_gt hx hb hd h1 (fun q => kt ((i_lt hb2 ha).mp q)) (fun q => kf (fun z => q ((i_lt hb2 ha).mpr z)))
  | le => exact lv_icmp_le hx hb hd h1 (fun q => kt ((i_le ha hb2).mp q)) (fun q => kf (fun z => q ((i_le ha hb2).mpr z)))
theorem sw_if {c0 : Jvm.ClassFile.Cond} {tg a : Int} (hx : p.tables.exec = Jvm.exec) (hb : c.code = cc) (ha : ex_r32 a) (hd : decode cc pc = .ok (.ifCond c0 (ck_of pcs pc tg), 3)) (ht : pcs[tg.toNat]? = some pt)
    (kt : ex_cP c0 a 0 → W p l e R s m args below meth c H locs cells slots Q (F0 m pt L rest)) (kf : ¬ ex_cP c0 a 0 → W p l e R s m args below meth c H locs cells slots Q (F0 m (pc + 3) L rest)) : W p l e R s m args below meth c H locs cells slots Q (F0 m pc L (.int (Int32.ofInt a) :: rest)) := by
  have h1 := ck_of_eq (pc := pc) ht
  have e0 : (0 : Int32) = Int32.ofInt 0 := rfl
  have hb2 := i_r0
  cases c0 with
  | eq => exact lv_if_eq hx hb hd h1 (fun q => kt ((i_eq ha hb2).mp (by rw [← e0]; exact q))) (fun q => kf (fun z => q (by rw [e0]; exact (i_eq ha hb2).mpr z)))
  | ne => exact lv_if_ne hx hb hd h1 (fun q => kt (fun z => q (by rw [e0]; exact (i_eq ha hb2).mpr z))) (fun q => kf (fun z => z ((i_eq ha hb2).mp (by rw [← e0]; exact q))))
  | lt => exact lv_if_lt hx hb hd h1 (fun q => kt ((i_lt ha hb2).mp (by rw [← e0]; exact q))) (fun q => kf (fun z => q (by rw [e0]; exact (i_lt ha hb2).mpr z)))
  | ge => exact lv_if_ge hx hb hd h1 (fun q => kt ((i_le hb2 ha).mp (by rw [← e0]; exact q))) (fun q => kf (fun z => q (by rw [e0]; exact (i_le hb2 ha).mpr z)))
  | gt => exact lv_if_gt hx hb hd h1 (fun q => kt ((i_lt hb2 ha).mp (by rw [← e0]; exact q))) (fun q => kf (fun z => q (by rw [e0]; exact (i_lt hb2 ha).mpr z)))
  | le => exact lv_if_le hx hb hd h1 (fun q => kt ((i_le ha hb2).mp (by rw [← e0]; exact q))) (fun q => kf (fun z => q (by rw [e0]; exact (i_le ha hb2).mpr z)))
end XJ
end
section
/-! what remains of single instructions; the words of a method -/
theorem ex_catsum {ad : Nat → Nat} : ∀ (st : List ex_V), st.all ex_sh = true → ((st.map (ex_vv ad)).map fun v => v.category).sum = st.length
  | [], _ => rfl
  | v :: st, h => by
    rw [List.all_cons, Bool.and_eq_true] at h
    rw [List.map_cons, List.map_cons, List.sum_cons, ex_catsum st h.2, ex_cat h.1, List.length_cons]
    omega
theorem lw_obj : Cond.instanceMethod objectInit ∈ lw_gd ∧ Cond.code objectInit ⟨#[0xb1]⟩ 1 none ∈ lw_gd := ⟨lw_gd_mem (by decide +kernel) rfl, lw_gd_mem (by decide +kernel) rfl⟩
theorem lw_cpy : Cond.native arraycopyName ∈ lw_gd ∧ Cond.static arraycopyName ∈ lw_gd ∧ Cond.initialized "java/lang/System" ∈ lw_gd := ⟨lw_gd_mem (by decide +kernel) rfl, lw_gd_mem (by decide +kernel) rfl, lw_gd_mem (by decide +kernel) rfl⟩
theorem lw_nfw : nativeFrameWords "java/lang/System" "arraycopy" 5 ≤ 40 := by decide +kernel
section XC
variable {p : Program} {l : Launch} {e : Env} {R : Room} {s : State} {m : MethodId} {args : Array Value} {below : List Frame} {meth : Method} {c : Code} {H : Heap} {locs : List Loc} {cells slots : Nat} {Q : State → Prop}
variable {D : va_G} {A1 A2 : ClassId} {A : Nat → Prop} {t nn : Nat → Nat} {g : Nat → Int → Int} {own kd nL rt : Nat} {cc : ByteArray} {pcs : List Nat} {pc len : Nat} {raw : Instr}
variable {ad : Nat → Nat} {L : Array Slot} {ls st ls' st' : List ex_V} {h h' : ex_H}
theorem sw_ifnull {tg : Int} (X : ex_X p s m args meth c D A1 A2 A t nn g own kd nL cc) (Y : ex_Y s D A1 A2 A t nn g nL ad L H locs ls st h) (hd : decode cc pc = .ok (raw, len)) (hm : (raw, len) ∈ rw_i own kd pcs pc (.ifnull tg)) (he : ex_st rt ls st h (.ifnull tg) = oN ls' st' h')
    (kk : ex_K p l e R s m args below meth c Q D A1 A2 A t nn g nL cells slots ad h (pc + len) ls' st' h') : W p l e R s m args below meth c H locs cells slots Q (F0 m pc L (st.map (ex_vv ad))) := by
  cases List.mem_singleton.mp hm
  rcases st with _ | ⟨z | z | z, st0⟩
  · cases he
  · cases he
  · cases he
    exact lv_ifnull X.1 X.2.1 hd (kk.go (Y.sk (ex_top1 Y.2.2.2.2.2.2.2).2))
  · cases he
theorem sw_dyn {k : Nat} (hR1 : 1 ≤ R.frames) (hR2 : 64 ≤ R.locals) (X : ex_X p s m args meth c D A1 A2 A t nn g own kd nL cc) (Y : ex_Y s D A1 A2 A t nn g nL ad L H locs ls st h) (hd : decode cc pc = .ok (raw, len)) (hm : (raw, len) ∈ rw_i own kd pcs pc (.invokedynamic k)) (he : ex_st rt ls st h (.invokedynamic k) = oN ls' st' h')
    (kk : ex_K p l e R s m args below meth c Q D A1 A2 A t nn g nL cells slots ad h (pc + len) ls' st' h') : W p l e R s m args below meth c H locs cells slots Q (F0 m pc L (st.map (ex_vv ad))) := by
  obtain ⟨hx, hb, hml, hown, hts, -, hK, hT, hA⟩ := X
  dsimp only [ex_st] at he
  dsimp only [rw_i] at hm
  by_cases hk : k = 1
  · rw [if_pos hk] at he hm
    obtain ⟨x, hx1, hx2⟩ := List.mem_map.mp hm
    cases hx2
    obtain ⟨⟨q1, q2, q3, q4⟩, h1, h2, h3, h5⟩ := ck_lk_mem hx1
    have ho := ex_lk_own h1
    dsimp only at h2 h3 h5 ho
    subst h2; subst h3; subst h5; subst ho
    have hlk := hts _ (lw_lk h1 (fun q => by cases q))
    rcases st with _ | ⟨z | z | z, st0⟩
    · cases he
    · cases he
    · dsimp only at he
      by_cases hl : st0.length ≤ 8 ∧ st0.all ex_sh = true
      · rw [if_pos hl] at he
        cases he
        have hsz : L.size = nL := Y.2.2.2.2.1.1
        exact W.objInit (a := ad z) hx hb hown hlk (hts _ lw_obj.1) (hts _ lw_obj.2) rfl (by rw [hml]; exact hsz) rfl hd hR1 (by show 2 * 0 + _ + 12 ≤ _; rw [ex_catsum _ hl.2]; omega) (kk.go (Y.sk (ex_top1 Y.2.2.2.2.2.2.2).2))
      · rw [if_neg hl] at he; cases he
    · cases he
  · rw [if_neg hk] at he hm
    obtain ⟨x, hx1, hx2⟩ := List.mem_map.mp hm
    cases hx2
    obtain ⟨⟨q1, q2, q3, q4⟩, h1, h2, h3, h5⟩ := ck_lk_mem hx1
    have ho := ex_lk_own h1
    dsimp only at h2 h3 h5 ho
    subst h2; subst h3; subst h5; subst ho
    have hlk := hts _ (lw_lk h1 (fun q => by cases q))
    split at he
    · next n dp b sp a st0 =>
      split at he
      · next n0 n1 e0 e1 =>
        split at he
        · next hi =>
          cases he
          obtain ⟨i1, i2, i3, i4, i5, i6, i7, i8, i9⟩ := hi
          have Y0 := Y
          obtain ⟨hP, hD, hS, hB, hL, -, -, y8⟩ := Y0
          obtain ⟨z1, y⟩ := ex_top1 y8
          obtain ⟨z2, y⟩ := ex_top1 y
          obtain ⟨z3, y⟩ := ex_top1 y
          obtain ⟨z4, y⟩ := ex_top1 y
          obtain ⟨z5, y⟩ := ex_top1 y
          have rn : ex_r32 n := z1
          have rd : ex_r32 dp := z2
          have rs : ex_r32 sp := z4
          have hsz : L.size = nL := hL.1
          have kn := lw_nfw
          refine va_copyi hx hb (by rw [hml, hsz]) hown hlk (hts _ lw_cpy.1) (hts _ lw_cpy.2.1) (hts _ lw_cpy.2.2) hK hP hD hS (a - 4) (b - 4) 0 0 (ty := .int) (ex_W_arr i1 e0) (ex_W_arr i2 e1) rfl rfl rfl (fun q => by have := (i_lt0 rs).mp q; omega) (fun q => by have := (i_lt0 rd).mp q; omega) (fun q => by have := (i_lt0 rn).mp q; omega) (by rw [i_cl rs i3, i_cl rn i5]; omega) (by rw [i_cl rd i4, i_cl rn i5]; omega) (fun i _ => rfl) hR1 (by rw [ex_catsum _ i9]; omega) hd (fun H1 locs1 hP1 hD1 hS1 => ?_)
          refine kk ad L H1 locs1 cells slots (fun _ _ => rfl) rfl rfl (Y.ar i2 e1 (f := ex_cpy (h.2 a) (h.2 b) sp dp n) (fun j => ?_) ?_ hP1 hD1 hS1 y)
          · unfold ex_cpy
            split
            · exact hB.1 _ _
            · exact hB.1 _ _
          · refine congrArg (fun F => (Sum.inl (A1, n1, Sum.inl F) : va_E)) (funext fun j => ?_)
            rw [i_cl rs i3, i_cl rn i5, i_cl rd i4]
            unfold va_cpy ex_cpy
            by_cases hj : dp.toNat ≤ j ∧ j < dp.toNat + n.toNat
            · rw [if_pos hj, if_pos (by omega)]
              show Int32.ofInt (h.2 a ((sp.toNat + (j - dp.toNat) : Nat) : Int)) = Int32.ofInt (h.2 a (sp + ((j : Int) - dp)))
              rw [show ((sp.toNat + (j - dp.toNat) : Nat) : Int) = sp + ((j : Int) - dp) by omega]
            · rw [if_neg hj, if_neg (by omega)]
        · cases he
      · cases he
    · cases he
end XC
theorem mc_at {k n : Nat} (hc : ((ex_my.drop k).take n).map (fun q => some (Cond.code q.1 q.2.1 q.2.2.1 q.2.2.2)) = ((ex_mp.drop k).take n).map (fun p => lw_tbl[p.1]?)) {m : Nat} (h1 : k ≤ m) (h2 : m < k + n) {q : MethodName × ByteArray × Nat × Option FieldType} {r : Nat × Nat × Nat × Nat} (hq : ex_my[m]? = some q) (hr : ex_mp[m]? = some r) : lw_tbl[r.1]? = some (Cond.code q.1 q.2.1 q.2.2.1 q.2.2.2) := by
  have h := congrArg (fun l : List (Option Cond) => l[m - k]?) hc
  try dsimp only at h
  rw [List.getElem?_map, List.getElem?_map, List.getElem?_take_of_lt (by omega), List.getElem?_take_of_lt (by omega), List.getElem?_drop, List.getElem?_drop, show k + (m - k) = m by omega, hq, hr] at h
  exact (Option.some.inj h).symm
theorem mk_of {m kd own n mL r : Nat} (hm : ex_mt[m]? = some (kd, own, n, mL, r)) (hlt : m < 241) : ∃ (y : MethodName) (cc : ByteArray), ex_my[m]? = some (y, cc, mL, ex_rf r) ∧ y.cls = ex_nm own ∧ plainFor y = true ∧ (y.cls ≠ "java/lang/invoke/MethodHandle" ∧ y.cls ≠ "java/lang/invoke/VarHandle" ∧ (parseMethodDescriptor y.desc).map (fun d => d.parameters.length) = some (if kd = 0 then n else n - 1)) ∧
    (n ≤ mL ∧ mL ≤ 20 ∧ (kd = 0 ∨ 1 ≤ n) ∧ kd ≤ 2 ∧ (kd = 2 → y.name = "<init>" ∧ r = 0)) ∧ Cond.code y cc mL (ex_rf r) ∈ lw_gd ∧ Cond.initialized y.cls ∈ lw_gd ∧ (kd = 0 → Cond.static y ∈ lw_gd) ∧ (kd ≠ 0 → Cond.instanceMethod y ∈ lw_gd) ∧ (kd = 1 → Cond.selects y.cls y y ∈ lw_gd) := by
  have h := mk_all m hlt
  unfold mk_ok at h
  rw [hm] at h
  cases hy : ex_my[m]? with
  | none => rw [hy] at h; cases h
  | some q =>
    obtain ⟨y, cc, mL', ret⟩ := q
    cases hp : ex_mp[m]? with
    | none => rw [hy, hp] at h; cases h
    | some pp =>
      obtain ⟨p1, p2, p3, p4⟩ := pp
      rw [hy, hp] at h
      dsimp only at h
      simp only [Bool.and_eq_true, decide_eq_true_eq] at h
      obtain ⟨⟨a1, a2, a3, a4, a5, a6⟩, b1, ⟨c1, c2, c3, c4, c5⟩, d1, d2, d3⟩ := h
      subst a1
      subst a2
      have hcode : lw_tbl[p1]? = some (Cond.code y cc mL (ex_rf r)) := by
        by_cases h0 : m < 24
        · exact mc_at mc_g0 (by omega) (by omega) hy hp
        by_cases h1 : m < 48
        · exact mc_at mc_g1 (by omega) (by omega) hy hp
        by_cases h2 : m < 72
        · exact mc_at mc_g2 (by omega) (by omega) hy hp
        by_cases h3 : m < 96
        · exact mc_at mc_g3 (by omega) (by omega) hy hp
        by_cases h4 : m < 120
        · exact mc_at mc_g4 (by omega) (by omega) hy hp
        by_cases h5 : m < 144
        · exact mc_at mc_g5 (by omega) (by omega) hy hp
        by_cases h6 : m < 168
        · exact mc_at mc_g6 (by omega) (by omega) hy hp
        by_cases h7 : m < 192
        · exact mc_at mc_g7 (by omega) (by omega) hy hp
        by_cases h8 : m < 216
        · exact mc_at mc_g8 (by omega) (by omega) hy hp
        by_cases h9 : m < 240
        · exact mc_at mc_g9 (by omega) (by omega) hy hp
        · exact mc_at mc_g10 (by omega) (by omega) hy hp
      refine ⟨y, cc, rfl, a3, a4, ⟨a5, a6, b1⟩, ⟨c1, c2, c3, c4, c5⟩, lw_gd_mem (List.mem_of_getElem? hcode) rfl, lw_gd_mem (List.mem_of_getElem? d1) rfl, fun hk => ?_, fun hk => ?_, fun hk => lw_gd_mem (List.mem_of_getElem? (d3 hk)) rfl⟩
      · rw [if_pos hk] at d2
        exact lw_gd_mem (List.mem_of_getElem? d2) rfl
      · rw [if_neg hk] at d2
        exact lw_gd_mem (List.mem_of_getElem? d2) rfl
def ml_ok (q : ex_L) : Bool := decide (q.1 = 2 ∨ q.1 = 3 → 0 ≤ q.2.2.2 ∧ q.2.2.2 < 241)
theorem ml_all (own : Nat) : ∀ q ∈ ex_lk own, ml_ok q = true := by
  have key : ∀ (L : List ex_L), L.all ml_ok = true → ∀ q ∈ L, ml_ok q = true := fun L hL q hq => List.all_eq_true.mp hL q hq
  unfold ex_lk
  split <;> first | exact key _ (by decide +kernel) | (intro q hq; cases hq)
/-- the words of a method's contract -/
def ex_ws (y : MethodName) (cc : ByteArray) (mL : Nat) (ret : Option FieldType) : List Cond := Cond.code y cc mL ret :: lw_gd
theorem ex_good {y y' : MethodName} {cc cc' : ByteArray} {mL mL' : Nat} {ret ret' : Option FieldType} (h : Cond.code y' cc' mL' ret' ∈ lw_gd) : GoodIn lw_gd (ex_ws y' cc' mL' ret') := by
  intro w hw
  rcases List.mem_cons.mp hw with rfl | h1
  · exact ⟨h, good_of_word (lw_gd_good h)⟩
  · exact ⟨h1, good_of_word (lw_gd_good h1)⟩
/-- arguments as locals -/
theorem ex_args {ad : Nat → Nat} : ∀ (as : List ex_V) (i : Nat), as.all ex_sh = true → ∀ (k : Nat) (v : ex_V), as[k]? = some v → (i + k, ex_vv ad v) ∈ lv_args i (as.map (ex_vv ad))
  | [], i, _, k, v, h => by simp at h
  | a :: as, i, hs, 0, v, h => by
    have ha : a = v := by simpa using h
    subst ha
    rw [List.map_cons, lv_args]
    exact List.mem_cons_self
  | a :: as, i, hs, k + 1, v, h => by
    rw [List.all_cons, Bool.and_eq_true] at hs
    rw [List.map_cons, lv_args, ex_cat hs.1]
    have := ex_args (ad := ad) as (i + 1) hs.2 k v (by simpa using h)
    rw [show i + (k + 1) = i + 1 + k by omega]
    exact List.mem_cons_of_mem _ this
theorem ex_lgsl {ad : Nat → Nat} : ∀ (as : List ex_V), as.all ex_sh = true → (lg_sl (as.map (ex_vv ad))).length = as.length
  | [], _ => rfl
  | a :: as, hs => by
    rw [List.all_cons, Bool.and_eq_true] at hs
    have := ex_lgsl (ad := ad) as hs.2
    unfold lg_sl at this ⊢
    rw [List.map_cons, List.flatMap_cons, List.length_append, this, ex_cat hs.1]
    simp
    omega
theorem ex_pr_args {ad : Nat → Nat} {as : List ex_V} (hs : as.all ex_sh = true) {k : Nat} {L : Array Slot} {n : Nat} (h : lv_has L n (lv_args 0 (as.map (ex_vv ad)))) : lv_has L n (ex_pr ad (as ++ List.replicate k (.inr (.inr 0)))) := by
  refine ex_has_sub h (fun q hq => ?_)
  obtain ⟨v, h1, h2, h3⟩ := ex_pr_mem.mp hq
  by_cases hl : q.1 < as.length
  · rw [List.getElem?_append_left hl] at h1
    have := ex_args (ad := ad) as 0 hs q.1 v h1
    rw [Nat.zero_add, ← h3] at this
    exact this
  · rw [List.getElem?_append_right (by omega)] at h1
    have := List.mem_of_getElem? h1
    rw [List.mem_replicate] at this
    rw [this.2] at h2
    cases h2
end
section
/-! a run of the abstract machine is a run of the machine -/
def ex_E (D : va_G) (A1 A2 : ClassId) (A : Nat → Prop) (t nn : Nat → Nat) (g : Nat → Int → Int) (ad : Nat → Nat) (h : ex_H) (U : State) : Prop :=
  va_P D vwCl (ex_W ad A1 A2 h) U.heap ∧ va_D A (ex_W ad A1 A2 h) ∧ va_K D vwCl (ex_ty A1 A2) U ∧ ex_T A t nn g U U.heap ∧ ex_B t nn g ad h ∧ (∀ q, U.heap.size ≤ q → A q)
def ex_Qc (D : va_G) (A1 A2 : ClassId) (A : Nat → Prop) (t nn : Nat → Nat) (g : Nat → Int → Int) (ad : Nat → Nat) (h1 : ex_H) (vs : List ex_V) (h2 : ex_H) : Array Value → State → Outcome → State → Prop := fun _ st oc tt =>
  ∃ (ad' : Nat → Nat) (w : Option Value), oc = .returned w ∧ w.toList = vs.map (ex_vv ad') ∧ ex_ext ad ad' h1.1.length ∧ va_P D vwCl (ex_W ad' A1 A2 h2) tt.heap ∧ va_D A (ex_W ad' A1 A2 h2) ∧ ex_B t nn g ad' h2 ∧ (∀ v ∈ vs, ex_rg h2.1.length v) ∧ va_F A st tt
def ex_rm (d mc ms : Nat) : Room := { frames := d + 1, cells := mc, slots := ms, locals := 64 * (d + 1) }
theorem ex_T.call {A : Nat → Prop} {t nn : Nat → Nat} {g : Nat → Int → Int} {u U : State} {H : Heap} (hv : u.vm = U.vm) (h : ex_T A t nn g u H) : ex_T A t nn g U H := by
  obtain ⟨h1, h2, h3, h4⟩ := h
  have ha : u.vm.Alike U.vm := by rw [hv]; exact Vm.Alike.refl _
  refine ⟨fun k hk => (h1 k hk).moved ha, fun k hk => (h2 k hk).moved ha, fun own q hq hq3 => ?_, h4.moved ha⟩
  refine va_Nw.same ?_ hv (h3 own q hq hq3)
  obtain ⟨q1, q2, q3, q4⟩ := q
  dsimp only at hq3
  subst hq3
  rfl
theorem ex_T.warm {A : Nat → Prop} {t nn : Nat → Nat} {g : Nat → Int → Int} {s U : State} {H : Heap} {locs : List Loc} (hW : s.WarmedH U.vm) (hS : va_S A s.heap H locs) (hU : U.heap = H) (h : ex_T A t nn g s s.heap) : ex_T A t nn g U U.heap := by
  obtain ⟨h1, h2, h3, h4⟩ := h
  have ha := hW.alike
  rw [hU]
  refine ⟨fun k hk => ((h1 k hk).moved ha).kept (fun a x y => hS.2.1 a x y), fun k hk => ((h2 k hk).moved ha).kept (fun a x y => hS.2.1 a x y), fun own q hq hq3 => ?_, h4.moved ha⟩
  have := h3 own q hq hq3
  obtain ⟨q1, q2, q3, q4⟩ := q
  dsimp only at hq3
  subst hq3
  exact va_Nw.warmM hW this
theorem ex_E.blind {D : va_G} {A1 A2 : ClassId} {A : Nat → Prop} {t nn : Nat → Nat} {g : Nat → Int → Int} {ad : Nat → Nat} {h : ex_H} {av : List Value} : FrameBlind (va_Pc av (ex_E D A1 A2 A t nn g ad h)) := by
  intro a U g mk hq
  obtain ⟨q0, q1, q2, q3, q4, q5, q6⟩ := hq
  exact ⟨q0, q1, q2, va_K.moved (u := U) (U := U.calling g mk a) (Vm.Alike.refl U.vm) q3, ex_T.call (u := U) (U := U.calling g mk a) rfl q4, q5, q6⟩
def ex_snd (l : Launch) (n : Nat) : Prop := ∀ (mi d b : Nat) (ls st : List ex_V) (h : ex_H) (r : ex_R), ex_run n d mi b ls st h = some r → ck_M mi = true →
  ∀ (kd own na nL rt : Nat) (y : MethodName) (cc : ByteArray) (mL' : Nat) (ret : Option FieldType) (pcs : List Nat), ex_mt[mi]? = some (kd, own, na, nL, rt) → ex_my[mi]? = some (y, cc, mL', ret) → ex_pc[mi]? = some pcs →
  ∀ (p : Program) (e : Env) (R : Room) (s : State) (m : MethodId) (args : Array Value) (below : List Frame) (meth : Method) (c : Code) (Q : State → Prop) (D : va_G) (A1 A2 : ClassId) (A : Nat → Prop) (t nn : Nat → Nat) (g : Nat → Int → Int),
  ex_X p s m args meth c D A1 A2 A t nn g own kd nL cc → d + 1 ≤ R.frames → 64 * (d + 1) ≤ R.locals →
  ∀ (ad : Nat → Nat) (L : Array Slot) (H : Heap) (locs : List Loc) (cells slots cF sF : Nat), ex_Y s D A1 A2 A t nn g nL ad L H locs ls st h → ls.length = nL → cells + r.2.1.length = cF + h.1.length → slots + ex_tot r.2.1 = sF + ex_tot h.1 → cF ≤ R.cells → sF ≤ R.slots →
  ∀ pc : Nat, pcs[b]? = some pc →
  (∀ (ad' : Nat → Nat) (L' : Array Slot) (H' : Heap) (locs' : List Loc) (pc' : Nat) (z : Int), r.1 = [.inl z] → (rt = 1 ∨ (rt = 2 ∧ (z = 0 ∨ z = 1))) → decode cc pc' = .ok (.ireturn, 1) → ex_ext ad ad' h.1.length → ex_Y s D A1 A2 A t nn g nL ad' L' H' locs' [] r.1 r.2 → W p l e R s m args below meth c H' locs' cF sF Q (F0 m pc' L' [.int (Int32.ofInt z)])) →
  (∀ (ad' : Nat → Nat) (L' : Array Slot) (H' : Heap) (locs' : List Loc) (pc' : Nat), r.1 = [] → rt = 0 → decode cc pc' = .ok (.return_, 1) → ex_ext ad ad' h.1.length → ex_Y s D A1 A2 A t nn g nL ad' L' H' locs' [] [] r.2 → W p l e R s m args below meth c H' locs' cF sF Q (F0 m pc' L' [])) →
  (∀ (ad' : Nat → Nat) (L' : Array Slot) (H' : Heap) (locs' : List Loc) (pc' : Nat), mi = 241 → pcs[1]? = some pc' → r.1.length = nL → ex_ext ad ad' h.1.length → ex_Y s D A1 A2 A t nn g nL ad' L' H' locs' r.1 [] r.2 → W p l e R s m args below meth c H' locs' cF sF Q (F0 m pc' L' [])) →
  W p l e R s m args below meth c H locs cells slots Q (F0 m pc L (st.map (ex_vv ad)))
/-- a method's contract out of its run -/
theorem ex_met {l : Launch} {n : Nat} (ih : ex_snd l n) {mi d : Nat} {as : List ex_V} {h1 : ex_H} {r : ex_R} (hrun : ex_run n d mi 0 (ex_fr mi as) [] h1 = some r) (hlt : mi < 241) {kd own na nL rt : Nat} {y : MethodName} {cc : ByteArray} (hmt : ex_mt[mi]? = some (kd, own, na, nL, rt)) (hmy : ex_my[mi]? = some (y, cc, nL, ex_rf rt)) (hcls : y.cls = ex_nm own) (hpl : plainFor y = true) (hkd2 : kd = 2 → y.name = "<init>")
    (hna : as.length = na) (hnL : na ≤ nL) (hsh : as.all ex_sh = true) (D : va_G) (A1 A2 : ClassId) (A : Nat → Prop) (t nn : Nat → Nat) (g : Nat → Int → Int) (ad : Nat → Nat) (hrg : ∀ v ∈ as, ex_rg h1.1.length v) :
    Met l y (ex_ws y cc nL (ex_rf rt)) (ex_rm d (r.2.1.length - h1.1.length) (ex_tot r.2.1 - ex_tot h1.1)) (va_Pc (as.map (ex_vv ad)) (ex_E D A1 A2 A t nn g ad h1)) (ex_Qc D A1 A2 A t nn g ad h1 r.1 r.2) (r.2.1.length - h1.1.length) (ex_tot r.2.1 - ex_tot h1.1) A := by
  refine va_MetF (cc := cc) (maxL := nL) (ret := ex_rf rt) hpl rfl ?_
  intro p e s m args below meth c s₁ B hml hv
  obtain ⟨rfl, hP, hD, hK, hT, hB, hA⟩ := hv
  have hts := atoms_spec (ws := ex_ws y cc nL (ex_rf rt)) B.pre
  have hown : s.vm.findClass y.cls = some m.cls := findClass_of_methodNamed B.named
  have hr := B.returns
  have hlocks := B.notSynchronized
  have hck := ck_all mi hlt
  have hck0 := hck
  have hgr := ex_run_gr _ _ _ _ _ _ _ _ hrun
  have X : ex_X p s m (as.map (ex_vv ad)).toArray meth c D A1 A2 A t nn g own kd nL cc := ⟨B.exec, B.bytes, hml, by rw [← hcls]; exact hown, fun w hw => hts w (List.mem_cons_of_mem _ hw), fun hk => by rw [← hkd2 hk]; exact (name_of_methodNamed B.named B.method).1, hK, hT, hA⟩
  unfold ck_M at hck
  rw [hmt, hmy] at hck
  cases hbs : ex_bs[mi]? with
  | none => rw [hbs] at hck; cases hck
  | some bs =>
    cases hpc : ex_pc[mi]? with
    | none => rw [hbs, hpc] at hck; cases hck
    | some pcs =>
      rw [hbs, hpc] at hck
      dsimp only at hck
      simp only [Bool.and_eq_true, decide_eq_true_eq] at hck
      have hl := lv_entry (as.map (ex_vv ad)) (n := nL) (by rw [ex_lgsl as hsh]; omega)
      rw [lg_entry_eq]
      generalize (lg_sl (as.map (ex_vv ad)) ++ List.replicate (nL - (lg_sl (as.map (ex_vv ad))).length) Slot.unset).toArray = L at hl ⊢
      have hfr : ex_fr mi as = as ++ List.replicate (nL - na) (.inr (.inr 0)) := by unfold ex_fr; rw [hmt]
      have Y : ex_Y s D A1 A2 A t nn g nL ad L s.heap [] (ex_fr mi as) [] h1 := by
        refine ⟨hP, hD, va_S.rf, hB, by rw [hfr]; exact ex_pr_args hsh hl, by rw [hfr, List.length_append, List.length_replicate]; omega, fun v hv => ?_, fun v hv => by cases hv⟩
        rw [hfr] at hv
        rcases List.mem_append.mp hv with h | h
        · exact hrg v h
        · rw [List.mem_replicate] at h
          rw [h.2]
          show ex_r64 0
          unfold ex_r64
          omega
      refine ih mi d 0 _ [] h1 r hrun hck0 kd own na nL rt y cc nL (ex_rf rt) pcs hmt hmy hpc p e _ s m _ below meth c _ D A1 A2 A t nn g X (Nat.le_refl _) (Nat.le_refl _) ad L s.heap [] 0 0 (r.2.1.length - h1.1.length) (ex_tot r.2.1 - ex_tot h1.1) Y (by rw [hfr, List.length_append, List.length_replicate]; omega) (by have := hgr.1; omega) (by have := hgr.2; omega) (Nat.le_refl _) (Nat.le_refl _) 0 hck.2.1 ?_ ?_ ?_
      · intro ad' L' H' locs' pc' z hz hrt hdg hext Y'
        obtain ⟨y1, y2, y3, y4, y5, y6, y7, y8⟩ := Y'
        have post : ∀ t9 : State, t9.heap = H' → s.WarmedH t9.vm → ex_Qc D A1 A2 A t nn g ad h1 r.1 r.2 (as.map (ex_vv ad)).toArray s (.returned (some (.int (Int32.ofInt z)))) t9 := fun t9 ht9 hW => ⟨ad', some (.int (Int32.ofInt z)), rfl, by rw [hz]; rfl, hext, by rw [ht9]; exact y1, y2, y4, y8, y3.F ht9⟩
        rcases hrt with h | ⟨h, h2⟩
        · subst h
          exact W.iret B.exec B.bytes hr post y3.2.2 hdg
        · subst h
          exact W.zret (ty := .boolean) B.exec B.bytes hr (by rcases h2 with rfl | rfl <;> rfl) post y3.2.2 hdg
      · intro ad' L' H' locs' pc' hz hrt hdg hext Y'
        obtain ⟨y1, y2, y3, y4, y5, y6, y7, y8⟩ := Y'
        subst hrt
        exact W.vret B.exec B.bytes hr (fun t9 ht9 hW => ⟨ad', none, rfl, by rw [hz]; rfl, hext, by rw [ht9]; exact y1, y2, y4, by rw [hz]; exact y8, y3.F ht9⟩) y3.2.2 hdg
      · intro ad' L' H' locs' pc' h241
        omega
section XM
variable {p : Program} {l : Launch} {e : Env} {R : Room} {s : State} {m : MethodId} {args : Array Value} {below : List Frame} {meth : Method} {c : Code} {H : Heap} {locs : List Loc} {cells slots : Nat} {Q : State → Prop}
variable {D : va_G} {A1 A2 : ClassId} {A : Nat → Prop} {t nn : Nat → Nat} {g : Nat → Int → Int} {own kd nL rt : Nat} {cc : ByteArray} {pcs : List Nat} {pc len : Nat} {raw : Instr}
variable {ad : Nat → Nat} {L : Array Slot} {ls st : List ex_V} {h : ex_H}
/-- behind a call -/
theorem sw_back {mc ms : Nat} {st0 : List Value} {rest : List ex_V} {a : Array Value} {vs : List ex_V} {h2 : ex_H} (hr : va_Run p l e R s m args below meth c H locs cells slots mc ms (F0 m pc L st0) (rest.map (ex_vv ad)) (ex_Qc D A1 A2 A t nn g ad h vs h2 a) A) (Y : ex_Y s D A1 A2 A t nn g nL ad L H locs ls st h) (hrest : ∀ v ∈ rest, ex_rg h.1.length v) (hgr : h.1.length ≤ h2.1.length)
    (kk : ∀ (ad' : Nat → Nat) (H' : Heap) (locs' : List Loc), ex_ext ad ad' h.1.length → ex_Y s D A1 A2 A t nn g nL ad' L H' locs' ls (vs ++ rest) h2 → W p l e R s m args below meth c H' locs' (cells + mc) (slots + ms) Q (F0 m (pc + 3) L ((vs ++ rest).map (ex_vv ad')))) : W p l e R s m args below meth c H locs cells slots Q (F0 m pc L st0) := by
  intro T hT X
  obtain ⟨v, st₀, t9, T', L9, h0, X', hL, e1, e2, ⟨ad', w, hw, hwl, hext, q1, q2, q3, q4, hz, hk⟩, st⟩ := hr T hT X
  cases hw
  rw [h0] at hz hk
  obtain ⟨y1, y2, y3, y4, y5, y6, y7, y8⟩ := Y
  have hS' : va_S A s.heap T'.heap (locs ++ L9) := ⟨Nat.le_trans y3.1 (by rw [e1]; exact hz), fun q x1 x2 => by rw [e1, hk q (Nat.lt_of_lt_of_le x1 y3.1) x2]; exact y3.2.1 q x1 x2, fun q hq => by
    rcases List.mem_append.mp hq with hh | hh
    · exact y3.2.2 q hh
    · exact hL q hh⟩
  have Y' : ex_Y s D A1 A2 A t nn g nL ad' L T'.heap (locs ++ L9) ls (vs ++ rest) h2 := by
    refine ⟨by rw [e1]; exact q1, q2, hS', q3, ex_has_sub y5 (fun w9 hw9 => ?_), y6, fun v9 hv9 => ex_rg_le hgr (y7 v9 hv9), fun v9 hv9 => ?_⟩
    · obtain ⟨v9, g1, g2, g3⟩ := ex_pr_mem.mp hw9
      exact ex_pr_mem.mpr ⟨v9, g1, g2, by rw [g3]; exact ex_vv_ext hext (y7 v9 (List.mem_of_getElem? g1))⟩
    · rcases List.mem_append.mp hv9 with hh | hh
      · exact q4 v9 hh
      · exact ex_rg_le hgr (hrest v9 hh)
  have w9 := kk ad' T'.heap (locs ++ L9) hext Y'
  rw [List.map_append, ← hwl, ex_st_ext hext hrest] at w9
  obtain ⟨t2, a1, b1⟩ := w9 T' rfl X'
  exact ⟨t2, st t2 a1, b1⟩
/-- a call -/
theorem sw_call {n d mi k : Nat} {i : Instr} (ih : ex_snd l n) (hi : (k = 0 ∧ i = .invokestatic mi) ∨ (k = 1 ∧ i = .invokevirtual mi) ∨ (k = 2 ∧ i = .invokespecial mi)) (X : ex_X p s m args meth c D A1 A2 A t nn g own kd nL cc) (Y : ex_Y s D A1 A2 A t nn g nL ad L H locs ls st h) (hd : decode cc pc = .ok (raw, len)) (hm : (raw, len) ∈ rw_i own kd pcs pc i) {as rest : List ex_V} {h' : ex_H} (he : ex_ca k mi st h = oC mi as rest h') {vs : List ex_V} {h2 : ex_H} (hrun : ex_run n d mi 0 (ex_fr mi as) [] h' = some (vs, h2))
    (hR1 : d + 2 ≤ R.frames) (hR2 : 64 * (d + 2) ≤ R.locals) (hc : cells + h2.1.length ≤ R.cells + h.1.length) (hs : slots + ex_tot h2.1 ≤ R.slots + ex_tot h.1)
    (kk : ∀ (ad' : Nat → Nat) (H' : Heap) (locs' : List Loc) (cells' slots' : Nat), ex_ext ad ad' h.1.length → cells + h2.1.length = cells' + h.1.length → slots + ex_tot h2.1 = slots' + ex_tot h.1 → ex_Y s D A1 A2 A t nn g nL ad' L H' locs' ls (vs ++ rest) h2 → W p l e R s m args below meth c H' locs' cells' slots' Q (F0 m (pc + len) L ((vs ++ rest).map (ex_vv ad')))) : W p l e R s m args below meth c H locs cells slots Q (F0 m pc L (st.map (ex_vv ad))) := by
  obtain ⟨hx, hb, hml, hown, hts, hin, hK, hT, hA⟩ := X
  -- the link
  have hlink : ∃ x : Nat, len = 3 ∧ mi < 241 ∧ ((raw = .invokestatic x ∧ k = 0) ∨ (raw = .invokevirtual x ∧ k = 1) ∨ (raw = .invokespecial x ∧ k = 2)) ∧ ((Cond.methodLink (ex_nm own) x (ex_y mi)).before args s = true ∨ (k = 2 ∧ va_Nw (.methodLinkNest (ex_nm own) x (ex_y mi) "CellarCars") s)) := by
    have two : ∀ x, x ∈ ck_lk own 2 (mi : Int) → mi < 241 ∧ (Cond.methodLink (ex_nm own) x (ex_y mi)).before args s = true := by
      intro x hx1
      obtain ⟨⟨q1, q2, q3, q4⟩, z1, z2, z3, z5⟩ := ck_lk_mem hx1
      have ho := ex_lk_own z1
      have hml := ml_all own _ z1
      dsimp only at z2 z3 z5 ho
      subst z2; subst z3; subst z5; subst ho
      have hm2 := (of_decide_eq_true hml) (Or.inl rfl)
      dsimp only at hm2
      have hlk := hts _ (lw_lk z1 (fun q => by cases q))
      have e9 : ((mi : Int)).toNat = mi := Int.toNat_natCast mi
      have e8 : ex_lw (2, q2, q3, (mi : Int)) = .methodLink (ex_nm q2) q3 (ex_y mi) := by show Cond.methodLink (ex_nm q2) q3 (ex_y ((mi : Int)).toNat) = _; rw [e9]
      rw [e8] at hlk
      exact ⟨by omega, hlk⟩
    have three : ∀ x, x ∈ ck_lk own 3 (mi : Int) → mi < 241 ∧ va_Nw (.methodLinkNest (ex_nm own) x (ex_y mi) "CellarCars") s := by
      intro x hx1
      obtain ⟨⟨q1, q2, q3, q4⟩, z1, z2, z3, z5⟩ := ck_lk_mem hx1
      have ho := ex_lk_own z1
      have hml := ml_all own _ z1
      dsimp only at z2 z3 z5 ho
      subst z2; subst z3; subst z5; subst ho
      have hm2 := (of_decide_eq_true hml) (Or.inr rfl)
      dsimp only at hm2
      have hlk := hT.2.2.1 q2 _ z1 rfl
      have e9 : ((mi : Int)).toNat = mi := Int.toNat_natCast mi
      have e8 : ex_lw (3, q2, q3, (mi : Int)) = .methodLinkNest (ex_nm q2) q3 (ex_y mi) "CellarCars" := by show Cond.methodLinkNest (ex_nm q2) q3 (ex_y ((mi : Int)).toNat) "CellarCars" = _; rw [e9]
      rw [e8] at hlk
      exact ⟨by omega, hlk⟩
    rcases hi with ⟨rfl, rfl⟩ | ⟨rfl, rfl⟩ | ⟨rfl, rfl⟩
    · obtain ⟨x, hx1, hx2⟩ := List.mem_map.mp hm
      cases hx2
      obtain ⟨a1, a2⟩ := two x hx1
      exact ⟨x, rfl, a1, Or.inl ⟨rfl, rfl⟩, Or.inl a2⟩
    · obtain ⟨x, hx1, hx2⟩ := List.mem_map.mp hm
      cases hx2
      obtain ⟨a1, a2⟩ := two x hx1
      exact ⟨x, rfl, a1, Or.inr (Or.inl ⟨rfl, rfl⟩), Or.inl a2⟩
    · rcases List.mem_append.mp hm with hm | hm
      · obtain ⟨x, hx1, hx2⟩ := List.mem_map.mp hm
        cases hx2
        obtain ⟨a1, a2⟩ := two x hx1
        exact ⟨x, rfl, a1, Or.inr (Or.inr ⟨rfl, rfl⟩), Or.inl a2⟩
      · obtain ⟨x, hx1, hx2⟩ := List.mem_map.mp hm
        cases hx2
        obtain ⟨a1, a2⟩ := three x hx1
        exact ⟨x, rfl, a1, Or.inr (Or.inr ⟨rfl, rfl⟩), Or.inr ⟨rfl, a2⟩⟩
  obtain ⟨x, rfl, hlt, hraw, hlk⟩ := hlink
  -- the callee
  unfold ex_ca at he
  cases hmt : ex_mt[mi]? with
  | none => rw [hmt] at he; cases he
  | some q =>
    obtain ⟨kd', own', na, nL', rt'⟩ := q
    rw [hmt] at he
    dsimp only at he
    by_cases hcond : kd' = k ∧ na ≤ st.length ∧ st.length ≤ na + 8 ∧ st.all ex_sh = true
    · rw [if_pos hcond] at he
      obtain ⟨hk, hn1, hn2, hsh⟩ := hcond
      subst hk
      obtain ⟨y, cc', my1, my2, my3, my4, ⟨my5a, my5b, my5c, my5d, my5e⟩, my6, my7, my8, my9, my10⟩ := mk_of hmt hlt
      have hey : ex_y mi = y := by unfold ex_y; rw [my1]
      rw [hey] at hlk
      -- arguments
      have hout : as = (st.take na).reverse ∧ rest = st.drop na ∧ h' = h ∧ (kd' ≠ 0 → ∃ (a0 : Nat) (as0 : List ex_V) (f0 : List (Option (Option Nat))), as = .inr (.inl a0) :: as0 ∧ h.1[a0]? = some (.inr (.inr (own', f0)))) := by
        by_cases hk0 : kd' = 0
        · rw [if_pos hk0] at he
          cases he
          exact ⟨rfl, rfl, rfl, fun z => absurd hk0 z⟩
        · rw [if_neg hk0] at he
          split at he
          · next a0 as0 ha0 =>
            split at he
            · next c0 f0 hf0 =>
              split at he
              · next hc0 =>
                subst hc0
                cases he
                exact ⟨rfl, rfl, rfl, fun _ => ⟨a0, as0, f0, ha0, hf0⟩⟩
              · cases he
            · cases he
          · cases he
      obtain ⟨has, hrest, hh, hrecv⟩ := hout
      subst hh
      have y8 := Y.2.2.2.2.2.2.2
      have hstk : st = as.reverse ++ rest := by rw [has, hrest, List.reverse_reverse, List.take_append_drop]
      have hlen : as.length = na := by rw [has, List.length_reverse, List.length_take]; omega
      have hall : ∀ v ∈ as, v ∈ st := fun v hv => by rw [hstk]; exact List.mem_append_left _ (List.mem_reverse.mpr hv)
      have hallr : ∀ v ∈ rest, v ∈ st := fun v hv => by rw [hstk]; exact List.mem_append_right _ hv
      have hsha : as.all ex_sh = true := List.all_eq_true.mpr (fun v hv => List.all_eq_true.mp hsh v (hall v hv))
      have hshr : rest.all ex_sh = true := List.all_eq_true.mpr (fun v hv => List.all_eq_true.mp hsh v (hallr v hv))
      have hrl : rest.length ≤ 8 := by rw [hrest, List.length_drop]; omega
      have M := ex_met ih hrun hlt hmt my1 my2 my3 (fun hk2 => (my5e hk2).1) hlen my5a hsha D A1 A2 A t nn g ad (fun v hv => y8 v (hall v hv))
      have hgr := ex_run_gr _ _ _ _ _ _ _ _ hrun
      have hg1 := hgr.1
      have hg2 := hgr.2
      dsimp only at hg1 hg2 M
      have Y0 := Y
      obtain ⟨hP, hD, hS, hB, hL, -, -, -⟩ := Y0
      have S : CallFix p m c cc nL s args lw_gd (ex_nm own) := ⟨hx, hb, hml, hown, hts⟩
      have hpre : ∀ U : State, U.heap = H → s.WarmedH U.vm → va_Pc (as.map (ex_vv ad)) (ex_E D A1 A2 A t nn g ad h') (as.map (ex_vv ad)).toArray U := fun U hU hW => ⟨rfl, by rw [hU]; exact hP, hD, va_K.moved hW.alike hK, hT.warm hW hS hU, hB, fun q hq => hA q (by rw [hU] at hq; exact Nat.le_trans hS.1 hq)⟩
      have hW8 : 2 * (F0 m pc L (st.map (ex_vv ad))).monitorRoom + ((rest.map (ex_vv ad)).map fun v => v.category).sum ≤ 8 := by show 2 * 0 + _ ≤ 8; rw [ex_catsum rest hshr]; omega
      have hroom : (ex_rm d (h2.1.length - h'.1.length) (ex_tot h2.1 - ex_tot h'.1)).frames + 1 ≤ R.frames ∧ 8 + (nL' + 11) + (ex_rm d (h2.1.length - h'.1.length) (ex_tot h2.1 - ex_tot h'.1)).locals ≤ R.locals := ⟨by show d + 1 + 1 ≤ _; omega, by show 8 + (nL' + 11) + 64 * (d + 1) ≤ _; omega⟩
      have hf : cells + (h2.1.length - h'.1.length) ≤ R.cells ∧ slots + (ex_tot h2.1 - ex_tot h'.1) ≤ R.slots := ⟨by omega, by omega⟩
      have fin : va_Run p l e R s m args below meth c H locs cells slots (h2.1.length - h'.1.length) (ex_tot h2.1 - ex_tot h'.1) (F0 m pc L (st.map (ex_vv ad))) (rest.map (ex_vv ad)) (ex_Qc D A1 A2 A t nn g ad h' vs h2 (as.map (ex_vv ad)).toArray) A → W p l e R s m args below meth c H locs cells slots Q (F0 m pc L (st.map (ex_vv ad))) := fun hr => sw_back hr Y (fun v hv => y8 v (hallr v hv)) hg1 (fun ad' H' locs' hext Y' => kk ad' H' locs' _ _ hext (by omega) (by omega) Y')
      rcases hraw with ⟨rfl, rfl⟩ | ⟨rfl, rfl⟩ | ⟨rfl, rfl⟩
      · -- static
        rcases hlk with hlk | ⟨hlk, -⟩
        · have hcb := callB_of (R := R) (rm := ex_rm d (h2.1.length - h'.1.length) (ex_tot h2.1 - ex_tot h'.1)) (own := ex_nm own) na hts (ex_good (y := y) (cc := cc') (mL := nL') (ret := ex_rf rt') my6) rfl rfl rfl (hts _ my7) hlk ⟨my4.1, my4.2.1, my4.2.2⟩ hroom
          refine fin (va_runS (As := as.map (ex_vv ad)) S M ⟨hcb, hts _ (my8 rfl)⟩ ⟨ex_E.blind, hpre⟩ rfl (by rw [List.length_map]; exact hlen) hL.1 ?_ hW8 hd hf)
          show st.map (ex_vv ad) = _
          rw [hstk, List.map_append, List.map_reverse]
        · cases hlk
      · -- instance
        rcases hlk with hlk | ⟨hlk, -⟩
        · obtain ⟨a0, as0, f0, ha0, hf0⟩ := hrecv (by decide)
          subst ha0
          have ha4 : 4 ≤ a0 := by
            rcases Nat.lt_or_ge a0 4 with hz | hz
            · rw [(hB.2.1 a0 hz).2.1] at hf0; cases hf0
            · exact hz
          have hvw : ∃ T : u_T, ∃ N : Nat, vwCl[own']? = some (ex_nm own', T, N) := by
            have hlt9 : own' < 13 := by
              obtain ⟨r9, q1, -⟩ := hP (a0 - 4) _ (ex_W_obj ha4 hf0)
              have := (List.getElem?_eq_some_iff.mp q1).1
              rw [nw_cf.2] at this
              exact this
            have hf9 : ex_cf[own']? = some (ex_cf[own']'(by rw [nw_cf.1]; exact hlt9)) := List.getElem?_eq_getElem _
            obtain ⟨T, t1, -⟩ := nw_of hf9
            exact ⟨T, _, t1⟩
          obtain ⟨T, N, hvw⟩ := hvw
          have hcb := callB_of (R := R) (rm := ex_rm d (h2.1.length - h'.1.length) (ex_tot h2.1 - ex_tot h'.1)) (own := ex_nm own) (na - 1) hts (ex_good (y := y) (cc := cc') (mL := nL') (ret := ex_rf rt') my6) rfl rfl rfl (hts _ my7) hlk ⟨my4.1, my4.2.1, my4.2.2⟩ hroom
          have hrec := va_recv hK hP hvw (ex_W_obj (A1 := A1) (A2 := A2) (ad := ad) ha4 hf0)
          refine fin (va_runV (C := y.cls) (b := ad a0) (As := as0.map (ex_vv ad)) S M ⟨hcb, hts _ (my9 (by decide)), hts _ (my10 rfl)⟩ ⟨ex_E.blind, by rw [my2]; exact hrec, hpre⟩ rfl (by rw [List.length_map, ← hlen, List.length_cons]; omega) hL.1 ?_ hW8 hd hf)
          show st.map (ex_vv ad) = _
          rw [hstk, List.map_append, List.map_reverse, List.map_cons, List.reverse_cons, List.append_assoc]
          rfl
        · cases hlk
      · -- constructor
        obtain ⟨a0, as0, f0, ha0, hf0⟩ := hrecv (by decide)
        subst ha0
        have hstk2 : (F0 m pc L (st.map (ex_vv ad))).stack = (as0.map (ex_vv ad)).reverse ++ .ref (ad a0) :: rest.map (ex_vv ad) := by
          show st.map (ex_vv ad) = _
          rw [hstk, List.map_append, List.map_reverse, List.map_cons, List.reverse_cons, List.append_assoc]
          rfl
        have hlen2 : (as0.map (ex_vv ad)).length = na - 1 := by rw [List.length_map, ← hlen, List.length_cons]; omega
        have hrt0 := (my5e rfl).2
        subst hrt0
        rcases hlk with hlk | ⟨-, hlk⟩
        · have hcb := cwI (R := R) (rm := ex_rm d (h2.1.length - h'.1.length) (ex_tot h2.1 - ex_tot h'.1)) (own := ex_nm own) (na - 1) hts (ex_good (y := y) (cc := cc') (mL := nL') (ret := none) my6) rfl rfl rfl (hts _ my7) hlk (hts _ (my9 (by decide))) (my5e rfl).1 ⟨my4.1, my4.2.1, my4.2.2⟩ hroom
          exact fin (va_runI (b := ad a0) (As := as0.map (ex_vv ad)) S M hcb ⟨ex_E.blind, hpre⟩ rfl hlen2 hL.1 hstk2 hW8 hd hf)
        · have hcb := va_cnB (R := R) (rm := ex_rm d (h2.1.length - h'.1.length) (ex_tot h2.1 - ex_tot h'.1)) (own := ex_nm own) (na - 1) hts (ex_good (y := y) (cc := cc') (mL := nL') (ret := none) my6) rfl rfl rfl hlk (hts _ my7) ⟨my4.1, my4.2.1, my4.2.2⟩ hroom
          exact fin (va_runIN (b := ad a0) (As := as0.map (ex_vv ad)) S M ⟨hcb, (my5e rfl).1, hts _ (my9 (by decide))⟩ ⟨ex_E.blind, hpre⟩ rfl hlen2 hL.1 hstk2 hW8 hd hf)
    · rw [if_neg hcond] at he; cases he
end XM
/-- instructions that only go on -/
def ex_isN : Instr → Bool
  | .if_icmp _ _ => false
  | .ifCond _ _ => false
  | .goto _ => false
  | .goto_w _ => false
  | .tableswitch _ _ _ _ => false
  | .lookupswitch _ _ => false
  | .invokestatic _ => false
  | .invokevirtual _ => false
  | .invokespecial _ => false
  | .ireturn => false
  | .return_ => false
  | .ret _ => false
  | _ => true
theorem ex_st_N {rt : Nat} {ls st : List ex_V} {h : ex_H} {i : Instr} (hi : ex_isN i = true) {o : (List ex_V × List ex_V × ex_H) ⊕ ((Nat × List ex_V × List ex_V × ex_H) ⊕ ((Nat × List ex_V × List ex_V × ex_H) ⊕ ex_R))} (he : ex_st rt ls st h i = some o) : ∃ ls' st' h', ex_st rt ls st h i = oN ls' st' h' := by
  rw [he]
  unfold ex_st at he
  split at he
  all_goals first
    | (cases he; done)
    | (cases hi; done)
    | (obtain ⟨st', rfl⟩ := ex_bin_gr he; exact ⟨_, _, _, rfl⟩)
    | (cases he; exact ⟨_, _, _, rfl⟩)
    | (repeat' split at he
       all_goals first
         | (cases he; done)
         | (cases he; exact ⟨_, _, _, rfl⟩))
theorem ex_st_len {rt : Nat} {ls st ls' st' : List ex_V} {h h' : ex_H} {i : Instr} (he : ex_st rt ls st h i = oN ls' st' h') : ls'.length = ls.length := by
  unfold ex_st at he
  split at he
  all_goals first
    | (cases he; done)
    | (obtain ⟨st9, h9⟩ := ex_bin_gr he; cases h9; rfl)
    | (cases he; rfl)
    | (exfalso; unfold ex_ca at he; repeat' split at he
       all_goals (cases he; done))
    | (repeat' split at he
       all_goals first
         | (cases he; done)
         | (cases he; rfl)
         | (cases he; exact List.length_set)
         | (unfold ex_if at he; split at he <;> (dsimp only [ex_br] at he; split at he <;> first | (cases he; done) | (cases he; rfl))))
theorem ck_step {own kd : Nat} {pcs : List Nat} {law : Bool} {cc : ByteArray} {pc : Nat} {i : Instr} {is : List Instr} (h : (match decode cc pc with
    | .ok (raw, len) => (rw_i own kd pcs pc i).any (fun q => decide (q = (raw, len))) && (ck_t pcs i && ck_L own kd pcs law cc (pc + len) is)
    | _ => false) = true) : ∃ (raw : Instr) (len : Nat), decode cc pc = .ok (raw, len) ∧ (raw, len) ∈ rw_i own kd pcs pc i ∧ ck_t pcs i = true ∧ ck_L own kd pcs law cc (pc + len) is = true := by
  split at h
  · next raw len hd =>
    simp only [Bool.and_eq_true] at h
    exact ⟨raw, len, hd, ex_any h.1, h.2.1, h.2.2⟩
  · cases h
def ex_KK (p : Program) (l : Launch) (e : Env) (R : Room) (s : State) (m : MethodId) (args : Array Value) (below : List Frame) (meth : Method) (c : Code) (Q : State → Prop) (D : va_G) (A1 A2 : ClassId) (A : Nat → Prop) (t nn : Nat → Nat) (g : Nat → Int → Int) (mi nL rt cF sF : Nat) (cc : ByteArray) (pcs : List Nat) (r : ex_R) (ad : Nat → Nat) (n : Nat) : Prop :=
  (∀ (ad' : Nat → Nat) (L' : Array Slot) (H' : Heap) (locs' : List Loc) (pc' : Nat) (z : Int), r.1 = [.inl z] → (rt = 1 ∨ (rt = 2 ∧ (z = 0 ∨ z = 1))) → decode cc pc' = .ok (.ireturn, 1) → ex_ext ad ad' n → ex_Y s D A1 A2 A t nn g nL ad' L' H' locs' [] r.1 r.2 → W p l e R s m args below meth c H' locs' cF sF Q (F0 m pc' L' [.int (Int32.ofInt z)])) ∧
  (∀ (ad' : Nat → Nat) (L' : Array Slot) (H' : Heap) (locs' : List Loc) (pc' : Nat), r.1 = [] → rt = 0 → decode cc pc' = .ok (.return_, 1) → ex_ext ad ad' n → ex_Y s D A1 A2 A t nn g nL ad' L' H' locs' [] [] r.2 → W p l e R s m args below meth c H' locs' cF sF Q (F0 m pc' L' [])) ∧
  (∀ (ad' : Nat → Nat) (L' : Array Slot) (H' : Heap) (locs' : List Loc) (pc' : Nat), mi = 241 → pcs[1]? = some pc' → r.1.length = nL → ex_ext ad ad' n → ex_Y s D A1 A2 A t nn g nL ad' L' H' locs' r.1 [] r.2 → W p l e R s m args below meth c H' locs' cF sF Q (F0 m pc' L' []))
theorem ex_KK.mono {p : Program} {l : Launch} {e : Env} {R : Room} {s : State} {m : MethodId} {args : Array Value} {below : List Frame} {meth : Method} {c : Code} {Q : State → Prop} {D : va_G} {A1 A2 : ClassId} {A : Nat → Prop} {t nn : Nat → Nat} {g : Nat → Int → Int} {mi nL rt cF sF : Nat} {cc : ByteArray} {pcs : List Nat} {r : ex_R} {ad ad1 : Nat → Nat} {n n1 : Nat} (h : ex_KK p l e R s m args below meth c Q D A1 A2 A t nn g mi nL rt cF sF cc pcs r ad n) (hx : ex_ext ad ad1 n) (hn : n ≤ n1) : ex_KK p l e R s m args below meth c Q D A1 A2 A t nn g mi nL rt cF sF cc pcs r ad1 n1 := by
  have tr : ∀ ad', ex_ext ad1 ad' n1 → ex_ext ad ad' n := fun ad' h9 k hk => (h9 k (by omega)).trans (hx k hk)
  exact ⟨fun ad' L' H' locs' pc' z a1 a2 a3 a4 a5 => h.1 ad' L' H' locs' pc' z a1 a2 a3 (tr ad' a4) a5, fun ad' L' H' locs' pc' a1 a2 a3 a4 a5 => h.2.1 ad' L' H' locs' pc' a1 a2 a3 (tr ad' a4) a5, fun ad' L' H' locs' pc' a1 a2 a3 a4 a5 => h.2.2 ad' L' H' locs' pc' a1 a2 a3 (tr ad' a4) a5⟩
theorem ex_Y.no {s : State} {D : va_G} {A1 A2 : ClassId} {A : Nat → Prop} {t nn : Nat → Nat} {g : Nat → Int → Int} {nL : Nat} {ad : Nat → Nat} {L : Array Slot} {H : Heap} {locs : List Loc} {ls st : List ex_V} {h : ex_H} (Y : ex_Y s D A1 A2 A t nn g nL ad L H locs ls st h) : ex_Y s D A1 A2 A t nn g nL ad L H locs [] st h := by
  obtain ⟨y1, y2, y3, y4, y5, y6, y7, y8⟩ := Y
  exact ⟨y1, y2, y3, y4, ex_has_sub y5 (fun q hq => by cases hq), Nat.zero_le _, (fun v hv => by cases hv), y8⟩
theorem ck_tgt {pcs : List Nat} {t : Int} (h : decide (t.toNat < pcs.length) = true) : ∃ pt, pcs[t.toNat]? = some pt := ⟨_, List.getElem?_eq_getElem (of_decide_eq_true h)⟩
theorem ck_lsw {pcs : List Nat} {pc : Nat} {df : Int} (a : Int) : ∀ (ps : List (Int × Int)), (ps.zip (ps.drop 1)).all (fun (a, next) => a.1 < next.1) = true → decide (df.toNat < pcs.length) = true → ps.all (fun q => decide (q.2.toNat < pcs.length)) = true →
    ((ps.map (fun q => (q.1, ck_of pcs pc q.2))).zip ((ps.map (fun q => (q.1, ck_of pcs pc q.2))).drop 1)).all (fun (a, next) => a.1 < next.1) = true ∧ (∃ pt, pcs[(Op.lookupswitch.offset ps df a).toNat]? = some pt) ∧ Op.lookupswitch.offset (ps.map (fun q => (q.1, ck_of pcs pc q.2))) (ck_of pcs pc df) a = ck_of pcs pc (Op.lookupswitch.offset ps df a) := by
  intro ps h1 h2 h3
  refine ⟨?_, ?_⟩
  · rw [← List.map_drop, List.zip_map, List.all_map]
    exact h1
  · clear h1
    induction ps with
    | nil => exact ⟨ck_tgt h2, rfl⟩
    | cons q ps ih =>
      rw [List.all_cons, Bool.and_eq_true] at h3
      obtain ⟨i1, i2⟩ := ih h3.2
      rw [List.map_cons, Op.lookupswitch.offset_cons, Op.lookupswitch.offset_cons]
      by_cases hq : q.1 = a
      · simp only [if_pos hq]
        refine ⟨ck_tgt h3.1, ?_⟩
        first | trivial | rfl
      · simp only [if_neg hq]
        exact ⟨i1, i2⟩
set_option maxHeartbeats 4000000 in
theorem ex_snd_all (l : Launch) : ∀ n, ex_snd l n := by
  intro n
  induction n with
  | zero =>
    intro mi d b ls st h r hrun
    simp [ex_run] at hrun
  | succ n ih =>
    intro mi d b ls st h r hrun hck kd own na nL rt y cc mL' ret pcs hmt hmy hpc p e R s m args below meth c Q D A1 A2 A t nn g X hR1 hR2 ad L H locs cells slots cF sF Y hlsn hc hs hcF hsF pc hpcb K1 K2 K3
    have KK : ex_KK p l e R s m args below meth c Q D A1 A2 A t nn g mi nL rt cF sF cc pcs r ad h.1.length := ⟨K1, K2, K3⟩
    clear K1 K2 K3
    have hrt : ex_rt mi = rt := by unfold ex_rt; rw [hmt]
    have hck0 := hck
    unfold ck_M at hck
    rw [hmt, hmy, hpc] at hck
    unfold ex_run at hrun
    rw [hrt] at hrun
    have gJ : ∀ b ls st h r, ex_run n d mi b ls st h = some r → ex_gr h.1 r.2.1 := fun b ls st h r e9 => ex_run_gr _ _ _ _ _ _ _ _ e9
    have gC : ∀ m' as h r, ex_k (fun d' => ex_run n d' m' 0 (ex_fr m' as) [] h) d = some r → ex_gr h.1 r.2.1 := by
      intro m' as h r e9
      cases d with
      | zero => cases e9
      | succ d => exact ex_run_gr _ _ _ _ _ _ _ _ e9
    -- along a block
    have inner : ∀ (is : List Instr) (pc : Nat) (ls st : List ex_V) (h : ex_H) (ad : Nat → Nat) (L : Array Slot) (H : Heap) (locs : List Loc) (cells slots : Nat), ck_L own kd pcs (decide (mi = 241)) cc pc is = true →
        ex_xs rt (fun b' ls' st' h' => ex_run n d mi b' ls' st' h') (fun m' as h' => ex_k (fun d' => ex_run n d' m' 0 (ex_fr m' as) [] h') d) is ls st h = some r →
        ex_Y s D A1 A2 A t nn g nL ad L H locs ls st h → ls.length = nL → cells + r.2.1.length = cF + h.1.length → slots + ex_tot r.2.1 = sF + ex_tot h.1 → ex_KK p l e R s m args below meth c Q D A1 A2 A t nn g mi nL rt cF sF cc pcs r ad h.1.length →
        W p l e R s m args below meth c H locs cells slots Q (F0 m pc L (st.map (ex_vv ad))) := by
      clear hc hs Y KK hrun hpcb hlsn
      intro is
      induction is with
      | nil => intro pc ls st h ad L H locs cells slots _ hxs; cases hxs
      | cons i is ihs =>
        intro pc ls st h ad L H locs cells slots hckL hxs Y hlsn hc hs KK
        -- what goes on
        have cont : ∀ (len : Nat) (ls' st' : List ex_V) (h' : ex_H), ck_L own kd pcs (decide (mi = 241)) cc (pc + len) is = true → ex_st rt ls st h i = oN ls' st' h' → ex_K p l e R s m args below meth c Q D A1 A2 A t nn g nL cells slots ad h (pc + len) ls' st' h' := by
          intro len ls' st' h' hr9 hst ad' L' H' locs' cells' slots' hext hcc hss Y'
          have hx9 := hxs
          unfold ex_xs at hx9
          rw [hst] at hx9
          exact ihs (pc + len) ls' st' h' ad' L' H' locs' cells' slots' hr9 hx9 Y' (by rw [ex_st_len hst]; exact hlsn) (by omega) (by omega) (KK.mono hext (ex_st_gr hst).1)
        have budget : ∀ (ls' st' : List ex_V) (h' : ex_H), ex_st rt ls st h i = oN ls' st' h' → cells + h'.1.length ≤ R.cells + h.1.length ∧ slots + ex_tot h'.1 ≤ R.slots + ex_tot h.1 := by
          intro ls' st' h' hst
          have hx9 := hxs
          unfold ex_xs at hx9
          rw [hst] at hx9
          have hgr := ex_xs_gr gJ gC _ _ _ _ _ hx9
          have g1 := hgr.1
          have g2 := hgr.2
          constructor <;> omega
        -- a jump
        have jump : ∀ (b' : Nat) (pt : Nat) (st' : List ex_V), pcs[b']? = some pt → ex_run n d mi b' ls st' h = some r → (∀ v ∈ st', ex_rg h.1.length v) → W p l e R s m args below meth c H locs cells slots Q (F0 m pt L (st'.map (ex_vv ad))) := fun b' pt st' hb' hr9 hv9 =>
          ih mi d b' ls st' h r hr9 hck0 kd own na nL rt y cc mL' ret pcs hmt hmy hpc p e R s m args below meth c Q D A1 A2 A t nn g X hR1 hR2 ad L H locs cells slots cF sF (Y.sk hv9) hlsn hc hs hcF hsF pt hb' KK.1 KK.2.1 KK.2.2
        have some9 : ∃ o, ex_st rt ls st h i = some o := by
          cases hst : ex_st rt ls st h i with
          | none => unfold ex_xs at hxs; rw [hst] at hxs; cases hxs
          | some o => exact ⟨o, rfl⟩
        obtain ⟨o9, ho9⟩ := some9
        have y8 := Y.2.2.2.2.2.2.2
        -- a call
        have call9 : ∀ (k mi' : Nat), (i = .invokestatic mi' ∧ k = 0) ∨ (i = .invokevirtual mi' ∧ k = 1) ∨ (i = .invokespecial mi' ∧ k = 2) → ex_ca k mi' st h = some o9 → ∀ (raw : Instr) (len : Nat), decode cc pc = .ok (raw, len) → (raw, len) ∈ rw_i own kd pcs pc i → ck_L own kd pcs (decide (mi = 241)) cc (pc + len) is = true → W p l e R s m args below meth c H locs cells slots Q (F0 m pc L (st.map (ex_vv ad))) := by
          intro k mi' hi hca raw len hd hm hr9
          have hoc : ∃ as rest, o9 = .inr (.inr (.inl (mi', as, rest, h))) := by
            unfold ex_ca at hca
            repeat' split at hca
            all_goals first | (cases hca; done) | (cases hca; exact ⟨_, _, rfl⟩)
          obtain ⟨as, rest, rfl⟩ := hoc
          have hx9 := hxs
          unfold ex_xs at hx9
          rw [ho9] at hx9
          dsimp only at hx9
          cases d with
          | zero => cases hx9
          | succ d' =>
            cases hrun9 : ex_run n d' mi' 0 (ex_fr mi' as) [] h with
            | none =>
              rw [show ex_k (fun d' => ex_run n d' mi' 0 (ex_fr mi' as) [] h) (d' + 1) = none from hrun9] at hx9
              cases hx9
            | some q9 =>
              obtain ⟨vs, h2⟩ := q9
              rw [show ex_k (fun d' => ex_run n d' mi' 0 (ex_fr mi' as) [] h) (d' + 1) = some (vs, h2) from hrun9] at hx9
              dsimp only at hx9
              have hgr := ex_xs_gr gJ gC _ _ _ _ _ hx9
              have hgr2 := ex_run_gr _ _ _ _ _ _ _ _ hrun9
              have g1 := hgr.1
              have g2 := hgr.2
              have g3 := hgr2.1
              have g4 := hgr2.2
              dsimp only at g1 g2 g3 g4
              exact sw_call (k := k) ih (by rcases hi with ⟨a1, a2⟩ | ⟨a1, a2⟩ | ⟨a1, a2⟩; exact Or.inl ⟨a2, a1⟩; exact Or.inr (Or.inl ⟨a2, a1⟩); exact Or.inr (Or.inr ⟨a2, a1⟩)) X Y hd hm hca hrun9 (by omega) (by omega) (by omega) (by omega) (fun ad' H' locs' cells' slots' hext hcc hss Y' => ihs (pc + len) ls (vs ++ rest) h2 ad' L H' locs' cells' slots' hr9 hx9 Y' hlsn (by omega) (by omega) (KK.mono hext g3))
        cases i
        case iload k =>
          obtain ⟨raw, len, hd, hm, -, hr9⟩ := ck_step hckL
          obtain ⟨ls', st', h', hst⟩ := ex_st_N rfl ho9
          exact sw_iload X Y hd hm hst (cont len ls' st' h' hr9 hst)
        case aload k =>
          obtain ⟨raw, len, hd, hm, -, hr9⟩ := ck_step hckL
          obtain ⟨ls', st', h', hst⟩ := ex_st_N rfl ho9
          exact sw_aload X Y hd hm hst (cont len ls' st' h' hr9 hst)
        case istore k =>
          obtain ⟨raw, len, hd, hm, -, hr9⟩ := ck_step hckL
          obtain ⟨ls', st', h', hst⟩ := ex_st_N rfl ho9
          exact sw_istore X Y hd hm hst (cont len ls' st' h' hr9 hst)
        case astore k =>
          obtain ⟨raw, len, hd, hm, -, hr9⟩ := ck_step hckL
          obtain ⟨ls', st', h', hst⟩ := ex_st_N rfl ho9
          exact sw_astore X Y hd hm hst (cont len ls' st' h' hr9 hst)
        case iinc k x =>
          obtain ⟨raw, len, hd, hm, -, hr9⟩ := ck_step hckL
          obtain ⟨ls', st', h', hst⟩ := ex_st_N rfl ho9
          exact sw_iinc X Y hd hm hst (cont len ls' st' h' hr9 hst)
        case sipush v =>
          obtain ⟨raw, len, hd, hm, -, hr9⟩ := ck_step hckL
          obtain ⟨ls', st', h', hst⟩ := ex_st_N rfl ho9
          exact sw_push X Y hd hm hst (cont len ls' st' h' hr9 hst)
        case getfield q =>
          obtain ⟨raw, len, hd, hm, -, hr9⟩ := ck_step hckL
          obtain ⟨ls', st', h', hst⟩ := ex_st_N rfl ho9
          exact sw_get X Y hd hm hst (cont len ls' st' h' hr9 hst)
        case putfield q =>
          obtain ⟨raw, len, hd, hm, -, hr9⟩ := ck_step hckL
          obtain ⟨ls', st', h', hst⟩ := ex_st_N rfl ho9
          exact sw_put X Y hd hm hst (cont len ls' st' h' hr9 hst)
        case getstatic k =>
          obtain ⟨raw, len, hd, hm, -, hr9⟩ := ck_step hckL
          obtain ⟨ls', st', h', hst⟩ := ex_st_N rfl ho9
          exact sw_gets X Y hd hm hst (cont len ls' st' h' hr9 hst)
        case ifnull tg =>
          obtain ⟨raw, len, hd, hm, -, hr9⟩ := ck_step hckL
          obtain ⟨ls', st', h', hst⟩ := ex_st_N rfl ho9
          exact sw_ifnull X Y hd hm hst (cont len ls' st' h' hr9 hst)
        case new k =>
          obtain ⟨raw, len, hd, hm, -, hr9⟩ := ck_step hckL
          obtain ⟨ls', st', h', hst⟩ := ex_st_N rfl ho9
          exact sw_new X Y hd hm hst (budget ls' st' h' hst).1 (budget ls' st' h' hst).2 (cont len ls' st' h' hr9 hst)
        case anewarray k =>
          obtain ⟨raw, len, hd, hm, -, hr9⟩ := ck_step hckL
          obtain ⟨ls', st', h', hst⟩ := ex_st_N rfl ho9
          exact sw_anew X Y hd hm hst (budget ls' st' h' hst).1 (budget ls' st' h' hst).2 (cont len ls' st' h' hr9 hst)
        case invokedynamic k =>
          obtain ⟨raw, len, hd, hm, -, hr9⟩ := ck_step hckL
          obtain ⟨ls', st', h', hst⟩ := ex_st_N rfl ho9
          exact sw_dyn (by omega) (by omega) X Y hd hm hst (cont len ls' st' h' hr9 hst)
        case newarray at9 =>
          cases at9
          case int =>
            obtain ⟨raw, len, hd, hm, -, hr9⟩ := ck_step hckL
            obtain ⟨ls', st', h', hst⟩ := ex_st_N rfl ho9
            cases List.mem_singleton.mp hm
            exact sw_newa X Y hd hst (budget ls' st' h' hst).1 (budget ls' st' h' hst).2 (cont _ ls' st' h' hr9 hst)
          all_goals cases ho9
        case i2l =>
          obtain ⟨raw, len, hd, hm, -, hr9⟩ := ck_step hckL
          obtain ⟨ls', st', h', hst⟩ := ex_st_N rfl ho9
          cases List.mem_singleton.mp hm
          exact sw_i2l X Y hd hst (cont _ ls' st' h' hr9 hst)
        case ladd =>
          obtain ⟨raw, len, hd, hm, -, hr9⟩ := ck_step hckL
          obtain ⟨ls', st', h', hst⟩ := ex_st_N rfl ho9
          cases List.mem_singleton.mp hm
          exact sw_ladd X Y hd hst (cont _ ls' st' h' hr9 hst)
        case lcmp =>
          obtain ⟨raw, len, hd, hm, -, hr9⟩ := ck_step hckL
          obtain ⟨ls', st', h', hst⟩ := ex_st_N rfl ho9
          cases List.mem_singleton.mp hm
          exact sw_lcmp X Y hd hst (cont _ ls' st' h' hr9 hst)
        case dup =>
          obtain ⟨raw, len, hd, hm, -, hr9⟩ := ck_step hckL
          obtain ⟨ls', st', h', hst⟩ := ex_st_N rfl ho9
          cases List.mem_singleton.mp hm
          exact sw_dup X Y hd hst (cont _ ls' st' h' hr9 hst)
        case dup2 =>
          obtain ⟨raw, len, hd, hm, -, hr9⟩ := ck_step hckL
          obtain ⟨ls', st', h', hst⟩ := ex_st_N rfl ho9
          cases List.mem_singleton.mp hm
          exact sw_dup2 X Y hd hst (cont _ ls' st' h' hr9 hst)
        case pop =>
          obtain ⟨raw, len, hd, hm, -, hr9⟩ := ck_step hckL
          obtain ⟨ls', st', h', hst⟩ := ex_st_N rfl ho9
          cases List.mem_singleton.mp hm
          exact sw_pop X Y hd hst (cont _ ls' st' h' hr9 hst)
        case arraylength =>
          obtain ⟨raw, len, hd, hm, -, hr9⟩ := ck_step hckL
          obtain ⟨ls', st', h', hst⟩ := ex_st_N rfl ho9
          cases List.mem_singleton.mp hm
          exact sw_alen X Y hd hst (cont _ ls' st' h' hr9 hst)
        case iaload =>
          obtain ⟨raw, len, hd, hm, -, hr9⟩ := ck_step hckL
          obtain ⟨ls', st', h', hst⟩ := ex_st_N rfl ho9
          cases List.mem_singleton.mp hm
          exact sw_iald X Y hd hst (cont _ ls' st' h' hr9 hst)
        case iastore =>
          obtain ⟨raw, len, hd, hm, -, hr9⟩ := ck_step hckL
          obtain ⟨ls', st', h', hst⟩ := ex_st_N rfl ho9
          cases List.mem_singleton.mp hm
          exact sw_iast X Y hd hst (cont _ ls' st' h' hr9 hst)
        case aaload =>
          obtain ⟨raw, len, hd, hm, -, hr9⟩ := ck_step hckL
          obtain ⟨ls', st', h', hst⟩ := ex_st_N rfl ho9
          cases List.mem_singleton.mp hm
          exact sw_aald X Y hd hst (cont _ ls' st' h' hr9 hst)
        case aastore =>
          obtain ⟨raw, len, hd, hm, -, hr9⟩ := ck_step hckL
          obtain ⟨ls', st', h', hst⟩ := ex_st_N rfl ho9
          cases List.mem_singleton.mp hm
          exact sw_aast X Y hd hst (cont _ ls' st' h' hr9 hst)
        case iadd =>
          obtain ⟨raw, len, hd, hm, -, hr9⟩ := ck_step hckL
          obtain ⟨ls', st', h', hst⟩ := ex_st_N rfl ho9
          cases List.mem_singleton.mp hm
          exact sw_bin (F := (· + ·)) Y hst (fun a b => by rw [i_of, Int32.ofInt_add]) (fun a b => i_wr _) (fun k9 => lv_iadd X.1 X.2.1 hd k9) (cont _ ls' st' h' hr9 hst)
        case isub =>
          obtain ⟨raw, len, hd, hm, -, hr9⟩ := ck_step hckL
          obtain ⟨ls', st', h', hst⟩ := ex_st_N rfl ho9
          cases List.mem_singleton.mp hm
          exact sw_bin (F := (· - ·)) Y hst (fun a b => by rw [i_of, Int32.ofInt_sub]) (fun a b => i_wr _) (fun k9 => lv_isub X.1 X.2.1 hd k9) (cont _ ls' st' h' hr9 hst)
        case imul =>
          obtain ⟨raw, len, hd, hm, -, hr9⟩ := ck_step hckL
          obtain ⟨ls', st', h', hst⟩ := ex_st_N rfl ho9
          cases List.mem_singleton.mp hm
          exact sw_bin (F := (· * ·)) Y hst (fun a b => by rw [i_of, Int32.ofInt_mul]) (fun a b => i_wr _) (fun k9 => lv_imul X.1 X.2.1 hd k9) (cont _ ls' st' h' hr9 hst)
        case iand =>
          obtain ⟨raw, len, hd, hm, -, hr9⟩ := ck_step hckL
          obtain ⟨ls', st', h', hst⟩ := ex_st_N rfl ho9
          cases List.mem_singleton.mp hm
          exact sw_bin (F := (· &&& ·)) Y hst (fun a b => by unfold ex_and; rw [Int32.ofInt_toInt]) (fun a b => i_wr _) (fun k9 => lv_iand X.1 X.2.1 hd k9) (cont _ ls' st' h' hr9 hst)
        case ior =>
          obtain ⟨raw, len, hd, hm, -, hr9⟩ := ck_step hckL
          obtain ⟨ls', st', h', hst⟩ := ex_st_N rfl ho9
          cases List.mem_singleton.mp hm
          exact sw_bin (F := (· ||| ·)) Y hst (fun a b => by unfold ex_or; rw [Int32.ofInt_toInt]) (fun a b => i_wr _) (fun k9 => lv_ior X.1 X.2.1 hd k9) (cont _ ls' st' h' hr9 hst)
        case ixor =>
          obtain ⟨raw, len, hd, hm, -, hr9⟩ := ck_step hckL
          obtain ⟨ls', st', h', hst⟩ := ex_st_N rfl ho9
          cases List.mem_singleton.mp hm
          exact sw_bin (F := (· ^^^ ·)) Y hst (fun a b => by unfold ex_xor; rw [Int32.ofInt_toInt]) (fun a b => i_wr _) (fun k9 => lv_ixor X.1 X.2.1 hd k9) (cont _ ls' st' h' hr9 hst)
        case ishl =>
          obtain ⟨raw, len, hd, hm, -, hr9⟩ := ck_step hckL
          obtain ⟨ls', st', h', hst⟩ := ex_st_N rfl ho9
          cases List.mem_singleton.mp hm
          exact sw_bin (F := (fun x y => x <<< (y &&& 31))) Y hst (fun a b => by unfold ex_shl; rw [Int32.ofInt_toInt]) (fun a b => i_wr _) (fun k9 => lv_ishl X.1 X.2.1 hd k9) (cont _ ls' st' h' hr9 hst)
        case ishr =>
          obtain ⟨raw, len, hd, hm, -, hr9⟩ := ck_step hckL
          obtain ⟨ls', st', h', hst⟩ := ex_st_N rfl ho9
          cases List.mem_singleton.mp hm
          exact sw_bin (F := (fun x y => x >>> (y &&& 31))) Y hst (fun a b => by unfold ex_shr; rw [Int32.ofInt_toInt]) (fun a b => i_wr _) (fun k9 => lv_ishr X.1 X.2.1 hd k9) (cont _ ls' st' h' hr9 hst)
        case iushr =>
          obtain ⟨raw, len, hd, hm, -, hr9⟩ := ck_step hckL
          obtain ⟨ls', st', h', hst⟩ := ex_st_N rfl ho9
          cases List.mem_singleton.mp hm
          exact sw_bin (F := (fun x y => (x.toUInt32 >>> (y.toUInt32 &&& Int32.toUInt32 31)).toInt32)) Y hst (fun a b => by unfold ex_ushr; rw [Int32.ofInt_toInt]) (fun a b => i_wr _) (fun k9 => lv_iushr X.1 X.2.1 hd rfl k9) (cont _ ls' st' h' hr9 hst)
        case idiv =>
          obtain ⟨raw, len, hd, hm, -, hr9⟩ := ck_step hckL
          obtain ⟨ls', st', h', hst⟩ := ex_st_N rfl ho9
          cases List.mem_singleton.mp hm
          exact sw_div (F := (fun x y => x / y)) (f := ex_div) hst Y (fun a b => by unfold ex_div; rw [Int32.ofInt_toInt]) (fun a b => i_wr _) (fun hne k9 => lv_idiv X.1 X.2.1 hd hne k9) (cont _ ls' st' h' hr9 hst)
        case irem =>
          obtain ⟨raw, len, hd, hm, -, hr9⟩ := ck_step hckL
          obtain ⟨ls', st', h', hst⟩ := ex_st_N rfl ho9
          cases List.mem_singleton.mp hm
          exact sw_div (F := (fun x y => x - x / y * y)) (f := ex_rem) hst Y (fun a b => by unfold ex_rem; rw [Int32.ofInt_toInt]) (fun a b => i_wr _) (fun hne k9 => lv_irem X.1 X.2.1 hd hne k9) (cont _ ls' st' h' hr9 hst)
        case invokestatic mi' =>
          obtain ⟨raw, len, hd, hm, -, hr9⟩ := ck_step hckL
          exact call9 0 mi' (Or.inl ⟨rfl, rfl⟩) ho9 raw len hd hm hr9
        case invokevirtual mi' =>
          obtain ⟨raw, len, hd, hm, -, hr9⟩ := ck_step hckL
          exact call9 1 mi' (Or.inr (Or.inl ⟨rfl, rfl⟩)) ho9 raw len hd hm hr9
        case invokespecial mi' =>
          obtain ⟨raw, len, hd, hm, -, hr9⟩ := ck_step hckL
          exact call9 2 mi' (Or.inr (Or.inr ⟨rfl, rfl⟩)) ho9 raw len hd hm hr9
        case goto t0 =>
          obtain ⟨raw, len, hd, hm, ht, hr9⟩ := ck_step hckL
          cases List.mem_singleton.mp hm
          obtain ⟨pt, hpt⟩ := ck_tgt ht
          exact lv_goto X.1 X.2.1 hd (ck_of_eq hpt) (jump _ pt st hpt hxs y8)
        case goto_w t0 => exact jump _ pc st (of_decide_eq_true hckL) hxs y8
        case if_icmp c0 t0 =>
          obtain ⟨raw, len, hd, hm, ht, hr9⟩ := ck_step hckL
          cases List.mem_singleton.mp hm
          obtain ⟨pt, hpt⟩ := ck_tgt ht
          rcases st with _ | ⟨b9 | b9 | b9, _ | ⟨a9 | a9 | a9, st0⟩⟩
          · cases ho9
          · cases ho9
          · obtain ⟨z1, z2, z3⟩ := ex_top2 y8
            refine sw_icmp X.1 X.2.1 z2 z1 hd hpt (fun hT9 => ?_) (fun hF9 => ?_)
            · have hst : ex_st rt ls (.inl b9 :: .inl a9 :: st0) h (.if_icmp c0 t0) = oJ t0.toNat ls st0 h := ex_if_t hT9
              unfold ex_xs at hxs
              rw [hst] at hxs
              exact jump _ pt st0 hpt hxs z3
            · have hst : ex_st rt ls (.inl b9 :: .inl a9 :: st0) h (.if_icmp c0 t0) = oN ls st0 h := ex_if_f hF9
              exact (cont 3 ls st0 h hr9 hst).go (Y.sk z3)
          all_goals cases ho9
        case ifCond c0 t0 =>
          obtain ⟨raw, len, hd, hm, ht, hr9⟩ := ck_step hckL
          cases List.mem_singleton.mp hm
          obtain ⟨pt, hpt⟩ := ck_tgt ht
          rcases st with _ | ⟨a9 | a9 | a9, st0⟩
          · cases ho9
          · obtain ⟨z2, z3⟩ := ex_top1 y8
            refine sw_if X.1 X.2.1 z2 hd hpt (fun hT9 => ?_) (fun hF9 => ?_)
            · have hst : ex_st rt ls (.inl a9 :: st0) h (.ifCond c0 t0) = oJ t0.toNat ls st0 h := ex_if_t hT9
              unfold ex_xs at hxs
              rw [hst] at hxs
              exact jump _ pt st0 hpt hxs z3
            · have hst : ex_st rt ls (.inl a9 :: st0) h (.ifCond c0 t0) = oN ls st0 h := ex_if_f hF9
              exact (cont 3 ls st0 h hr9 hst).go (Y.sk z3)
          all_goals cases ho9
        case tableswitch df lo hi of9 =>
          obtain ⟨raw, len, hd, hm, ht, hr9⟩ := ck_step hckL
          cases List.mem_singleton.mp hm
          simp only [ck_t, Bool.and_eq_true] at ht
          rcases st with _ | ⟨a9 | a9 | a9, st0⟩
          · cases ho9
          · obtain ⟨z2, z3⟩ := ex_top1 y8
            have hto : (Int32.ofInt a9).toInt = a9 := i_to z2
            by_cases hout : a9 < lo ∨ hi < a9
            · obtain ⟨pt, hpt⟩ := ck_tgt ht.1
              have hst : ex_st rt ls (.inl a9 :: st0) h (.tableswitch df lo hi of9) = oJ df.toNat ls st0 h := by dsimp only [ex_st]; rw [if_pos hout]
              unfold ex_xs at hxs
              rw [hst] at hxs
              exact lv_tableOut X.1 X.2.1 hd (by rw [hto]; exact hout) (ck_of_eq hpt) (jump _ pt st0 hpt hxs z3)
            · cases hof : of9[(a9 - lo).toNat]? with
              | none =>
                have hst : ex_st rt ls (.inl a9 :: st0) h (.tableswitch df lo hi of9) = none := by dsimp only [ex_st]; rw [if_neg hout, hof]
                rw [hst] at ho9
                cases ho9
              | some t9 =>
                have hmem : t9 ∈ of9.toList := by
                  rw [← Array.getElem?_toList] at hof
                  exact List.mem_of_getElem? hof
                obtain ⟨pt, hpt⟩ := ck_tgt (List.all_eq_true.mp ht.2 t9 hmem)
                have hst : ex_st rt ls (.inl a9 :: st0) h (.tableswitch df lo hi of9) = oJ t9.toNat ls st0 h := by dsimp only [ex_st]; rw [if_neg hout, hof]
                unfold ex_xs at hxs
                rw [hst] at hxs
                exact lv_tableIn X.1 X.2.1 hd (by rw [hto]; omega) (by rw [hto]; omega) (off := ck_of pcs pc t9) (by rw [hto, Array.getElem?_map, hof]; rfl) (ck_of_eq hpt) (jump _ pt st0 hpt hxs z3)
          all_goals cases ho9
        case lookupswitch df ps =>
          obtain ⟨raw, len, hd, hm, ht, hr9⟩ := ck_step hckL
          dsimp only [rw_i] at hm
          split at hm
          · next hord =>
            cases List.mem_singleton.mp hm
            simp only [ck_t, Bool.and_eq_true] at ht
            rcases st with _ | ⟨a9 | a9 | a9, st0⟩
            · cases ho9
            · obtain ⟨z2, z3⟩ := ex_top1 y8
              have hto : (Int32.ofInt a9).toInt = a9 := i_to z2
              obtain ⟨w1, w2, w3⟩ := ck_lsw (pcs := pcs) (pc := pc) (df := df) a9 ps.toList hord ht.1 ht.2
              obtain ⟨pt, hpt⟩ := w2
              exact lv_lookup X.1 X.2.1 hd (by rw [Array.toList_map]; exact w1) (off := ck_of pcs pc (Op.lookupswitch.offset ps.toList df a9)) (by rw [hto, Array.toList_map]; exact w3) (ck_of_eq hpt) (jump _ pt st0 hpt hxs z3)
            all_goals cases ho9
          · cases hm
        case ireturn =>
          obtain ⟨raw, len, hd, hm, ht, hr9⟩ := ck_step hckL
          cases List.mem_singleton.mp hm
          rcases st with _ | ⟨a9 | a9 | a9, _ | ⟨b9, st0⟩⟩
          · cases ho9
          · unfold ex_xs at hxs
            rw [ho9] at hxs
            dsimp only [ex_st] at ho9
            split at ho9
            · next hz =>
              cases ho9
              cases hxs
              have e1 : cells = cF := by dsimp only at hc; omega
              have e2 : slots = sF := by dsimp only at hs; omega
              subst e1
              subst e2
              exact KK.1 ad L H locs pc a9 rfl hz hd (fun _ _ => rfl) Y.no
            · cases ho9
          all_goals cases ho9
        case return_ =>
          obtain ⟨raw, len, hd, hm, ht, hr9⟩ := ck_step hckL
          cases List.mem_singleton.mp hm
          rcases st with _ | ⟨a9, st0⟩
          · unfold ex_xs at hxs
            rw [ho9] at hxs
            dsimp only [ex_st] at ho9
            split at ho9
            · next hz =>
              cases ho9
              cases hxs
              have e1 : cells = cF := by dsimp only at hc; omega
              have e2 : slots = sF := by dsimp only at hs; omega
              subst e1
              subst e2
              exact KK.2.1 ad L H locs pc rfl hz hd (fun _ _ => rfl) Y.no
            · cases ho9
          · cases ho9
        case ret k =>
          have hlaw : (decide (mi = 241) && decide (k = 1 ∧ pcs[1]? = some pc)) = true := hckL
          rw [Bool.and_eq_true] at hlaw
          rcases st with _ | ⟨a9, st0⟩
          · unfold ex_xs at hxs
            rw [ho9] at hxs
            dsimp only [ex_st] at ho9
            cases ho9
            cases hxs
            have e1 : cells = cF := by dsimp only at hc; omega
            have e2 : slots = sF := by dsimp only at hs; omega
            subst e1
            subst e2
            exact KK.2.2 ad L H locs pc (of_decide_eq_true hlaw.1) (of_decide_eq_true hlaw.2).2 hlsn (fun _ _ => rfl) Y
          · cases ho9
        all_goals cases ho9
    cases hbs : ex_bs[mi]? with
    | none => rw [hbs] at hck; cases hck
    | some bs =>
      rw [hbs] at hck
      dsimp only at hck
      simp only [Bool.and_eq_true, decide_eq_true_eq] at hck
      obtain ⟨q1, q2, q3⟩ := hck
      have hlt : b < bs.length := by rw [q1]; exact (List.getElem?_eq_some_iff.mp hpcb).1
      have hbk : ex_bk mi b = bs[b] := by
        have e9 : ex_bs.getD mi [] = bs := by rw [List.getD_eq_getElem?_getD, hbs]; rfl
        show (ex_bs.getD mi []).getD b [] = _
        rw [e9, List.getD_eq_getElem?_getD, List.getElem?_eq_getElem hlt]
        rfl
      rw [hbk] at hrun
      have hz : (List.zip pcs bs)[b]? = some (pc, bs[b]) := by
        rw [List.getElem?_zip_eq_some]
        exact ⟨hpcb, List.getElem?_eq_getElem hlt⟩
      have hcL := List.all_eq_true.mp q3 (pc, bs[b]) (List.mem_of_getElem? hz)
      exact inner bs[b] pc ls st h ad L H locs cells slots hcL hrun Y hlsn hc hs KK
end
section
/-! the law: each instruction of its table is one of its bytes -/
abbrev lw_pcs : List Nat := [0, 18, 236, 289, 322, 355, 373, 374, 395, 396, 404, 479, 512, 555, 588, 621, 654, 687, 710, 723, 746, 769, 792, 825, 858, 881, 904, 917, 930, 953, 976, 989, 1012, 1055, 1078, 1101, 1114, 1137, 1155, 1156, 1177, 1178, 1186, 1229, 1252, 1265, 1308, 1341, 1364, 1377, 1400, 1423, 1424, 1450, 1451, 1459, 1502, 1545, 1588, 1651, 1664, 1687, 1693, 18]
set_option maxRecDepth 100000 in
theorem ckl_0 : ck_L 16 0 lw_pcs true cL_law 0 bk_241_0 = true := by decide +kernel
set_option maxRecDepth 100000 in
theorem ckl_1 : ck_L 16 0 lw_pcs true cL_law 18 bk_241_1 = true := by decide +kernel
set_option maxRecDepth 100000 in
theorem ckl_2 : ck_L 16 0 lw_pcs true cL_law 236 bk_241_2 = true := by decide +kernel
set_option maxRecDepth 100000 in
theorem ckl_3 : ck_L 16 0 lw_pcs true cL_law 289 bk_241_3 = true := by decide +kernel
set_option maxRecDepth 100000 in
theorem ckl_4 : ck_L 16 0 lw_pcs true cL_law 322 bk_241_4 = true := by decide +kernel
set_option maxRecDepth 100000 in
theorem ckl_5 : ck_L 16 0 lw_pcs true cL_law 355 bk_241_5 = true := by decide +kernel
set_option maxRecDepth 100000 in
theorem ckl_6 : ck_L 16 0 lw_pcs true cL_law 373 bk_241_6 = true := by decide +kernel
set_option maxRecDepth 100000 in
theorem ckl_7 : ck_L 16 0 lw_pcs true cL_law 374 bk_241_7 = true := by decide +kernel
set_option maxRecDepth 100000 in
theorem ckl_8 : ck_L 16 0 lw_pcs true cL_law 395 bk_241_8 = true := by decide +kernel
set_option maxRecDepth 100000 in
theorem ckl_9 : ck_L 16 0 lw_pcs true cL_law 396 bk_241_9 = true := by decide +kernel
set_option maxRecDepth 100000 in
theorem ckl_10 : ck_L 16 0 lw_pcs true cL_law 404 bk_241_10 = true := by decide +kernel
set_option maxRecDepth 100000 in
theorem ckl_11 : ck_L 16 0 lw_pcs true cL_law 479 bk_241_11 = true := by decide +kernel
set_option maxRecDepth 100000 in
theorem ckl_12 : ck_L 16 0 lw_pcs true cL_law 512 bk_241_12 = true := by decide +kernel
set_option maxRecDepth 100000 in
theorem ckl_13 : ck_L 16 0 lw_pcs true cL_law 555 bk_241_13 = true := by decide +kernel
set_option maxRecDepth 100000 in
theorem ckl_14 : ck_L 16 0 lw_pcs true cL_law 588 bk_241_14 = true := by decide +kernel
set_option maxRecDepth 100000 in
theorem ckl_15 : ck_L 16 0 lw_pcs true cL_law 621 bk_241_15 = true := by decide +kernel
set_option maxRecDepth 100000 in
theorem ckl_16 : ck_L 16 0 lw_pcs true cL_law 654 bk_241_16 = true := by decide +kernel
set_option maxRecDepth 100000 in
theorem ckl_17 : ck_L 16 0 lw_pcs true cL_law 687 bk_241_17 = true := by decide +kernel
set_option maxRecDepth 100000 in
theorem ckl_18 : ck_L 16 0 lw_pcs true cL_law 710 bk_241_18 = true := by decide +kernel
set_option maxRecDepth 100000 in
theorem ckl_19 : ck_L 16 0 lw_pcs true cL_law 723 bk_241_19 = true := by decide +kernel
set_option maxRecDepth 100000 in
theorem ckl_20 : ck_L 16 0 lw_pcs true cL_law 746 bk_241_20 = true := by decide +kernel
set_option maxRecDepth 100000 in
theorem ckl_21 : ck_L 16 0 lw_pcs true cL_law 769 bk_241_21 = true := by decide +kernel
set_option maxRecDepth 100000 in
theorem ckl_22 : ck_L 16 0 lw_pcs true cL_law 792 bk_241_22 = true := by decide +kernel
set_option maxRecDepth 100000 in
theorem ckl_23 : ck_L 16 0 lw_pcs true cL_law 825 bk_241_23 = true := by decide +kernel
set_option maxRecDepth 100000 in
theorem ckl_24 : ck_L 16 0 lw_pcs true cL_law 858 bk_241_24 = true := by decide +kernel
set_option maxRecDepth 100000 in
theorem ckl_25 : ck_L 16 0 lw_pcs true cL_law 881 bk_241_25 = true := by decide +kernel
set_option maxRecDepth 100000 in
theorem ckl_26 : ck_L 16 0 lw_pcs true cL_law 904 bk_241_26 = true := by decide +kernel
set_option maxRecDepth 100000 in
theorem ckl_27 : ck_L 16 0 lw_pcs true cL_law 917 bk_241_27 = true := by decide +kernel
set_option maxRecDepth 100000 in
theorem ckl_28 : ck_L 16 0 lw_pcs true cL_law 930 bk_241_28 = true := by decide +kernel
set_option maxRecDepth 100000 in
theorem ckl_29 : ck_L 16 0 lw_pcs true cL_law 953 bk_241_29 = true := by decide +kernel
set_option maxRecDepth 100000 in
theorem ckl_30 : ck_L 16 0 lw_pcs true cL_law 976 bk_241_30 = true := by decide +kernel
set_option maxRecDepth 100000 in
theorem ckl_31 : ck_L 16 0 lw_pcs true cL_law 989 bk_241_31 = true := by decide +kernel
set_option maxRecDepth 100000 in
theorem ckl_32 : ck_L 16 0 lw_pcs true cL_law 1012 bk_241_32 = true := by decide +kernel
set_option maxRecDepth 100000 in
theorem ckl_33 : ck_L 16 0 lw_pcs true cL_law 1055 bk_241_33 = true := by decide +kernel
set_option maxRecDepth 100000 in
theorem ckl_34 : ck_L 16 0 lw_pcs true cL_law 1078 bk_241_34 = true := by decide +kernel
set_option maxRecDepth 100000 in
theorem ckl_35 : ck_L 16 0 lw_pcs true cL_law 1101 bk_241_35 = true := by decide +kernel
set_option maxRecDepth 100000 in
theorem ckl_36 : ck_L 16 0 lw_pcs true cL_law 1114 bk_241_36 = true := by decide +kernel
set_option maxRecDepth 100000 in
theorem ckl_37 : ck_L 16 0 lw_pcs true cL_law 1137 bk_241_37 = true := by decide +kernel
set_option maxRecDepth 100000 in
theorem ckl_38 : ck_L 16 0 lw_pcs true cL_law 1155 bk_241_38 = true := by decide +kernel
set_option maxRecDepth 100000 in
theorem ckl_39 : ck_L 16 0 lw_pcs true cL_law 1156 bk_241_39 = true := by decide +kernel
set_option maxRecDepth 100000 in
theorem ckl_40 : ck_L 16 0 lw_pcs true cL_law 1177 bk_241_40 = true := by decide +kernel
set_option maxRecDepth 100000 in
theorem ckl_41 : ck_L 16 0 lw_pcs true cL_law 1178 bk_241_41 = true := by decide +kernel
set_option maxRecDepth 100000 in
theorem ckl_42 : ck_L 16 0 lw_pcs true cL_law 1186 bk_241_42 = true := by decide +kernel
set_option maxRecDepth 100000 in
theorem ckl_43 : ck_L 16 0 lw_pcs true cL_law 1229 bk_241_43 = true := by decide +kernel
set_option maxRecDepth 100000 in
theorem ckl_44 : ck_L 16 0 lw_pcs true cL_law 1252 bk_241_44 = true := by decide +kernel
set_option maxRecDepth 100000 in
theorem ckl_45 : ck_L 16 0 lw_pcs true cL_law 1265 bk_241_45 = true := by decide +kernel
set_option maxRecDepth 100000 in
theorem ckl_46 : ck_L 16 0 lw_pcs true cL_law 1308 bk_241_46 = true := by decide +kernel
set_option maxRecDepth 100000 in
theorem ckl_47 : ck_L 16 0 lw_pcs true cL_law 1341 bk_241_47 = true := by decide +kernel
set_option maxRecDepth 100000 in
theorem ckl_48 : ck_L 16 0 lw_pcs true cL_law 1364 bk_241_48 = true := by decide +kernel
set_option maxRecDepth 100000 in
theorem ckl_49 : ck_L 16 0 lw_pcs true cL_law 1377 bk_241_49 = true := by decide +kernel
set_option maxRecDepth 100000 in
theorem ckl_50 : ck_L 16 0 lw_pcs true cL_law 1400 bk_241_50 = true := by decide +kernel
set_option maxRecDepth 100000 in
theorem ckl_51 : ck_L 16 0 lw_pcs true cL_law 1423 bk_241_51 = true := by decide +kernel
set_option maxRecDepth 100000 in
theorem ckl_52 : ck_L 16 0 lw_pcs true cL_law 1424 bk_241_52 = true := by decide +kernel
set_option maxRecDepth 100000 in
theorem ckl_53 : ck_L 16 0 lw_pcs true cL_law 1450 bk_241_53 = true := by decide +kernel
set_option maxRecDepth 100000 in
theorem ckl_54 : ck_L 16 0 lw_pcs true cL_law 1451 bk_241_54 = true := by decide +kernel
set_option maxRecDepth 100000 in
theorem ckl_55 : ck_L 16 0 lw_pcs true cL_law 1459 bk_241_55 = true := by decide +kernel
set_option maxRecDepth 100000 in
theorem ckl_56 : ck_L 16 0 lw_pcs true cL_law 1502 bk_241_56 = true := by decide +kernel
set_option maxRecDepth 100000 in
theorem ckl_57 : ck_L 16 0 lw_pcs true cL_law 1545 bk_241_57 = true := by decide +kernel
set_option maxRecDepth 100000 in
theorem ckl_58 : ck_L 16 0 lw_pcs true cL_law 1588 bk_241_58 = true := by decide +kernel
set_option maxRecDepth 100000 in
theorem ckl_59 : ck_L 16 0 lw_pcs true cL_law 1651 bk_241_59 = true := by decide +kernel
set_option maxRecDepth 100000 in
theorem ckl_60 : ck_L 16 0 lw_pcs true cL_law 1664 bk_241_60 = true := by decide +kernel
set_option maxRecDepth 100000 in
theorem ckl_61 : ck_L 16 0 lw_pcs true cL_law 1687 bk_241_61 = true := by decide +kernel
set_option maxRecDepth 100000 in
theorem ckl_62 : ck_L 16 0 lw_pcs true cL_law 1693 bk_241_62 = true := by decide +kernel
set_option maxRecDepth 100000 in
theorem ckl_63 : ck_L 16 0 lw_pcs true cL_law 18 bk_241_63 = true := by decide +kernel
theorem ck_za {f : Nat × List Instr → Bool} {a : Nat} {b : List Instr} {as : List Nat} {bs : List (List Instr)} (h : f (a, b) = true) (t : (List.zip as bs).all f = true) : (List.zip (a :: as) (b :: bs)).all f = true := by
  rw [List.zip_cons_cons, List.all_cons, h, t]; rfl
theorem ck_lawz : (List.zip lw_pcs bk_241).all (fun q => ck_L 16 0 lw_pcs true cL_law q.1 q.2) = true := ck_za ckl_0 (ck_za ckl_1 (ck_za ckl_2 (ck_za ckl_3 (ck_za ckl_4 (ck_za ckl_5 (ck_za ckl_6 (ck_za ckl_7 (ck_za ckl_8 (ck_za ckl_9 (ck_za ckl_10 (ck_za ckl_11 (ck_za ckl_12 (ck_za ckl_13 (ck_za ckl_14 (ck_za ckl_15 (ck_za ckl_16 (ck_za ckl_17 (ck_za ckl_18 (ck_za ckl_19 (ck_za ckl_20 (ck_za ckl_21 (ck_za ckl_22 (ck_za ckl_23 (ck_za ckl_24 (ck_za ckl_25 (ck_za ckl_26 (ck_za ckl_27 (ck_za ckl_28 (ck_za ckl_29 (ck_za ckl_30 (ck_za ckl_31 (ck_za ckl_32 (ck_za ckl_33 (ck_za ckl_34 (ck_za ckl_35 (ck_za ckl_36 (ck_za ckl_37 (ck_za ckl_38 (ck_za ckl_39 (ck_za ckl_40 (ck_za ckl_41 (ck_za ckl_42 (ck_za ckl_43 (ck_za ckl_44 (ck_za ckl_45 (ck_za ckl_46 (ck_za ckl_47 (ck_za ckl_48 (ck_za ckl_49 (ck_za ckl_50 (ck_za ckl_51 (ck_za ckl_52 (ck_za ckl_53 (ck_za ckl_54 (ck_za ckl_55 (ck_za ckl_56 (ck_za ckl_57 (ck_za ckl_58 (ck_za ckl_59 (ck_za ckl_60 (ck_za ckl_61 (ck_za ckl_62 (ck_za ckl_63 (rfl))))))))))))))))))))))))))))))))))))))))))))))))))))))))))))))))
set_option maxRecDepth 100000 in
theorem ck_law : ck_M 241 = true := by
  have e : ck_M 241 = (decide (bk_241.length = lw_pcs.length) && (decide (lw_pcs[0]? = some 0) && (List.zip lw_pcs bk_241).all (fun q => ck_L 16 0 lw_pcs true cL_law q.1 q.2))) := rfl
  rw [e, ck_lawz]
  decide +kernel
end
section
/-! the cells behind the constructors; rows of the abstract machine over them (written by wip/whole/gen2.py) -/
def SHT : List ex_C := [cA 4,
  cA 6,
  cA 6,
  cO 11 [some (some 5), some (some 28), some (some 29), some (some 33), some (some 47), some (some 51), some (some 54), some (some 57), some (some 60), none, none, none],
  cO 1 [some (some 6), some (some 18), some (some 21), some (some 25), some (some 26), some (some 27), none, none, none, none, none, none, none],
  cO 2 [none, none, some (some 7), some (some 8), some (some 9), some (some 10), some (some 11), some (some 12), some (some 13), some (some 14), some (some 15), some (some 16), some (some 17)],
  cA 5,
  cA 5,
  cA 5,
  cA 5,
  cA 5,
  cA 5,
  cA 5,
  cA 5,
  cA 40,
  cA 48,
  cA 8,
  cO 4 [none, some (some 19), some (some 20)],
  cA 60,
  cA 60,
  cO 3 [none, some (some 22), some (some 23), some (some 24)],
  cA 30,
  cA 30,
  cA 30,
  cA 25,
  cA 16,
  cA 7,
  cQ [some 64, some 87, some 110, some 133, some 156, some 179, some 202, some 225, some 248, some 271, some 294, some 317, some 340, some 363, some 386, some 409],
  cO 9 [some (some 30), some (some 31), some (some 32)],
  cA 4,
  cA 4,
  cA 80,
  cO 10 [some (some 34), some (some 35), none],
  cA 3,
  cO 2 [none, none, some (some 36), some (some 37), some (some 38), some (some 39), some (some 40), some (some 41), some (some 42), some (some 43), some (some 44), some (some 45), some (some 46)],
  cA 5,
  cA 5,
  cA 5,
  cA 5,
  cA 5,
  cA 5,
  cA 5,
  cA 5,
  cA 40,
  cA 48,
  cA 8,
  cO 5 [some (some 48), some (some 49), some (some 50), none],
  cA 7,
  cA 7,
  cA 5,
  cO 0 [some (some 52), some (some 53)],
  cA 24,
  cA 8,
  cO 6 [some (some 55), some (some 56), none],
  cA 5,
  cA 5,
  cO 8 [some (some 58), some (some 59)],
  cA 5,
  cA 7,
  cO 7 [some (some 61), none, some (some 62), some (some 63), none],
  cA 8,
  cA 8,
  cA 5,
  cO 1 [some (some 65), some (some 77), some (some 80), some (some 84), some (some 85), some (some 86), none, none, none, none, none, none, none],
  cO 2 [none, none, some (some 66), some (some 67), some (some 68), some (some 69), some (some 70), some (some 71), some (some 72), some (some 73), some (some 74), some (some 75), some (some 76)],
  cA 5,
  cA 5,
  cA 5,
  cA 5,
  cA 5,
  cA 5,
  cA 5,
  cA 5,
  cA 40,
  cA 48,
  cA 8,
  cO 4 [none, some (some 78), some (some 79)],
  cA 60,
  cA 60,
  cO 3 [none, some (some 81), some (some 82), some (some 83)],
  cA 30,
  cA 30,
  cA 30,
  cA 25,
  cA 16,
  cA 7,
  cO 1 [some (some 88), some (some 100), some (some 103), some (some 107), some (some 108), some (some 109), none, none, none, none, none, none, none],
  cO 2 [none, none, some (some 89), some (some 90), some (some 91), some (some 92), some (some 93), some (some 94), some (some 95), some (some 96), some (some 97), some (some 98), some (some 99)],
  cA 5,
  cA 5,
  cA 5,
  cA 5,
  cA 5,
  cA 5,
  cA 5,
  cA 5,
  cA 40,
  cA 48,
  cA 8,
  cO 4 [none, some (some 101), some (some 102)],
  cA 60,
  cA 60,
  cO 3 [none, some (some 104), some (some 105), some (some 106)],
  cA 30,
  cA 30,
  cA 30,
  cA 25,
  cA 16,
  cA 7,
  cO 1 [some (some 111), some (some 123), some (some 126), some (some 130), some (some 131), some (some 132), none, none, none, none, none, none, none],
  cO 2 [none, none, some (some 112), some (some 113), some (some 114), some (some 115), some (some 116), some (some 117), some (some 118), some (some 119), some (some 120), some (some 121), some (some 122)],
  cA 5,
  cA 5,
  cA 5,
  cA 5,
  cA 5,
  cA 5,
  cA 5,
  cA 5,
  cA 40,
  cA 48,
  cA 8,
  cO 4 [none, some (some 124), some (some 125)],
  cA 60,
  cA 60,
  cO 3 [none, some (some 127), some (some 128), some (some 129)],
  cA 30,
  cA 30,
  cA 30,
  cA 25,
  cA 16,
  cA 7,
  cO 1 [some (some 134), some (some 146), some (some 149), some (some 153), some (some 154), some (some 155), none, none, none, none, none, none, none],
  cO 2 [none, none, some (some 135), some (some 136), some (some 137), some (some 138), some (some 139), some (some 140), some (some 141), some (some 142), some (some 143), some (some 144), some (some 145)],
  cA 5,
  cA 5,
  cA 5,
  cA 5,
  cA 5,
  cA 5,
  cA 5,
  cA 5,
  cA 40,
  cA 48,
  cA 8,
  cO 4 [none, some (some 147), some (some 148)],
  cA 60,
  cA 60,
  cO 3 [none, some (some 150), some (some 151), some (some 152)],
  cA 30,
  cA 30,
  cA 30,
  cA 25,
  cA 16,
  cA 7,
  cO 1 [some (some 157), some (some 169), some (some 172), some (some 176), some (some 177), some (some 178), none, none, none, none, none, none, none],
  cO 2 [none, none, some (some 158), some (some 159), some (some 160), some (some 161), some (some 162), some (some 163), some (some 164), some (some 165), some (some 166), some (some 167), some (some 168)],
  cA 5,
  cA 5,
  cA 5,
  cA 5,
  cA 5,
  cA 5,
  cA 5,
  cA 5,
  cA 40,
  cA 48,
  cA 8,
  cO 4 [none, some (some 170), some (some 171)],
  cA 60,
  cA 60,
  cO 3 [none, some (some 173), some (some 174), some (some 175)],
  cA 30,
  cA 30,
  cA 30,
  cA 25,
  cA 16,
  cA 7,
  cO 1 [some (some 180), some (some 192), some (some 195), some (some 199), some (some 200), some (some 201), none, none, none, none, none, none, none],
  cO 2 [none, none, some (some 181), some (some 182), some (some 183), some (some 184), some (some 185), some (some 186), some (some 187), some (some 188), some (some 189), some (some 190), some (some 191)],
  cA 5,
  cA 5,
  cA 5,
  cA 5,
  cA 5,
  cA 5,
  cA 5,
  cA 5,
  cA 40,
  cA 48,
  cA 8,
  cO 4 [none, some (some 193), some (some 194)],
  cA 60,
  cA 60,
  cO 3 [none, some (some 196), some (some 197), some (some 198)],
  cA 30,
  cA 30,
  cA 30,
  cA 25,
  cA 16,
  cA 7,
  cO 1 [some (some 203), some (some 215), some (some 218), some (some 222), some (some 223), some (some 224), none, none, none, none, none, none, none],
  cO 2 [none, none, some (some 204), some (some 205), some (some 206), some (some 207), some (some 208), some (some 209), some (some 210), some (some 211), some (some 212), some (some 213), some (some 214)],
  cA 5,
  cA 5,
  cA 5,
  cA 5,
  cA 5,
  cA 5,
  cA 5,
  cA 5,
  cA 40,
  cA 48,
  cA 8,
  cO 4 [none, some (some 216), some (some 217)],
  cA 60,
  cA 60,
  cO 3 [none, some (some 219), some (some 220), some (some 221)],
  cA 30,
  cA 30,
  cA 30,
  cA 25,
  cA 16,
  cA 7,
  cO 1 [some (some 226), some (some 238), some (some 241), some (some 245), some (some 246), some (some 247), none, none, none, none, none, none, none],
  cO 2 [none, none, some (some 227), some (some 228), some (some 229), some (some 230), some (some 231), some (some 232), some (some 233), some (some 234), some (some 235), some (some 236), some (some 237)],
  cA 5,
  cA 5,
  cA 5,
  cA 5,
  cA 5,
  cA 5,
  cA 5,
  cA 5,
  cA 40,
  cA 48,
  cA 8,
  cO 4 [none, some (some 239), some (some 240)],
  cA 60,
  cA 60,
  cO 3 [none, some (some 242), some (some 243), some (some 244)],
  cA 30,
  cA 30,
  cA 30,
  cA 25,
  cA 16,
  cA 7,
  cO 1 [some (some 249), some (some 261), some (some 264), some (some 268), some (some 269), some (some 270), none, none, none, none, none, none, none],
  cO 2 [none, none, some (some 250), some (some 251), some (some 252), some (some 253), some (some 254), some (some 255), some (some 256), some (some 257), some (some 258), some (some 259), some (some 260)],
  cA 5,
  cA 5,
  cA 5,
  cA 5,
  cA 5,
  cA 5,
  cA 5,
  cA 5,
  cA 40,
  cA 48,
  cA 8,
  cO 4 [none, some (some 262), some (some 263)],
  cA 60,
  cA 60,
  cO 3 [none, some (some 265), some (some 266), some (some 267)],
  cA 30,
  cA 30,
  cA 30,
  cA 25,
  cA 16,
  cA 7,
  cO 1 [some (some 272), some (some 284), some (some 287), some (some 291), some (some 292), some (some 293), none, none, none, none, none, none, none],
  cO 2 [none, none, some (some 273), some (some 274), some (some 275), some (some 276), some (some 277), some (some 278), some (some 279), some (some 280), some (some 281), some (some 282), some (some 283)],
  cA 5,
  cA 5,
  cA 5,
  cA 5,
  cA 5,
  cA 5,
  cA 5,
  cA 5,
  cA 40,
  cA 48,
  cA 8,
  cO 4 [none, some (some 285), some (some 286)],
  cA 60,
  cA 60,
  cO 3 [none, some (some 288), some (some 289), some (some 290)],
  cA 30,
  cA 30,
  cA 30,
  cA 25,
  cA 16,
  cA 7,
  cO 1 [some (some 295), some (some 307), some (some 310), some (some 314), some (some 315), some (some 316), none, none, none, none, none, none, none],
  cO 2 [none, none, some (some 296), some (some 297), some (some 298), some (some 299), some (some 300), some (some 301), some (some 302), some (some 303), some (some 304), some (some 305), some (some 306)],
  cA 5,
  cA 5,
  cA 5,
  cA 5,
  cA 5,
  cA 5,
  cA 5,
  cA 5,
  cA 40,
  cA 48,
  cA 8,
  cO 4 [none, some (some 308), some (some 309)],
  cA 60,
  cA 60,
  cO 3 [none, some (some 311), some (some 312), some (some 313)],
  cA 30,
  cA 30,
  cA 30,
  cA 25,
  cA 16,
  cA 7,
  cO 1 [some (some 318), some (some 330), some (some 333), some (some 337), some (some 338), some (some 339), none, none, none, none, none, none, none],
  cO 2 [none, none, some (some 319), some (some 320), some (some 321), some (some 322), some (some 323), some (some 324), some (some 325), some (some 326), some (some 327), some (some 328), some (some 329)],
  cA 5,
  cA 5,
  cA 5,
  cA 5,
  cA 5,
  cA 5,
  cA 5,
  cA 5,
  cA 40,
  cA 48,
  cA 8,
  cO 4 [none, some (some 331), some (some 332)],
  cA 60,
  cA 60,
  cO 3 [none, some (some 334), some (some 335), some (some 336)],
  cA 30,
  cA 30,
  cA 30,
  cA 25,
  cA 16,
  cA 7,
  cO 1 [some (some 341), some (some 353), some (some 356), some (some 360), some (some 361), some (some 362), none, none, none, none, none, none, none],
  cO 2 [none, none, some (some 342), some (some 343), some (some 344), some (some 345), some (some 346), some (some 347), some (some 348), some (some 349), some (some 350), some (some 351), some (some 352)],
  cA 5,
  cA 5,
  cA 5,
  cA 5,
  cA 5,
  cA 5,
  cA 5,
  cA 5,
  cA 40,
  cA 48,
  cA 8,
  cO 4 [none, some (some 354), some (some 355)],
  cA 60,
  cA 60,
  cO 3 [none, some (some 357), some (some 358), some (some 359)],
  cA 30,
  cA 30,
  cA 30,
  cA 25,
  cA 16,
  cA 7,
  cO 1 [some (some 364), some (some 376), some (some 379), some (some 383), some (some 384), some (some 385), none, none, none, none, none, none, none],
  cO 2 [none, none, some (some 365), some (some 366), some (some 367), some (some 368), some (some 369), some (some 370), some (some 371), some (some 372), some (some 373), some (some 374), some (some 375)],
  cA 5,
  cA 5,
  cA 5,
  cA 5,
  cA 5,
  cA 5,
  cA 5,
  cA 5,
  cA 40,
  cA 48,
  cA 8,
  cO 4 [none, some (some 377), some (some 378)],
  cA 60,
  cA 60,
  cO 3 [none, some (some 380), some (some 381), some (some 382)],
  cA 30,
  cA 30,
  cA 30,
  cA 25,
  cA 16,
  cA 7,
  cO 1 [some (some 387), some (some 399), some (some 402), some (some 406), some (some 407), some (some 408), none, none, none, none, none, none, none],
  cO 2 [none, none, some (some 388), some (some 389), some (some 390), some (some 391), some (some 392), some (some 393), some (some 394), some (some 395), some (some 396), some (some 397), some (some 398)],
  cA 5,
  cA 5,
  cA 5,
  cA 5,
  cA 5,
  cA 5,
  cA 5,
  cA 5,
  cA 40,
  cA 48,
  cA 8,
  cO 4 [none, some (some 400), some (some 401)],
  cA 60,
  cA 60,
  cO 3 [none, some (some 403), some (some 404), some (some 405)],
  cA 30,
  cA 30,
  cA 30,
  cA 25,
  cA 16,
  cA 7,
  cO 1 [some (some 410), some (some 422), some (some 425), some (some 429), some (some 430), some (some 431), none, none, none, none, none, none, none],
  cO 2 [none, none, some (some 411), some (some 412), some (some 413), some (some 414), some (some 415), some (some 416), some (some 417), some (some 418), some (some 419), some (some 420), some (some 421)],
  cA 5,
  cA 5,
  cA 5,
  cA 5,
  cA 5,
  cA 5,
  cA 5,
  cA 5,
  cA 40,
  cA 48,
  cA 8,
  cO 4 [none, some (some 423), some (some 424)],
  cA 60,
  cA 60,
  cO 3 [none, some (some 426), some (some 427), some (some 428)],
  cA 30,
  cA 30,
  cA 30,
  cA 25,
  cA 16,
  cA 7,
  cO 12 [some (some 433), some (some 434), none, none, some (some 435), some (some 436), some (some 437), some (some 438), some (some 439), some (some 440), some (some 441), none, some (some 442), some (some 443), some (some 444), none, none, some (some 445), some (some 446), some (some 447), some (some 448)],
  cA 277,
  cA 4432,
  cA 4,
  cA 4,
  cA 80,
  cA 200,
  cA 3,
  cA 7,
  cA 7,
  cA 8,
  cA 5,
  cA 5,
  cA 8,
  cA 8,
  cA 5,
  cA 20]
def SH (L : Nat) : List ex_C := cA L :: SHT
section XR
variable {rt d : Nat} {J : Nat → List ex_V → List ex_V → ex_H → Option ex_R} {C : Nat → List ex_V → ex_H → Option ex_R} {is : List Instr} {ls st : List ex_V} {h : ex_H}
theorem xs_of (ls' st' : List ex_V) (h' : ex_H) {i : Instr} (e : ex_st rt ls st h i = oN ls' st' h') : ex_xs rt J C (i :: is) ls st h = ex_xs rt J C is ls' st' h' := by
  rw [ex_xs, e]
theorem xs_ofJ (b : Nat) (ls' st' : List ex_V) (h' : ex_H) {i : Instr} (e : ex_st rt ls st h i = oJ b ls' st' h') : ex_xs rt J C (i :: is) ls st h = J b ls' st' h' := by
  rw [ex_xs, e]
theorem xl_i0 {z : Int} {l : List ex_V} : ex_xs rt J C (.iload 0 :: is) (vI z :: l) st h = ex_xs rt J C is (vI z :: l) (vI z :: st) h := rfl
theorem xl_a0 {z : Nat} {l : List ex_V} : ex_xs rt J C (.aload 0 :: is) (vR z :: l) st h = ex_xs rt J C is (vR z :: l) (vR z :: st) h := rfl
theorem xt_i0 {w : ex_V} {z : Int} {l : List ex_V} : ex_xs rt J C (.istore 0 :: is) (w :: l) (vI z :: st) h = ex_xs rt J C is (vI z :: l) st h := xs_of _ _ _ (by dsimp only [ex_st]; rw [if_pos (by simp only [List.length_cons]; omega)]; rfl)
theorem xt_a0 {w : ex_V} {z : Nat} {l : List ex_V} : ex_xs rt J C (.astore 0 :: is) (w :: l) (vR z :: st) h = ex_xs rt J C is (vR z :: l) st h := xs_of _ _ _ (by dsimp only [ex_st]; rw [if_pos (by simp only [List.length_cons]; omega)]; rfl)
theorem xn_0 {z c : Int} {l : List ex_V} : ex_xs rt J C (.iinc 0 c :: is) (vI z :: l) st h = ex_xs rt J C is (vI (ex_wr (z + c)) :: l) st h := rfl
theorem xl_i1 {v0 : ex_V} {z : Int} {l : List ex_V} : ex_xs rt J C (.iload 1 :: is) (v0 :: vI z :: l) st h = ex_xs rt J C is (v0 :: vI z :: l) (vI z :: st) h := rfl
theorem xl_a1 {v0 : ex_V} {z : Nat} {l : List ex_V} : ex_xs rt J C (.aload 1 :: is) (v0 :: vR z :: l) st h = ex_xs rt J C is (v0 :: vR z :: l) (vR z :: st) h := rfl
theorem xt_i1 {v0 : ex_V} {w : ex_V} {z : Int} {l : List ex_V} : ex_xs rt J C (.istore 1 :: is) (v0 :: w :: l) (vI z :: st) h = ex_xs rt J C is (v0 :: vI z :: l) st h := xs_of _ _ _ (by dsimp only [ex_st]; rw [if_pos (by simp only [List.length_cons]; omega)]; rfl)
theorem xt_a1 {v0 : ex_V} {w : ex_V} {z : Nat} {l : List ex_V} : ex_xs rt J C (.astore 1 :: is) (v0 :: w :: l) (vR z :: st) h = ex_xs rt J C is (v0 :: vR z :: l) st h := xs_of _ _ _ (by dsimp only [ex_st]; rw [if_pos (by simp only [List.length_cons]; omega)]; rfl)
theorem xn_1 {v0 : ex_V} {z c : Int} {l : List ex_V} : ex_xs rt J C (.iinc 1 c :: is) (v0 :: vI z :: l) st h = ex_xs rt J C is (v0 :: vI (ex_wr (z + c)) :: l) st h := rfl
theorem xl_i2 {v0 v1 : ex_V} {z : Int} {l : List ex_V} : ex_xs rt J C (.iload 2 :: is) (v0 :: v1 :: vI z :: l) st h = ex_xs rt J C is (v0 :: v1 :: vI z :: l) (vI z :: st) h := rfl
theorem xl_a2 {v0 v1 : ex_V} {z : Nat} {l : List ex_V} : ex_xs rt J C (.aload 2 :: is) (v0 :: v1 :: vR z :: l) st h = ex_xs rt J C is (v0 :: v1 :: vR z :: l) (vR z :: st) h := rfl
theorem xt_i2 {v0 v1 : ex_V} {w : ex_V} {z : Int} {l : List ex_V} : ex_xs rt J C (.istore 2 :: is) (v0 :: v1 :: w :: l) (vI z :: st) h = ex_xs rt J C is (v0 :: v1 :: vI z :: l) st h := xs_of _ _ _ (by dsimp only [ex_st]; rw [if_pos (by simp only [List.length_cons]; omega)]; rfl)
theorem xt_a2 {v0 v1 : ex_V} {w : ex_V} {z : Nat} {l : List ex_V} : ex_xs rt J C (.astore 2 :: is) (v0 :: v1 :: w :: l) (vR z :: st) h = ex_xs rt J C is (v0 :: v1 :: vR z :: l) st h := xs_of _ _ _ (by dsimp only [ex_st]; rw [if_pos (by simp only [List.length_cons]; omega)]; rfl)
theorem xn_2 {v0 v1 : ex_V} {z c : Int} {l : List ex_V} : ex_xs rt J C (.iinc 2 c :: is) (v0 :: v1 :: vI z :: l) st h = ex_xs rt J C is (v0 :: v1 :: vI (ex_wr (z + c)) :: l) st h := rfl
theorem xl_i3 {v0 v1 v2 : ex_V} {z : Int} {l : List ex_V} : ex_xs rt J C (.iload 3 :: is) (v0 :: v1 :: v2 :: vI z :: l) st h = ex_xs rt J C is (v0 :: v1 :: v2 :: vI z :: l) (vI z :: st) h := rfl
theorem xl_a3 {v0 v1 v2 : ex_V} {z : Nat} {l : List ex_V} : ex_xs rt J C (.aload 3 :: is) (v0 :: v1 :: v2 :: vR z :: l) st h = ex_xs rt J C is (v0 :: v1 :: v2 :: vR z :: l) (vR z :: st) h := rfl
theorem xt_i3 {v0 v1 v2 : ex_V} {w : ex_V} {z : Int} {l : List ex_V} : ex_xs rt J C (.istore 3 :: is) (v0 :: v1 :: v2 :: w :: l) (vI z :: st) h = ex_xs rt J C is (v0 :: v1 :: v2 :: vI z :: l) st h := xs_of _ _ _ (by dsimp only [ex_st]; rw [if_pos (by simp only [List.length_cons]; omega)]; rfl)
theorem xt_a3 {v0 v1 v2 : ex_V} {w : ex_V} {z : Nat} {l : List ex_V} : ex_xs rt J C (.astore 3 :: is) (v0 :: v1 :: v2 :: w :: l) (vR z :: st) h = ex_xs rt J C is (v0 :: v1 :: v2 :: vR z :: l) st h := xs_of _ _ _ (by dsimp only [ex_st]; rw [if_pos (by simp only [List.length_cons]; omega)]; rfl)
theorem xn_3 {v0 v1 v2 : ex_V} {z c : Int} {l : List ex_V} : ex_xs rt J C (.iinc 3 c :: is) (v0 :: v1 :: v2 :: vI z :: l) st h = ex_xs rt J C is (v0 :: v1 :: v2 :: vI (ex_wr (z + c)) :: l) st h := rfl
theorem xl_i4 {v0 v1 v2 v3 : ex_V} {z : Int} {l : List ex_V} : ex_xs rt J C (.iload 4 :: is) (v0 :: v1 :: v2 :: v3 :: vI z :: l) st h = ex_xs rt J C is (v0 :: v1 :: v2 :: v3 :: vI z :: l) (vI z :: st) h := rfl
theorem xl_a4 {v0 v1 v2 v3 : ex_V} {z : Nat} {l : List ex_V} : ex_xs rt J C (.aload 4 :: is) (v0 :: v1 :: v2 :: v3 :: vR z :: l) st h = ex_xs rt J C is (v0 :: v1 :: v2 :: v3 :: vR z :: l) (vR z :: st) h := rfl
theorem xt_i4 {v0 v1 v2 v3 : ex_V} {w : ex_V} {z : Int} {l : List ex_V} : ex_xs rt J C (.istore 4 :: is) (v0 :: v1 :: v2 :: v3 :: w :: l) (vI z :: st) h = ex_xs rt J C is (v0 :: v1 :: v2 :: v3 :: vI z :: l) st h := xs_of _ _ _ (by dsimp only [ex_st]; rw [if_pos (by simp only [List.length_cons]; omega)]; rfl)
theorem xt_a4 {v0 v1 v2 v3 : ex_V} {w : ex_V} {z : Nat} {l : List ex_V} : ex_xs rt J C (.astore 4 :: is) (v0 :: v1 :: v2 :: v3 :: w :: l) (vR z :: st) h = ex_xs rt J C is (v0 :: v1 :: v2 :: v3 :: vR z :: l) st h := xs_of _ _ _ (by dsimp only [ex_st]; rw [if_pos (by simp only [List.length_cons]; omega)]; rfl)
theorem xn_4 {v0 v1 v2 v3 : ex_V} {z c : Int} {l : List ex_V} : ex_xs rt J C (.iinc 4 c :: is) (v0 :: v1 :: v2 :: v3 :: vI z :: l) st h = ex_xs rt J C is (v0 :: v1 :: v2 :: v3 :: vI (ex_wr (z + c)) :: l) st h := rfl
theorem xl_i5 {v0 v1 v2 v3 v4 : ex_V} {z : Int} {l : List ex_V} : ex_xs rt J C (.iload 5 :: is) (v0 :: v1 :: v2 :: v3 :: v4 :: vI z :: l) st h = ex_xs rt J C is (v0 :: v1 :: v2 :: v3 :: v4 :: vI z :: l) (vI z :: st) h := rfl
theorem xl_a5 {v0 v1 v2 v3 v4 : ex_V} {z : Nat} {l : List ex_V} : ex_xs rt J C (.aload 5 :: is) (v0 :: v1 :: v2 :: v3 :: v4 :: vR z :: l) st h = ex_xs rt J C is (v0 :: v1 :: v2 :: v3 :: v4 :: vR z :: l) (vR z :: st) h := rfl
theorem xt_i5 {v0 v1 v2 v3 v4 : ex_V} {w : ex_V} {z : Int} {l : List ex_V} : ex_xs rt J C (.istore 5 :: is) (v0 :: v1 :: v2 :: v3 :: v4 :: w :: l) (vI z :: st) h = ex_xs rt J C is (v0 :: v1 :: v2 :: v3 :: v4 :: vI z :: l) st h := xs_of _ _ _ (by dsimp only [ex_st]; rw [if_pos (by simp only [List.length_cons]; omega)]; rfl)
theorem xt_a5 {v0 v1 v2 v3 v4 : ex_V} {w : ex_V} {z : Nat} {l : List ex_V} : ex_xs rt J C (.astore 5 :: is) (v0 :: v1 :: v2 :: v3 :: v4 :: w :: l) (vR z :: st) h = ex_xs rt J C is (v0 :: v1 :: v2 :: v3 :: v4 :: vR z :: l) st h := xs_of _ _ _ (by dsimp only [ex_st]; rw [if_pos (by simp only [List.length_cons]; omega)]; rfl)
theorem xn_5 {v0 v1 v2 v3 v4 : ex_V} {z c : Int} {l : List ex_V} : ex_xs rt J C (.iinc 5 c :: is) (v0 :: v1 :: v2 :: v3 :: v4 :: vI z :: l) st h = ex_xs rt J C is (v0 :: v1 :: v2 :: v3 :: v4 :: vI (ex_wr (z + c)) :: l) st h := rfl
theorem xl_i6 {v0 v1 v2 v3 v4 v5 : ex_V} {z : Int} {l : List ex_V} : ex_xs rt J C (.iload 6 :: is) (v0 :: v1 :: v2 :: v3 :: v4 :: v5 :: vI z :: l) st h = ex_xs rt J C is (v0 :: v1 :: v2 :: v3 :: v4 :: v5 :: vI z :: l) (vI z :: st) h := rfl
theorem xl_a6 {v0 v1 v2 v3 v4 v5 : ex_V} {z : Nat} {l : List ex_V} : ex_xs rt J C (.aload 6 :: is) (v0 :: v1 :: v2 :: v3 :: v4 :: v5 :: vR z :: l) st h = ex_xs rt J C is (v0 :: v1 :: v2 :: v3 :: v4 :: v5 :: vR z :: l) (vR z :: st) h := rfl
theorem xt_i6 {v0 v1 v2 v3 v4 v5 : ex_V} {w : ex_V} {z : Int} {l : List ex_V} : ex_xs rt J C (.istore 6 :: is) (v0 :: v1 :: v2 :: v3 :: v4 :: v5 :: w :: l) (vI z :: st) h = ex_xs rt J C is (v0 :: v1 :: v2 :: v3 :: v4 :: v5 :: vI z :: l) st h := xs_of _ _ _ (by dsimp only [ex_st]; rw [if_pos (by simp only [List.length_cons]; omega)]; rfl)
theorem xt_a6 {v0 v1 v2 v3 v4 v5 : ex_V} {w : ex_V} {z : Nat} {l : List ex_V} : ex_xs rt J C (.astore 6 :: is) (v0 :: v1 :: v2 :: v3 :: v4 :: v5 :: w :: l) (vR z :: st) h = ex_xs rt J C is (v0 :: v1 :: v2 :: v3 :: v4 :: v5 :: vR z :: l) st h := xs_of _ _ _ (by dsimp only [ex_st]; rw [if_pos (by simp only [List.length_cons]; omega)]; rfl)
theorem xn_6 {v0 v1 v2 v3 v4 v5 : ex_V} {z c : Int} {l : List ex_V} : ex_xs rt J C (.iinc 6 c :: is) (v0 :: v1 :: v2 :: v3 :: v4 :: v5 :: vI z :: l) st h = ex_xs rt J C is (v0 :: v1 :: v2 :: v3 :: v4 :: v5 :: vI (ex_wr (z + c)) :: l) st h := rfl
theorem xl_i7 {v0 v1 v2 v3 v4 v5 v6 : ex_V} {z : Int} {l : List ex_V} : ex_xs rt J C (.iload 7 :: is) (v0 :: v1 :: v2 :: v3 :: v4 :: v5 :: v6 :: vI z :: l) st h = ex_xs rt J C is (v0 :: v1 :: v2 :: v3 :: v4 :: v5 :: v6 :: vI z :: l) (vI z :: st) h := rfl
theorem xl_a7 {v0 v1 v2 v3 v4 v5 v6 : ex_V} {z : Nat} {l : List ex_V} : ex_xs rt J C (.aload 7 :: is) (v0 :: v1 :: v2 :: v3 :: v4 :: v5 :: v6 :: vR z :: l) st h = ex_xs rt J C is (v0 :: v1 :: v2 :: v3 :: v4 :: v5 :: v6 :: vR z :: l) (vR z :: st) h := rfl
theorem xt_i7 {v0 v1 v2 v3 v4 v5 v6 : ex_V} {w : ex_V} {z : Int} {l : List ex_V} : ex_xs rt J C (.istore 7 :: is) (v0 :: v1 :: v2 :: v3 :: v4 :: v5 :: v6 :: w :: l) (vI z :: st) h = ex_xs rt J C is (v0 :: v1 :: v2 :: v3 :: v4 :: v5 :: v6 :: vI z :: l) st h := xs_of _ _ _ (by dsimp only [ex_st]; rw [if_pos (by simp only [List.length_cons]; omega)]; rfl)
theorem xt_a7 {v0 v1 v2 v3 v4 v5 v6 : ex_V} {w : ex_V} {z : Nat} {l : List ex_V} : ex_xs rt J C (.astore 7 :: is) (v0 :: v1 :: v2 :: v3 :: v4 :: v5 :: v6 :: w :: l) (vR z :: st) h = ex_xs rt J C is (v0 :: v1 :: v2 :: v3 :: v4 :: v5 :: v6 :: vR z :: l) st h := xs_of _ _ _ (by dsimp only [ex_st]; rw [if_pos (by simp only [List.length_cons]; omega)]; rfl)
theorem xn_7 {v0 v1 v2 v3 v4 v5 v6 : ex_V} {z c : Int} {l : List ex_V} : ex_xs rt J C (.iinc 7 c :: is) (v0 :: v1 :: v2 :: v3 :: v4 :: v5 :: v6 :: vI z :: l) st h = ex_xs rt J C is (v0 :: v1 :: v2 :: v3 :: v4 :: v5 :: v6 :: vI (ex_wr (z + c)) :: l) st h := rfl
theorem xl_i8 {v0 v1 v2 v3 v4 v5 v6 v7 : ex_V} {z : Int} {l : List ex_V} : ex_xs rt J C (.iload 8 :: is) (v0 :: v1 :: v2 :: v3 :: v4 :: v5 :: v6 :: v7 :: vI z :: l) st h = ex_xs rt J C is (v0 :: v1 :: v2 :: v3 :: v4 :: v5 :: v6 :: v7 :: vI z :: l) (vI z :: st) h := rfl
theorem xl_a8 {v0 v1 v2 v3 v4 v5 v6 v7 : ex_V} {z : Nat} {l : List ex_V} : ex_xs rt J C (.aload 8 :: is) (v0 :: v1 :: v2 :: v3 :: v4 :: v5 :: v6 :: v7 :: vR z :: l) st h = ex_xs rt J C is (v0 :: v1 :: v2 :: v3 :: v4 :: v5 :: v6 :: v7 :: vR z :: l) (vR z :: st) h := rfl
theorem xt_i8 {v0 v1 v2 v3 v4 v5 v6 v7 : ex_V} {w : ex_V} {z : Int} {l : List ex_V} : ex_xs rt J C (.istore 8 :: is) (v0 :: v1 :: v2 :: v3 :: v4 :: v5 :: v6 :: v7 :: w :: l) (vI z :: st) h = ex_xs rt J C is (v0 :: v1 :: v2 :: v3 :: v4 :: v5 :: v6 :: v7 :: vI z :: l) st h := xs_of _ _ _ (by dsimp only [ex_st]; rw [if_pos (by simp only [List.length_cons]; omega)]; rfl)
theorem xt_a8 {v0 v1 v2 v3 v4 v5 v6 v7 : ex_V} {w : ex_V} {z : Nat} {l : List ex_V} : ex_xs rt J C (.astore 8 :: is) (v0 :: v1 :: v2 :: v3 :: v4 :: v5 :: v6 :: v7 :: w :: l) (vR z :: st) h = ex_xs rt J C is (v0 :: v1 :: v2 :: v3 :: v4 :: v5 :: v6 :: v7 :: vR z :: l) st h := xs_of _ _ _ (by dsimp only [ex_st]; rw [if_pos (by simp only [List.length_cons]; omega)]; rfl)
theorem xn_8 {v0 v1 v2 v3 v4 v5 v6 v7 : ex_V} {z c : Int} {l : List ex_V} : ex_xs rt J C (.iinc 8 c :: is) (v0 :: v1 :: v2 :: v3 :: v4 :: v5 :: v6 :: v7 :: vI z :: l) st h = ex_xs rt J C is (v0 :: v1 :: v2 :: v3 :: v4 :: v5 :: v6 :: v7 :: vI (ex_wr (z + c)) :: l) st h := rfl
theorem xl_i9 {v0 v1 v2 v3 v4 v5 v6 v7 v8 : ex_V} {z : Int} {l : List ex_V} : ex_xs rt J C (.iload 9 :: is) (v0 :: v1 :: v2 :: v3 :: v4 :: v5 :: v6 :: v7 :: v8 :: vI z :: l) st h = ex_xs rt J C is (v0 :: v1 :: v2 :: v3 :: v4 :: v5 :: v6 :: v7 :: v8 :: vI z :: l) (vI z :: st) h := rfl
theorem xl_a9 {v0 v1 v2 v3 v4 v5 v6 v7 v8 : ex_V} {z : Nat} {l : List ex_V} : ex_xs rt J C (.aload 9 :: is) (v0 :: v1 :: v2 :: v3 :: v4 :: v5 :: v6 :: v7 :: v8 :: vR z :: l) st h = ex_xs rt J C is (v0 :: v1 :: v2 :: v3 :: v4 :: v5 :: v6 :: v7 :: v8 :: vR z :: l) (vR z :: st) h := rfl
theorem xt_i9 {v0 v1 v2 v3 v4 v5 v6 v7 v8 : ex_V} {w : ex_V} {z : Int} {l : List ex_V} : ex_xs rt J C (.istore 9 :: is) (v0 :: v1 :: v2 :: v3 :: v4 :: v5 :: v6 :: v7 :: v8 :: w :: l) (vI z :: st) h = ex_xs rt J C is (v0 :: v1 :: v2 :: v3 :: v4 :: v5 :: v6 :: v7 :: v8 :: vI z :: l) st h := xs_of _ _ _ (by dsimp only [ex_st]; rw [if_pos (by simp only [List.length_cons]; omega)]; rfl)
theorem xt_a9 {v0 v1 v2 v3 v4 v5 v6 v7 v8 : ex_V} {w : ex_V} {z : Nat} {l : List ex_V} : ex_xs rt J C (.astore 9 :: is) (v0 :: v1 :: v2 :: v3 :: v4 :: v5 :: v6 :: v7 :: v8 :: w :: l) (vR z :: st) h = ex_xs rt J C is (v0 :: v1 :: v2 :: v3 :: v4 :: v5 :: v6 :: v7 :: v8 :: vR z :: l) st h := xs_of _ _ _ (by dsimp only [ex_st]; rw [if_pos (by simp only [List.length_cons]; omega)]; rfl)
theorem xn_9 {v0 v1 v2 v3 v4 v5 v6 v7 v8 : ex_V} {z c : Int} {l : List ex_V} : ex_xs rt J C (.iinc 9 c :: is) (v0 :: v1 :: v2 :: v3 :: v4 :: v5 :: v6 :: v7 :: v8 :: vI z :: l) st h = ex_xs rt J C is (v0 :: v1 :: v2 :: v3 :: v4 :: v5 :: v6 :: v7 :: v8 :: vI (ex_wr (z + c)) :: l) st h := rfl
theorem xl_i10 {v0 v1 v2 v3 v4 v5 v6 v7 v8 v9 : ex_V} {z : Int} {l : List ex_V} : ex_xs rt J C (.iload 10 :: is) (v0 :: v1 :: v2 :: v3 :: v4 :: v5 :: v6 :: v7 :: v8 :: v9 :: vI z :: l) st h = ex_xs rt J C is (v0 :: v1 :: v2 :: v3 :: v4 :: v5 :: v6 :: v7 :: v8 :: v9 :: vI z :: l) (vI z :: st) h := rfl
theorem xl_a10 {v0 v1 v2 v3 v4 v5 v6 v7 v8 v9 : ex_V} {z : Nat} {l : List ex_V} : ex_xs rt J C (.aload 10 :: is) (v0 :: v1 :: v2 :: v3 :: v4 :: v5 :: v6 :: v7 :: v8 :: v9 :: vR z :: l) st h = ex_xs rt J C is (v0 :: v1 :: v2 :: v3 :: v4 :: v5 :: v6 :: v7 :: v8 :: v9 :: vR z :: l) (vR z :: st) h := rfl
theorem xt_i10 {v0 v1 v2 v3 v4 v5 v6 v7 v8 v9 : ex_V} {w : ex_V} {z : Int} {l : List ex_V} : ex_xs rt J C (.istore 10 :: is) (v0 :: v1 :: v2 :: v3 :: v4 :: v5 :: v6 :: v7 :: v8 :: v9 :: w :: l) (vI z :: st) h = ex_xs rt J C is (v0 :: v1 :: v2 :: v3 :: v4 :: v5 :: v6 :: v7 :: v8 :: v9 :: vI z :: l) st h := xs_of _ _ _ (by dsimp only [ex_st]; rw [if_pos (by simp only [List.length_cons]; omega)]; rfl)
theorem xt_a10 {v0 v1 v2 v3 v4 v5 v6 v7 v8 v9 : ex_V} {w : ex_V} {z : Nat} {l : List ex_V} : ex_xs rt J C (.astore 10 :: is) (v0 :: v1 :: v2 :: v3 :: v4 :: v5 :: v6 :: v7 :: v8 :: v9 :: w :: l) (vR z :: st) h = ex_xs rt J C is (v0 :: v1 :: v2 :: v3 :: v4 :: v5 :: v6 :: v7 :: v8 :: v9 :: vR z :: l) st h := xs_of _ _ _ (by dsimp only [ex_st]; rw [if_pos (by simp only [List.length_cons]; omega)]; rfl)
theorem xn_10 {v0 v1 v2 v3 v4 v5 v6 v7 v8 v9 : ex_V} {z c : Int} {l : List ex_V} : ex_xs rt J C (.iinc 10 c :: is) (v0 :: v1 :: v2 :: v3 :: v4 :: v5 :: v6 :: v7 :: v8 :: v9 :: vI z :: l) st h = ex_xs rt J C is (v0 :: v1 :: v2 :: v3 :: v4 :: v5 :: v6 :: v7 :: v8 :: v9 :: vI (ex_wr (z + c)) :: l) st h := rfl
theorem x_push {v : Int} : ex_xs rt J C (.sipush v :: is) ls st h = ex_xs rt J C is ls (vI v :: st) h := rfl
theorem x_iadd {a b : Int} : ex_xs rt J C (.iadd :: is) ls (vI b :: vI a :: st) h = ex_xs rt J C is ls (vI (ex_wr (a + b)) :: st) h := rfl
theorem x_isub {a b : Int} : ex_xs rt J C (.isub :: is) ls (vI b :: vI a :: st) h = ex_xs rt J C is ls (vI (ex_wr (a - b)) :: st) h := rfl
theorem x_imul {a b : Int} : ex_xs rt J C (.imul :: is) ls (vI b :: vI a :: st) h = ex_xs rt J C is ls (vI (ex_wr (a * b)) :: st) h := rfl
theorem x_iand {a b : Int} : ex_xs rt J C (.iand :: is) ls (vI b :: vI a :: st) h = ex_xs rt J C is ls (vI (ex_and a b) :: st) h := rfl
theorem x_ior {a b : Int} : ex_xs rt J C (.ior :: is) ls (vI b :: vI a :: st) h = ex_xs rt J C is ls (vI (ex_or a b) :: st) h := rfl
theorem x_ixor {a b : Int} : ex_xs rt J C (.ixor :: is) ls (vI b :: vI a :: st) h = ex_xs rt J C is ls (vI (ex_xor a b) :: st) h := rfl
theorem x_ishl {a b : Int} : ex_xs rt J C (.ishl :: is) ls (vI b :: vI a :: st) h = ex_xs rt J C is ls (vI (ex_shl a b) :: st) h := rfl
theorem x_ishr {a b : Int} : ex_xs rt J C (.ishr :: is) ls (vI b :: vI a :: st) h = ex_xs rt J C is ls (vI (ex_shr a b) :: st) h := rfl
theorem x_iushr {a b : Int} : ex_xs rt J C (.iushr :: is) ls (vI b :: vI a :: st) h = ex_xs rt J C is ls (vI (ex_ushr a b) :: st) h := rfl
theorem x_idiv {a b : Int} (hb : b ≠ 0) : ex_xs rt J C (.idiv :: is) ls (vI b :: vI a :: st) h = ex_xs rt J C is ls (vI (ex_div a b) :: st) h := xs_of _ _ _ (by dsimp only [ex_st]; rw [if_neg hb])
theorem x_irem {a b : Int} (hb : b ≠ 0) : ex_xs rt J C (.irem :: is) ls (vI b :: vI a :: st) h = ex_xs rt J C is ls (vI (ex_rem a b) :: st) h := xs_of _ _ _ (by dsimp only [ex_st]; rw [if_neg hb])
theorem x_i2l {a : Int} : ex_xs rt J C (.i2l :: is) ls (vI a :: st) h = ex_xs rt J C is ls (vL a :: st) h := rfl
theorem x_ladd {a b : Int} : ex_xs rt J C (.ladd :: is) ls (vL b :: vL a :: st) h = ex_xs rt J C is ls (vL (ex_w64 (a + b)) :: st) h := rfl
theorem x_lcmp {a b : Int} : ex_xs rt J C (.lcmp :: is) ls (vL b :: vL a :: st) h = ex_xs rt J C is ls (vI (if b < a then 1 else if a = b then 0 else -1) :: st) h := rfl
theorem x_dupI {a : Int} : ex_xs rt J C (.dup :: is) ls (vI a :: st) h = ex_xs rt J C is ls (vI a :: vI a :: st) h := rfl
theorem x_dupR {a : Nat} : ex_xs rt J C (.dup :: is) ls (vR a :: st) h = ex_xs rt J C is ls (vR a :: vR a :: st) h := rfl
theorem x_dup2 {a : Nat} {i : Int} : ex_xs rt J C (.dup2 :: is) ls (vI i :: vR a :: st) h = ex_xs rt J C is ls (vI i :: vR a :: vI i :: vR a :: st) h := rfl
theorem x_popI {a : Int} : ex_xs rt J C (.pop :: is) ls (vI a :: st) h = ex_xs rt J C is ls st h := rfl
theorem x_ifnull {a : Nat} {t : Int} : ex_xs rt J C (.ifnull t :: is) ls (vR a :: st) h = ex_xs rt J C is ls st h := rfl
theorem x_gets0 : ex_xs rt J C (.getstatic 0 :: is) ls st h = ex_xs rt J C is ls (vR 1 :: st) h := rfl
theorem x_gets1 : ex_xs rt J C (.getstatic 1 :: is) ls st h = ex_xs rt J C is ls (vR 2 :: st) h := rfl
theorem x_gets2 : ex_xs rt J C (.getstatic 2 :: is) ls st h = ex_xs rt J C is ls (vR 3 :: st) h := rfl
theorem x_goto {t : Int} : ex_xs rt J C (.goto t :: is) ls st h = J t.toNat ls st h := rfl
theorem x_fall {t : Int} : ex_xs rt J C (.goto_w t :: is) ls st h = J t.toNat ls st h := rfl
theorem x_cmp_eq {a b t : Int} : ex_xs rt J C (.if_icmp .eq t :: is) ls (vI b :: vI a :: st) h = if a = b then J t.toNat ls st h else ex_xs rt J C is ls st h := by by_cases q : a = b; rw [if_pos q]; exact xs_ofJ _ _ _ _ (ex_if_t (c := .eq) q); rw [if_neg q]; exact xs_of _ _ _ (ex_if_f (c := .eq) q)
theorem x_if_eq {a t : Int} : ex_xs rt J C (.ifCond .eq t :: is) ls (vI a :: st) h = if a = 0 then J t.toNat ls st h else ex_xs rt J C is ls st h := by by_cases q : a = 0; rw [if_pos q]; exact xs_ofJ _ _ _ _ (ex_if_t (c := .eq) (b := 0) q); rw [if_neg q]; exact xs_of _ _ _ (ex_if_f (c := .eq) (b := 0) q)
theorem x_cmp_ne {a b t : Int} : ex_xs rt J C (.if_icmp .ne t :: is) ls (vI b :: vI a :: st) h = if a ≠ b then J t.toNat ls st h else ex_xs rt J C is ls st h := by by_cases q : a ≠ b; rw [if_pos q]; exact xs_ofJ _ _ _ _ (ex_if_t (c := .ne) q); rw [if_neg q]; exact xs_of _ _ _ (ex_if_f (c := .ne) q)
theorem x_if_ne {a t : Int} : ex_xs rt J C (.ifCond .ne t :: is) ls (vI a :: st) h = if a ≠ 0 then J t.toNat ls st h else ex_xs rt J C is ls st h := by by_cases q : a ≠ 0; rw [if_pos q]; exact xs_ofJ _ _ _ _ (ex_if_t (c := .ne) (b := 0) q); rw [if_neg q]; exact xs_of _ _ _ (ex_if_f (c := .ne) (b := 0) q)
theorem x_cmp_lt {a b t : Int} : ex_xs rt J C (.if_icmp .lt t :: is) ls (vI b :: vI a :: st) h = if a < b then J t.toNat ls st h else ex_xs rt J C is ls st h := by by_cases q : a < b; rw [if_pos q]; exact xs_ofJ _ _ _ _ (ex_if_t (c := .lt) q); rw [if_neg q]; exact xs_of _ _ _ (ex_if_f (c := .lt) q)
theorem x_if_lt {a t : Int} : ex_xs rt J C (.ifCond .lt t :: is) ls (vI a :: st) h = if a < 0 then J t.toNat ls st h else ex_xs rt J C is ls st h := by by_cases q : a < 0; rw [if_pos q]; exact xs_ofJ _ _ _ _ (ex_if_t (c := .lt) (b := 0) q); rw [if_neg q]; exact xs_of _ _ _ (ex_if_f (c := .lt) (b := 0) q)
theorem x_cmp_ge {a b t : Int} : ex_xs rt J C (.if_icmp .ge t :: is) ls (vI b :: vI a :: st) h = if b ≤ a then J t.toNat ls st h else ex_xs rt J C is ls st h := by by_cases q : b ≤ a; rw [if_pos q]; exact xs_ofJ _ _ _ _ (ex_if_t (c := .ge) q); rw [if_neg q]; exact xs_of _ _ _ (ex_if_f (c := .ge) q)
theorem x_if_ge {a t : Int} : ex_xs rt J C (.ifCond .ge t :: is) ls (vI a :: st) h = if 0 ≤ a then J t.toNat ls st h else ex_xs rt J C is ls st h := by by_cases q : 0 ≤ a; rw [if_pos q]; exact xs_ofJ _ _ _ _ (ex_if_t (c := .ge) (b := 0) q); rw [if_neg q]; exact xs_of _ _ _ (ex_if_f (c := .ge) (b := 0) q)
theorem x_cmp_gt {a b t : Int} : ex_xs rt J C (.if_icmp .gt t :: is) ls (vI b :: vI a :: st) h = if b < a then J t.toNat ls st h else ex_xs rt J C is ls st h := by by_cases q : b < a; rw [if_pos q]; exact xs_ofJ _ _ _ _ (ex_if_t (c := .gt) q); rw [if_neg q]; exact xs_of _ _ _ (ex_if_f (c := .gt) q)
theorem x_if_gt {a t : Int} : ex_xs rt J C (.ifCond .gt t :: is) ls (vI a :: st) h = if 0 < a then J t.toNat ls st h else ex_xs rt J C is ls st h := by by_cases q : 0 < a; rw [if_pos q]; exact xs_ofJ _ _ _ _ (ex_if_t (c := .gt) (b := 0) q); rw [if_neg q]; exact xs_of _ _ _ (ex_if_f (c := .gt) (b := 0) q)
theorem x_cmp_le {a b t : Int} : ex_xs rt J C (.if_icmp .le t :: is) ls (vI b :: vI a :: st) h = if a ≤ b then J t.toNat ls st h else ex_xs rt J C is ls st h := by by_cases q : a ≤ b; rw [if_pos q]; exact xs_ofJ _ _ _ _ (ex_if_t (c := .le) q); rw [if_neg q]; exact xs_of _ _ _ (ex_if_f (c := .le) q)
theorem x_if_le {a t : Int} : ex_xs rt J C (.ifCond .le t :: is) ls (vI a :: st) h = if a ≤ 0 then J t.toNat ls st h else ex_xs rt J C is ls st h := by by_cases q : a ≤ 0; rw [if_pos q]; exact xs_ofJ _ _ _ _ (ex_if_t (c := .le) (b := 0) q); rw [if_neg q]; exact xs_of _ _ _ (ex_if_f (c := .le) (b := 0) q)
theorem y_cmp_eq_t {a b t : Int} (q : a = b) : ex_xs rt J C (.if_icmp .eq t :: is) ls (vI b :: vI a :: st) h = J t.toNat ls st h := xs_ofJ _ _ _ _ (ex_if_t (c := .eq) q)
theorem y_cmp_eq_f {a b t : Int} (q : a ≠ b) : ex_xs rt J C (.if_icmp .eq t :: is) ls (vI b :: vI a :: st) h = ex_xs rt J C is ls st h := xs_of _ _ _ (ex_if_f (c := .eq) (show ¬ (a = b) from q))
theorem y_if_eq_t {a t : Int} (q : a = 0) : ex_xs rt J C (.ifCond .eq t :: is) ls (vI a :: st) h = J t.toNat ls st h := xs_ofJ _ _ _ _ (ex_if_t (c := .eq) (b := 0) q)
theorem y_if_eq_f {a t : Int} (q : a ≠ 0) : ex_xs rt J C (.ifCond .eq t :: is) ls (vI a :: st) h = ex_xs rt J C is ls st h := xs_of _ _ _ (ex_if_f (c := .eq) (b := 0) (show ¬ (a = 0) from q))
theorem y_cmp_ne_t {a b t : Int} (q : a ≠ b) : ex_xs rt J C (.if_icmp .ne t :: is) ls (vI b :: vI a :: st) h = J t.toNat ls st h := xs_ofJ _ _ _ _ (ex_if_t (c := .ne) q)
theorem y_cmp_ne_f {a b t : Int} (q : a = b) : ex_xs rt J C (.if_icmp .ne t :: is) ls (vI b :: vI a :: st) h = ex_xs rt J C is ls st h := xs_of _ _ _ (ex_if_f (c := .ne) (show ¬ (a ≠ b) from (fun h9 => h9 q)))
theorem y_if_ne_t {a t : Int} (q : a ≠ 0) : ex_xs rt J C (.ifCond .ne t :: is) ls (vI a :: st) h = J t.toNat ls st h := xs_ofJ _ _ _ _ (ex_if_t (c := .ne) (b := 0) q)
theorem y_if_ne_f {a t : Int} (q : a = 0) : ex_xs rt J C (.ifCond .ne t :: is) ls (vI a :: st) h = ex_xs rt J C is ls st h := xs_of _ _ _ (ex_if_f (c := .ne) (b := 0) (show ¬ (a ≠ 0) from (fun h9 => h9 q)))
theorem y_cmp_lt_t {a b t : Int} (q : a < b) : ex_xs rt J C (.if_icmp .lt t :: is) ls (vI b :: vI a :: st) h = J t.toNat ls st h := xs_ofJ _ _ _ _ (ex_if_t (c := .lt) q)
theorem y_cmp_lt_f {a b t : Int} (q : b ≤ a) : ex_xs rt J C (.if_icmp .lt t :: is) ls (vI b :: vI a :: st) h = ex_xs rt J C is ls st h := xs_of _ _ _ (ex_if_f (c := .lt) (show ¬ (a < b) from (by omega)))
theorem y_if_lt_t {a t : Int} (q : a < 0) : ex_xs rt J C (.ifCond .lt t :: is) ls (vI a :: st) h = J t.toNat ls st h := xs_ofJ _ _ _ _ (ex_if_t (c := .lt) (b := 0) q)
theorem y_if_lt_f {a t : Int} (q : 0 ≤ a) : ex_xs rt J C (.ifCond .lt t :: is) ls (vI a :: st) h = ex_xs rt J C is ls st h := xs_of _ _ _ (ex_if_f (c := .lt) (b := 0) (show ¬ (a < 0) from (by omega)))
theorem y_cmp_ge_t {a b t : Int} (q : b ≤ a) : ex_xs rt J C (.if_icmp .ge t :: is) ls (vI b :: vI a :: st) h = J t.toNat ls st h := xs_ofJ _ _ _ _ (ex_if_t (c := .ge) q)
theorem y_cmp_ge_f {a b t : Int} (q : a < b) : ex_xs rt J C (.if_icmp .ge t :: is) ls (vI b :: vI a :: st) h = ex_xs rt J C is ls st h := xs_of _ _ _ (ex_if_f (c := .ge) (show ¬ (b ≤ a) from (by omega)))
theorem y_if_ge_t {a t : Int} (q : 0 ≤ a) : ex_xs rt J C (.ifCond .ge t :: is) ls (vI a :: st) h = J t.toNat ls st h := xs_ofJ _ _ _ _ (ex_if_t (c := .ge) (b := 0) q)
theorem y_if_ge_f {a t : Int} (q : a < 0) : ex_xs rt J C (.ifCond .ge t :: is) ls (vI a :: st) h = ex_xs rt J C is ls st h := xs_of _ _ _ (ex_if_f (c := .ge) (b := 0) (show ¬ (0 ≤ a) from (by omega)))
theorem y_cmp_gt_t {a b t : Int} (q : b < a) : ex_xs rt J C (.if_icmp .gt t :: is) ls (vI b :: vI a :: st) h = J t.toNat ls st h := xs_ofJ _ _ _ _ (ex_if_t (c := .gt) q)
theorem y_cmp_gt_f {a b t : Int} (q : a ≤ b) : ex_xs rt J C (.if_icmp .gt t :: is) ls (vI b :: vI a :: st) h = ex_xs rt J C is ls st h := xs_of _ _ _ (ex_if_f (c := .gt) (show ¬ (b < a) from (by omega)))
theorem y_if_gt_t {a t : Int} (q : 0 < a) : ex_xs rt J C (.ifCond .gt t :: is) ls (vI a :: st) h = J t.toNat ls st h := xs_ofJ _ _ _ _ (ex_if_t (c := .gt) (b := 0) q)
theorem y_if_gt_f {a t : Int} (q : a ≤ 0) : ex_xs rt J C (.ifCond .gt t :: is) ls (vI a :: st) h = ex_xs rt J C is ls st h := xs_of _ _ _ (ex_if_f (c := .gt) (b := 0) (show ¬ (0 < a) from (by omega)))
theorem y_cmp_le_t {a b t : Int} (q : a ≤ b) : ex_xs rt J C (.if_icmp .le t :: is) ls (vI b :: vI a :: st) h = J t.toNat ls st h := xs_ofJ _ _ _ _ (ex_if_t (c := .le) q)
theorem y_cmp_le_f {a b t : Int} (q : b < a) : ex_xs rt J C (.if_icmp .le t :: is) ls (vI b :: vI a :: st) h = ex_xs rt J C is ls st h := xs_of _ _ _ (ex_if_f (c := .le) (show ¬ (a ≤ b) from (by omega)))
theorem y_if_le_t {a t : Int} (q : a ≤ 0) : ex_xs rt J C (.ifCond .le t :: is) ls (vI a :: st) h = J t.toNat ls st h := xs_ofJ _ _ _ _ (ex_if_t (c := .le) (b := 0) q)
theorem y_if_le_f {a t : Int} (q : 0 < a) : ex_xs rt J C (.ifCond .le t :: is) ls (vI a :: st) h = ex_xs rt J C is ls st h := xs_of _ _ _ (ex_if_f (c := .le) (b := 0) (show ¬ (a ≤ 0) from (by omega)))
theorem x_ret1 {z : Int} : ex_xs 1 J C (.ireturn :: is) ls [vI z] h = some ([vI z], h) := rfl
theorem x_ret2 {z : Int} (hz : z = 0 ∨ z = 1) : ex_xs 2 J C (.ireturn :: is) ls [vI z] h = some ([vI z], h) := by
  have e : ex_st 2 ls [vI z] h .ireturn = oR [vI z] h := by dsimp only [ex_st]; rw [if_pos (Or.inr ⟨rfl, hz⟩)]
  rw [ex_xs, e]
theorem x_ret0 : ex_xs 0 J C (.return_ :: is) ls [] h = some ([], h) := rfl
theorem x_tab {df lo hi : Int} {of : Array Int} {a : Int} : ex_xs rt J C (.tableswitch df lo hi of :: is) ls (vI a :: st) h = if a < lo ∨ hi < a then J df.toNat ls st h else (match of[(a - lo).toNat]? with
    | some t => J t.toNat ls st h
    | none => none) := by
  by_cases q : a < lo ∨ hi < a
  · rw [if_pos q]; exact xs_ofJ _ _ _ _ (by dsimp only [ex_st]; rw [if_pos q])
  · rw [if_neg q]
    cases hof : of[(a - lo).toNat]? with
    | none =>
      have e : ex_st rt ls (vI a :: st) h (.tableswitch df lo hi of) = none := by dsimp only [ex_st]; rw [if_neg q, hof]
      rw [ex_xs, e]
    | some t => exact xs_ofJ _ _ _ _ (by dsimp only [ex_st]; rw [if_neg q, hof])
theorem x_look {df : Int} {ps : Array (Int × Int)} {a : Int} : ex_xs rt J C (.lookupswitch df ps :: is) ls (vI a :: st) h = J (Op.lookupswitch.offset ps.toList df a).toNat ls st h := rfl
/-- cells: ints of an array, fields -/
def ex_ok (st : List ex_V) : Bool := decide (st.length ≤ 8) && st.all ex_sh
theorem x_ald {Sh : List ex_C} {σ : ex_S} {a n : Nat} {i : Int} (hs : Sh[a]? = some (cA n)) (h0 : 0 ≤ i) (h1 : i < (n : Int)) : ex_xs rt J C (.iaload :: is) ls (vI i :: vR a :: st) (Sh, σ) = ex_xs rt J C is ls (vI (σ a i) :: st) (Sh, σ) := xs_of _ _ _ (by dsimp only [ex_st]; rw [hs]; dsimp only; rw [if_pos ⟨h0, h1⟩])
theorem x_ast {Sh : List ex_C} {σ : ex_S} {a n : Nat} {i z : Int} (hs : Sh[a]? = some (cA n)) (h4 : 4 ≤ a) (h0 : 0 ≤ i) (h1 : i < (n : Int)) : ex_xs rt J C (.iastore :: is) ls (vI z :: vI i :: vR a :: st) (Sh, σ) = ex_xs rt J C is ls st (Sh, ex_ar σ a (ex_u (σ a) i z)) := xs_of _ _ _ (by dsimp only [ex_st]; rw [hs]; dsimp only; rw [if_pos ⟨h4, h0, h1⟩])
theorem x_aln {Sh : List ex_C} {σ : ex_S} {a n : Nat} (hs : Sh[a]? = some (cA n)) : ex_xs rt J C (.arraylength :: is) ls (vR a :: st) (Sh, σ) = ex_xs rt J C is ls (vI (ex_wr n) :: st) (Sh, σ) := xs_of _ _ _ (by dsimp only [ex_st]; rw [hs])
theorem x_getI {Sh : List ex_C} {σ : ex_S} {a c q k : Nat} {f : List (Option (Option Nat))} (hs : Sh[a]? = some (cO c f)) (h4 : 4 ≤ a) (hc : c = q / 32) (hk : q % 32 = k) (hf : f[k]? = some none) : ex_xs rt J C (.getfield q :: is) ls (vR a :: st) (Sh, σ) = ex_xs rt J C is ls (vI (σ a (k : Int)) :: st) (Sh, σ) := by
  subst hk
  exact xs_of _ _ _ (by dsimp only [ex_st]; rw [hs]; dsimp only; rw [if_pos ⟨h4, hc⟩, hf])
theorem x_getR {Sh : List ex_C} {σ : ex_S} {a c q r : Nat} {f : List (Option (Option Nat))} (hs : Sh[a]? = some (cO c f)) (h4 : 4 ≤ a) (hc : c = q / 32) (hf : f[q % 32]? = some (some (some r))) : ex_xs rt J C (.getfield q :: is) ls (vR a :: st) (Sh, σ) = ex_xs rt J C is ls (vR r :: st) (Sh, σ) :=
  xs_of _ _ _ (by dsimp only [ex_st]; rw [hs]; dsimp only; rw [if_pos ⟨h4, hc⟩, hf])
theorem x_putI {Sh : List ex_C} {σ : ex_S} {a c q k : Nat} {z : Int} {f : List (Option (Option Nat))} (hs : Sh[a]? = some (cO c f)) (h4 : 4 ≤ a) (hc : c = q / 32) (hk : q % 32 = k) (hf : f[k]? = some none) : ex_xs rt J C (.putfield q :: is) ls (vI z :: vR a :: st) (Sh, σ) = ex_xs rt J C is ls st (Sh, ex_ar σ a (ex_u (σ a) (k : Int) z)) := by
  subst hk
  exact xs_of _ _ _ (by dsimp only [ex_st]; rw [hs]; dsimp only; rw [if_pos ⟨h4, hc⟩, hf])
theorem x_cpy {Sh : List ex_C} {σ : ex_S} {a b n0 n1 : Nat} {sp dp n : Int} (hs : Sh[a]? = some (cA n0)) (hs2 : Sh[b]? = some (cA n1)) (h4 : 4 ≤ a) (h5 : 4 ≤ b) (h0 : 0 ≤ sp) (h1 : 0 ≤ dp) (h2 : 0 ≤ n) (h6 : sp + n ≤ (n0 : Int)) (h7 : dp + n ≤ (n1 : Int)) (hok : ex_ok st = true) : ex_xs rt J C (.invokedynamic 0 :: is) ls (vI n :: vI dp :: vR b :: vI sp :: vR a :: st) (Sh, σ) = ex_xs rt J C is ls st (Sh, ex_ar σ b (ex_cpy (σ a) (σ b) sp dp n)) := by
  unfold ex_ok at hok
  rw [Bool.and_eq_true, decide_eq_true_eq] at hok
  exact xs_of _ _ _ (by dsimp only [ex_st]; rw [if_neg (by decide)]; rw [hs, hs2]; dsimp only; rw [if_pos ⟨h4, h5, h0, h1, h2, h6, h7, hok.1, hok.2⟩])
theorem x_call0 {m own n mL r : Nat} (hm : ex_mt[m]? = some (0, own, n, mL, r)) {as st0 vs : List ex_V} {h' : ex_H} (hn : as.length = n) (hsa : as.all ex_sh = true) (hok : ex_ok st0 = true) (hst : as.reverse ++ st0 = st) (hc : C m as h = some (vs, h')) : ex_xs rt J C (.invokestatic m :: is) ls st h = ex_xs rt J C is ls (vs ++ st0) h' := by
  unfold ex_ok at hok
  rw [Bool.and_eq_true, decide_eq_true_eq] at hok
  subst hst
  have hl : as.reverse.length = n := by rw [List.length_reverse]; exact hn
  have e : ex_st rt ls (as.reverse ++ st0) h (.invokestatic m) = oC m as st0 h := by
    show ex_ca 0 m (as.reverse ++ st0) h = _
    unfold ex_ca
    rw [hm]
    dsimp only
    rw [if_pos ⟨rfl, by rw [List.length_append, hl]; omega, by rw [List.length_append, hl]; omega, by rw [List.all_append, List.all_reverse, hsa, hok.2]; rfl⟩, if_pos rfl, List.take_left' hl, List.drop_left' hl, List.reverse_reverse]
  rw [ex_xs, e]
  dsimp only
  rw [hc]
theorem x_call1 {m own n mL r k : Nat} (hk : k = 1 ∨ k = 2) (hm : ex_mt[m]? = some (k, own, n, mL, r)) {Sh : List ex_C} {σ : ex_S} {a : Nat} {f : List (Option (Option Nat))} (hs : Sh[a]? = some (cO own f)) {i : Instr} (hi : (k = 1 ∧ i = .invokevirtual m) ∨ (k = 2 ∧ i = .invokespecial m)) {as st0 vs : List ex_V} {h' : ex_H} (hn : as.length + 1 = n) (hsa : as.all ex_sh = true) (hok : ex_ok st0 = true) (hst : as.reverse ++ vR a :: st0 = st) (hc : C m (vR a :: as) (Sh, σ) = some (vs, h')) : ex_xs rt J C (i :: is) ls st (Sh, σ) = ex_xs rt J C is ls (vs ++ st0) h' := by
  unfold ex_ok at hok
  rw [Bool.and_eq_true, decide_eq_true_eq] at hok
  subst hst
  have hl : (as.reverse ++ [vR a]).length = n := by rw [List.length_append, List.length_reverse]; exact hn
  have hq : as.reverse ++ vR a :: st0 = (as.reverse ++ [vR a]) ++ st0 := by rw [List.append_assoc]; rfl
  have e0 : ex_ca k m (as.reverse ++ vR a :: st0) (Sh, σ) = oC m (vR a :: as) st0 (Sh, σ) := by
    unfold ex_ca
    rw [hm]
    dsimp only
    have hrv : (as.reverse ++ [vR a]).reverse = vR a :: as := by rw [List.reverse_append, List.reverse_reverse]; rfl
    rw [hq, if_pos ⟨rfl, by rw [List.length_append, hl]; omega, by rw [List.length_append, hl]; omega, by rw [List.all_append, List.all_append, List.all_reverse, hsa, hok.2]; rfl⟩, if_neg (by omega), List.take_left' hl, List.drop_left' hl, hrv]
    dsimp only
    rw [hs]
    dsimp only
    rw [if_pos rfl]
  have e : ex_st rt ls (as.reverse ++ vR a :: st0) (Sh, σ) i = oC m (vR a :: as) st0 (Sh, σ) := by
    rcases hi with ⟨rfl, rfl⟩ | ⟨rfl, rfl⟩ <;> exact e0
  rw [ex_xs, e]
  dsimp only
  rw [hc]
end XR
theorem ex_cd_eq {d m : Nat} (hd : 0 < d) (as : List ex_V) (h : ex_H) : ex_cd d m as h = ex_ev (d - 1) m 0 (ex_fr m as) [] h := by
  obtain ⟨k, rfl⟩ : ∃ k, d = k + 1 := ⟨d - 1, by omega⟩
  rfl
theorem sh_1 (L : Nat) : (SH L)[1]? = some (cA 4) := rfl
theorem sh_2 (L : Nat) : (SH L)[2]? = some (cA 6) := rfl
theorem sh_3 (L : Nat) : (SH L)[3]? = some (cA 6) := rfl
theorem sh_4 (L : Nat) : (SH L)[4]? = some (cO 11 [some (some 5), some (some 28), some (some 29), some (some 33), some (some 47), some (some 51), some (some 54), some (some 57), some (some 60), none, none, none]) := rfl
theorem sh_5 (L : Nat) : (SH L)[5]? = some (cO 1 [some (some 6), some (some 18), some (some 21), some (some 25), some (some 26), some (some 27), none, none, none, none, none, none, none]) := rfl
theorem sh_6 (L : Nat) : (SH L)[6]? = some (cO 2 [none, none, some (some 7), some (some 8), some (some 9), some (some 10), some (some 11), some (some 12), some (some 13), some (some 14), some (some 15), some (some 16), some (some 17)]) := rfl
theorem sh_7 (L : Nat) : (SH L)[7]? = some (cA 5) := rfl
theorem sh_8 (L : Nat) : (SH L)[8]? = some (cA 5) := rfl
theorem sh_9 (L : Nat) : (SH L)[9]? = some (cA 5) := rfl
theorem sh_10 (L : Nat) : (SH L)[10]? = some (cA 5) := rfl
theorem sh_11 (L : Nat) : (SH L)[11]? = some (cA 5) := rfl
theorem sh_12 (L : Nat) : (SH L)[12]? = some (cA 5) := rfl
theorem sh_13 (L : Nat) : (SH L)[13]? = some (cA 5) := rfl
theorem sh_14 (L : Nat) : (SH L)[14]? = some (cA 5) := rfl
theorem sh_15 (L : Nat) : (SH L)[15]? = some (cA 40) := rfl
theorem sh_16 (L : Nat) : (SH L)[16]? = some (cA 48) := rfl
theorem sh_17 (L : Nat) : (SH L)[17]? = some (cA 8) := rfl
theorem sh_18 (L : Nat) : (SH L)[18]? = some (cO 4 [none, some (some 19), some (some 20)]) := rfl
theorem sh_19 (L : Nat) : (SH L)[19]? = some (cA 60) := rfl
theorem sh_20 (L : Nat) : (SH L)[20]? = some (cA 60) := rfl
theorem sh_21 (L : Nat) : (SH L)[21]? = some (cO 3 [none, some (some 22), some (some 23), some (some 24)]) := rfl
theorem sh_22 (L : Nat) : (SH L)[22]? = some (cA 30) := rfl
theorem sh_23 (L : Nat) : (SH L)[23]? = some (cA 30) := rfl
theorem sh_24 (L : Nat) : (SH L)[24]? = some (cA 30) := rfl
theorem sh_25 (L : Nat) : (SH L)[25]? = some (cA 25) := rfl
theorem sh_26 (L : Nat) : (SH L)[26]? = some (cA 16) := rfl
theorem sh_27 (L : Nat) : (SH L)[27]? = some (cA 7) := rfl
theorem sh_28 (L : Nat) : (SH L)[28]? = some (cQ [some 64, some 87, some 110, some 133, some 156, some 179, some 202, some 225, some 248, some 271, some 294, some 317, some 340, some 363, some 386, some 409]) := rfl
theorem sh_29 (L : Nat) : (SH L)[29]? = some (cO 9 [some (some 30), some (some 31), some (some 32)]) := rfl
theorem sh_30 (L : Nat) : (SH L)[30]? = some (cA 4) := rfl
theorem sh_31 (L : Nat) : (SH L)[31]? = some (cA 4) := rfl
theorem sh_32 (L : Nat) : (SH L)[32]? = some (cA 80) := rfl
theorem sh_33 (L : Nat) : (SH L)[33]? = some (cO 10 [some (some 34), some (some 35), none]) := rfl
theorem sh_34 (L : Nat) : (SH L)[34]? = some (cA 3) := rfl
theorem sh_35 (L : Nat) : (SH L)[35]? = some (cO 2 [none, none, some (some 36), some (some 37), some (some 38), some (some 39), some (some 40), some (some 41), some (some 42), some (some 43), some (some 44), some (some 45), some (some 46)]) := rfl
theorem sh_36 (L : Nat) : (SH L)[36]? = some (cA 5) := rfl
theorem sh_37 (L : Nat) : (SH L)[37]? = some (cA 5) := rfl
theorem sh_38 (L : Nat) : (SH L)[38]? = some (cA 5) := rfl
theorem sh_39 (L : Nat) : (SH L)[39]? = some (cA 5) := rfl
theorem sh_40 (L : Nat) : (SH L)[40]? = some (cA 5) := rfl
theorem sh_41 (L : Nat) : (SH L)[41]? = some (cA 5) := rfl
theorem sh_42 (L : Nat) : (SH L)[42]? = some (cA 5) := rfl
theorem sh_43 (L : Nat) : (SH L)[43]? = some (cA 5) := rfl
theorem sh_44 (L : Nat) : (SH L)[44]? = some (cA 40) := rfl
theorem sh_45 (L : Nat) : (SH L)[45]? = some (cA 48) := rfl
theorem sh_46 (L : Nat) : (SH L)[46]? = some (cA 8) := rfl
theorem sh_47 (L : Nat) : (SH L)[47]? = some (cO 5 [some (some 48), some (some 49), some (some 50), none]) := rfl
theorem sh_48 (L : Nat) : (SH L)[48]? = some (cA 7) := rfl
theorem sh_49 (L : Nat) : (SH L)[49]? = some (cA 7) := rfl
theorem sh_50 (L : Nat) : (SH L)[50]? = some (cA 5) := rfl
theorem sh_51 (L : Nat) : (SH L)[51]? = some (cO 0 [some (some 52), some (some 53)]) := rfl
theorem sh_52 (L : Nat) : (SH L)[52]? = some (cA 24) := rfl
theorem sh_53 (L : Nat) : (SH L)[53]? = some (cA 8) := rfl
theorem sh_54 (L : Nat) : (SH L)[54]? = some (cO 6 [some (some 55), some (some 56), none]) := rfl
theorem sh_55 (L : Nat) : (SH L)[55]? = some (cA 5) := rfl
theorem sh_56 (L : Nat) : (SH L)[56]? = some (cA 5) := rfl
theorem sh_57 (L : Nat) : (SH L)[57]? = some (cO 8 [some (some 58), some (some 59)]) := rfl
theorem sh_58 (L : Nat) : (SH L)[58]? = some (cA 5) := rfl
theorem sh_59 (L : Nat) : (SH L)[59]? = some (cA 7) := rfl
theorem sh_60 (L : Nat) : (SH L)[60]? = some (cO 7 [some (some 61), none, some (some 62), some (some 63), none]) := rfl
set_option maxRecDepth 20000 in
theorem sh_61 (L : Nat) : (SH L)[61]? = some (cA 8) := rfl
set_option maxRecDepth 20000 in
theorem sh_62 (L : Nat) : (SH L)[62]? = some (cA 8) := rfl
set_option maxRecDepth 20000 in
theorem sh_63 (L : Nat) : (SH L)[63]? = some (cA 5) := rfl
set_option maxRecDepth 20000 in
theorem sh_432 (L : Nat) : (SH L)[432]? = some (cO 12 [some (some 433), some (some 434), none, none, some (some 435), some (some 436), some (some 437), some (some 438), some (some 439), some (some 440), some (some 441), none, some (some 442), some (some 443), some (some 444), none, none, some (some 445), some (some 446), some (some 447), some (some 448)]) := rfl
set_option maxRecDepth 20000 in
theorem sh_433 (L : Nat) : (SH L)[433]? = some (cA 277) := rfl
set_option maxRecDepth 20000 in
theorem sh_434 (L : Nat) : (SH L)[434]? = some (cA 4432) := rfl
set_option maxRecDepth 20000 in
theorem sh_435 (L : Nat) : (SH L)[435]? = some (cA 4) := rfl
set_option maxRecDepth 20000 in
theorem sh_436 (L : Nat) : (SH L)[436]? = some (cA 4) := rfl
set_option maxRecDepth 20000 in
theorem sh_437 (L : Nat) : (SH L)[437]? = some (cA 80) := rfl
set_option maxRecDepth 20000 in
theorem sh_438 (L : Nat) : (SH L)[438]? = some (cA 200) := rfl
set_option maxRecDepth 20000 in
theorem sh_439 (L : Nat) : (SH L)[439]? = some (cA 3) := rfl
set_option maxRecDepth 20000 in
theorem sh_440 (L : Nat) : (SH L)[440]? = some (cA 7) := rfl
set_option maxRecDepth 20000 in
theorem sh_441 (L : Nat) : (SH L)[441]? = some (cA 7) := rfl
set_option maxRecDepth 20000 in
theorem sh_442 (L : Nat) : (SH L)[442]? = some (cA 8) := rfl
set_option maxRecDepth 20000 in
theorem sh_443 (L : Nat) : (SH L)[443]? = some (cA 5) := rfl
set_option maxRecDepth 20000 in
theorem sh_444 (L : Nat) : (SH L)[444]? = some (cA 5) := rfl
set_option maxRecDepth 20000 in
theorem sh_445 (L : Nat) : (SH L)[445]? = some (cA 8) := rfl
set_option maxRecDepth 20000 in
theorem sh_446 (L : Nat) : (SH L)[446]? = some (cA 8) := rfl
set_option maxRecDepth 20000 in
theorem sh_447 (L : Nat) : (SH L)[447]? = some (cA 5) := rfl
set_option maxRecDepth 20000 in
theorem sh_448 (L : Nat) : (SH L)[448]? = some (cA 20) := rfl
end
section
/-! rows per cell, blocks unfolded (written by wip/whole/gen3.py) -/
section XA
variable {rt : Nat} {J : Nat → List ex_V → List ex_V → ex_H → Option ex_R} {C : Nat → List ex_V → ex_H → Option ex_R} {is : List Instr} {ls st : List ex_V} {L : Nat} {σ : ex_S}
theorem ld_1 {i : Int} (h0 : 0 ≤ i) (h1 : i < 4) : ex_xs rt J C (.iaload :: is) ls (vI i :: vR 1 :: st) (SH L, σ) = ex_xs rt J C is ls (vI (σ 1 i) :: st) (SH L, σ) := x_ald (n := 4) (sh_1 L) h0 h1
theorem ln_1 : ex_xs rt J C (.arraylength :: is) ls (vR 1 :: st) (SH L, σ) = ex_xs rt J C is ls (vI 4 :: st) (SH L, σ) := x_aln (n := 4) (sh_1 L)
theorem ld_2 {i : Int} (h0 : 0 ≤ i) (h1 : i < 6) : ex_xs rt J C (.iaload :: is) ls (vI i :: vR 2 :: st) (SH L, σ) = ex_xs rt J C is ls (vI (σ 2 i) :: st) (SH L, σ) := x_ald (n := 6) (sh_2 L) h0 h1
theorem ln_2 : ex_xs rt J C (.arraylength :: is) ls (vR 2 :: st) (SH L, σ) = ex_xs rt J C is ls (vI 6 :: st) (SH L, σ) := x_aln (n := 6) (sh_2 L)
theorem ld_3 {i : Int} (h0 : 0 ≤ i) (h1 : i < 6) : ex_xs rt J C (.iaload :: is) ls (vI i :: vR 3 :: st) (SH L, σ) = ex_xs rt J C is ls (vI (σ 3 i) :: st) (SH L, σ) := x_ald (n := 6) (sh_3 L) h0 h1
theorem ln_3 : ex_xs rt J C (.arraylength :: is) ls (vR 3 :: st) (SH L, σ) = ex_xs rt J C is ls (vI 6 :: st) (SH L, σ) := x_aln (n := 6) (sh_3 L)
theorem gf_4_0 : ex_xs rt J C (.getfield 352 :: is) ls (vR 4 :: st) (SH L, σ) = ex_xs rt J C is ls (vR 5 :: st) (SH L, σ) := x_getR (sh_4 L) (by decide) rfl rfl
theorem gf_4_1 : ex_xs rt J C (.getfield 353 :: is) ls (vR 4 :: st) (SH L, σ) = ex_xs rt J C is ls (vR 28 :: st) (SH L, σ) := x_getR (sh_4 L) (by decide) rfl rfl
theorem gf_4_2 : ex_xs rt J C (.getfield 354 :: is) ls (vR 4 :: st) (SH L, σ) = ex_xs rt J C is ls (vR 29 :: st) (SH L, σ) := x_getR (sh_4 L) (by decide) rfl rfl
theorem gf_4_3 : ex_xs rt J C (.getfield 355 :: is) ls (vR 4 :: st) (SH L, σ) = ex_xs rt J C is ls (vR 33 :: st) (SH L, σ) := x_getR (sh_4 L) (by decide) rfl rfl
theorem gf_4_4 : ex_xs rt J C (.getfield 356 :: is) ls (vR 4 :: st) (SH L, σ) = ex_xs rt J C is ls (vR 47 :: st) (SH L, σ) := x_getR (sh_4 L) (by decide) rfl rfl
theorem gf_4_5 : ex_xs rt J C (.getfield 357 :: is) ls (vR 4 :: st) (SH L, σ) = ex_xs rt J C is ls (vR 51 :: st) (SH L, σ) := x_getR (sh_4 L) (by decide) rfl rfl
theorem gf_4_6 : ex_xs rt J C (.getfield 358 :: is) ls (vR 4 :: st) (SH L, σ) = ex_xs rt J C is ls (vR 54 :: st) (SH L, σ) := x_getR (sh_4 L) (by decide) rfl rfl
theorem gf_4_7 : ex_xs rt J C (.getfield 359 :: is) ls (vR 4 :: st) (SH L, σ) = ex_xs rt J C is ls (vR 57 :: st) (SH L, σ) := x_getR (sh_4 L) (by decide) rfl rfl
theorem gf_4_8 : ex_xs rt J C (.getfield 360 :: is) ls (vR 4 :: st) (SH L, σ) = ex_xs rt J C is ls (vR 60 :: st) (SH L, σ) := x_getR (sh_4 L) (by decide) rfl rfl
theorem gf_4_9 : ex_xs rt J C (.getfield 361 :: is) ls (vR 4 :: st) (SH L, σ) = ex_xs rt J C is ls (vI (σ 4 9) :: st) (SH L, σ) := x_getI (k := 9) (sh_4 L) (by decide) rfl rfl rfl
theorem pf_4_9 {z : Int} : ex_xs rt J C (.putfield 361 :: is) ls (vI z :: vR 4 :: st) (SH L, σ) = ex_xs rt J C is ls st (SH L, ex_ar σ 4 (ex_u (σ 4) 9 z)) := x_putI (k := 9) (sh_4 L) (by decide) rfl rfl rfl
theorem gf_4_10 : ex_xs rt J C (.getfield 362 :: is) ls (vR 4 :: st) (SH L, σ) = ex_xs rt J C is ls (vI (σ 4 10) :: st) (SH L, σ) := x_getI (k := 10) (sh_4 L) (by decide) rfl rfl rfl
theorem pf_4_10 {z : Int} : ex_xs rt J C (.putfield 362 :: is) ls (vI z :: vR 4 :: st) (SH L, σ) = ex_xs rt J C is ls st (SH L, ex_ar σ 4 (ex_u (σ 4) 10 z)) := x_putI (k := 10) (sh_4 L) (by decide) rfl rfl rfl
theorem gf_4_11 : ex_xs rt J C (.getfield 363 :: is) ls (vR 4 :: st) (SH L, σ) = ex_xs rt J C is ls (vI (σ 4 11) :: st) (SH L, σ) := x_getI (k := 11) (sh_4 L) (by decide) rfl rfl rfl
theorem pf_4_11 {z : Int} : ex_xs rt J C (.putfield 363 :: is) ls (vI z :: vR 4 :: st) (SH L, σ) = ex_xs rt J C is ls st (SH L, ex_ar σ 4 (ex_u (σ 4) 11 z)) := x_putI (k := 11) (sh_4 L) (by decide) rfl rfl rfl
theorem gf_5_0 : ex_xs rt J C (.getfield 32 :: is) ls (vR 5 :: st) (SH L, σ) = ex_xs rt J C is ls (vR 6 :: st) (SH L, σ) := x_getR (sh_5 L) (by decide) rfl rfl
theorem gf_5_1 : ex_xs rt J C (.getfield 33 :: is) ls (vR 5 :: st) (SH L, σ) = ex_xs rt J C is ls (vR 18 :: st) (SH L, σ) := x_getR (sh_5 L) (by decide) rfl rfl
theorem gf_5_2 : ex_xs rt J C (.getfield 34 :: is) ls (vR 5 :: st) (SH L, σ) = ex_xs rt J C is ls (vR 21 :: st) (SH L, σ) := x_getR (sh_5 L) (by decide) rfl rfl
theorem gf_5_3 : ex_xs rt J C (.getfield 35 :: is) ls (vR 5 :: st) (SH L, σ) = ex_xs rt J C is ls (vR 25 :: st) (SH L, σ) := x_getR (sh_5 L) (by decide) rfl rfl
theorem gf_5_4 : ex_xs rt J C (.getfield 36 :: is) ls (vR 5 :: st) (SH L, σ) = ex_xs rt J C is ls (vR 26 :: st) (SH L, σ) := x_getR (sh_5 L) (by decide) rfl rfl
theorem gf_5_5 : ex_xs rt J C (.getfield 37 :: is) ls (vR 5 :: st) (SH L, σ) = ex_xs rt J C is ls (vR 27 :: st) (SH L, σ) := x_getR (sh_5 L) (by decide) rfl rfl
theorem gf_5_6 : ex_xs rt J C (.getfield 38 :: is) ls (vR 5 :: st) (SH L, σ) = ex_xs rt J C is ls (vI (σ 5 6) :: st) (SH L, σ) := x_getI (k := 6) (sh_5 L) (by decide) rfl rfl rfl
theorem pf_5_6 {z : Int} : ex_xs rt J C (.putfield 38 :: is) ls (vI z :: vR 5 :: st) (SH L, σ) = ex_xs rt J C is ls st (SH L, ex_ar σ 5 (ex_u (σ 5) 6 z)) := x_putI (k := 6) (sh_5 L) (by decide) rfl rfl rfl
theorem gf_5_7 : ex_xs rt J C (.getfield 39 :: is) ls (vR 5 :: st) (SH L, σ) = ex_xs rt J C is ls (vI (σ 5 7) :: st) (SH L, σ) := x_getI (k := 7) (sh_5 L) (by decide) rfl rfl rfl
theorem pf_5_7 {z : Int} : ex_xs rt J C (.putfield 39 :: is) ls (vI z :: vR 5 :: st) (SH L, σ) = ex_xs rt J C is ls st (SH L, ex_ar σ 5 (ex_u (σ 5) 7 z)) := x_putI (k := 7) (sh_5 L) (by decide) rfl rfl rfl
theorem gf_5_8 : ex_xs rt J C (.getfield 40 :: is) ls (vR 5 :: st) (SH L, σ) = ex_xs rt J C is ls (vI (σ 5 8) :: st) (SH L, σ) := x_getI (k := 8) (sh_5 L) (by decide) rfl rfl rfl
theorem pf_5_8 {z : Int} : ex_xs rt J C (.putfield 40 :: is) ls (vI z :: vR 5 :: st) (SH L, σ) = ex_xs rt J C is ls st (SH L, ex_ar σ 5 (ex_u (σ 5) 8 z)) := x_putI (k := 8) (sh_5 L) (by decide) rfl rfl rfl
theorem gf_5_9 : ex_xs rt J C (.getfield 41 :: is) ls (vR 5 :: st) (SH L, σ) = ex_xs rt J C is ls (vI (σ 5 9) :: st) (SH L, σ) := x_getI (k := 9) (sh_5 L) (by decide) rfl rfl rfl
theorem pf_5_9 {z : Int} : ex_xs rt J C (.putfield 41 :: is) ls (vI z :: vR 5 :: st) (SH L, σ) = ex_xs rt J C is ls st (SH L, ex_ar σ 5 (ex_u (σ 5) 9 z)) := x_putI (k := 9) (sh_5 L) (by decide) rfl rfl rfl
theorem gf_5_10 : ex_xs rt J C (.getfield 42 :: is) ls (vR 5 :: st) (SH L, σ) = ex_xs rt J C is ls (vI (σ 5 10) :: st) (SH L, σ) := x_getI (k := 10) (sh_5 L) (by decide) rfl rfl rfl
theorem pf_5_10 {z : Int} : ex_xs rt J C (.putfield 42 :: is) ls (vI z :: vR 5 :: st) (SH L, σ) = ex_xs rt J C is ls st (SH L, ex_ar σ 5 (ex_u (σ 5) 10 z)) := x_putI (k := 10) (sh_5 L) (by decide) rfl rfl rfl
theorem gf_5_11 : ex_xs rt J C (.getfield 43 :: is) ls (vR 5 :: st) (SH L, σ) = ex_xs rt J C is ls (vI (σ 5 11) :: st) (SH L, σ) := x_getI (k := 11) (sh_5 L) (by decide) rfl rfl rfl
theorem pf_5_11 {z : Int} : ex_xs rt J C (.putfield 43 :: is) ls (vI z :: vR 5 :: st) (SH L, σ) = ex_xs rt J C is ls st (SH L, ex_ar σ 5 (ex_u (σ 5) 11 z)) := x_putI (k := 11) (sh_5 L) (by decide) rfl rfl rfl
theorem gf_5_12 : ex_xs rt J C (.getfield 44 :: is) ls (vR 5 :: st) (SH L, σ) = ex_xs rt J C is ls (vI (σ 5 12) :: st) (SH L, σ) := x_getI (k := 12) (sh_5 L) (by decide) rfl rfl rfl
theorem pf_5_12 {z : Int} : ex_xs rt J C (.putfield 44 :: is) ls (vI z :: vR 5 :: st) (SH L, σ) = ex_xs rt J C is ls st (SH L, ex_ar σ 5 (ex_u (σ 5) 12 z)) := x_putI (k := 12) (sh_5 L) (by decide) rfl rfl rfl
theorem gf_6_0 : ex_xs rt J C (.getfield 64 :: is) ls (vR 6 :: st) (SH L, σ) = ex_xs rt J C is ls (vI (σ 6 0) :: st) (SH L, σ) := x_getI (k := 0) (sh_6 L) (by decide) rfl rfl rfl
theorem pf_6_0 {z : Int} : ex_xs rt J C (.putfield 64 :: is) ls (vI z :: vR 6 :: st) (SH L, σ) = ex_xs rt J C is ls st (SH L, ex_ar σ 6 (ex_u (σ 6) 0 z)) := x_putI (k := 0) (sh_6 L) (by decide) rfl rfl rfl
theorem gf_6_1 : ex_xs rt J C (.getfield 65 :: is) ls (vR 6 :: st) (SH L, σ) = ex_xs rt J C is ls (vI (σ 6 1) :: st) (SH L, σ) := x_getI (k := 1) (sh_6 L) (by decide) rfl rfl rfl
theorem pf_6_1 {z : Int} : ex_xs rt J C (.putfield 65 :: is) ls (vI z :: vR 6 :: st) (SH L, σ) = ex_xs rt J C is ls st (SH L, ex_ar σ 6 (ex_u (σ 6) 1 z)) := x_putI (k := 1) (sh_6 L) (by decide) rfl rfl rfl
theorem gf_6_2 : ex_xs rt J C (.getfield 66 :: is) ls (vR 6 :: st) (SH L, σ) = ex_xs rt J C is ls (vR 7 :: st) (SH L, σ) := x_getR (sh_6 L) (by decide) rfl rfl
theorem gf_6_3 : ex_xs rt J C (.getfield 67 :: is) ls (vR 6 :: st) (SH L, σ) = ex_xs rt J C is ls (vR 8 :: st) (SH L, σ) := x_getR (sh_6 L) (by decide) rfl rfl
theorem gf_6_4 : ex_xs rt J C (.getfield 68 :: is) ls (vR 6 :: st) (SH L, σ) = ex_xs rt J C is ls (vR 9 :: st) (SH L, σ) := x_getR (sh_6 L) (by decide) rfl rfl
theorem gf_6_5 : ex_xs rt J C (.getfield 69 :: is) ls (vR 6 :: st) (SH L, σ) = ex_xs rt J C is ls (vR 10 :: st) (SH L, σ) := x_getR (sh_6 L) (by decide) rfl rfl
theorem gf_6_6 : ex_xs rt J C (.getfield 70 :: is) ls (vR 6 :: st) (SH L, σ) = ex_xs rt J C is ls (vR 11 :: st) (SH L, σ) := x_getR (sh_6 L) (by decide) rfl rfl
theorem gf_6_7 : ex_xs rt J C (.getfield 71 :: is) ls (vR 6 :: st) (SH L, σ) = ex_xs rt J C is ls (vR 12 :: st) (SH L, σ) := x_getR (sh_6 L) (by decide) rfl rfl
theorem gf_6_8 : ex_xs rt J C (.getfield 72 :: is) ls (vR 6 :: st) (SH L, σ) = ex_xs rt J C is ls (vR 13 :: st) (SH L, σ) := x_getR (sh_6 L) (by decide) rfl rfl
theorem gf_6_9 : ex_xs rt J C (.getfield 73 :: is) ls (vR 6 :: st) (SH L, σ) = ex_xs rt J C is ls (vR 14 :: st) (SH L, σ) := x_getR (sh_6 L) (by decide) rfl rfl
theorem gf_6_10 : ex_xs rt J C (.getfield 74 :: is) ls (vR 6 :: st) (SH L, σ) = ex_xs rt J C is ls (vR 15 :: st) (SH L, σ) := x_getR (sh_6 L) (by decide) rfl rfl
theorem gf_6_11 : ex_xs rt J C (.getfield 75 :: is) ls (vR 6 :: st) (SH L, σ) = ex_xs rt J C is ls (vR 16 :: st) (SH L, σ) := x_getR (sh_6 L) (by decide) rfl rfl
theorem gf_6_12 : ex_xs rt J C (.getfield 76 :: is) ls (vR 6 :: st) (SH L, σ) = ex_xs rt J C is ls (vR 17 :: st) (SH L, σ) := x_getR (sh_6 L) (by decide) rfl rfl
theorem ld_7 {i : Int} (h0 : 0 ≤ i) (h1 : i < 5) : ex_xs rt J C (.iaload :: is) ls (vI i :: vR 7 :: st) (SH L, σ) = ex_xs rt J C is ls (vI (σ 7 i) :: st) (SH L, σ) := x_ald (n := 5) (sh_7 L) h0 h1
theorem ln_7 : ex_xs rt J C (.arraylength :: is) ls (vR 7 :: st) (SH L, σ) = ex_xs rt J C is ls (vI 5 :: st) (SH L, σ) := x_aln (n := 5) (sh_7 L)
theorem sd_7 {i z : Int} (h0 : 0 ≤ i) (h1 : i < 5) : ex_xs rt J C (.iastore :: is) ls (vI z :: vI i :: vR 7 :: st) (SH L, σ) = ex_xs rt J C is ls st (SH L, ex_ar σ 7 (ex_u (σ 7) i z)) := x_ast (n := 5) (sh_7 L) (by decide) h0 h1
theorem ld_8 {i : Int} (h0 : 0 ≤ i) (h1 : i < 5) : ex_xs rt J C (.iaload :: is) ls (vI i :: vR 8 :: st) (SH L, σ) = ex_xs rt J C is ls (vI (σ 8 i) :: st) (SH L, σ) := x_ald (n := 5) (sh_8 L) h0 h1
theorem ln_8 : ex_xs rt J C (.arraylength :: is) ls (vR 8 :: st) (SH L, σ) = ex_xs rt J C is ls (vI 5 :: st) (SH L, σ) := x_aln (n := 5) (sh_8 L)
theorem sd_8 {i z : Int} (h0 : 0 ≤ i) (h1 : i < 5) : ex_xs rt J C (.iastore :: is) ls (vI z :: vI i :: vR 8 :: st) (SH L, σ) = ex_xs rt J C is ls st (SH L, ex_ar σ 8 (ex_u (σ 8) i z)) := x_ast (n := 5) (sh_8 L) (by decide) h0 h1
theorem ld_9 {i : Int} (h0 : 0 ≤ i) (h1 : i < 5) : ex_xs rt J C (.iaload :: is) ls (vI i :: vR 9 :: st) (SH L, σ) = ex_xs rt J C is ls (vI (σ 9 i) :: st) (SH L, σ) := x_ald (n := 5) (sh_9 L) h0 h1
theorem ln_9 : ex_xs rt J C (.arraylength :: is) ls (vR 9 :: st) (SH L, σ) = ex_xs rt J C is ls (vI 5 :: st) (SH L, σ) := x_aln (n := 5) (sh_9 L)
theorem sd_9 {i z : Int} (h0 : 0 ≤ i) (h1 : i < 5) : ex_xs rt J C (.iastore :: is) ls (vI z :: vI i :: vR 9 :: st) (SH L, σ) = ex_xs rt J C is ls st (SH L, ex_ar σ 9 (ex_u (σ 9) i z)) := x_ast (n := 5) (sh_9 L) (by decide) h0 h1
theorem ld_10 {i : Int} (h0 : 0 ≤ i) (h1 : i < 5) : ex_xs rt J C (.iaload :: is) ls (vI i :: vR 10 :: st) (SH L, σ) = ex_xs rt J C is ls (vI (σ 10 i) :: st) (SH L, σ) := x_ald (n := 5) (sh_10 L) h0 h1
theorem ln_10 : ex_xs rt J C (.arraylength :: is) ls (vR 10 :: st) (SH L, σ) = ex_xs rt J C is ls (vI 5 :: st) (SH L, σ) := x_aln (n := 5) (sh_10 L)
theorem sd_10 {i z : Int} (h0 : 0 ≤ i) (h1 : i < 5) : ex_xs rt J C (.iastore :: is) ls (vI z :: vI i :: vR 10 :: st) (SH L, σ) = ex_xs rt J C is ls st (SH L, ex_ar σ 10 (ex_u (σ 10) i z)) := x_ast (n := 5) (sh_10 L) (by decide) h0 h1
theorem ld_11 {i : Int} (h0 : 0 ≤ i) (h1 : i < 5) : ex_xs rt J C (.iaload :: is) ls (vI i :: vR 11 :: st) (SH L, σ) = ex_xs rt J C is ls (vI (σ 11 i) :: st) (SH L, σ) := x_ald (n := 5) (sh_11 L) h0 h1
theorem ln_11 : ex_xs rt J C (.arraylength :: is) ls (vR 11 :: st) (SH L, σ) = ex_xs rt J C is ls (vI 5 :: st) (SH L, σ) := x_aln (n := 5) (sh_11 L)
theorem sd_11 {i z : Int} (h0 : 0 ≤ i) (h1 : i < 5) : ex_xs rt J C (.iastore :: is) ls (vI z :: vI i :: vR 11 :: st) (SH L, σ) = ex_xs rt J C is ls st (SH L, ex_ar σ 11 (ex_u (σ 11) i z)) := x_ast (n := 5) (sh_11 L) (by decide) h0 h1
theorem ld_12 {i : Int} (h0 : 0 ≤ i) (h1 : i < 5) : ex_xs rt J C (.iaload :: is) ls (vI i :: vR 12 :: st) (SH L, σ) = ex_xs rt J C is ls (vI (σ 12 i) :: st) (SH L, σ) := x_ald (n := 5) (sh_12 L) h0 h1
theorem ln_12 : ex_xs rt J C (.arraylength :: is) ls (vR 12 :: st) (SH L, σ) = ex_xs rt J C is ls (vI 5 :: st) (SH L, σ) := x_aln (n := 5) (sh_12 L)
theorem sd_12 {i z : Int} (h0 : 0 ≤ i) (h1 : i < 5) : ex_xs rt J C (.iastore :: is) ls (vI z :: vI i :: vR 12 :: st) (SH L, σ) = ex_xs rt J C is ls st (SH L, ex_ar σ 12 (ex_u (σ 12) i z)) := x_ast (n := 5) (sh_12 L) (by decide) h0 h1
theorem ld_13 {i : Int} (h0 : 0 ≤ i) (h1 : i < 5) : ex_xs rt J C (.iaload :: is) ls (vI i :: vR 13 :: st) (SH L, σ) = ex_xs rt J C is ls (vI (σ 13 i) :: st) (SH L, σ) := x_ald (n := 5) (sh_13 L) h0 h1
theorem ln_13 : ex_xs rt J C (.arraylength :: is) ls (vR 13 :: st) (SH L, σ) = ex_xs rt J C is ls (vI 5 :: st) (SH L, σ) := x_aln (n := 5) (sh_13 L)
theorem sd_13 {i z : Int} (h0 : 0 ≤ i) (h1 : i < 5) : ex_xs rt J C (.iastore :: is) ls (vI z :: vI i :: vR 13 :: st) (SH L, σ) = ex_xs rt J C is ls st (SH L, ex_ar σ 13 (ex_u (σ 13) i z)) := x_ast (n := 5) (sh_13 L) (by decide) h0 h1
theorem ld_14 {i : Int} (h0 : 0 ≤ i) (h1 : i < 5) : ex_xs rt J C (.iaload :: is) ls (vI i :: vR 14 :: st) (SH L, σ) = ex_xs rt J C is ls (vI (σ 14 i) :: st) (SH L, σ) := x_ald (n := 5) (sh_14 L) h0 h1
theorem ln_14 : ex_xs rt J C (.arraylength :: is) ls (vR 14 :: st) (SH L, σ) = ex_xs rt J C is ls (vI 5 :: st) (SH L, σ) := x_aln (n := 5) (sh_14 L)
theorem sd_14 {i z : Int} (h0 : 0 ≤ i) (h1 : i < 5) : ex_xs rt J C (.iastore :: is) ls (vI z :: vI i :: vR 14 :: st) (SH L, σ) = ex_xs rt J C is ls st (SH L, ex_ar σ 14 (ex_u (σ 14) i z)) := x_ast (n := 5) (sh_14 L) (by decide) h0 h1
theorem ld_15 {i : Int} (h0 : 0 ≤ i) (h1 : i < 40) : ex_xs rt J C (.iaload :: is) ls (vI i :: vR 15 :: st) (SH L, σ) = ex_xs rt J C is ls (vI (σ 15 i) :: st) (SH L, σ) := x_ald (n := 40) (sh_15 L) h0 h1
theorem ln_15 : ex_xs rt J C (.arraylength :: is) ls (vR 15 :: st) (SH L, σ) = ex_xs rt J C is ls (vI 40 :: st) (SH L, σ) := x_aln (n := 40) (sh_15 L)
theorem sd_15 {i z : Int} (h0 : 0 ≤ i) (h1 : i < 40) : ex_xs rt J C (.iastore :: is) ls (vI z :: vI i :: vR 15 :: st) (SH L, σ) = ex_xs rt J C is ls st (SH L, ex_ar σ 15 (ex_u (σ 15) i z)) := x_ast (n := 40) (sh_15 L) (by decide) h0 h1
theorem ld_16 {i : Int} (h0 : 0 ≤ i) (h1 : i < 48) : ex_xs rt J C (.iaload :: is) ls (vI i :: vR 16 :: st) (SH L, σ) = ex_xs rt J C is ls (vI (σ 16 i) :: st) (SH L, σ) := x_ald (n := 48) (sh_16 L) h0 h1
theorem ln_16 : ex_xs rt J C (.arraylength :: is) ls (vR 16 :: st) (SH L, σ) = ex_xs rt J C is ls (vI 48 :: st) (SH L, σ) := x_aln (n := 48) (sh_16 L)
theorem sd_16 {i z : Int} (h0 : 0 ≤ i) (h1 : i < 48) : ex_xs rt J C (.iastore :: is) ls (vI z :: vI i :: vR 16 :: st) (SH L, σ) = ex_xs rt J C is ls st (SH L, ex_ar σ 16 (ex_u (σ 16) i z)) := x_ast (n := 48) (sh_16 L) (by decide) h0 h1
theorem ld_17 {i : Int} (h0 : 0 ≤ i) (h1 : i < 8) : ex_xs rt J C (.iaload :: is) ls (vI i :: vR 17 :: st) (SH L, σ) = ex_xs rt J C is ls (vI (σ 17 i) :: st) (SH L, σ) := x_ald (n := 8) (sh_17 L) h0 h1
theorem ln_17 : ex_xs rt J C (.arraylength :: is) ls (vR 17 :: st) (SH L, σ) = ex_xs rt J C is ls (vI 8 :: st) (SH L, σ) := x_aln (n := 8) (sh_17 L)
theorem sd_17 {i z : Int} (h0 : 0 ≤ i) (h1 : i < 8) : ex_xs rt J C (.iastore :: is) ls (vI z :: vI i :: vR 17 :: st) (SH L, σ) = ex_xs rt J C is ls st (SH L, ex_ar σ 17 (ex_u (σ 17) i z)) := x_ast (n := 8) (sh_17 L) (by decide) h0 h1
theorem gf_18_0 : ex_xs rt J C (.getfield 128 :: is) ls (vR 18 :: st) (SH L, σ) = ex_xs rt J C is ls (vI (σ 18 0) :: st) (SH L, σ) := x_getI (k := 0) (sh_18 L) (by decide) rfl rfl rfl
theorem pf_18_0 {z : Int} : ex_xs rt J C (.putfield 128 :: is) ls (vI z :: vR 18 :: st) (SH L, σ) = ex_xs rt J C is ls st (SH L, ex_ar σ 18 (ex_u (σ 18) 0 z)) := x_putI (k := 0) (sh_18 L) (by decide) rfl rfl rfl
theorem gf_18_1 : ex_xs rt J C (.getfield 129 :: is) ls (vR 18 :: st) (SH L, σ) = ex_xs rt J C is ls (vR 19 :: st) (SH L, σ) := x_getR (sh_18 L) (by decide) rfl rfl
theorem gf_18_2 : ex_xs rt J C (.getfield 130 :: is) ls (vR 18 :: st) (SH L, σ) = ex_xs rt J C is ls (vR 20 :: st) (SH L, σ) := x_getR (sh_18 L) (by decide) rfl rfl
theorem ld_19 {i : Int} (h0 : 0 ≤ i) (h1 : i < 60) : ex_xs rt J C (.iaload :: is) ls (vI i :: vR 19 :: st) (SH L, σ) = ex_xs rt J C is ls (vI (σ 19 i) :: st) (SH L, σ) := x_ald (n := 60) (sh_19 L) h0 h1
theorem ln_19 : ex_xs rt J C (.arraylength :: is) ls (vR 19 :: st) (SH L, σ) = ex_xs rt J C is ls (vI 60 :: st) (SH L, σ) := x_aln (n := 60) (sh_19 L)
theorem sd_19 {i z : Int} (h0 : 0 ≤ i) (h1 : i < 60) : ex_xs rt J C (.iastore :: is) ls (vI z :: vI i :: vR 19 :: st) (SH L, σ) = ex_xs rt J C is ls st (SH L, ex_ar σ 19 (ex_u (σ 19) i z)) := x_ast (n := 60) (sh_19 L) (by decide) h0 h1
theorem ld_20 {i : Int} (h0 : 0 ≤ i) (h1 : i < 60) : ex_xs rt J C (.iaload :: is) ls (vI i :: vR 20 :: st) (SH L, σ) = ex_xs rt J C is ls (vI (σ 20 i) :: st) (SH L, σ) := x_ald (n := 60) (sh_20 L) h0 h1
theorem ln_20 : ex_xs rt J C (.arraylength :: is) ls (vR 20 :: st) (SH L, σ) = ex_xs rt J C is ls (vI 60 :: st) (SH L, σ) := x_aln (n := 60) (sh_20 L)
theorem sd_20 {i z : Int} (h0 : 0 ≤ i) (h1 : i < 60) : ex_xs rt J C (.iastore :: is) ls (vI z :: vI i :: vR 20 :: st) (SH L, σ) = ex_xs rt J C is ls st (SH L, ex_ar σ 20 (ex_u (σ 20) i z)) := x_ast (n := 60) (sh_20 L) (by decide) h0 h1
theorem gf_21_0 : ex_xs rt J C (.getfield 96 :: is) ls (vR 21 :: st) (SH L, σ) = ex_xs rt J C is ls (vI (σ 21 0) :: st) (SH L, σ) := x_getI (k := 0) (sh_21 L) (by decide) rfl rfl rfl
theorem pf_21_0 {z : Int} : ex_xs rt J C (.putfield 96 :: is) ls (vI z :: vR 21 :: st) (SH L, σ) = ex_xs rt J C is ls st (SH L, ex_ar σ 21 (ex_u (σ 21) 0 z)) := x_putI (k := 0) (sh_21 L) (by decide) rfl rfl rfl
theorem gf_21_1 : ex_xs rt J C (.getfield 97 :: is) ls (vR 21 :: st) (SH L, σ) = ex_xs rt J C is ls (vR 22 :: st) (SH L, σ) := x_getR (sh_21 L) (by decide) rfl rfl
theorem gf_21_2 : ex_xs rt J C (.getfield 98 :: is) ls (vR 21 :: st) (SH L, σ) = ex_xs rt J C is ls (vR 23 :: st) (SH L, σ) := x_getR (sh_21 L) (by decide) rfl rfl
theorem gf_21_3 : ex_xs rt J C (.getfield 99 :: is) ls (vR 21 :: st) (SH L, σ) = ex_xs rt J C is ls (vR 24 :: st) (SH L, σ) := x_getR (sh_21 L) (by decide) rfl rfl
theorem ld_22 {i : Int} (h0 : 0 ≤ i) (h1 : i < 30) : ex_xs rt J C (.iaload :: is) ls (vI i :: vR 22 :: st) (SH L, σ) = ex_xs rt J C is ls (vI (σ 22 i) :: st) (SH L, σ) := x_ald (n := 30) (sh_22 L) h0 h1
theorem ln_22 : ex_xs rt J C (.arraylength :: is) ls (vR 22 :: st) (SH L, σ) = ex_xs rt J C is ls (vI 30 :: st) (SH L, σ) := x_aln (n := 30) (sh_22 L)
theorem sd_22 {i z : Int} (h0 : 0 ≤ i) (h1 : i < 30) : ex_xs rt J C (.iastore :: is) ls (vI z :: vI i :: vR 22 :: st) (SH L, σ) = ex_xs rt J C is ls st (SH L, ex_ar σ 22 (ex_u (σ 22) i z)) := x_ast (n := 30) (sh_22 L) (by decide) h0 h1
theorem ld_23 {i : Int} (h0 : 0 ≤ i) (h1 : i < 30) : ex_xs rt J C (.iaload :: is) ls (vI i :: vR 23 :: st) (SH L, σ) = ex_xs rt J C is ls (vI (σ 23 i) :: st) (SH L, σ) := x_ald (n := 30) (sh_23 L) h0 h1
theorem ln_23 : ex_xs rt J C (.arraylength :: is) ls (vR 23 :: st) (SH L, σ) = ex_xs rt J C is ls (vI 30 :: st) (SH L, σ) := x_aln (n := 30) (sh_23 L)
theorem sd_23 {i z : Int} (h0 : 0 ≤ i) (h1 : i < 30) : ex_xs rt J C (.iastore :: is) ls (vI z :: vI i :: vR 23 :: st) (SH L, σ) = ex_xs rt J C is ls st (SH L, ex_ar σ 23 (ex_u (σ 23) i z)) := x_ast (n := 30) (sh_23 L) (by decide) h0 h1
theorem ld_24 {i : Int} (h0 : 0 ≤ i) (h1 : i < 30) : ex_xs rt J C (.iaload :: is) ls (vI i :: vR 24 :: st) (SH L, σ) = ex_xs rt J C is ls (vI (σ 24 i) :: st) (SH L, σ) := x_ald (n := 30) (sh_24 L) h0 h1
theorem ln_24 : ex_xs rt J C (.arraylength :: is) ls (vR 24 :: st) (SH L, σ) = ex_xs rt J C is ls (vI 30 :: st) (SH L, σ) := x_aln (n := 30) (sh_24 L)
theorem sd_24 {i z : Int} (h0 : 0 ≤ i) (h1 : i < 30) : ex_xs rt J C (.iastore :: is) ls (vI z :: vI i :: vR 24 :: st) (SH L, σ) = ex_xs rt J C is ls st (SH L, ex_ar σ 24 (ex_u (σ 24) i z)) := x_ast (n := 30) (sh_24 L) (by decide) h0 h1
theorem ld_25 {i : Int} (h0 : 0 ≤ i) (h1 : i < 25) : ex_xs rt J C (.iaload :: is) ls (vI i :: vR 25 :: st) (SH L, σ) = ex_xs rt J C is ls (vI (σ 25 i) :: st) (SH L, σ) := x_ald (n := 25) (sh_25 L) h0 h1
theorem ln_25 : ex_xs rt J C (.arraylength :: is) ls (vR 25 :: st) (SH L, σ) = ex_xs rt J C is ls (vI 25 :: st) (SH L, σ) := x_aln (n := 25) (sh_25 L)
theorem sd_25 {i z : Int} (h0 : 0 ≤ i) (h1 : i < 25) : ex_xs rt J C (.iastore :: is) ls (vI z :: vI i :: vR 25 :: st) (SH L, σ) = ex_xs rt J C is ls st (SH L, ex_ar σ 25 (ex_u (σ 25) i z)) := x_ast (n := 25) (sh_25 L) (by decide) h0 h1
theorem ld_26 {i : Int} (h0 : 0 ≤ i) (h1 : i < 16) : ex_xs rt J C (.iaload :: is) ls (vI i :: vR 26 :: st) (SH L, σ) = ex_xs rt J C is ls (vI (σ 26 i) :: st) (SH L, σ) := x_ald (n := 16) (sh_26 L) h0 h1
theorem ln_26 : ex_xs rt J C (.arraylength :: is) ls (vR 26 :: st) (SH L, σ) = ex_xs rt J C is ls (vI 16 :: st) (SH L, σ) := x_aln (n := 16) (sh_26 L)
theorem sd_26 {i z : Int} (h0 : 0 ≤ i) (h1 : i < 16) : ex_xs rt J C (.iastore :: is) ls (vI z :: vI i :: vR 26 :: st) (SH L, σ) = ex_xs rt J C is ls st (SH L, ex_ar σ 26 (ex_u (σ 26) i z)) := x_ast (n := 16) (sh_26 L) (by decide) h0 h1
theorem ld_27 {i : Int} (h0 : 0 ≤ i) (h1 : i < 7) : ex_xs rt J C (.iaload :: is) ls (vI i :: vR 27 :: st) (SH L, σ) = ex_xs rt J C is ls (vI (σ 27 i) :: st) (SH L, σ) := x_ald (n := 7) (sh_27 L) h0 h1
theorem ln_27 : ex_xs rt J C (.arraylength :: is) ls (vR 27 :: st) (SH L, σ) = ex_xs rt J C is ls (vI 7 :: st) (SH L, σ) := x_aln (n := 7) (sh_27 L)
theorem sd_27 {i z : Int} (h0 : 0 ≤ i) (h1 : i < 7) : ex_xs rt J C (.iastore :: is) ls (vI z :: vI i :: vR 27 :: st) (SH L, σ) = ex_xs rt J C is ls st (SH L, ex_ar σ 27 (ex_u (σ 27) i z)) := x_ast (n := 7) (sh_27 L) (by decide) h0 h1
theorem gf_29_0 : ex_xs rt J C (.getfield 288 :: is) ls (vR 29 :: st) (SH L, σ) = ex_xs rt J C is ls (vR 30 :: st) (SH L, σ) := x_getR (sh_29 L) (by decide) rfl rfl
theorem gf_29_1 : ex_xs rt J C (.getfield 289 :: is) ls (vR 29 :: st) (SH L, σ) = ex_xs rt J C is ls (vR 31 :: st) (SH L, σ) := x_getR (sh_29 L) (by decide) rfl rfl
theorem gf_29_2 : ex_xs rt J C (.getfield 290 :: is) ls (vR 29 :: st) (SH L, σ) = ex_xs rt J C is ls (vR 32 :: st) (SH L, σ) := x_getR (sh_29 L) (by decide) rfl rfl
theorem ld_30 {i : Int} (h0 : 0 ≤ i) (h1 : i < 4) : ex_xs rt J C (.iaload :: is) ls (vI i :: vR 30 :: st) (SH L, σ) = ex_xs rt J C is ls (vI (σ 30 i) :: st) (SH L, σ) := x_ald (n := 4) (sh_30 L) h0 h1
theorem ln_30 : ex_xs rt J C (.arraylength :: is) ls (vR 30 :: st) (SH L, σ) = ex_xs rt J C is ls (vI 4 :: st) (SH L, σ) := x_aln (n := 4) (sh_30 L)
theorem sd_30 {i z : Int} (h0 : 0 ≤ i) (h1 : i < 4) : ex_xs rt J C (.iastore :: is) ls (vI z :: vI i :: vR 30 :: st) (SH L, σ) = ex_xs rt J C is ls st (SH L, ex_ar σ 30 (ex_u (σ 30) i z)) := x_ast (n := 4) (sh_30 L) (by decide) h0 h1
theorem ld_31 {i : Int} (h0 : 0 ≤ i) (h1 : i < 4) : ex_xs rt J C (.iaload :: is) ls (vI i :: vR 31 :: st) (SH L, σ) = ex_xs rt J C is ls (vI (σ 31 i) :: st) (SH L, σ) := x_ald (n := 4) (sh_31 L) h0 h1
theorem ln_31 : ex_xs rt J C (.arraylength :: is) ls (vR 31 :: st) (SH L, σ) = ex_xs rt J C is ls (vI 4 :: st) (SH L, σ) := x_aln (n := 4) (sh_31 L)
theorem sd_31 {i z : Int} (h0 : 0 ≤ i) (h1 : i < 4) : ex_xs rt J C (.iastore :: is) ls (vI z :: vI i :: vR 31 :: st) (SH L, σ) = ex_xs rt J C is ls st (SH L, ex_ar σ 31 (ex_u (σ 31) i z)) := x_ast (n := 4) (sh_31 L) (by decide) h0 h1
theorem ld_32 {i : Int} (h0 : 0 ≤ i) (h1 : i < 80) : ex_xs rt J C (.iaload :: is) ls (vI i :: vR 32 :: st) (SH L, σ) = ex_xs rt J C is ls (vI (σ 32 i) :: st) (SH L, σ) := x_ald (n := 80) (sh_32 L) h0 h1
theorem ln_32 : ex_xs rt J C (.arraylength :: is) ls (vR 32 :: st) (SH L, σ) = ex_xs rt J C is ls (vI 80 :: st) (SH L, σ) := x_aln (n := 80) (sh_32 L)
theorem sd_32 {i z : Int} (h0 : 0 ≤ i) (h1 : i < 80) : ex_xs rt J C (.iastore :: is) ls (vI z :: vI i :: vR 32 :: st) (SH L, σ) = ex_xs rt J C is ls st (SH L, ex_ar σ 32 (ex_u (σ 32) i z)) := x_ast (n := 80) (sh_32 L) (by decide) h0 h1
theorem gf_33_0 : ex_xs rt J C (.getfield 320 :: is) ls (vR 33 :: st) (SH L, σ) = ex_xs rt J C is ls (vR 34 :: st) (SH L, σ) := x_getR (sh_33 L) (by decide) rfl rfl
theorem gf_33_1 : ex_xs rt J C (.getfield 321 :: is) ls (vR 33 :: st) (SH L, σ) = ex_xs rt J C is ls (vR 35 :: st) (SH L, σ) := x_getR (sh_33 L) (by decide) rfl rfl
theorem gf_33_2 : ex_xs rt J C (.getfield 322 :: is) ls (vR 33 :: st) (SH L, σ) = ex_xs rt J C is ls (vI (σ 33 2) :: st) (SH L, σ) := x_getI (k := 2) (sh_33 L) (by decide) rfl rfl rfl
theorem pf_33_2 {z : Int} : ex_xs rt J C (.putfield 322 :: is) ls (vI z :: vR 33 :: st) (SH L, σ) = ex_xs rt J C is ls st (SH L, ex_ar σ 33 (ex_u (σ 33) 2 z)) := x_putI (k := 2) (sh_33 L) (by decide) rfl rfl rfl
theorem ld_34 {i : Int} (h0 : 0 ≤ i) (h1 : i < 3) : ex_xs rt J C (.iaload :: is) ls (vI i :: vR 34 :: st) (SH L, σ) = ex_xs rt J C is ls (vI (σ 34 i) :: st) (SH L, σ) := x_ald (n := 3) (sh_34 L) h0 h1
theorem ln_34 : ex_xs rt J C (.arraylength :: is) ls (vR 34 :: st) (SH L, σ) = ex_xs rt J C is ls (vI 3 :: st) (SH L, σ) := x_aln (n := 3) (sh_34 L)
theorem sd_34 {i z : Int} (h0 : 0 ≤ i) (h1 : i < 3) : ex_xs rt J C (.iastore :: is) ls (vI z :: vI i :: vR 34 :: st) (SH L, σ) = ex_xs rt J C is ls st (SH L, ex_ar σ 34 (ex_u (σ 34) i z)) := x_ast (n := 3) (sh_34 L) (by decide) h0 h1
theorem gf_35_0 : ex_xs rt J C (.getfield 64 :: is) ls (vR 35 :: st) (SH L, σ) = ex_xs rt J C is ls (vI (σ 35 0) :: st) (SH L, σ) := x_getI (k := 0) (sh_35 L) (by decide) rfl rfl rfl
theorem pf_35_0 {z : Int} : ex_xs rt J C (.putfield 64 :: is) ls (vI z :: vR 35 :: st) (SH L, σ) = ex_xs rt J C is ls st (SH L, ex_ar σ 35 (ex_u (σ 35) 0 z)) := x_putI (k := 0) (sh_35 L) (by decide) rfl rfl rfl
theorem gf_35_1 : ex_xs rt J C (.getfield 65 :: is) ls (vR 35 :: st) (SH L, σ) = ex_xs rt J C is ls (vI (σ 35 1) :: st) (SH L, σ) := x_getI (k := 1) (sh_35 L) (by decide) rfl rfl rfl
theorem pf_35_1 {z : Int} : ex_xs rt J C (.putfield 65 :: is) ls (vI z :: vR 35 :: st) (SH L, σ) = ex_xs rt J C is ls st (SH L, ex_ar σ 35 (ex_u (σ 35) 1 z)) := x_putI (k := 1) (sh_35 L) (by decide) rfl rfl rfl
theorem gf_35_2 : ex_xs rt J C (.getfield 66 :: is) ls (vR 35 :: st) (SH L, σ) = ex_xs rt J C is ls (vR 36 :: st) (SH L, σ) := x_getR (sh_35 L) (by decide) rfl rfl
theorem gf_35_3 : ex_xs rt J C (.getfield 67 :: is) ls (vR 35 :: st) (SH L, σ) = ex_xs rt J C is ls (vR 37 :: st) (SH L, σ) := x_getR (sh_35 L) (by decide) rfl rfl
theorem gf_35_4 : ex_xs rt J C (.getfield 68 :: is) ls (vR 35 :: st) (SH L, σ) = ex_xs rt J C is ls (vR 38 :: st) (SH L, σ) := x_getR (sh_35 L) (by decide) rfl rfl
theorem gf_35_5 : ex_xs rt J C (.getfield 69 :: is) ls (vR 35 :: st) (SH L, σ) = ex_xs rt J C is ls (vR 39 :: st) (SH L, σ) := x_getR (sh_35 L) (by decide) rfl rfl
theorem gf_35_6 : ex_xs rt J C (.getfield 70 :: is) ls (vR 35 :: st) (SH L, σ) = ex_xs rt J C is ls (vR 40 :: st) (SH L, σ) := x_getR (sh_35 L) (by decide) rfl rfl
theorem gf_35_7 : ex_xs rt J C (.getfield 71 :: is) ls (vR 35 :: st) (SH L, σ) = ex_xs rt J C is ls (vR 41 :: st) (SH L, σ) := x_getR (sh_35 L) (by decide) rfl rfl
theorem gf_35_8 : ex_xs rt J C (.getfield 72 :: is) ls (vR 35 :: st) (SH L, σ) = ex_xs rt J C is ls (vR 42 :: st) (SH L, σ) := x_getR (sh_35 L) (by decide) rfl rfl
theorem gf_35_9 : ex_xs rt J C (.getfield 73 :: is) ls (vR 35 :: st) (SH L, σ) = ex_xs rt J C is ls (vR 43 :: st) (SH L, σ) := x_getR (sh_35 L) (by decide) rfl rfl
theorem gf_35_10 : ex_xs rt J C (.getfield 74 :: is) ls (vR 35 :: st) (SH L, σ) = ex_xs rt J C is ls (vR 44 :: st) (SH L, σ) := x_getR (sh_35 L) (by decide) rfl rfl
theorem gf_35_11 : ex_xs rt J C (.getfield 75 :: is) ls (vR 35 :: st) (SH L, σ) = ex_xs rt J C is ls (vR 45 :: st) (SH L, σ) := x_getR (sh_35 L) (by decide) rfl rfl
theorem gf_35_12 : ex_xs rt J C (.getfield 76 :: is) ls (vR 35 :: st) (SH L, σ) = ex_xs rt J C is ls (vR 46 :: st) (SH L, σ) := x_getR (sh_35 L) (by decide) rfl rfl
theorem ld_36 {i : Int} (h0 : 0 ≤ i) (h1 : i < 5) : ex_xs rt J C (.iaload :: is) ls (vI i :: vR 36 :: st) (SH L, σ) = ex_xs rt J C is ls (vI (σ 36 i) :: st) (SH L, σ) := x_ald (n := 5) (sh_36 L) h0 h1
theorem ln_36 : ex_xs rt J C (.arraylength :: is) ls (vR 36 :: st) (SH L, σ) = ex_xs rt J C is ls (vI 5 :: st) (SH L, σ) := x_aln (n := 5) (sh_36 L)
theorem sd_36 {i z : Int} (h0 : 0 ≤ i) (h1 : i < 5) : ex_xs rt J C (.iastore :: is) ls (vI z :: vI i :: vR 36 :: st) (SH L, σ) = ex_xs rt J C is ls st (SH L, ex_ar σ 36 (ex_u (σ 36) i z)) := x_ast (n := 5) (sh_36 L) (by decide) h0 h1
theorem ld_37 {i : Int} (h0 : 0 ≤ i) (h1 : i < 5) : ex_xs rt J C (.iaload :: is) ls (vI i :: vR 37 :: st) (SH L, σ) = ex_xs rt J C is ls (vI (σ 37 i) :: st) (SH L, σ) := x_ald (n := 5) (sh_37 L) h0 h1
theorem ln_37 : ex_xs rt J C (.arraylength :: is) ls (vR 37 :: st) (SH L, σ) = ex_xs rt J C is ls (vI 5 :: st) (SH L, σ) := x_aln (n := 5) (sh_37 L)
theorem sd_37 {i z : Int} (h0 : 0 ≤ i) (h1 : i < 5) : ex_xs rt J C (.iastore :: is) ls (vI z :: vI i :: vR 37 :: st) (SH L, σ) = ex_xs rt J C is ls st (SH L, ex_ar σ 37 (ex_u (σ 37) i z)) := x_ast (n := 5) (sh_37 L) (by decide) h0 h1
theorem ld_38 {i : Int} (h0 : 0 ≤ i) (h1 : i < 5) : ex_xs rt J C (.iaload :: is) ls (vI i :: vR 38 :: st) (SH L, σ) = ex_xs rt J C is ls (vI (σ 38 i) :: st) (SH L, σ) := x_ald (n := 5) (sh_38 L) h0 h1
theorem ln_38 : ex_xs rt J C (.arraylength :: is) ls (vR 38 :: st) (SH L, σ) = ex_xs rt J C is ls (vI 5 :: st) (SH L, σ) := x_aln (n := 5) (sh_38 L)
theorem sd_38 {i z : Int} (h0 : 0 ≤ i) (h1 : i < 5) : ex_xs rt J C (.iastore :: is) ls (vI z :: vI i :: vR 38 :: st) (SH L, σ) = ex_xs rt J C is ls st (SH L, ex_ar σ 38 (ex_u (σ 38) i z)) := x_ast (n := 5) (sh_38 L) (by decide) h0 h1
theorem ld_39 {i : Int} (h0 : 0 ≤ i) (h1 : i < 5) : ex_xs rt J C (.iaload :: is) ls (vI i :: vR 39 :: st) (SH L, σ) = ex_xs rt J C is ls (vI (σ 39 i) :: st) (SH L, σ) := x_ald (n := 5) (sh_39 L) h0 h1
theorem ln_39 : ex_xs rt J C (.arraylength :: is) ls (vR 39 :: st) (SH L, σ) = ex_xs rt J C is ls (vI 5 :: st) (SH L, σ) := x_aln (n := 5) (sh_39 L)
theorem sd_39 {i z : Int} (h0 : 0 ≤ i) (h1 : i < 5) : ex_xs rt J C (.iastore :: is) ls (vI z :: vI i :: vR 39 :: st) (SH L, σ) = ex_xs rt J C is ls st (SH L, ex_ar σ 39 (ex_u (σ 39) i z)) := x_ast (n := 5) (sh_39 L) (by decide) h0 h1
theorem ld_40 {i : Int} (h0 : 0 ≤ i) (h1 : i < 5) : ex_xs rt J C (.iaload :: is) ls (vI i :: vR 40 :: st) (SH L, σ) = ex_xs rt J C is ls (vI (σ 40 i) :: st) (SH L, σ) := x_ald (n := 5) (sh_40 L) h0 h1
theorem ln_40 : ex_xs rt J C (.arraylength :: is) ls (vR 40 :: st) (SH L, σ) = ex_xs rt J C is ls (vI 5 :: st) (SH L, σ) := x_aln (n := 5) (sh_40 L)
theorem sd_40 {i z : Int} (h0 : 0 ≤ i) (h1 : i < 5) : ex_xs rt J C (.iastore :: is) ls (vI z :: vI i :: vR 40 :: st) (SH L, σ) = ex_xs rt J C is ls st (SH L, ex_ar σ 40 (ex_u (σ 40) i z)) := x_ast (n := 5) (sh_40 L) (by decide) h0 h1
theorem ld_41 {i : Int} (h0 : 0 ≤ i) (h1 : i < 5) : ex_xs rt J C (.iaload :: is) ls (vI i :: vR 41 :: st) (SH L, σ) = ex_xs rt J C is ls (vI (σ 41 i) :: st) (SH L, σ) := x_ald (n := 5) (sh_41 L) h0 h1
theorem ln_41 : ex_xs rt J C (.arraylength :: is) ls (vR 41 :: st) (SH L, σ) = ex_xs rt J C is ls (vI 5 :: st) (SH L, σ) := x_aln (n := 5) (sh_41 L)
theorem sd_41 {i z : Int} (h0 : 0 ≤ i) (h1 : i < 5) : ex_xs rt J C (.iastore :: is) ls (vI z :: vI i :: vR 41 :: st) (SH L, σ) = ex_xs rt J C is ls st (SH L, ex_ar σ 41 (ex_u (σ 41) i z)) := x_ast (n := 5) (sh_41 L) (by decide) h0 h1
theorem ld_42 {i : Int} (h0 : 0 ≤ i) (h1 : i < 5) : ex_xs rt J C (.iaload :: is) ls (vI i :: vR 42 :: st) (SH L, σ) = ex_xs rt J C is ls (vI (σ 42 i) :: st) (SH L, σ) := x_ald (n := 5) (sh_42 L) h0 h1
theorem ln_42 : ex_xs rt J C (.arraylength :: is) ls (vR 42 :: st) (SH L, σ) = ex_xs rt J C is ls (vI 5 :: st) (SH L, σ) := x_aln (n := 5) (sh_42 L)
theorem sd_42 {i z : Int} (h0 : 0 ≤ i) (h1 : i < 5) : ex_xs rt J C (.iastore :: is) ls (vI z :: vI i :: vR 42 :: st) (SH L, σ) = ex_xs rt J C is ls st (SH L, ex_ar σ 42 (ex_u (σ 42) i z)) := x_ast (n := 5) (sh_42 L) (by decide) h0 h1
theorem ld_43 {i : Int} (h0 : 0 ≤ i) (h1 : i < 5) : ex_xs rt J C (.iaload :: is) ls (vI i :: vR 43 :: st) (SH L, σ) = ex_xs rt J C is ls (vI (σ 43 i) :: st) (SH L, σ) := x_ald (n := 5) (sh_43 L) h0 h1
theorem ln_43 : ex_xs rt J C (.arraylength :: is) ls (vR 43 :: st) (SH L, σ) = ex_xs rt J C is ls (vI 5 :: st) (SH L, σ) := x_aln (n := 5) (sh_43 L)
theorem sd_43 {i z : Int} (h0 : 0 ≤ i) (h1 : i < 5) : ex_xs rt J C (.iastore :: is) ls (vI z :: vI i :: vR 43 :: st) (SH L, σ) = ex_xs rt J C is ls st (SH L, ex_ar σ 43 (ex_u (σ 43) i z)) := x_ast (n := 5) (sh_43 L) (by decide) h0 h1
theorem ld_44 {i : Int} (h0 : 0 ≤ i) (h1 : i < 40) : ex_xs rt J C (.iaload :: is) ls (vI i :: vR 44 :: st) (SH L, σ) = ex_xs rt J C is ls (vI (σ 44 i) :: st) (SH L, σ) := x_ald (n := 40) (sh_44 L) h0 h1
theorem ln_44 : ex_xs rt J C (.arraylength :: is) ls (vR 44 :: st) (SH L, σ) = ex_xs rt J C is ls (vI 40 :: st) (SH L, σ) := x_aln (n := 40) (sh_44 L)
theorem sd_44 {i z : Int} (h0 : 0 ≤ i) (h1 : i < 40) : ex_xs rt J C (.iastore :: is) ls (vI z :: vI i :: vR 44 :: st) (SH L, σ) = ex_xs rt J C is ls st (SH L, ex_ar σ 44 (ex_u (σ 44) i z)) := x_ast (n := 40) (sh_44 L) (by decide) h0 h1
theorem ld_45 {i : Int} (h0 : 0 ≤ i) (h1 : i < 48) : ex_xs rt J C (.iaload :: is) ls (vI i :: vR 45 :: st) (SH L, σ) = ex_xs rt J C is ls (vI (σ 45 i) :: st) (SH L, σ) := x_ald (n := 48) (sh_45 L) h0 h1
theorem ln_45 : ex_xs rt J C (.arraylength :: is) ls (vR 45 :: st) (SH L, σ) = ex_xs rt J C is ls (vI 48 :: st) (SH L, σ) := x_aln (n := 48) (sh_45 L)
theorem sd_45 {i z : Int} (h0 : 0 ≤ i) (h1 : i < 48) : ex_xs rt J C (.iastore :: is) ls (vI z :: vI i :: vR 45 :: st) (SH L, σ) = ex_xs rt J C is ls st (SH L, ex_ar σ 45 (ex_u (σ 45) i z)) := x_ast (n := 48) (sh_45 L) (by decide) h0 h1
theorem ld_46 {i : Int} (h0 : 0 ≤ i) (h1 : i < 8) : ex_xs rt J C (.iaload :: is) ls (vI i :: vR 46 :: st) (SH L, σ) = ex_xs rt J C is ls (vI (σ 46 i) :: st) (SH L, σ) := x_ald (n := 8) (sh_46 L) h0 h1
theorem ln_46 : ex_xs rt J C (.arraylength :: is) ls (vR 46 :: st) (SH L, σ) = ex_xs rt J C is ls (vI 8 :: st) (SH L, σ) := x_aln (n := 8) (sh_46 L)
theorem sd_46 {i z : Int} (h0 : 0 ≤ i) (h1 : i < 8) : ex_xs rt J C (.iastore :: is) ls (vI z :: vI i :: vR 46 :: st) (SH L, σ) = ex_xs rt J C is ls st (SH L, ex_ar σ 46 (ex_u (σ 46) i z)) := x_ast (n := 8) (sh_46 L) (by decide) h0 h1
theorem gf_47_0 : ex_xs rt J C (.getfield 160 :: is) ls (vR 47 :: st) (SH L, σ) = ex_xs rt J C is ls (vR 48 :: st) (SH L, σ) := x_getR (sh_47 L) (by decide) rfl rfl
theorem gf_47_1 : ex_xs rt J C (.getfield 161 :: is) ls (vR 47 :: st) (SH L, σ) = ex_xs rt J C is ls (vR 49 :: st) (SH L, σ) := x_getR (sh_47 L) (by decide) rfl rfl
theorem gf_47_2 : ex_xs rt J C (.getfield 162 :: is) ls (vR 47 :: st) (SH L, σ) = ex_xs rt J C is ls (vR 50 :: st) (SH L, σ) := x_getR (sh_47 L) (by decide) rfl rfl
theorem gf_47_3 : ex_xs rt J C (.getfield 163 :: is) ls (vR 47 :: st) (SH L, σ) = ex_xs rt J C is ls (vI (σ 47 3) :: st) (SH L, σ) := x_getI (k := 3) (sh_47 L) (by decide) rfl rfl rfl
theorem pf_47_3 {z : Int} : ex_xs rt J C (.putfield 163 :: is) ls (vI z :: vR 47 :: st) (SH L, σ) = ex_xs rt J C is ls st (SH L, ex_ar σ 47 (ex_u (σ 47) 3 z)) := x_putI (k := 3) (sh_47 L) (by decide) rfl rfl rfl
theorem ld_48 {i : Int} (h0 : 0 ≤ i) (h1 : i < 7) : ex_xs rt J C (.iaload :: is) ls (vI i :: vR 48 :: st) (SH L, σ) = ex_xs rt J C is ls (vI (σ 48 i) :: st) (SH L, σ) := x_ald (n := 7) (sh_48 L) h0 h1
theorem ln_48 : ex_xs rt J C (.arraylength :: is) ls (vR 48 :: st) (SH L, σ) = ex_xs rt J C is ls (vI 7 :: st) (SH L, σ) := x_aln (n := 7) (sh_48 L)
theorem sd_48 {i z : Int} (h0 : 0 ≤ i) (h1 : i < 7) : ex_xs rt J C (.iastore :: is) ls (vI z :: vI i :: vR 48 :: st) (SH L, σ) = ex_xs rt J C is ls st (SH L, ex_ar σ 48 (ex_u (σ 48) i z)) := x_ast (n := 7) (sh_48 L) (by decide) h0 h1
theorem ld_49 {i : Int} (h0 : 0 ≤ i) (h1 : i < 7) : ex_xs rt J C (.iaload :: is) ls (vI i :: vR 49 :: st) (SH L, σ) = ex_xs rt J C is ls (vI (σ 49 i) :: st) (SH L, σ) := x_ald (n := 7) (sh_49 L) h0 h1
theorem ln_49 : ex_xs rt J C (.arraylength :: is) ls (vR 49 :: st) (SH L, σ) = ex_xs rt J C is ls (vI 7 :: st) (SH L, σ) := x_aln (n := 7) (sh_49 L)
theorem sd_49 {i z : Int} (h0 : 0 ≤ i) (h1 : i < 7) : ex_xs rt J C (.iastore :: is) ls (vI z :: vI i :: vR 49 :: st) (SH L, σ) = ex_xs rt J C is ls st (SH L, ex_ar σ 49 (ex_u (σ 49) i z)) := x_ast (n := 7) (sh_49 L) (by decide) h0 h1
theorem ld_50 {i : Int} (h0 : 0 ≤ i) (h1 : i < 5) : ex_xs rt J C (.iaload :: is) ls (vI i :: vR 50 :: st) (SH L, σ) = ex_xs rt J C is ls (vI (σ 50 i) :: st) (SH L, σ) := x_ald (n := 5) (sh_50 L) h0 h1
theorem ln_50 : ex_xs rt J C (.arraylength :: is) ls (vR 50 :: st) (SH L, σ) = ex_xs rt J C is ls (vI 5 :: st) (SH L, σ) := x_aln (n := 5) (sh_50 L)
theorem sd_50 {i z : Int} (h0 : 0 ≤ i) (h1 : i < 5) : ex_xs rt J C (.iastore :: is) ls (vI z :: vI i :: vR 50 :: st) (SH L, σ) = ex_xs rt J C is ls st (SH L, ex_ar σ 50 (ex_u (σ 50) i z)) := x_ast (n := 5) (sh_50 L) (by decide) h0 h1
theorem gf_51_0 : ex_xs rt J C (.getfield 0 :: is) ls (vR 51 :: st) (SH L, σ) = ex_xs rt J C is ls (vR 52 :: st) (SH L, σ) := x_getR (sh_51 L) (by decide) rfl rfl
theorem gf_51_1 : ex_xs rt J C (.getfield 1 :: is) ls (vR 51 :: st) (SH L, σ) = ex_xs rt J C is ls (vR 53 :: st) (SH L, σ) := x_getR (sh_51 L) (by decide) rfl rfl
theorem ld_52 {i : Int} (h0 : 0 ≤ i) (h1 : i < 24) : ex_xs rt J C (.iaload :: is) ls (vI i :: vR 52 :: st) (SH L, σ) = ex_xs rt J C is ls (vI (σ 52 i) :: st) (SH L, σ) := x_ald (n := 24) (sh_52 L) h0 h1
theorem ln_52 : ex_xs rt J C (.arraylength :: is) ls (vR 52 :: st) (SH L, σ) = ex_xs rt J C is ls (vI 24 :: st) (SH L, σ) := x_aln (n := 24) (sh_52 L)
theorem sd_52 {i z : Int} (h0 : 0 ≤ i) (h1 : i < 24) : ex_xs rt J C (.iastore :: is) ls (vI z :: vI i :: vR 52 :: st) (SH L, σ) = ex_xs rt J C is ls st (SH L, ex_ar σ 52 (ex_u (σ 52) i z)) := x_ast (n := 24) (sh_52 L) (by decide) h0 h1
theorem ld_53 {i : Int} (h0 : 0 ≤ i) (h1 : i < 8) : ex_xs rt J C (.iaload :: is) ls (vI i :: vR 53 :: st) (SH L, σ) = ex_xs rt J C is ls (vI (σ 53 i) :: st) (SH L, σ) := x_ald (n := 8) (sh_53 L) h0 h1
theorem ln_53 : ex_xs rt J C (.arraylength :: is) ls (vR 53 :: st) (SH L, σ) = ex_xs rt J C is ls (vI 8 :: st) (SH L, σ) := x_aln (n := 8) (sh_53 L)
theorem sd_53 {i z : Int} (h0 : 0 ≤ i) (h1 : i < 8) : ex_xs rt J C (.iastore :: is) ls (vI z :: vI i :: vR 53 :: st) (SH L, σ) = ex_xs rt J C is ls st (SH L, ex_ar σ 53 (ex_u (σ 53) i z)) := x_ast (n := 8) (sh_53 L) (by decide) h0 h1
theorem gf_54_0 : ex_xs rt J C (.getfield 192 :: is) ls (vR 54 :: st) (SH L, σ) = ex_xs rt J C is ls (vR 55 :: st) (SH L, σ) := x_getR (sh_54 L) (by decide) rfl rfl
theorem gf_54_1 : ex_xs rt J C (.getfield 193 :: is) ls (vR 54 :: st) (SH L, σ) = ex_xs rt J C is ls (vR 56 :: st) (SH L, σ) := x_getR (sh_54 L) (by decide) rfl rfl
theorem gf_54_2 : ex_xs rt J C (.getfield 194 :: is) ls (vR 54 :: st) (SH L, σ) = ex_xs rt J C is ls (vI (σ 54 2) :: st) (SH L, σ) := x_getI (k := 2) (sh_54 L) (by decide) rfl rfl rfl
theorem pf_54_2 {z : Int} : ex_xs rt J C (.putfield 194 :: is) ls (vI z :: vR 54 :: st) (SH L, σ) = ex_xs rt J C is ls st (SH L, ex_ar σ 54 (ex_u (σ 54) 2 z)) := x_putI (k := 2) (sh_54 L) (by decide) rfl rfl rfl
theorem ld_55 {i : Int} (h0 : 0 ≤ i) (h1 : i < 5) : ex_xs rt J C (.iaload :: is) ls (vI i :: vR 55 :: st) (SH L, σ) = ex_xs rt J C is ls (vI (σ 55 i) :: st) (SH L, σ) := x_ald (n := 5) (sh_55 L) h0 h1
theorem ln_55 : ex_xs rt J C (.arraylength :: is) ls (vR 55 :: st) (SH L, σ) = ex_xs rt J C is ls (vI 5 :: st) (SH L, σ) := x_aln (n := 5) (sh_55 L)
theorem sd_55 {i z : Int} (h0 : 0 ≤ i) (h1 : i < 5) : ex_xs rt J C (.iastore :: is) ls (vI z :: vI i :: vR 55 :: st) (SH L, σ) = ex_xs rt J C is ls st (SH L, ex_ar σ 55 (ex_u (σ 55) i z)) := x_ast (n := 5) (sh_55 L) (by decide) h0 h1
theorem ld_56 {i : Int} (h0 : 0 ≤ i) (h1 : i < 5) : ex_xs rt J C (.iaload :: is) ls (vI i :: vR 56 :: st) (SH L, σ) = ex_xs rt J C is ls (vI (σ 56 i) :: st) (SH L, σ) := x_ald (n := 5) (sh_56 L) h0 h1
theorem ln_56 : ex_xs rt J C (.arraylength :: is) ls (vR 56 :: st) (SH L, σ) = ex_xs rt J C is ls (vI 5 :: st) (SH L, σ) := x_aln (n := 5) (sh_56 L)
theorem sd_56 {i z : Int} (h0 : 0 ≤ i) (h1 : i < 5) : ex_xs rt J C (.iastore :: is) ls (vI z :: vI i :: vR 56 :: st) (SH L, σ) = ex_xs rt J C is ls st (SH L, ex_ar σ 56 (ex_u (σ 56) i z)) := x_ast (n := 5) (sh_56 L) (by decide) h0 h1
theorem gf_57_0 : ex_xs rt J C (.getfield 256 :: is) ls (vR 57 :: st) (SH L, σ) = ex_xs rt J C is ls (vR 58 :: st) (SH L, σ) := x_getR (sh_57 L) (by decide) rfl rfl
theorem gf_57_1 : ex_xs rt J C (.getfield 257 :: is) ls (vR 57 :: st) (SH L, σ) = ex_xs rt J C is ls (vR 59 :: st) (SH L, σ) := x_getR (sh_57 L) (by decide) rfl rfl
theorem ld_58 {i : Int} (h0 : 0 ≤ i) (h1 : i < 5) : ex_xs rt J C (.iaload :: is) ls (vI i :: vR 58 :: st) (SH L, σ) = ex_xs rt J C is ls (vI (σ 58 i) :: st) (SH L, σ) := x_ald (n := 5) (sh_58 L) h0 h1
theorem ln_58 : ex_xs rt J C (.arraylength :: is) ls (vR 58 :: st) (SH L, σ) = ex_xs rt J C is ls (vI 5 :: st) (SH L, σ) := x_aln (n := 5) (sh_58 L)
theorem sd_58 {i z : Int} (h0 : 0 ≤ i) (h1 : i < 5) : ex_xs rt J C (.iastore :: is) ls (vI z :: vI i :: vR 58 :: st) (SH L, σ) = ex_xs rt J C is ls st (SH L, ex_ar σ 58 (ex_u (σ 58) i z)) := x_ast (n := 5) (sh_58 L) (by decide) h0 h1
theorem ld_59 {i : Int} (h0 : 0 ≤ i) (h1 : i < 7) : ex_xs rt J C (.iaload :: is) ls (vI i :: vR 59 :: st) (SH L, σ) = ex_xs rt J C is ls (vI (σ 59 i) :: st) (SH L, σ) := x_ald (n := 7) (sh_59 L) h0 h1
theorem ln_59 : ex_xs rt J C (.arraylength :: is) ls (vR 59 :: st) (SH L, σ) = ex_xs rt J C is ls (vI 7 :: st) (SH L, σ) := x_aln (n := 7) (sh_59 L)
theorem sd_59 {i z : Int} (h0 : 0 ≤ i) (h1 : i < 7) : ex_xs rt J C (.iastore :: is) ls (vI z :: vI i :: vR 59 :: st) (SH L, σ) = ex_xs rt J C is ls st (SH L, ex_ar σ 59 (ex_u (σ 59) i z)) := x_ast (n := 7) (sh_59 L) (by decide) h0 h1
theorem gf_60_0 : ex_xs rt J C (.getfield 224 :: is) ls (vR 60 :: st) (SH L, σ) = ex_xs rt J C is ls (vR 61 :: st) (SH L, σ) := x_getR (sh_60 L) (by decide) rfl rfl
theorem gf_60_1 : ex_xs rt J C (.getfield 225 :: is) ls (vR 60 :: st) (SH L, σ) = ex_xs rt J C is ls (vI (σ 60 1) :: st) (SH L, σ) := x_getI (k := 1) (sh_60 L) (by decide) rfl rfl rfl
theorem pf_60_1 {z : Int} : ex_xs rt J C (.putfield 225 :: is) ls (vI z :: vR 60 :: st) (SH L, σ) = ex_xs rt J C is ls st (SH L, ex_ar σ 60 (ex_u (σ 60) 1 z)) := x_putI (k := 1) (sh_60 L) (by decide) rfl rfl rfl
theorem gf_60_2 : ex_xs rt J C (.getfield 226 :: is) ls (vR 60 :: st) (SH L, σ) = ex_xs rt J C is ls (vR 62 :: st) (SH L, σ) := x_getR (sh_60 L) (by decide) rfl rfl
theorem gf_60_3 : ex_xs rt J C (.getfield 227 :: is) ls (vR 60 :: st) (SH L, σ) = ex_xs rt J C is ls (vR 63 :: st) (SH L, σ) := x_getR (sh_60 L) (by decide) rfl rfl
theorem gf_60_4 : ex_xs rt J C (.getfield 228 :: is) ls (vR 60 :: st) (SH L, σ) = ex_xs rt J C is ls (vI (σ 60 4) :: st) (SH L, σ) := x_getI (k := 4) (sh_60 L) (by decide) rfl rfl rfl
theorem pf_60_4 {z : Int} : ex_xs rt J C (.putfield 228 :: is) ls (vI z :: vR 60 :: st) (SH L, σ) = ex_xs rt J C is ls st (SH L, ex_ar σ 60 (ex_u (σ 60) 4 z)) := x_putI (k := 4) (sh_60 L) (by decide) rfl rfl rfl
theorem ld_61 {i : Int} (h0 : 0 ≤ i) (h1 : i < 8) : ex_xs rt J C (.iaload :: is) ls (vI i :: vR 61 :: st) (SH L, σ) = ex_xs rt J C is ls (vI (σ 61 i) :: st) (SH L, σ) := x_ald (n := 8) (sh_61 L) h0 h1
theorem ln_61 : ex_xs rt J C (.arraylength :: is) ls (vR 61 :: st) (SH L, σ) = ex_xs rt J C is ls (vI 8 :: st) (SH L, σ) := x_aln (n := 8) (sh_61 L)
theorem sd_61 {i z : Int} (h0 : 0 ≤ i) (h1 : i < 8) : ex_xs rt J C (.iastore :: is) ls (vI z :: vI i :: vR 61 :: st) (SH L, σ) = ex_xs rt J C is ls st (SH L, ex_ar σ 61 (ex_u (σ 61) i z)) := x_ast (n := 8) (sh_61 L) (by decide) h0 h1
theorem ld_62 {i : Int} (h0 : 0 ≤ i) (h1 : i < 8) : ex_xs rt J C (.iaload :: is) ls (vI i :: vR 62 :: st) (SH L, σ) = ex_xs rt J C is ls (vI (σ 62 i) :: st) (SH L, σ) := x_ald (n := 8) (sh_62 L) h0 h1
theorem ln_62 : ex_xs rt J C (.arraylength :: is) ls (vR 62 :: st) (SH L, σ) = ex_xs rt J C is ls (vI 8 :: st) (SH L, σ) := x_aln (n := 8) (sh_62 L)
theorem sd_62 {i z : Int} (h0 : 0 ≤ i) (h1 : i < 8) : ex_xs rt J C (.iastore :: is) ls (vI z :: vI i :: vR 62 :: st) (SH L, σ) = ex_xs rt J C is ls st (SH L, ex_ar σ 62 (ex_u (σ 62) i z)) := x_ast (n := 8) (sh_62 L) (by decide) h0 h1
theorem ld_63 {i : Int} (h0 : 0 ≤ i) (h1 : i < 5) : ex_xs rt J C (.iaload :: is) ls (vI i :: vR 63 :: st) (SH L, σ) = ex_xs rt J C is ls (vI (σ 63 i) :: st) (SH L, σ) := x_ald (n := 5) (sh_63 L) h0 h1
theorem ln_63 : ex_xs rt J C (.arraylength :: is) ls (vR 63 :: st) (SH L, σ) = ex_xs rt J C is ls (vI 5 :: st) (SH L, σ) := x_aln (n := 5) (sh_63 L)
theorem sd_63 {i z : Int} (h0 : 0 ≤ i) (h1 : i < 5) : ex_xs rt J C (.iastore :: is) ls (vI z :: vI i :: vR 63 :: st) (SH L, σ) = ex_xs rt J C is ls st (SH L, ex_ar σ 63 (ex_u (σ 63) i z)) := x_ast (n := 5) (sh_63 L) (by decide) h0 h1
theorem gf_432_0 : ex_xs rt J C (.getfield 384 :: is) ls (vR 432 :: st) (SH L, σ) = ex_xs rt J C is ls (vR 433 :: st) (SH L, σ) := x_getR (sh_432 L) (by decide) rfl rfl
theorem gf_432_1 : ex_xs rt J C (.getfield 385 :: is) ls (vR 432 :: st) (SH L, σ) = ex_xs rt J C is ls (vR 434 :: st) (SH L, σ) := x_getR (sh_432 L) (by decide) rfl rfl
theorem gf_432_2 : ex_xs rt J C (.getfield 386 :: is) ls (vR 432 :: st) (SH L, σ) = ex_xs rt J C is ls (vI (σ 432 2) :: st) (SH L, σ) := x_getI (k := 2) (sh_432 L) (by decide) rfl rfl rfl
theorem pf_432_2 {z : Int} : ex_xs rt J C (.putfield 386 :: is) ls (vI z :: vR 432 :: st) (SH L, σ) = ex_xs rt J C is ls st (SH L, ex_ar σ 432 (ex_u (σ 432) 2 z)) := x_putI (k := 2) (sh_432 L) (by decide) rfl rfl rfl
theorem gf_432_3 : ex_xs rt J C (.getfield 387 :: is) ls (vR 432 :: st) (SH L, σ) = ex_xs rt J C is ls (vI (σ 432 3) :: st) (SH L, σ) := x_getI (k := 3) (sh_432 L) (by decide) rfl rfl rfl
theorem pf_432_3 {z : Int} : ex_xs rt J C (.putfield 387 :: is) ls (vI z :: vR 432 :: st) (SH L, σ) = ex_xs rt J C is ls st (SH L, ex_ar σ 432 (ex_u (σ 432) 3 z)) := x_putI (k := 3) (sh_432 L) (by decide) rfl rfl rfl
theorem gf_432_4 : ex_xs rt J C (.getfield 388 :: is) ls (vR 432 :: st) (SH L, σ) = ex_xs rt J C is ls (vR 435 :: st) (SH L, σ) := x_getR (sh_432 L) (by decide) rfl rfl
theorem gf_432_5 : ex_xs rt J C (.getfield 389 :: is) ls (vR 432 :: st) (SH L, σ) = ex_xs rt J C is ls (vR 436 :: st) (SH L, σ) := x_getR (sh_432 L) (by decide) rfl rfl
theorem gf_432_6 : ex_xs rt J C (.getfield 390 :: is) ls (vR 432 :: st) (SH L, σ) = ex_xs rt J C is ls (vR 437 :: st) (SH L, σ) := x_getR (sh_432 L) (by decide) rfl rfl
theorem gf_432_7 : ex_xs rt J C (.getfield 391 :: is) ls (vR 432 :: st) (SH L, σ) = ex_xs rt J C is ls (vR 438 :: st) (SH L, σ) := x_getR (sh_432 L) (by decide) rfl rfl
theorem gf_432_8 : ex_xs rt J C (.getfield 392 :: is) ls (vR 432 :: st) (SH L, σ) = ex_xs rt J C is ls (vR 439 :: st) (SH L, σ) := x_getR (sh_432 L) (by decide) rfl rfl
theorem gf_432_9 : ex_xs rt J C (.getfield 393 :: is) ls (vR 432 :: st) (SH L, σ) = ex_xs rt J C is ls (vR 440 :: st) (SH L, σ) := x_getR (sh_432 L) (by decide) rfl rfl
theorem gf_432_10 : ex_xs rt J C (.getfield 394 :: is) ls (vR 432 :: st) (SH L, σ) = ex_xs rt J C is ls (vR 441 :: st) (SH L, σ) := x_getR (sh_432 L) (by decide) rfl rfl
theorem gf_432_11 : ex_xs rt J C (.getfield 395 :: is) ls (vR 432 :: st) (SH L, σ) = ex_xs rt J C is ls (vI (σ 432 11) :: st) (SH L, σ) := x_getI (k := 11) (sh_432 L) (by decide) rfl rfl rfl
theorem pf_432_11 {z : Int} : ex_xs rt J C (.putfield 395 :: is) ls (vI z :: vR 432 :: st) (SH L, σ) = ex_xs rt J C is ls st (SH L, ex_ar σ 432 (ex_u (σ 432) 11 z)) := x_putI (k := 11) (sh_432 L) (by decide) rfl rfl rfl
theorem gf_432_12 : ex_xs rt J C (.getfield 396 :: is) ls (vR 432 :: st) (SH L, σ) = ex_xs rt J C is ls (vR 442 :: st) (SH L, σ) := x_getR (sh_432 L) (by decide) rfl rfl
theorem gf_432_13 : ex_xs rt J C (.getfield 397 :: is) ls (vR 432 :: st) (SH L, σ) = ex_xs rt J C is ls (vR 443 :: st) (SH L, σ) := x_getR (sh_432 L) (by decide) rfl rfl
theorem gf_432_14 : ex_xs rt J C (.getfield 398 :: is) ls (vR 432 :: st) (SH L, σ) = ex_xs rt J C is ls (vR 444 :: st) (SH L, σ) := x_getR (sh_432 L) (by decide) rfl rfl
theorem gf_432_15 : ex_xs rt J C (.getfield 399 :: is) ls (vR 432 :: st) (SH L, σ) = ex_xs rt J C is ls (vI (σ 432 15) :: st) (SH L, σ) := x_getI (k := 15) (sh_432 L) (by decide) rfl rfl rfl
theorem pf_432_15 {z : Int} : ex_xs rt J C (.putfield 399 :: is) ls (vI z :: vR 432 :: st) (SH L, σ) = ex_xs rt J C is ls st (SH L, ex_ar σ 432 (ex_u (σ 432) 15 z)) := x_putI (k := 15) (sh_432 L) (by decide) rfl rfl rfl
theorem gf_432_16 : ex_xs rt J C (.getfield 400 :: is) ls (vR 432 :: st) (SH L, σ) = ex_xs rt J C is ls (vI (σ 432 16) :: st) (SH L, σ) := x_getI (k := 16) (sh_432 L) (by decide) rfl rfl rfl
theorem pf_432_16 {z : Int} : ex_xs rt J C (.putfield 400 :: is) ls (vI z :: vR 432 :: st) (SH L, σ) = ex_xs rt J C is ls st (SH L, ex_ar σ 432 (ex_u (σ 432) 16 z)) := x_putI (k := 16) (sh_432 L) (by decide) rfl rfl rfl
theorem gf_432_17 : ex_xs rt J C (.getfield 401 :: is) ls (vR 432 :: st) (SH L, σ) = ex_xs rt J C is ls (vR 445 :: st) (SH L, σ) := x_getR (sh_432 L) (by decide) rfl rfl
theorem gf_432_18 : ex_xs rt J C (.getfield 402 :: is) ls (vR 432 :: st) (SH L, σ) = ex_xs rt J C is ls (vR 446 :: st) (SH L, σ) := x_getR (sh_432 L) (by decide) rfl rfl
theorem gf_432_19 : ex_xs rt J C (.getfield 403 :: is) ls (vR 432 :: st) (SH L, σ) = ex_xs rt J C is ls (vR 447 :: st) (SH L, σ) := x_getR (sh_432 L) (by decide) rfl rfl
theorem gf_432_20 : ex_xs rt J C (.getfield 404 :: is) ls (vR 432 :: st) (SH L, σ) = ex_xs rt J C is ls (vR 448 :: st) (SH L, σ) := x_getR (sh_432 L) (by decide) rfl rfl
theorem ld_433 {i : Int} (h0 : 0 ≤ i) (h1 : i < 277) : ex_xs rt J C (.iaload :: is) ls (vI i :: vR 433 :: st) (SH L, σ) = ex_xs rt J C is ls (vI (σ 433 i) :: st) (SH L, σ) := x_ald (n := 277) (sh_433 L) h0 h1
theorem ln_433 : ex_xs rt J C (.arraylength :: is) ls (vR 433 :: st) (SH L, σ) = ex_xs rt J C is ls (vI 277 :: st) (SH L, σ) := x_aln (n := 277) (sh_433 L)
theorem sd_433 {i z : Int} (h0 : 0 ≤ i) (h1 : i < 277) : ex_xs rt J C (.iastore :: is) ls (vI z :: vI i :: vR 433 :: st) (SH L, σ) = ex_xs rt J C is ls st (SH L, ex_ar σ 433 (ex_u (σ 433) i z)) := x_ast (n := 277) (sh_433 L) (by decide) h0 h1
theorem ld_434 {i : Int} (h0 : 0 ≤ i) (h1 : i < 4432) : ex_xs rt J C (.iaload :: is) ls (vI i :: vR 434 :: st) (SH L, σ) = ex_xs rt J C is ls (vI (σ 434 i) :: st) (SH L, σ) := x_ald (n := 4432) (sh_434 L) h0 h1
theorem ln_434 : ex_xs rt J C (.arraylength :: is) ls (vR 434 :: st) (SH L, σ) = ex_xs rt J C is ls (vI 4432 :: st) (SH L, σ) := x_aln (n := 4432) (sh_434 L)
theorem sd_434 {i z : Int} (h0 : 0 ≤ i) (h1 : i < 4432) : ex_xs rt J C (.iastore :: is) ls (vI z :: vI i :: vR 434 :: st) (SH L, σ) = ex_xs rt J C is ls st (SH L, ex_ar σ 434 (ex_u (σ 434) i z)) := x_ast (n := 4432) (sh_434 L) (by decide) h0 h1
theorem ld_435 {i : Int} (h0 : 0 ≤ i) (h1 : i < 4) : ex_xs rt J C (.iaload :: is) ls (vI i :: vR 435 :: st) (SH L, σ) = ex_xs rt J C is ls (vI (σ 435 i) :: st) (SH L, σ) := x_ald (n := 4) (sh_435 L) h0 h1
theorem ln_435 : ex_xs rt J C (.arraylength :: is) ls (vR 435 :: st) (SH L, σ) = ex_xs rt J C is ls (vI 4 :: st) (SH L, σ) := x_aln (n := 4) (sh_435 L)
theorem sd_435 {i z : Int} (h0 : 0 ≤ i) (h1 : i < 4) : ex_xs rt J C (.iastore :: is) ls (vI z :: vI i :: vR 435 :: st) (SH L, σ) = ex_xs rt J C is ls st (SH L, ex_ar σ 435 (ex_u (σ 435) i z)) := x_ast (n := 4) (sh_435 L) (by decide) h0 h1
theorem ld_436 {i : Int} (h0 : 0 ≤ i) (h1 : i < 4) : ex_xs rt J C (.iaload :: is) ls (vI i :: vR 436 :: st) (SH L, σ) = ex_xs rt J C is ls (vI (σ 436 i) :: st) (SH L, σ) := x_ald (n := 4) (sh_436 L) h0 h1
theorem ln_436 : ex_xs rt J C (.arraylength :: is) ls (vR 436 :: st) (SH L, σ) = ex_xs rt J C is ls (vI 4 :: st) (SH L, σ) := x_aln (n := 4) (sh_436 L)
theorem sd_436 {i z : Int} (h0 : 0 ≤ i) (h1 : i < 4) : ex_xs rt J C (.iastore :: is) ls (vI z :: vI i :: vR 436 :: st) (SH L, σ) = ex_xs rt J C is ls st (SH L, ex_ar σ 436 (ex_u (σ 436) i z)) := x_ast (n := 4) (sh_436 L) (by decide) h0 h1
theorem ld_437 {i : Int} (h0 : 0 ≤ i) (h1 : i < 80) : ex_xs rt J C (.iaload :: is) ls (vI i :: vR 437 :: st) (SH L, σ) = ex_xs rt J C is ls (vI (σ 437 i) :: st) (SH L, σ) := x_ald (n := 80) (sh_437 L) h0 h1
theorem ln_437 : ex_xs rt J C (.arraylength :: is) ls (vR 437 :: st) (SH L, σ) = ex_xs rt J C is ls (vI 80 :: st) (SH L, σ) := x_aln (n := 80) (sh_437 L)
theorem sd_437 {i z : Int} (h0 : 0 ≤ i) (h1 : i < 80) : ex_xs rt J C (.iastore :: is) ls (vI z :: vI i :: vR 437 :: st) (SH L, σ) = ex_xs rt J C is ls st (SH L, ex_ar σ 437 (ex_u (σ 437) i z)) := x_ast (n := 80) (sh_437 L) (by decide) h0 h1
theorem ld_438 {i : Int} (h0 : 0 ≤ i) (h1 : i < 200) : ex_xs rt J C (.iaload :: is) ls (vI i :: vR 438 :: st) (SH L, σ) = ex_xs rt J C is ls (vI (σ 438 i) :: st) (SH L, σ) := x_ald (n := 200) (sh_438 L) h0 h1
theorem ln_438 : ex_xs rt J C (.arraylength :: is) ls (vR 438 :: st) (SH L, σ) = ex_xs rt J C is ls (vI 200 :: st) (SH L, σ) := x_aln (n := 200) (sh_438 L)
theorem sd_438 {i z : Int} (h0 : 0 ≤ i) (h1 : i < 200) : ex_xs rt J C (.iastore :: is) ls (vI z :: vI i :: vR 438 :: st) (SH L, σ) = ex_xs rt J C is ls st (SH L, ex_ar σ 438 (ex_u (σ 438) i z)) := x_ast (n := 200) (sh_438 L) (by decide) h0 h1
theorem ld_439 {i : Int} (h0 : 0 ≤ i) (h1 : i < 3) : ex_xs rt J C (.iaload :: is) ls (vI i :: vR 439 :: st) (SH L, σ) = ex_xs rt J C is ls (vI (σ 439 i) :: st) (SH L, σ) := x_ald (n := 3) (sh_439 L) h0 h1
theorem ln_439 : ex_xs rt J C (.arraylength :: is) ls (vR 439 :: st) (SH L, σ) = ex_xs rt J C is ls (vI 3 :: st) (SH L, σ) := x_aln (n := 3) (sh_439 L)
theorem sd_439 {i z : Int} (h0 : 0 ≤ i) (h1 : i < 3) : ex_xs rt J C (.iastore :: is) ls (vI z :: vI i :: vR 439 :: st) (SH L, σ) = ex_xs rt J C is ls st (SH L, ex_ar σ 439 (ex_u (σ 439) i z)) := x_ast (n := 3) (sh_439 L) (by decide) h0 h1
theorem ld_440 {i : Int} (h0 : 0 ≤ i) (h1 : i < 7) : ex_xs rt J C (.iaload :: is) ls (vI i :: vR 440 :: st) (SH L, σ) = ex_xs rt J C is ls (vI (σ 440 i) :: st) (SH L, σ) := x_ald (n := 7) (sh_440 L) h0 h1
theorem ln_440 : ex_xs rt J C (.arraylength :: is) ls (vR 440 :: st) (SH L, σ) = ex_xs rt J C is ls (vI 7 :: st) (SH L, σ) := x_aln (n := 7) (sh_440 L)
theorem sd_440 {i z : Int} (h0 : 0 ≤ i) (h1 : i < 7) : ex_xs rt J C (.iastore :: is) ls (vI z :: vI i :: vR 440 :: st) (SH L, σ) = ex_xs rt J C is ls st (SH L, ex_ar σ 440 (ex_u (σ 440) i z)) := x_ast (n := 7) (sh_440 L) (by decide) h0 h1
theorem ld_441 {i : Int} (h0 : 0 ≤ i) (h1 : i < 7) : ex_xs rt J C (.iaload :: is) ls (vI i :: vR 441 :: st) (SH L, σ) = ex_xs rt J C is ls (vI (σ 441 i) :: st) (SH L, σ) := x_ald (n := 7) (sh_441 L) h0 h1
theorem ln_441 : ex_xs rt J C (.arraylength :: is) ls (vR 441 :: st) (SH L, σ) = ex_xs rt J C is ls (vI 7 :: st) (SH L, σ) := x_aln (n := 7) (sh_441 L)
theorem sd_441 {i z : Int} (h0 : 0 ≤ i) (h1 : i < 7) : ex_xs rt J C (.iastore :: is) ls (vI z :: vI i :: vR 441 :: st) (SH L, σ) = ex_xs rt J C is ls st (SH L, ex_ar σ 441 (ex_u (σ 441) i z)) := x_ast (n := 7) (sh_441 L) (by decide) h0 h1
theorem ld_442 {i : Int} (h0 : 0 ≤ i) (h1 : i < 8) : ex_xs rt J C (.iaload :: is) ls (vI i :: vR 442 :: st) (SH L, σ) = ex_xs rt J C is ls (vI (σ 442 i) :: st) (SH L, σ) := x_ald (n := 8) (sh_442 L) h0 h1
theorem ln_442 : ex_xs rt J C (.arraylength :: is) ls (vR 442 :: st) (SH L, σ) = ex_xs rt J C is ls (vI 8 :: st) (SH L, σ) := x_aln (n := 8) (sh_442 L)
theorem sd_442 {i z : Int} (h0 : 0 ≤ i) (h1 : i < 8) : ex_xs rt J C (.iastore :: is) ls (vI z :: vI i :: vR 442 :: st) (SH L, σ) = ex_xs rt J C is ls st (SH L, ex_ar σ 442 (ex_u (σ 442) i z)) := x_ast (n := 8) (sh_442 L) (by decide) h0 h1
theorem ld_443 {i : Int} (h0 : 0 ≤ i) (h1 : i < 5) : ex_xs rt J C (.iaload :: is) ls (vI i :: vR 443 :: st) (SH L, σ) = ex_xs rt J C is ls (vI (σ 443 i) :: st) (SH L, σ) := x_ald (n := 5) (sh_443 L) h0 h1
theorem ln_443 : ex_xs rt J C (.arraylength :: is) ls (vR 443 :: st) (SH L, σ) = ex_xs rt J C is ls (vI 5 :: st) (SH L, σ) := x_aln (n := 5) (sh_443 L)
theorem sd_443 {i z : Int} (h0 : 0 ≤ i) (h1 : i < 5) : ex_xs rt J C (.iastore :: is) ls (vI z :: vI i :: vR 443 :: st) (SH L, σ) = ex_xs rt J C is ls st (SH L, ex_ar σ 443 (ex_u (σ 443) i z)) := x_ast (n := 5) (sh_443 L) (by decide) h0 h1
theorem ld_444 {i : Int} (h0 : 0 ≤ i) (h1 : i < 5) : ex_xs rt J C (.iaload :: is) ls (vI i :: vR 444 :: st) (SH L, σ) = ex_xs rt J C is ls (vI (σ 444 i) :: st) (SH L, σ) := x_ald (n := 5) (sh_444 L) h0 h1
theorem ln_444 : ex_xs rt J C (.arraylength :: is) ls (vR 444 :: st) (SH L, σ) = ex_xs rt J C is ls (vI 5 :: st) (SH L, σ) := x_aln (n := 5) (sh_444 L)
theorem sd_444 {i z : Int} (h0 : 0 ≤ i) (h1 : i < 5) : ex_xs rt J C (.iastore :: is) ls (vI z :: vI i :: vR 444 :: st) (SH L, σ) = ex_xs rt J C is ls st (SH L, ex_ar σ 444 (ex_u (σ 444) i z)) := x_ast (n := 5) (sh_444 L) (by decide) h0 h1
theorem ld_445 {i : Int} (h0 : 0 ≤ i) (h1 : i < 8) : ex_xs rt J C (.iaload :: is) ls (vI i :: vR 445 :: st) (SH L, σ) = ex_xs rt J C is ls (vI (σ 445 i) :: st) (SH L, σ) := x_ald (n := 8) (sh_445 L) h0 h1
theorem ln_445 : ex_xs rt J C (.arraylength :: is) ls (vR 445 :: st) (SH L, σ) = ex_xs rt J C is ls (vI 8 :: st) (SH L, σ) := x_aln (n := 8) (sh_445 L)
theorem sd_445 {i z : Int} (h0 : 0 ≤ i) (h1 : i < 8) : ex_xs rt J C (.iastore :: is) ls (vI z :: vI i :: vR 445 :: st) (SH L, σ) = ex_xs rt J C is ls st (SH L, ex_ar σ 445 (ex_u (σ 445) i z)) := x_ast (n := 8) (sh_445 L) (by decide) h0 h1
theorem ld_446 {i : Int} (h0 : 0 ≤ i) (h1 : i < 8) : ex_xs rt J C (.iaload :: is) ls (vI i :: vR 446 :: st) (SH L, σ) = ex_xs rt J C is ls (vI (σ 446 i) :: st) (SH L, σ) := x_ald (n := 8) (sh_446 L) h0 h1
theorem ln_446 : ex_xs rt J C (.arraylength :: is) ls (vR 446 :: st) (SH L, σ) = ex_xs rt J C is ls (vI 8 :: st) (SH L, σ) := x_aln (n := 8) (sh_446 L)
theorem sd_446 {i z : Int} (h0 : 0 ≤ i) (h1 : i < 8) : ex_xs rt J C (.iastore :: is) ls (vI z :: vI i :: vR 446 :: st) (SH L, σ) = ex_xs rt J C is ls st (SH L, ex_ar σ 446 (ex_u (σ 446) i z)) := x_ast (n := 8) (sh_446 L) (by decide) h0 h1
theorem ld_447 {i : Int} (h0 : 0 ≤ i) (h1 : i < 5) : ex_xs rt J C (.iaload :: is) ls (vI i :: vR 447 :: st) (SH L, σ) = ex_xs rt J C is ls (vI (σ 447 i) :: st) (SH L, σ) := x_ald (n := 5) (sh_447 L) h0 h1
theorem ln_447 : ex_xs rt J C (.arraylength :: is) ls (vR 447 :: st) (SH L, σ) = ex_xs rt J C is ls (vI 5 :: st) (SH L, σ) := x_aln (n := 5) (sh_447 L)
theorem sd_447 {i z : Int} (h0 : 0 ≤ i) (h1 : i < 5) : ex_xs rt J C (.iastore :: is) ls (vI z :: vI i :: vR 447 :: st) (SH L, σ) = ex_xs rt J C is ls st (SH L, ex_ar σ 447 (ex_u (σ 447) i z)) := x_ast (n := 5) (sh_447 L) (by decide) h0 h1
theorem ld_448 {i : Int} (h0 : 0 ≤ i) (h1 : i < 20) : ex_xs rt J C (.iaload :: is) ls (vI i :: vR 448 :: st) (SH L, σ) = ex_xs rt J C is ls (vI (σ 448 i) :: st) (SH L, σ) := x_ald (n := 20) (sh_448 L) h0 h1
theorem ln_448 : ex_xs rt J C (.arraylength :: is) ls (vR 448 :: st) (SH L, σ) = ex_xs rt J C is ls (vI 20 :: st) (SH L, σ) := x_aln (n := 20) (sh_448 L)
theorem sd_448 {i z : Int} (h0 : 0 ≤ i) (h1 : i < 20) : ex_xs rt J C (.iastore :: is) ls (vI z :: vI i :: vR 448 :: st) (SH L, σ) = ex_xs rt J C is ls st (SH L, ex_ar σ 448 (ex_u (σ 448) i z)) := x_ast (n := 20) (sh_448 L) (by decide) h0 h1
end XA
set_option maxRecDepth 20000 in
theorem ev_0_0 (d : Nat) (ls st : List ex_V) (h : ex_H) : ex_ev d 0 0 ls st h = ex_xs 0 (ex_ev d 0) (ex_cd d) [.aload 0, .invokedynamic 1, .aload 0, .sipush 24, .newarray .int, .putfield 0, .aload 0, .sipush 8, .newarray .int, .putfield 1, .return_] ls st h := ex_ev_eq d 0 0 ls st h
set_option maxRecDepth 20000 in
theorem ev_1_0 (d : Nat) (ls st : List ex_V) (h : ex_H) : ex_ev d 1 0 ls st h = ex_xs 1 (ex_ev d 1) (ex_cd d) [.aload 0, .aload 1, .invokevirtual 2, .istore 3, .sipush 0, .istore 4, .sipush 1, .istore 5, .goto_w 1] ls st h := ex_ev_eq d 1 0 ls st h
set_option maxRecDepth 20000 in
theorem ev_1_1 (d : Nat) (ls st : List ex_V) (h : ex_H) : ex_ev d 1 1 ls st h = ex_xs 1 (ex_ev d 1) (ex_cd d) [.iload 5, .iload 3, .if_icmp .gt 3, .iload 5, .iload 3, .sipush (-1), .ixor, .iand, .ifCond .ne 2, .iload 5, .invokestatic 235, .iload 4, .invokestatic 235, .if_icmp .le 2, .aload 0, .aload 1, .iload 2, .iload 5, .invokevirtual 3, .ifCond .eq 2, .iload 5, .istore 4, .goto_w 2] ls st h := ex_ev_eq d 1 1 ls st h
set_option maxRecDepth 20000 in
theorem ev_1_2 (d : Nat) (ls st : List ex_V) (h : ex_H) : ex_ev d 1 2 ls st h = ex_xs 1 (ex_ev d 1) (ex_cd d) [.iinc 5 1, .goto 1] ls st h := ex_ev_eq d 1 2 ls st h
set_option maxRecDepth 20000 in
theorem ev_1_3 (d : Nat) (ls st : List ex_V) (h : ex_H) : ex_ev d 1 3 ls st h = ex_xs 1 (ex_ev d 1) (ex_cd d) [.iload 4, .ireturn] ls st h := ex_ev_eq d 1 3 ls st h
set_option maxRecDepth 20000 in
theorem ev_2_0 (d : Nat) (ls st : List ex_V) (h : ex_H) : ex_ev d 2 0 ls st h = ex_xs 1 (ex_ev d 2) (ex_cd d) [.sipush 0, .istore 2, .sipush 0, .istore 3, .goto_w 1] ls st h := ex_ev_eq d 2 0 ls st h
set_option maxRecDepth 20000 in
theorem ev_2_1 (d : Nat) (ls st : List ex_V) (h : ex_H) : ex_ev d 2 1 ls st h = ex_xs 1 (ex_ev d 2) (ex_cd d) [.iload 3, .aload 1, .getfield 65, .if_icmp .ge 6, .aload 1, .getfield 76, .iload 3, .iaload, .sipush (-1), .if_icmp .eq 2, .aload 1, .iload 3, .sipush 4, .invokevirtual 17, .ifCond .le 2, .sipush 1, .goto 3] ls st h := ex_ev_eq d 2 1 ls st h
set_option maxRecDepth 20000 in
theorem ev_2_2 (d : Nat) (ls st : List ex_V) (h : ex_H) : ex_ev d 2 2 ls st h = ex_xs 1 (ex_ev d 2) (ex_cd d) [.sipush 0, .goto_w 3] ls st h := ex_ev_eq d 2 2 ls st h
set_option maxRecDepth 20000 in
theorem ev_2_3 (d : Nat) (ls st : List ex_V) (h : ex_H) : ex_ev d 2 3 ls st h = ex_xs 1 (ex_ev d 2) (ex_cd d) [.istore 4, .iload 2, .iload 4, .ifCond .eq 4, .sipush 1, .iload 3, .ishl, .goto 5] ls st h := ex_ev_eq d 2 3 ls st h
set_option maxRecDepth 20000 in
theorem ev_2_4 (d : Nat) (ls st : List ex_V) (h : ex_H) : ex_ev d 2 4 ls st h = ex_xs 1 (ex_ev d 2) (ex_cd d) [.sipush 0, .goto_w 5] ls st h := ex_ev_eq d 2 4 ls st h
set_option maxRecDepth 20000 in
theorem ev_2_5 (d : Nat) (ls st : List ex_V) (h : ex_H) : ex_ev d 2 5 ls st h = ex_xs 1 (ex_ev d 2) (ex_cd d) [.ior, .istore 2, .iinc 3 1, .goto 1] ls st h := ex_ev_eq d 2 5 ls st h
set_option maxRecDepth 20000 in
theorem ev_2_6 (d : Nat) (ls st : List ex_V) (h : ex_H) : ex_ev d 2 6 ls st h = ex_xs 1 (ex_ev d 2) (ex_cd d) [.iload 2, .ireturn] ls st h := ex_ev_eq d 2 6 ls st h
set_option maxRecDepth 20000 in
theorem ev_3_0 (d : Nat) (ls st : List ex_V) (h : ex_H) : ex_ev d 3 0 ls st h = ex_xs 2 (ex_ev d 3) (ex_cd d) [.sipush 0, .istore 4, .sipush 0, .istore 5, .goto_w 1] ls st h := ex_ev_eq d 3 0 ls st h
set_option maxRecDepth 20000 in
theorem ev_3_1 (d : Nat) (ls st : List ex_V) (h : ex_H) : ex_ev d 3 1 ls st h = ex_xs 2 (ex_ev d 3) (ex_cd d) [.iload 5, .aload 1, .getfield 65, .if_icmp .ge 4, .aload 0, .getfield 1, .iload 5, .iload 3, .iload 5, .ishr, .sipush 1, .iand, .ifCond .ne 2, .sipush 0, .goto 3] ls st h := ex_ev_eq d 3 1 ls st h
set_option maxRecDepth 20000 in
theorem ev_3_2 (d : Nat) (ls st : List ex_V) (h : ex_H) : ex_ev d 3 2 ls st h = ex_xs 2 (ex_ev d 3) (ex_cd d) [.aload 1, .iload 5, .sipush 4, .invokevirtual 17, .goto_w 3] ls st h := ex_ev_eq d 3 2 ls st h
set_option maxRecDepth 20000 in
theorem ev_3_3 (d : Nat) (ls st : List ex_V) (h : ex_H) : ex_ev d 3 3 ls st h = ex_xs 2 (ex_ev d 3) (ex_cd d) [.iastore, .iload 4, .aload 0, .getfield 1, .iload 5, .iaload, .iadd, .istore 4, .iinc 5 1, .goto 1] ls st h := ex_ev_eq d 3 3 ls st h
set_option maxRecDepth 20000 in
theorem ev_3_4 (d : Nat) (ls st : List ex_V) (h : ex_H) : ex_ev d 3 4 ls st h = ex_xs 2 (ex_ev d 3) (ex_cd d) [.sipush 23, .istore 5, .goto_w 5] ls st h := ex_ev_eq d 3 4 ls st h
set_option maxRecDepth 20000 in
theorem ev_3_5 (d : Nat) (ls st : List ex_V) (h : ex_H) : ex_ev d 3 5 ls st h = ex_xs 2 (ex_ev d 3) (ex_cd d) [.iload 5, .ifCond .lt 9, .aload 0, .getfield 0, .iload 5, .sipush 0, .iastore, .sipush 0, .istore 6, .goto_w 6] ls st h := ex_ev_eq d 3 5 ls st h
set_option maxRecDepth 20000 in
theorem ev_3_6 (d : Nat) (ls st : List ex_V) (h : ex_H) : ex_ev d 3 6 ls st h = ex_xs 2 (ex_ev d 3) (ex_cd d) [.iload 6, .iload 2, .if_icmp .ge 8, .aload 0, .aload 1, .iload 5, .invokevirtual 4, .istore 7, .iload 7, .sipush (-1), .if_icmp .eq 7, .aload 0, .getfield 0, .iload 5, .dup2, .iaload, .sipush 1, .iload 7, .ishl, .ior, .iastore, .goto_w 7] ls st h := ex_ev_eq d 3 6 ls st h
set_option maxRecDepth 20000 in
theorem ev_3_7 (d : Nat) (ls st : List ex_V) (h : ex_H) : ex_ev d 3 7 ls st h = ex_xs 2 (ex_ev d 3) (ex_cd d) [.iinc 6 1, .goto 6] ls st h := ex_ev_eq d 3 7 ls st h
set_option maxRecDepth 20000 in
theorem ev_3_8 (d : Nat) (ls st : List ex_V) (h : ex_H) : ex_ev d 3 8 ls st h = ex_xs 2 (ex_ev d 3) (ex_cd d) [.iload 4, .aload 0, .aload 1, .aload 0, .getfield 0, .iload 5, .iaload, .invokevirtual 5, .isub, .istore 4, .iinc 5 (-1), .goto 5] ls st h := ex_ev_eq d 3 8 ls st h
set_option maxRecDepth 20000 in
theorem ev_3_9 (d : Nat) (ls st : List ex_V) (h : ex_H) : ex_ev d 3 9 ls st h = ex_xs 2 (ex_ev d 3) (ex_cd d) [.iload 4, .ifCond .ne 10, .sipush 1, .goto 11] ls st h := ex_ev_eq d 3 9 ls st h
set_option maxRecDepth 20000 in
theorem ev_3_10 (d : Nat) (ls st : List ex_V) (h : ex_H) : ex_ev d 3 10 ls st h = ex_xs 2 (ex_ev d 3) (ex_cd d) [.sipush 0, .goto_w 11] ls st h := ex_ev_eq d 3 10 ls st h
set_option maxRecDepth 20000 in
theorem ev_3_11 (d : Nat) (ls st : List ex_V) (h : ex_H) : ex_ev d 3 11 ls st h = ex_xs 2 (ex_ev d 3) (ex_cd d) [.ireturn] ls st h := ex_ev_eq d 3 11 ls st h
set_option maxRecDepth 20000 in
theorem ev_4_0 (d : Nat) (ls st : List ex_V) (h : ex_H) : ex_ev d 4 0 ls st h = ex_xs 1 (ex_ev d 4) (ex_cd d) [.sipush (-1), .istore 3, .sipush 0, .istore 4, .sipush 0, .istore 5, .goto_w 1] ls st h := ex_ev_eq d 4 0 ls st h
set_option maxRecDepth 20000 in
theorem ev_4_1 (d : Nat) (ls st : List ex_V) (h : ex_H) : ex_ev d 4 1 ls st h = ex_xs 1 (ex_ev d 4) (ex_cd d) [.iload 5, .aload 1, .getfield 65, .if_icmp .ge 3, .aload 0, .getfield 1, .iload 5, .iaload, .iload 4, .if_icmp .le 2, .aload 0, .getfield 0, .iload 2, .iaload, .iload 5, .ishr, .sipush 1, .iand, .ifCond .ne 2, .aload 1, .iload 5, .sipush 3, .invokevirtual 17, .iload 2, .if_icmp .le 2, .iload 5, .istore 3, .aload 0, .getfield 1, .iload 5, .iaload, .istore 4, .goto_w 2] ls st h := ex_ev_eq d 4 1 ls st h
set_option maxRecDepth 20000 in
theorem ev_4_2 (d : Nat) (ls st : List ex_V) (h : ex_H) : ex_ev d 4 2 ls st h = ex_xs 1 (ex_ev d 4) (ex_cd d) [.iinc 5 1, .goto 1] ls st h := ex_ev_eq d 4 2 ls st h
set_option maxRecDepth 20000 in
theorem ev_4_3 (d : Nat) (ls st : List ex_V) (h : ex_H) : ex_ev d 4 3 ls st h = ex_xs 1 (ex_ev d 4) (ex_cd d) [.iload 3, .ireturn] ls st h := ex_ev_eq d 4 3 ls st h
set_option maxRecDepth 20000 in
theorem ev_5_0 (d : Nat) (ls st : List ex_V) (h : ex_H) : ex_ev d 5 0 ls st h = ex_xs 1 (ex_ev d 5) (ex_cd d) [.sipush 0, .istore 3, .goto_w 1] ls st h := ex_ev_eq d 5 0 ls st h
set_option maxRecDepth 20000 in
theorem ev_5_1 (d : Nat) (ls st : List ex_V) (h : ex_H) : ex_ev d 5 1 ls st h = ex_xs 1 (ex_ev d 5) (ex_cd d) [.iload 3, .aload 1, .getfield 65, .if_icmp .ge 2, .aload 0, .getfield 1, .iload 3, .dup2, .iaload, .iload 2, .iload 3, .ishr, .sipush 1, .iand, .isub, .iastore, .iinc 3 1, .goto 1] ls st h := ex_ev_eq d 5 1 ls st h
set_option maxRecDepth 20000 in
theorem ev_5_2 (d : Nat) (ls st : List ex_V) (h : ex_H) : ex_ev d 5 2 ls st h = ex_xs 1 (ex_ev d 5) (ex_cd d) [.iload 2, .invokestatic 235, .ireturn] ls st h := ex_ev_eq d 5 2 ls st h
set_option maxRecDepth 20000 in
theorem ev_6_0 (d : Nat) (ls st : List ex_V) (h : ex_H) : ex_ev d 6 0 ls st h = ex_xs 0 (ex_ev d 6) (ex_cd d) [.aload 0, .invokedynamic 1, .aload 0, .new 2, .dup, .invokespecial 9, .putfield 32, .aload 0, .new 4, .dup, .invokespecial 43, .putfield 33, .aload 0, .new 3, .dup, .invokespecial 38, .putfield 34, .aload 0, .sipush 25, .newarray .int, .putfield 35, .aload 0, .sipush 16, .newarray .int, .putfield 36, .aload 0, .sipush 7, .newarray .int, .putfield 37, .aload 0, .sipush 0, .putfield 38, .aload 0, .sipush 0, .putfield 39, .aload 0, .sipush 0, .putfield 40, .aload 0, .sipush 1, .putfield 41, .aload 0, .sipush 0, .putfield 42, .aload 0, .sipush 10, .putfield 43, .aload 0, .sipush 0, .putfield 44, .return_] ls st h := ex_ev_eq d 6 0 ls st h
set_option maxRecDepth 20000 in
theorem ev_7_0 (d : Nat) (ls st : List ex_V) (h : ex_H) : ex_ev d 7 0 ls st h = ex_xs 0 (ex_ev d 7) (ex_cd d) [.aload 0, .getfield 32, .aload 1, .getfield 32, .invokevirtual 10, .aload 0, .getfield 33, .aload 1, .getfield 33, .invokevirtual 44, .aload 0, .getfield 34, .aload 1, .getfield 34, .invokevirtual 39, .aload 1, .getfield 35, .sipush 0, .aload 0, .getfield 35, .sipush 0, .aload 0, .getfield 35, .arraylength, .invokedynamic 0, .aload 1, .getfield 36, .sipush 0, .aload 0, .getfield 36, .sipush 0, .aload 0, .getfield 36, .arraylength, .invokedynamic 0, .aload 1, .getfield 37, .sipush 0, .aload 0, .getfield 37, .sipush 0, .aload 0, .getfield 37, .arraylength, .invokedynamic 0, .aload 0, .aload 1, .getfield 38, .putfield 38, .aload 0, .aload 1, .getfield 39, .putfield 39, .aload 0, .aload 1, .getfield 40, .putfield 40, .aload 0, .aload 1, .getfield 41, .putfield 41, .aload 0, .aload 1, .getfield 42, .putfield 42, .aload 0, .aload 1, .getfield 43, .putfield 43, .aload 0, .aload 1, .getfield 44, .putfield 44, .return_] ls st h := ex_ev_eq d 7 0 ls st h
set_option maxRecDepth 20000 in
theorem ev_8_0 (d : Nat) (ls st : List ex_V) (h : ex_H) : ex_ev d 8 0 ls st h = ex_xs 1 (ex_ev d 8) (ex_cd d) [.sipush 0, .istore 2, .goto_w 1] ls st h := ex_ev_eq d 8 0 ls st h
set_option maxRecDepth 20000 in
theorem ev_8_1 (d : Nat) (ls st : List ex_V) (h : ex_H) : ex_ev d 8 1 ls st h = ex_xs 1 (ex_ev d 8) (ex_cd d) [.iload 2, .aload 0, .getfield 39, .if_icmp .ge 3, .aload 0, .getfield 37, .iload 2, .iaload, .iload 1, .if_icmp .ne 2, .iload 2, .ireturn] ls st h := ex_ev_eq d 8 1 ls st h
set_option maxRecDepth 20000 in
theorem ev_8_2 (d : Nat) (ls st : List ex_V) (h : ex_H) : ex_ev d 8 2 ls st h = ex_xs 1 (ex_ev d 8) (ex_cd d) [.iinc 2 1, .goto 1] ls st h := ex_ev_eq d 8 2 ls st h
set_option maxRecDepth 20000 in
theorem ev_8_3 (d : Nat) (ls st : List ex_V) (h : ex_H) : ex_ev d 8 3 ls st h = ex_xs 1 (ex_ev d 8) (ex_cd d) [.sipush (-1), .ireturn] ls st h := ex_ev_eq d 8 3 ls st h
set_option maxRecDepth 20000 in
theorem ev_9_0 (d : Nat) (ls st : List ex_V) (h : ex_H) : ex_ev d 9 0 ls st h = ex_xs 0 (ex_ev d 9) (ex_cd d) [.aload 0, .invokedynamic 1, .aload 0, .sipush 0, .putfield 64, .aload 0, .sipush 0, .putfield 65, .aload 0, .sipush 5, .newarray .int, .putfield 66, .aload 0, .sipush 5, .newarray .int, .putfield 67, .aload 0, .sipush 5, .newarray .int, .putfield 68, .aload 0, .sipush 5, .newarray .int, .putfield 69, .aload 0, .sipush 5, .newarray .int, .putfield 70, .aload 0, .sipush 5, .newarray .int, .putfield 71, .aload 0, .sipush 5, .newarray .int, .putfield 72, .aload 0, .sipush 5, .newarray .int, .putfield 73, .aload 0, .sipush 40, .newarray .int, .putfield 74, .aload 0, .sipush 48, .newarray .int, .putfield 75, .aload 0, .sipush 8, .newarray .int, .putfield 76, .return_] ls st h := ex_ev_eq d 9 0 ls st h
set_option maxRecDepth 20000 in
theorem ev_10_0 (d : Nat) (ls st : List ex_V) (h : ex_H) : ex_ev d 10 0 ls st h = ex_xs 0 (ex_ev d 10) (ex_cd d) [.aload 0, .aload 1, .getfield 64, .putfield 64, .aload 0, .aload 1, .getfield 65, .putfield 65, .aload 1, .getfield 66, .sipush 0, .aload 0, .getfield 66, .sipush 0, .aload 0, .getfield 66, .arraylength, .invokedynamic 0, .aload 1, .getfield 67, .sipush 0, .aload 0, .getfield 67, .sipush 0, .aload 0, .getfield 67, .arraylength, .invokedynamic 0, .aload 1, .getfield 68, .sipush 0, .aload 0, .getfield 68, .sipush 0, .aload 0, .getfield 68, .arraylength, .invokedynamic 0, .aload 1, .getfield 69, .sipush 0, .aload 0, .getfield 69, .sipush 0, .aload 0, .getfield 69, .arraylength, .invokedynamic 0, .aload 1, .getfield 70, .sipush 0, .aload 0, .getfield 70, .sipush 0, .aload 0, .getfield 70, .arraylength, .invokedynamic 0, .aload 1, .getfield 71, .sipush 0, .aload 0, .getfield 71, .sipush 0, .aload 0, .getfield 71, .arraylength, .invokedynamic 0, .aload 1, .getfield 72, .sipush 0, .aload 0, .getfield 72, .sipush 0, .aload 0, .getfield 72, .arraylength, .invokedynamic 0, .aload 1, .getfield 73, .sipush 0, .aload 0, .getfield 73, .sipush 0, .aload 0, .getfield 73, .arraylength, .invokedynamic 0, .aload 1, .getfield 74, .sipush 0, .aload 0, .getfield 74, .sipush 0, .aload 0, .getfield 74, .arraylength, .invokedynamic 0, .aload 1, .getfield 75, .sipush 0, .aload 0, .getfield 75, .sipush 0, .aload 0, .getfield 75, .arraylength, .invokedynamic 0, .aload 1, .getfield 76, .sipush 0, .aload 0, .getfield 76, .sipush 0, .aload 0, .getfield 76, .arraylength, .invokedynamic 0, .return_] ls st h := ex_ev_eq d 10 0 ls st h
set_option maxRecDepth 20000 in
theorem ev_11_0 (d : Nat) (ls st : List ex_V) (h : ex_H) : ex_ev d 11 0 ls st h = ex_xs 2 (ex_ev d 11) (ex_cd d) [.iload 0, .ifCond .lt 1, .iload 0, .getstatic 0, .arraylength, .if_icmp .ge 1, .sipush 1, .goto 2] ls st h := ex_ev_eq d 11 0 ls st h
set_option maxRecDepth 20000 in
theorem ev_11_1 (d : Nat) (ls st : List ex_V) (h : ex_H) : ex_ev d 11 1 ls st h = ex_xs 2 (ex_ev d 11) (ex_cd d) [.sipush 0, .goto_w 2] ls st h := ex_ev_eq d 11 1 ls st h
set_option maxRecDepth 20000 in
theorem ev_11_2 (d : Nat) (ls st : List ex_V) (h : ex_H) : ex_ev d 11 2 ls st h = ex_xs 2 (ex_ev d 11) (ex_cd d) [.ireturn] ls st h := ex_ev_eq d 11 2 ls st h
set_option maxRecDepth 20000 in
theorem ev_12_0 (d : Nat) (ls st : List ex_V) (h : ex_H) : ex_ev d 12 0 ls st h = ex_xs 2 (ex_ev d 12) (ex_cd d) [.iload 0, .ifCond .lt 1, .iload 0, .sipush 6, .if_icmp .ge 1, .iload 1, .getstatic 1, .iload 0, .iaload, .if_icmp .lt 1, .iload 1, .getstatic 2, .iload 0, .iaload, .if_icmp .gt 1, .sipush 1, .goto 2] ls st h := ex_ev_eq d 12 0 ls st h
set_option maxRecDepth 20000 in
theorem ev_12_1 (d : Nat) (ls st : List ex_V) (h : ex_H) : ex_ev d 12 1 ls st h = ex_xs 2 (ex_ev d 12) (ex_cd d) [.sipush 0, .goto_w 2] ls st h := ex_ev_eq d 12 1 ls st h
set_option maxRecDepth 20000 in
theorem ev_12_2 (d : Nat) (ls st : List ex_V) (h : ex_H) : ex_ev d 12 2 ls st h = ex_xs 2 (ex_ev d 12) (ex_cd d) [.ireturn] ls st h := ex_ev_eq d 12 2 ls st h
set_option maxRecDepth 20000 in
theorem ev_13_0 (d : Nat) (ls st : List ex_V) (h : ex_H) : ex_ev d 13 0 ls st h = ex_xs 2 (ex_ev d 13) (ex_cd d) [.iload 1, .ifCond .lt 1, .iload 1, .aload 0, .getfield 64, .if_icmp .ge 1, .sipush 1, .goto 2] ls st h := ex_ev_eq d 13 0 ls st h
set_option maxRecDepth 20000 in
theorem ev_13_1 (d : Nat) (ls st : List ex_V) (h : ex_H) : ex_ev d 13 1 ls st h = ex_xs 2 (ex_ev d 13) (ex_cd d) [.sipush 0, .goto_w 2] ls st h := ex_ev_eq d 13 1 ls st h
set_option maxRecDepth 20000 in
theorem ev_13_2 (d : Nat) (ls st : List ex_V) (h : ex_H) : ex_ev d 13 2 ls st h = ex_xs 2 (ex_ev d 13) (ex_cd d) [.ireturn] ls st h := ex_ev_eq d 13 2 ls st h
set_option maxRecDepth 20000 in
theorem ev_14_0 (d : Nat) (ls st : List ex_V) (h : ex_H) : ex_ev d 14 0 ls st h = ex_xs 2 (ex_ev d 14) (ex_cd d) [.iload 1, .ifCond .lt 1, .iload 1, .aload 0, .getfield 65, .if_icmp .ge 1, .sipush 1, .goto 2] ls st h := ex_ev_eq d 14 0 ls st h
set_option maxRecDepth 20000 in
theorem ev_14_1 (d : Nat) (ls st : List ex_V) (h : ex_H) : ex_ev d 14 1 ls st h = ex_xs 2 (ex_ev d 14) (ex_cd d) [.sipush 0, .goto_w 2] ls st h := ex_ev_eq d 14 1 ls st h
set_option maxRecDepth 20000 in
theorem ev_14_2 (d : Nat) (ls st : List ex_V) (h : ex_H) : ex_ev d 14 2 ls st h = ex_xs 2 (ex_ev d 14) (ex_cd d) [.ireturn] ls st h := ex_ev_eq d 14 2 ls st h
set_option maxRecDepth 20000 in
theorem ev_15_0 (d : Nat) (ls st : List ex_V) (h : ex_H) : ex_ev d 15 0 ls st h = ex_xs 1 (ex_ev d 15) (ex_cd d) [.aload 0, .getfield 64, .istore 5, .aload 0, .getfield 66, .iload 5, .iload 1, .iastore, .aload 0, .getfield 67, .iload 5, .iload 2, .iastore, .aload 0, .getfield 68, .iload 5, .iload 3, .iastore, .aload 0, .getfield 69, .iload 5, .iload 4, .iastore, .aload 0, .getfield 70, .iload 5, .sipush 100, .iastore, .aload 0, .getfield 71, .iload 5, .sipush 0, .iastore, .aload 0, .getfield 72, .iload 5, .sipush 0, .iastore, .aload 0, .getfield 73, .iload 5, .sipush 0, .iastore, .aload 0, .dup, .getfield 64, .sipush 1, .iadd, .putfield 64, .iload 5, .ireturn] ls st h := ex_ev_eq d 15 0 ls st h
set_option maxRecDepth 20000 in
theorem ev_16_0 (d : Nat) (ls st : List ex_V) (h : ex_H) : ex_ev d 16 0 ls st h = ex_xs 1 (ex_ev d 16) (ex_cd d) [.aload 0, .getfield 65, .istore 7, .iload 7, .sipush 6, .imul, .istore 8, .aload 0, .getfield 75, .iload 8, .sipush 0, .iadd, .iload 1, .iastore, .aload 0, .getfield 75, .iload 8, .sipush 1, .iadd, .iload 2, .iastore, .aload 0, .getfield 75, .iload 8, .sipush 2, .iadd, .iload 3, .iastore, .aload 0, .getfield 75, .iload 8, .sipush 3, .iadd, .iload 4, .iastore, .aload 0, .getfield 75, .iload 8, .sipush 4, .iadd, .iload 5, .iastore, .aload 0, .getfield 75, .iload 8, .sipush 5, .iadd, .iload 6, .iastore, .aload 0, .getfield 76, .iload 7, .sipush (-1), .iastore, .aload 0, .dup, .getfield 65, .sipush 1, .iadd, .putfield 65, .iload 7, .ireturn] ls st h := ex_ev_eq d 16 0 ls st h
set_option maxRecDepth 20000 in
theorem ev_17_0 (d : Nat) (ls st : List ex_V) (h : ex_H) : ex_ev d 17 0 ls st h = ex_xs 1 (ex_ev d 17) (ex_cd d) [.aload 0, .getfield 75, .iload 1, .sipush 6, .imul, .iload 2, .iadd, .iaload, .ireturn] ls st h := ex_ev_eq d 17 0 ls st h
set_option maxRecDepth 20000 in
theorem ev_18_0 (d : Nat) (ls st : List ex_V) (h : ex_H) : ex_ev d 18 0 ls st h = ex_xs 1 (ex_ev d 18) (ex_cd d) [.aload 0, .getfield 75, .iload 1, .sipush 6, .imul, .iload 2, .iadd, .iaload, .istore 4, .aload 0, .getfield 75, .iload 1, .sipush 6, .imul, .iload 2, .iadd, .iload 3, .iastore, .iload 4, .ireturn] ls st h := ex_ev_eq d 18 0 ls st h
set_option maxRecDepth 20000 in
theorem ev_19_0 (d : Nat) (ls st : List ex_V) (h : ex_H) : ex_ev d 19 0 ls st h = ex_xs 2 (ex_ev d 19) (ex_cd d) [.aload 0, .getfield 66, .iload 1, .iaload, .istore 3, .sipush 0, .istore 4, .goto_w 1] ls st h := ex_ev_eq d 19 0 ls st h
set_option maxRecDepth 20000 in
theorem ev_19_1 (d : Nat) (ls st : List ex_V) (h : ex_H) : ex_ev d 19 1 ls st h = ex_xs 2 (ex_ev d 19) (ex_cd d) [.iload 4, .getstatic 0, .arraylength, .if_icmp .ge 3, .iload 3, .sipush (-1), .if_icmp .eq 3, .iload 3, .iload 2, .if_icmp .ne 2, .sipush 1, .ireturn] ls st h := ex_ev_eq d 19 1 ls st h
set_option maxRecDepth 20000 in
theorem ev_19_2 (d : Nat) (ls st : List ex_V) (h : ex_H) : ex_ev d 19 2 ls st h = ex_xs 2 (ex_ev d 19) (ex_cd d) [.getstatic 0, .iload 3, .iaload, .istore 3, .iinc 4 1, .goto 1] ls st h := ex_ev_eq d 19 2 ls st h
set_option maxRecDepth 20000 in
theorem ev_19_3 (d : Nat) (ls st : List ex_V) (h : ex_H) : ex_ev d 19 3 ls st h = ex_xs 2 (ex_ev d 19) (ex_cd d) [.sipush 0, .ireturn] ls st h := ex_ev_eq d 19 3 ls st h
set_option maxRecDepth 20000 in
theorem ev_20_0 (d : Nat) (ls st : List ex_V) (h : ex_H) : ex_ev d 20 0 ls st h = ex_xs 1 (ex_ev d 20) (ex_cd d) [.aload 0, .getfield 66, .iload 1, .iaload, .sipush 1, .if_icmp .eq 1, .aload 0, .getfield 66, .iload 1, .iaload, .sipush 3, .if_icmp .ne 2, .goto_w 1] ls st h := ex_ev_eq d 20 0 ls st h
set_option maxRecDepth 20000 in
theorem ev_20_1 (d : Nat) (ls st : List ex_V) (h : ex_H) : ex_ev d 20 1 ls st h = ex_xs 1 (ex_ev d 20) (ex_cd d) [.sipush 1, .goto 3] ls st h := ex_ev_eq d 20 1 ls st h
set_option maxRecDepth 20000 in
theorem ev_20_2 (d : Nat) (ls st : List ex_V) (h : ex_H) : ex_ev d 20 2 ls st h = ex_xs 1 (ex_ev d 20) (ex_cd d) [.sipush 0, .goto_w 3] ls st h := ex_ev_eq d 20 2 ls st h
set_option maxRecDepth 20000 in
theorem ev_20_3 (d : Nat) (ls st : List ex_V) (h : ex_H) : ex_ev d 20 3 ls st h = ex_xs 1 (ex_ev d 20) (ex_cd d) [.ireturn] ls st h := ex_ev_eq d 20 3 ls st h
set_option maxRecDepth 20000 in
theorem ev_21_0 (d : Nat) (ls st : List ex_V) (h : ex_H) : ex_ev d 21 0 ls st h = ex_xs 1 (ex_ev d 21) (ex_cd d) [.aload 0, .getfield 66, .iload 1, .iaload, .sipush 3, .if_icmp .ne 1, .aload 0, .getfield 69, .iload 1, .iaload, .sipush 2, .idiv, .goto 2] ls st h := ex_ev_eq d 21 0 ls st h
set_option maxRecDepth 20000 in
theorem ev_21_1 (d : Nat) (ls st : List ex_V) (h : ex_H) : ex_ev d 21 1 ls st h = ex_xs 1 (ex_ev d 21) (ex_cd d) [.aload 0, .getfield 69, .iload 1, .iaload, .goto_w 2] ls st h := ex_ev_eq d 21 1 ls st h
set_option maxRecDepth 20000 in
theorem ev_21_2 (d : Nat) (ls st : List ex_V) (h : ex_H) : ex_ev d 21 2 ls st h = ex_xs 1 (ex_ev d 21) (ex_cd d) [.ireturn] ls st h := ex_ev_eq d 21 2 ls st h
set_option maxRecDepth 20000 in
theorem ev_22_0 (d : Nat) (ls st : List ex_V) (h : ex_H) : ex_ev d 22 0 ls st h = ex_xs 2 (ex_ev d 22) (ex_cd d) [.aload 0, .iload 1, .sipush 1, .invokevirtual 17, .aload 0, .getfield 68, .iload 2, .iaload, .if_icmp .gt 1, .aload 0, .iload 1, .sipush 2, .invokevirtual 17, .aload 0, .iload 2, .invokevirtual 21, .if_icmp .gt 1, .sipush 1, .goto 2] ls st h := ex_ev_eq d 22 0 ls st h
set_option maxRecDepth 20000 in
theorem ev_22_1 (d : Nat) (ls st : List ex_V) (h : ex_H) : ex_ev d 22 1 ls st h = ex_xs 2 (ex_ev d 22) (ex_cd d) [.sipush 0, .goto_w 2] ls st h := ex_ev_eq d 22 1 ls st h
set_option maxRecDepth 20000 in
theorem ev_22_2 (d : Nat) (ls st : List ex_V) (h : ex_H) : ex_ev d 22 2 ls st h = ex_xs 2 (ex_ev d 22) (ex_cd d) [.ireturn] ls st h := ex_ev_eq d 22 2 ls st h
set_option maxRecDepth 20000 in
theorem ev_23_0 (d : Nat) (ls st : List ex_V) (h : ex_H) : ex_ev d 23 0 ls st h = ex_xs 1 (ex_ev d 23) (ex_cd d) [.aload 0, .getfield 74, .iload 1, .sipush 8, .imul, .iload 2, .iadd, .iaload, .ireturn] ls st h := ex_ev_eq d 23 0 ls st h
set_option maxRecDepth 20000 in
theorem ev_24_0 (d : Nat) (ls st : List ex_V) (h : ex_H) : ex_ev d 24 0 ls st h = ex_xs 1 (ex_ev d 24) (ex_cd d) [.aload 0, .getfield 67, .iload 1, .iaload, .istore 2, .sipush 0, .istore 3, .goto_w 1] ls st h := ex_ev_eq d 24 0 ls st h
set_option maxRecDepth 20000 in
theorem ev_24_1 (d : Nat) (ls st : List ex_V) (h : ex_H) : ex_ev d 24 1 ls st h = ex_xs 1 (ex_ev d 24) (ex_cd d) [.iload 3, .aload 0, .getfield 73, .iload 1, .iaload, .if_icmp .ge 2, .iload 2, .aload 0, .aload 0, .iload 1, .iload 3, .invokevirtual 23, .sipush 0, .invokevirtual 17, .isub, .istore 2, .iinc 3 1, .goto 1] ls st h := ex_ev_eq d 24 1 ls st h
set_option maxRecDepth 20000 in
theorem ev_24_2 (d : Nat) (ls st : List ex_V) (h : ex_H) : ex_ev d 24 2 ls st h = ex_xs 1 (ex_ev d 24) (ex_cd d) [.iload 2, .ireturn] ls st h := ex_ev_eq d 24 2 ls st h
set_option maxRecDepth 20000 in
theorem ev_25_0 (d : Nat) (ls st : List ex_V) (h : ex_H) : ex_ev d 25 0 ls st h = ex_xs 2 (ex_ev d 25) (ex_cd d) [.aload 0, .getfield 72, .iload 1, .iaload, .ifCond .ne 1, .aload 0, .getfield 71, .iload 1, .iaload, .sipush 12, .if_icmp .lt 2, .goto_w 1] ls st h := ex_ev_eq d 25 0 ls st h
set_option maxRecDepth 20000 in
theorem ev_25_1 (d : Nat) (ls st : List ex_V) (h : ex_H) : ex_ev d 25 1 ls st h = ex_xs 2 (ex_ev d 25) (ex_cd d) [.sipush 1, .goto 3] ls st h := ex_ev_eq d 25 1 ls st h
set_option maxRecDepth 20000 in
theorem ev_25_2 (d : Nat) (ls st : List ex_V) (h : ex_H) : ex_ev d 25 2 ls st h = ex_xs 2 (ex_ev d 25) (ex_cd d) [.sipush 0, .goto_w 3] ls st h := ex_ev_eq d 25 2 ls st h
set_option maxRecDepth 20000 in
theorem ev_25_3 (d : Nat) (ls st : List ex_V) (h : ex_H) : ex_ev d 25 3 ls st h = ex_xs 2 (ex_ev d 25) (ex_cd d) [.ireturn] ls st h := ex_ev_eq d 25 3 ls st h
set_option maxRecDepth 20000 in
theorem ev_26_0 (d : Nat) (ls st : List ex_V) (h : ex_H) : ex_ev d 26 0 ls st h = ex_xs 2 (ex_ev d 26) (ex_cd d) [.aload 0, .getfield 76, .iload 1, .iaload, .istore 2, .iload 2, .sipush (-1), .if_icmp .eq 1, .aload 0, .getfield 73, .iload 2, .iaload, .ifCond .gt 2, .goto_w 1] ls st h := ex_ev_eq d 26 0 ls st h
set_option maxRecDepth 20000 in
theorem ev_26_1 (d : Nat) (ls st : List ex_V) (h : ex_H) : ex_ev d 26 1 ls st h = ex_xs 2 (ex_ev d 26) (ex_cd d) [.sipush 0, .ireturn] ls st h := ex_ev_eq d 26 1 ls st h
set_option maxRecDepth 20000 in
theorem ev_26_2 (d : Nat) (ls st : List ex_V) (h : ex_H) : ex_ev d 26 2 ls st h = ex_xs 2 (ex_ev d 26) (ex_cd d) [.aload 0, .iload 2, .aload 0, .getfield 73, .iload 2, .iaload, .sipush 1, .isub, .invokevirtual 23, .iload 1, .if_icmp .ne 3, .aload 0, .iload 2, .invokevirtual 25, .ifCond .ne 3, .sipush 1, .goto 4] ls st h := ex_ev_eq d 26 2 ls st h
set_option maxRecDepth 20000 in
theorem ev_26_3 (d : Nat) (ls st : List ex_V) (h : ex_H) : ex_ev d 26 3 ls st h = ex_xs 2 (ex_ev d 26) (ex_cd d) [.sipush 0, .goto_w 4] ls st h := ex_ev_eq d 26 3 ls st h
set_option maxRecDepth 20000 in
theorem ev_26_4 (d : Nat) (ls st : List ex_V) (h : ex_H) : ex_ev d 26 4 ls st h = ex_xs 2 (ex_ev d 26) (ex_cd d) [.ireturn] ls st h := ex_ev_eq d 26 4 ls st h
set_option maxRecDepth 20000 in
theorem ev_27_0 (d : Nat) (ls st : List ex_V) (h : ex_H) : ex_ev d 27 0 ls st h = ex_xs 1 (ex_ev d 27) (ex_cd d) [.aload 0, .getfield 76, .iload 1, .iaload, .sipush (-1), .if_icmp .eq 1, .sipush (-100007), .ireturn] ls st h := ex_ev_eq d 27 0 ls st h
set_option maxRecDepth 20000 in
theorem ev_27_1 (d : Nat) (ls st : List ex_V) (h : ex_H) : ex_ev d 27 1 ls st h = ex_xs 1 (ex_ev d 27) (ex_cd d) [.aload 0, .iload 1, .iload 2, .invokevirtual 22, .ifCond .ne 2, .sipush (-100004), .ireturn] ls st h := ex_ev_eq d 27 1 ls st h
set_option maxRecDepth 20000 in
theorem ev_27_2 (d : Nat) (ls st : List ex_V) (h : ex_H) : ex_ev d 27 2 ls st h = ex_xs 1 (ex_ev d 27) (ex_cd d) [.aload 0, .iload 2, .invokevirtual 25, .ifCond .eq 3, .sipush (-100008), .ireturn] ls st h := ex_ev_eq d 27 2 ls st h
set_option maxRecDepth 20000 in
theorem ev_27_3 (d : Nat) (ls st : List ex_V) (h : ex_H) : ex_ev d 27 3 ls st h = ex_xs 1 (ex_ev d 27) (ex_cd d) [.aload 0, .iload 1, .sipush 0, .invokevirtual 17, .aload 0, .iload 2, .invokevirtual 24, .if_icmp .le 4, .sipush (-100005), .goto 5] ls st h := ex_ev_eq d 27 3 ls st h
set_option maxRecDepth 20000 in
theorem ev_27_4 (d : Nat) (ls st : List ex_V) (h : ex_H) : ex_ev d 27 4 ls st h = ex_xs 1 (ex_ev d 27) (ex_cd d) [.sipush 0, .goto_w 5] ls st h := ex_ev_eq d 27 4 ls st h
set_option maxRecDepth 20000 in
theorem ev_27_5 (d : Nat) (ls st : List ex_V) (h : ex_H) : ex_ev d 27 5 ls st h = ex_xs 1 (ex_ev d 27) (ex_cd d) [.ireturn] ls st h := ex_ev_eq d 27 5 ls st h
set_option maxRecDepth 20000 in
theorem ev_28_0 (d : Nat) (ls st : List ex_V) (h : ex_H) : ex_ev d 28 0 ls st h = ex_xs 1 (ex_ev d 28) (ex_cd d) [.aload 0, .getfield 76, .iload 1, .iaload, .sipush (-1), .if_icmp .ne 1, .sipush (-100006), .ireturn] ls st h := ex_ev_eq d 28 0 ls st h
set_option maxRecDepth 20000 in
theorem ev_28_1 (d : Nat) (ls st : List ex_V) (h : ex_H) : ex_ev d 28 1 ls st h = ex_xs 1 (ex_ev d 28) (ex_cd d) [.aload 0, .getfield 76, .iload 1, .iaload, .iload 2, .if_icmp .ne 2, .sipush (-100007), .ireturn] ls st h := ex_ev_eq d 28 1 ls st h
set_option maxRecDepth 20000 in
theorem ev_28_2 (d : Nat) (ls st : List ex_V) (h : ex_H) : ex_ev d 28 2 ls st h = ex_xs 1 (ex_ev d 28) (ex_cd d) [.aload 0, .iload 1, .invokevirtual 26, .ifCond .eq 3, .aload 0, .iload 2, .invokevirtual 25, .ifCond .eq 4, .goto_w 3] ls st h := ex_ev_eq d 28 2 ls st h
set_option maxRecDepth 20000 in
theorem ev_28_3 (d : Nat) (ls st : List ex_V) (h : ex_H) : ex_ev d 28 3 ls st h = ex_xs 1 (ex_ev d 28) (ex_cd d) [.sipush (-100008), .ireturn] ls st h := ex_ev_eq d 28 3 ls st h
set_option maxRecDepth 20000 in
theorem ev_28_4 (d : Nat) (ls st : List ex_V) (h : ex_H) : ex_ev d 28 4 ls st h = ex_xs 1 (ex_ev d 28) (ex_cd d) [.aload 0, .iload 1, .iload 2, .invokevirtual 22, .ifCond .ne 5, .sipush (-100004), .ireturn] ls st h := ex_ev_eq d 28 4 ls st h
set_option maxRecDepth 20000 in
theorem ev_28_5 (d : Nat) (ls st : List ex_V) (h : ex_H) : ex_ev d 28 5 ls st h = ex_xs 1 (ex_ev d 28) (ex_cd d) [.aload 0, .iload 1, .sipush 0, .invokevirtual 17, .aload 0, .iload 2, .invokevirtual 24, .if_icmp .le 6, .sipush (-100005), .goto 7] ls st h := ex_ev_eq d 28 5 ls st h
set_option maxRecDepth 20000 in
theorem ev_28_6 (d : Nat) (ls st : List ex_V) (h : ex_H) : ex_ev d 28 6 ls st h = ex_xs 1 (ex_ev d 28) (ex_cd d) [.sipush 0, .goto_w 7] ls st h := ex_ev_eq d 28 6 ls st h
set_option maxRecDepth 20000 in
theorem ev_28_7 (d : Nat) (ls st : List ex_V) (h : ex_H) : ex_ev d 28 7 ls st h = ex_xs 1 (ex_ev d 28) (ex_cd d) [.ireturn] ls st h := ex_ev_eq d 28 7 ls st h
set_option maxRecDepth 20000 in
theorem ev_29_0 (d : Nat) (ls st : List ex_V) (h : ex_H) : ex_ev d 29 0 ls st h = ex_xs 0 (ex_ev d 29) (ex_cd d) [.aload 0, .getfield 73, .iload 2, .iaload, .sipush 8, .if_icmp .lt 1, .return_] ls st h := ex_ev_eq d 29 0 ls st h
set_option maxRecDepth 20000 in
theorem ev_29_1 (d : Nat) (ls st : List ex_V) (h : ex_H) : ex_ev d 29 1 ls st h = ex_xs 0 (ex_ev d 29) (ex_cd d) [.aload 0, .getfield 74, .iload 2, .sipush 8, .imul, .aload 0, .getfield 73, .iload 2, .iaload, .iadd, .iload 1, .iastore, .aload 0, .getfield 73, .iload 2, .dup2, .iaload, .sipush 1, .iadd, .iastore, .aload 0, .getfield 76, .iload 1, .iload 2, .iastore, .aload 0, .getfield 71, .iload 2, .dup2, .iaload, .aload 0, .iload 2, .invokevirtual 20, .iadd, .iastore, .return_] ls st h := ex_ev_eq d 29 1 ls st h
set_option maxRecDepth 20000 in
theorem ev_30_0 (d : Nat) (ls st : List ex_V) (h : ex_H) : ex_ev d 30 0 ls st h = ex_xs 0 (ex_ev d 30) (ex_cd d) [.aload 0, .getfield 76, .iload 1, .iaload, .istore 2, .aload 0, .getfield 73, .iload 2, .dup2, .iaload, .sipush 1, .isub, .iastore, .aload 0, .getfield 76, .iload 1, .sipush (-1), .iastore, .aload 0, .getfield 71, .iload 2, .dup2, .iaload, .aload 0, .iload 2, .invokevirtual 20, .iadd, .iastore, .return_] ls st h := ex_ev_eq d 30 0 ls st h
set_option maxRecDepth 20000 in
theorem ev_31_0 (d : Nat) (ls st : List ex_V) (h : ex_H) : ex_ev d 31 0 ls st h = ex_xs 0 (ex_ev d 31) (ex_cd d) [.aload 0, .iload 1, .invokevirtual 30, .aload 0, .iload 1, .iload 2, .invokevirtual 29, .return_] ls st h := ex_ev_eq d 31 0 ls st h
set_option maxRecDepth 20000 in
theorem ev_32_0 (d : Nat) (ls st : List ex_V) (h : ex_H) : ex_ev d 32 0 ls st h = ex_xs 0 (ex_ev d 32) (ex_cd d) [.aload 0, .getfield 76, .iload 1, .iaload, .istore 3, .aload 0, .iload 1, .iload 2, .invokevirtual 31, .aload 0, .getfield 71, .iload 3, .dup2, .iaload, .sipush 2, .aload 0, .iload 3, .invokevirtual 20, .imul, .isub, .iastore, .aload 0, .getfield 71, .iload 2, .dup2, .iaload, .sipush 2, .aload 0, .iload 2, .invokevirtual 20, .imul, .isub, .iastore, .return_] ls st h := ex_ev_eq d 32 0 ls st h
set_option maxRecDepth 20000 in
theorem ev_33_0 (d : Nat) (ls st : List ex_V) (h : ex_H) : ex_ev d 33 0 ls st h = ex_xs 1 (ex_ev d 33) (ex_cd d) [.sipush 0, .istore 1, .sipush 0, .istore 2, .goto_w 1] ls st h := ex_ev_eq d 33 0 ls st h
set_option maxRecDepth 20000 in
theorem ev_33_1 (d : Nat) (ls st : List ex_V) (h : ex_H) : ex_ev d 33 1 ls st h = ex_xs 1 (ex_ev d 33) (ex_cd d) [.iload 2, .aload 0, .getfield 64, .if_icmp .ge 2, .iload 1, .aload 0, .getfield 71, .iload 2, .iaload, .iadd, .istore 1, .aload 0, .getfield 71, .iload 2, .sipush 0, .iastore, .iinc 2 1, .goto 1] ls st h := ex_ev_eq d 33 1 ls st h
set_option maxRecDepth 20000 in
theorem ev_33_2 (d : Nat) (ls st : List ex_V) (h : ex_H) : ex_ev d 33 2 ls st h = ex_xs 1 (ex_ev d 33) (ex_cd d) [.iload 1, .ireturn] ls st h := ex_ev_eq d 33 2 ls st h
set_option maxRecDepth 20000 in
theorem ev_34_0 (d : Nat) (ls st : List ex_V) (h : ex_H) : ex_ev d 34 0 ls st h = ex_xs 1 (ex_ev d 34) (ex_cd d) [.sipush 0, .istore 2, .aload 0, .getfield 76, .iload 1, .iaload, .istore 3, .iload 3, .sipush (-1), .if_icmp .ne 1, .iload 2, .ireturn] ls st h := ex_ev_eq d 34 0 ls st h
set_option maxRecDepth 20000 in
theorem ev_34_1 (d : Nat) (ls st : List ex_V) (h : ex_H) : ex_ev d 34 1 ls st h = ex_xs 1 (ex_ev d 34) (ex_cd d) [.aload 0, .getfield 73, .iload 3, .iaload, .sipush 1, .isub, .istore 4, .goto_w 2] ls st h := ex_ev_eq d 34 1 ls st h
set_option maxRecDepth 20000 in
theorem ev_34_2 (d : Nat) (ls st : List ex_V) (h : ex_H) : ex_ev d 34 2 ls st h = ex_xs 1 (ex_ev d 34) (ex_cd d) [.iload 4, .ifCond .lt 3, .aload 0, .iload 3, .iload 4, .invokevirtual 23, .iload 1, .if_icmp .eq 3, .iload 2, .sipush 1, .aload 0, .iload 3, .iload 4, .invokevirtual 23, .ishl, .ior, .istore 2, .iinc 4 (-1), .goto 2] ls st h := ex_ev_eq d 34 2 ls st h
set_option maxRecDepth 20000 in
theorem ev_34_3 (d : Nat) (ls st : List ex_V) (h : ex_H) : ex_ev d 34 3 ls st h = ex_xs 1 (ex_ev d 34) (ex_cd d) [.iload 2, .ireturn] ls st h := ex_ev_eq d 34 3 ls st h
set_option maxRecDepth 20000 in
theorem ev_35_0 (d : Nat) (ls st : List ex_V) (h : ex_H) : ex_ev d 35 0 ls st h = ex_xs 1 (ex_ev d 35) (ex_cd d) [.sipush 0, .istore 1, .sipush 0, .istore 2, .goto_w 1] ls st h := ex_ev_eq d 35 0 ls st h
set_option maxRecDepth 20000 in
theorem ev_35_1 (d : Nat) (ls st : List ex_V) (h : ex_H) : ex_ev d 35 1 ls st h = ex_xs 1 (ex_ev d 35) (ex_cd d) [.iload 2, .aload 0, .getfield 64, .if_icmp .ge 2, .iload 1, .aload 0, .getfield 73, .iload 2, .iaload, .iadd, .istore 1, .iinc 2 1, .goto 1] ls st h := ex_ev_eq d 35 1 ls st h
set_option maxRecDepth 20000 in
theorem ev_35_2 (d : Nat) (ls st : List ex_V) (h : ex_H) : ex_ev d 35 2 ls st h = ex_xs 1 (ex_ev d 35) (ex_cd d) [.iload 1, .ireturn] ls st h := ex_ev_eq d 35 2 ls st h
set_option maxRecDepth 20000 in
theorem ev_36_0 (d : Nat) (ls st : List ex_V) (h : ex_H) : ex_ev d 36 0 ls st h = ex_xs 1 (ex_ev d 36) (ex_cd d) [.sipush 0, .istore 2, .sipush 1, .istore 3, .goto_w 1] ls st h := ex_ev_eq d 36 0 ls st h
set_option maxRecDepth 20000 in
theorem ev_36_1 (d : Nat) (ls st : List ex_V) (h : ex_H) : ex_ev d 36 1 ls st h = ex_xs 1 (ex_ev d 36) (ex_cd d) [.iload 3, .aload 0, .getfield 73, .iload 1, .iaload, .if_icmp .ge 6, .aload 0, .aload 0, .iload 1, .iload 3, .invokevirtual 23, .sipush 3, .invokevirtual 17, .istore 4, .sipush 0, .istore 5, .goto_w 2] ls st h := ex_ev_eq d 36 1 ls st h
set_option maxRecDepth 20000 in
theorem ev_36_2 (d : Nat) (ls st : List ex_V) (h : ex_H) : ex_ev d 36 2 ls st h = ex_xs 1 (ex_ev d 36) (ex_cd d) [.iload 5, .iload 3, .if_icmp .ge 5, .iload 2, .iload 4, .aload 0, .aload 0, .iload 1, .iload 5, .invokevirtual 23, .sipush 3, .invokevirtual 17, .if_icmp .le 3, .sipush 2, .goto 4] ls st h := ex_ev_eq d 36 2 ls st h
set_option maxRecDepth 20000 in
theorem ev_36_3 (d : Nat) (ls st : List ex_V) (h : ex_H) : ex_ev d 36 3 ls st h = ex_xs 1 (ex_ev d 36) (ex_cd d) [.sipush 0, .goto_w 4] ls st h := ex_ev_eq d 36 3 ls st h
set_option maxRecDepth 20000 in
theorem ev_36_4 (d : Nat) (ls st : List ex_V) (h : ex_H) : ex_ev d 36 4 ls st h = ex_xs 1 (ex_ev d 36) (ex_cd d) [.iadd, .istore 2, .iinc 5 1, .goto 2] ls st h := ex_ev_eq d 36 4 ls st h
set_option maxRecDepth 20000 in
theorem ev_36_5 (d : Nat) (ls st : List ex_V) (h : ex_H) : ex_ev d 36 5 ls st h = ex_xs 1 (ex_ev d 36) (ex_cd d) [.iinc 3 1, .goto 1] ls st h := ex_ev_eq d 36 5 ls st h
set_option maxRecDepth 20000 in
theorem ev_36_6 (d : Nat) (ls st : List ex_V) (h : ex_H) : ex_ev d 36 6 ls st h = ex_xs 1 (ex_ev d 36) (ex_cd d) [.iload 2, .ireturn] ls st h := ex_ev_eq d 36 6 ls st h
set_option maxRecDepth 20000 in
theorem ev_37_0 (d : Nat) (ls st : List ex_V) (h : ex_H) : ex_ev d 37 0 ls st h = ex_xs 1 (ex_ev d 37) (ex_cd d) [.aload 0, .getfield 66, .iload 1, .iaload, .sipush 2, .if_icmp .ne 1, .sipush 0, .aload 0, .getfield 70, .iload 1, .iaload, .sipush 60, .isub, .invokestatic 236, .goto 2] ls st h := ex_ev_eq d 37 0 ls st h
set_option maxRecDepth 20000 in
theorem ev_37_1 (d : Nat) (ls st : List ex_V) (h : ex_H) : ex_ev d 37 1 ls st h = ex_xs 1 (ex_ev d 37) (ex_cd d) [.aload 0, .getfield 70, .iload 1, .iaload, .goto_w 2] ls st h := ex_ev_eq d 37 1 ls st h
set_option maxRecDepth 20000 in
theorem ev_37_2 (d : Nat) (ls st : List ex_V) (h : ex_H) : ex_ev d 37 2 ls st h = ex_xs 1 (ex_ev d 37) (ex_cd d) [.ireturn] ls st h := ex_ev_eq d 37 2 ls st h
set_option maxRecDepth 20000 in
theorem ev_38_0 (d : Nat) (ls st : List ex_V) (h : ex_H) : ex_ev d 38 0 ls st h = ex_xs 0 (ex_ev d 38) (ex_cd d) [.aload 0, .invokedynamic 1, .aload 0, .sipush 0, .putfield 96, .aload 0, .sipush 30, .newarray .int, .putfield 97, .aload 0, .sipush 30, .newarray .int, .putfield 98, .aload 0, .sipush 30, .newarray .int, .putfield 99, .return_] ls st h := ex_ev_eq d 38 0 ls st h
set_option maxRecDepth 20000 in
theorem ev_39_0 (d : Nat) (ls st : List ex_V) (h : ex_H) : ex_ev d 39 0 ls st h = ex_xs 0 (ex_ev d 39) (ex_cd d) [.aload 0, .aload 1, .getfield 96, .putfield 96, .aload 1, .getfield 97, .sipush 0, .aload 0, .getfield 97, .sipush 0, .aload 0, .getfield 97, .arraylength, .invokedynamic 0, .aload 1, .getfield 98, .sipush 0, .aload 0, .getfield 98, .sipush 0, .aload 0, .getfield 98, .arraylength, .invokedynamic 0, .aload 1, .getfield 99, .sipush 0, .aload 0, .getfield 99, .sipush 0, .aload 0, .getfield 99, .arraylength, .invokedynamic 0, .return_] ls st h := ex_ev_eq d 39 0 ls st h
set_option maxRecDepth 20000 in
theorem ev_40_0 (d : Nat) (ls st : List ex_V) (h : ex_H) : ex_ev d 40 0 ls st h = ex_xs 0 (ex_ev d 40) (ex_cd d) [.aload 0, .getfield 97, .aload 0, .getfield 96, .iload 1, .iastore, .aload 0, .getfield 98, .aload 0, .getfield 96, .iload 2, .iastore, .aload 0, .getfield 99, .aload 0, .getfield 96, .iload 3, .ifCond .eq 1, .sipush 1, .goto 2] ls st h := ex_ev_eq d 40 0 ls st h
set_option maxRecDepth 20000 in
theorem ev_40_1 (d : Nat) (ls st : List ex_V) (h : ex_H) : ex_ev d 40 1 ls st h = ex_xs 0 (ex_ev d 40) (ex_cd d) [.sipush 0, .goto_w 2] ls st h := ex_ev_eq d 40 1 ls st h
set_option maxRecDepth 20000 in
theorem ev_40_2 (d : Nat) (ls st : List ex_V) (h : ex_H) : ex_ev d 40 2 ls st h = ex_xs 0 (ex_ev d 40) (ex_cd d) [.iastore, .aload 0, .dup, .getfield 96, .sipush 1, .iadd, .putfield 96, .return_] ls st h := ex_ev_eq d 40 2 ls st h
set_option maxRecDepth 20000 in
theorem ev_41_0 (d : Nat) (ls st : List ex_V) (h : ex_H) : ex_ev d 41 0 ls st h = ex_xs 2 (ex_ev d 41) (ex_cd d) [.sipush (-1), .istore 4, .sipush 0, .istore 5, .sipush 0, .istore 6, .goto_w 1] ls st h := ex_ev_eq d 41 0 ls st h
set_option maxRecDepth 20000 in
theorem ev_41_1 (d : Nat) (ls st : List ex_V) (h : ex_H) : ex_ev d 41 1 ls st h = ex_xs 2 (ex_ev d 41) (ex_cd d) [.iload 6, .iload 3, .if_icmp .ge 5, .iload 6, .aload 0, .getfield 96, .if_icmp .ge 5, .aload 0, .getfield 97, .iload 6, .iaload, .iload 1, .if_icmp .ne 4, .aload 0, .getfield 98, .iload 6, .iaload, .iload 2, .if_icmp .gt 4, .aload 0, .getfield 98, .iload 6, .iaload, .iload 4, .if_icmp .lt 4, .aload 0, .getfield 98, .iload 6, .iaload, .istore 4, .aload 0, .getfield 99, .iload 6, .iaload, .ifCond .eq 2, .sipush 1, .goto 3] ls st h := ex_ev_eq d 41 1 ls st h
set_option maxRecDepth 20000 in
theorem ev_41_2 (d : Nat) (ls st : List ex_V) (h : ex_H) : ex_ev d 41 2 ls st h = ex_xs 2 (ex_ev d 41) (ex_cd d) [.sipush 0, .goto_w 3] ls st h := ex_ev_eq d 41 2 ls st h
set_option maxRecDepth 20000 in
theorem ev_41_3 (d : Nat) (ls st : List ex_V) (h : ex_H) : ex_ev d 41 3 ls st h = ex_xs 2 (ex_ev d 41) (ex_cd d) [.istore 5, .goto_w 4] ls st h := ex_ev_eq d 41 3 ls st h
set_option maxRecDepth 20000 in
theorem ev_41_4 (d : Nat) (ls st : List ex_V) (h : ex_H) : ex_ev d 41 4 ls st h = ex_xs 2 (ex_ev d 41) (ex_cd d) [.iinc 6 1, .goto 1] ls st h := ex_ev_eq d 41 4 ls st h
set_option maxRecDepth 20000 in
theorem ev_41_5 (d : Nat) (ls st : List ex_V) (h : ex_H) : ex_ev d 41 5 ls st h = ex_xs 2 (ex_ev d 41) (ex_cd d) [.iload 5, .ireturn] ls st h := ex_ev_eq d 41 5 ls st h
set_option maxRecDepth 20000 in
theorem ev_42_0 (d : Nat) (ls st : List ex_V) (h : ex_H) : ex_ev d 42 0 ls st h = ex_xs 1 (ex_ev d 42) (ex_cd d) [.sipush 0, .istore 3, .sipush 0, .istore 4, .goto_w 1] ls st h := ex_ev_eq d 42 0 ls st h
set_option maxRecDepth 20000 in
theorem ev_42_1 (d : Nat) (ls st : List ex_V) (h : ex_H) : ex_ev d 42 1 ls st h = ex_xs 1 (ex_ev d 42) (ex_cd d) [.iload 4, .iload 1, .if_icmp .ge 4, .iload 3, .aload 0, .iload 4, .iload 2, .aload 0, .getfield 96, .invokevirtual 41, .ifCond .eq 2, .sipush 1, .iload 4, .ishl, .goto 3] ls st h := ex_ev_eq d 42 1 ls st h
set_option maxRecDepth 20000 in
theorem ev_42_2 (d : Nat) (ls st : List ex_V) (h : ex_H) : ex_ev d 42 2 ls st h = ex_xs 1 (ex_ev d 42) (ex_cd d) [.sipush 0, .goto_w 3] ls st h := ex_ev_eq d 42 2 ls st h
set_option maxRecDepth 20000 in
theorem ev_42_3 (d : Nat) (ls st : List ex_V) (h : ex_H) : ex_ev d 42 3 ls st h = ex_xs 1 (ex_ev d 42) (ex_cd d) [.ior, .istore 3, .iinc 4 1, .goto 1] ls st h := ex_ev_eq d 42 3 ls st h
set_option maxRecDepth 20000 in
theorem ev_42_4 (d : Nat) (ls st : List ex_V) (h : ex_H) : ex_ev d 42 4 ls st h = ex_xs 1 (ex_ev d 42) (ex_cd d) [.iload 3, .ireturn] ls st h := ex_ev_eq d 42 4 ls st h
set_option maxRecDepth 20000 in
theorem ev_43_0 (d : Nat) (ls st : List ex_V) (h : ex_H) : ex_ev d 43 0 ls st h = ex_xs 0 (ex_ev d 43) (ex_cd d) [.aload 0, .invokedynamic 1, .aload 0, .sipush 0, .putfield 128, .aload 0, .sipush 60, .newarray .int, .putfield 129, .aload 0, .sipush 60, .newarray .int, .putfield 130, .return_] ls st h := ex_ev_eq d 43 0 ls st h
set_option maxRecDepth 20000 in
theorem ev_44_0 (d : Nat) (ls st : List ex_V) (h : ex_H) : ex_ev d 44 0 ls st h = ex_xs 0 (ex_ev d 44) (ex_cd d) [.aload 0, .aload 1, .getfield 128, .putfield 128, .aload 1, .getfield 129, .sipush 0, .aload 0, .getfield 129, .sipush 0, .aload 0, .getfield 129, .arraylength, .invokedynamic 0, .aload 1, .getfield 130, .sipush 0, .aload 0, .getfield 130, .sipush 0, .aload 0, .getfield 130, .arraylength, .invokedynamic 0, .return_] ls st h := ex_ev_eq d 44 0 ls st h
set_option maxRecDepth 20000 in
theorem ev_45_0 (d : Nat) (ls st : List ex_V) (h : ex_H) : ex_ev d 45 0 ls st h = ex_xs 0 (ex_ev d 45) (ex_cd d) [.aload 0, .getfield 128, .sipush 60, .if_icmp .lt 1, .aload 0, .sipush 59, .putfield 128, .aload 0, .getfield 129, .sipush 1, .aload 0, .getfield 129, .sipush 0, .aload 0, .getfield 128, .invokedynamic 0, .aload 0, .getfield 130, .sipush 1, .aload 0, .getfield 130, .sipush 0, .aload 0, .getfield 128, .invokedynamic 0, .goto_w 1] ls st h := ex_ev_eq d 45 0 ls st h
set_option maxRecDepth 20000 in
theorem ev_45_1 (d : Nat) (ls st : List ex_V) (h : ex_H) : ex_ev d 45 1 ls st h = ex_xs 0 (ex_ev d 45) (ex_cd d) [.aload 0, .getfield 129, .aload 0, .getfield 128, .iload 1, .iastore, .aload 0, .getfield 130, .aload 0, .getfield 128, .iload 2, .iastore, .aload 0, .dup, .getfield 128, .sipush 1, .iadd, .putfield 128, .return_] ls st h := ex_ev_eq d 45 1 ls st h
set_option maxRecDepth 20000 in
theorem ev_46_0 (d : Nat) (ls st : List ex_V) (h : ex_H) : ex_ev d 46 0 ls st h = ex_xs 1 (ex_ev d 46) (ex_cd d) [.aload 0, .iload 1, .invokevirtual 47, .istore 4, .iload 4, .sipush (-1), .if_icmp .ne 1, .sipush (-1), .goto 2] ls st h := ex_ev_eq d 46 0 ls st h
set_option maxRecDepth 20000 in
theorem ev_46_1 (d : Nat) (ls st : List ex_V) (h : ex_H) : ex_ev d 46 1 ls st h = ex_xs 1 (ex_ev d 46) (ex_cd d) [.aload 0, .iload 1, .iload 4, .invokevirtual 48, .goto_w 2] ls st h := ex_ev_eq d 46 1 ls st h
set_option maxRecDepth 20000 in
theorem ev_46_2 (d : Nat) (ls st : List ex_V) (h : ex_H) : ex_ev d 46 2 ls st h = ex_xs 1 (ex_ev d 46) (ex_cd d) [.istore 5, .iload 5, .sipush (-1), .if_icmp .ne 3, .sipush (-1), .ireturn] ls st h := ex_ev_eq d 46 2 ls st h
set_option maxRecDepth 20000 in
theorem ev_46_3 (d : Nat) (ls st : List ex_V) (h : ex_H) : ex_ev d 46 3 ls st h = ex_xs 1 (ex_ev d 46) (ex_cd d) [.sipush 0, .istore 6, .sipush 0, .istore 7, .goto_w 4] ls st h := ex_ev_eq d 46 3 ls st h
set_option maxRecDepth 20000 in
theorem ev_46_4 (d : Nat) (ls st : List ex_V) (h : ex_H) : ex_ev d 46 4 ls st h = ex_xs 1 (ex_ev d 46) (ex_cd d) [.iload 7, .sipush 4, .if_icmp .ge 5, .iload 6, .aload 0, .iload 7, .iload 1, .iload 4, .iload 5, .invokevirtual 49, .iadd, .istore 6, .iinc 7 1, .goto 4] ls st h := ex_ev_eq d 46 4 ls st h
set_option maxRecDepth 20000 in
theorem ev_46_5 (d : Nat) (ls st : List ex_V) (h : ex_H) : ex_ev d 46 5 ls st h = ex_xs 1 (ex_ev d 46) (ex_cd d) [.iload 6, .ifCond .gt 6, .sipush (-1), .ireturn] ls st h := ex_ev_eq d 46 5 ls st h
set_option maxRecDepth 20000 in
theorem ev_46_6 (d : Nat) (ls st : List ex_V) (h : ex_H) : ex_ev d 46 6 ls st h = ex_xs 1 (ex_ev d 46) (ex_cd d) [.iload 3, .istore 7, .sipush (-1), .istore 8, .sipush 3, .istore 9, .goto_w 7] ls st h := ex_ev_eq d 46 6 ls st h
set_option maxRecDepth 20000 in
theorem ev_46_7 (d : Nat) (ls st : List ex_V) (h : ex_H) : ex_ev d 46 7 ls st h = ex_xs 1 (ex_ev d 46) (ex_cd d) [.iload 9, .ifCond .lt 10, .aload 0, .iload 9, .iload 1, .iload 4, .iload 5, .invokevirtual 49, .istore 10, .iload 7, .iload 3, .iload 10, .imul, .iload 6, .idiv, .isub, .istore 7, .iload 10, .ifCond .le 8, .iload 9, .goto 9] ls st h := ex_ev_eq d 46 7 ls st h
set_option maxRecDepth 20000 in
theorem ev_46_8 (d : Nat) (ls st : List ex_V) (h : ex_H) : ex_ev d 46 8 ls st h = ex_xs 1 (ex_ev d 46) (ex_cd d) [.iload 8, .goto_w 9] ls st h := ex_ev_eq d 46 8 ls st h
set_option maxRecDepth 20000 in
theorem ev_46_9 (d : Nat) (ls st : List ex_V) (h : ex_H) : ex_ev d 46 9 ls st h = ex_xs 1 (ex_ev d 46) (ex_cd d) [.istore 8, .iinc 9 (-1), .goto 7] ls st h := ex_ev_eq d 46 9 ls st h
set_option maxRecDepth 20000 in
theorem ev_46_10 (d : Nat) (ls st : List ex_V) (h : ex_H) : ex_ev d 46 10 ls st h = ex_xs 1 (ex_ev d 46) (ex_cd d) [.iload 3, .aload 0, .iload 2, .iload 1, .iload 4, .iload 5, .invokevirtual 49, .imul, .iload 6, .idiv, .istore 9, .iload 2, .iload 8, .if_icmp .ne 11, .iload 9, .iload 7, .iadd, .goto 12] ls st h := ex_ev_eq d 46 10 ls st h
set_option maxRecDepth 20000 in
theorem ev_46_11 (d : Nat) (ls st : List ex_V) (h : ex_H) : ex_ev d 46 11 ls st h = ex_xs 1 (ex_ev d 46) (ex_cd d) [.iload 9, .goto_w 12] ls st h := ex_ev_eq d 46 11 ls st h
set_option maxRecDepth 20000 in
theorem ev_46_12 (d : Nat) (ls st : List ex_V) (h : ex_H) : ex_ev d 46 12 ls st h = ex_xs 1 (ex_ev d 46) (ex_cd d) [.ireturn] ls st h := ex_ev_eq d 46 12 ls st h
set_option maxRecDepth 20000 in
theorem ev_47_0 (d : Nat) (ls st : List ex_V) (h : ex_H) : ex_ev d 47 0 ls st h = ex_xs 1 (ex_ev d 47) (ex_cd d) [.aload 0, .getfield 128, .sipush 1, .isub, .istore 2, .goto_w 1] ls st h := ex_ev_eq d 47 0 ls st h
set_option maxRecDepth 20000 in
theorem ev_47_1 (d : Nat) (ls st : List ex_V) (h : ex_H) : ex_ev d 47 1 ls st h = ex_xs 1 (ex_ev d 47) (ex_cd d) [.iload 2, .ifCond .lt 3, .aload 0, .getfield 129, .iload 2, .iaload, .iload 1, .if_icmp .ne 2, .aload 0, .getfield 130, .iload 2, .iaload, .sipush 4, .if_icmp .ne 2, .iload 2, .ireturn] ls st h := ex_ev_eq d 47 1 ls st h
set_option maxRecDepth 20000 in
theorem ev_47_2 (d : Nat) (ls st : List ex_V) (h : ex_H) : ex_ev d 47 2 ls st h = ex_xs 1 (ex_ev d 47) (ex_cd d) [.iinc 2 (-1), .goto 1] ls st h := ex_ev_eq d 47 2 ls st h
set_option maxRecDepth 20000 in
theorem ev_47_3 (d : Nat) (ls st : List ex_V) (h : ex_H) : ex_ev d 47 3 ls st h = ex_xs 1 (ex_ev d 47) (ex_cd d) [.sipush (-1), .ireturn] ls st h := ex_ev_eq d 47 3 ls st h
set_option maxRecDepth 20000 in
theorem ev_48_0 (d : Nat) (ls st : List ex_V) (h : ex_H) : ex_ev d 48 0 ls st h = ex_xs 1 (ex_ev d 48) (ex_cd d) [.iload 2, .sipush 1, .iadd, .istore 3, .goto_w 1] ls st h := ex_ev_eq d 48 0 ls st h
set_option maxRecDepth 20000 in
theorem ev_48_1 (d : Nat) (ls st : List ex_V) (h : ex_H) : ex_ev d 48 1 ls st h = ex_xs 1 (ex_ev d 48) (ex_cd d) [.iload 3, .aload 0, .getfield 128, .if_icmp .ge 3, .aload 0, .getfield 129, .iload 3, .iaload, .iload 1, .if_icmp .ne 2, .aload 0, .getfield 130, .iload 3, .iaload, .sipush 5, .if_icmp .ne 2, .iload 3, .ireturn] ls st h := ex_ev_eq d 48 1 ls st h
set_option maxRecDepth 20000 in
theorem ev_48_2 (d : Nat) (ls st : List ex_V) (h : ex_H) : ex_ev d 48 2 ls st h = ex_xs 1 (ex_ev d 48) (ex_cd d) [.iinc 3 1, .goto 1] ls st h := ex_ev_eq d 48 2 ls st h
set_option maxRecDepth 20000 in
theorem ev_48_3 (d : Nat) (ls st : List ex_V) (h : ex_H) : ex_ev d 48 3 ls st h = ex_xs 1 (ex_ev d 48) (ex_cd d) [.sipush (-1), .ireturn] ls st h := ex_ev_eq d 48 3 ls st h
set_option maxRecDepth 20000 in
theorem ev_49_0 (d : Nat) (ls st : List ex_V) (h : ex_H) : ex_ev d 49 0 ls st h = ex_xs 1 (ex_ev d 49) (ex_cd d) [.sipush 0, .istore 5, .iload 3, .sipush 1, .iadd, .istore 6, .goto_w 1] ls st h := ex_ev_eq d 49 0 ls st h
set_option maxRecDepth 20000 in
theorem ev_49_1 (d : Nat) (ls st : List ex_V) (h : ex_H) : ex_ev d 49 1 ls st h = ex_xs 1 (ex_ev d 49) (ex_cd d) [.iload 6, .iload 4, .if_icmp .ge 4, .iload 5, .aload 0, .getfield 129, .iload 6, .iaload, .iload 2, .if_icmp .ne 2, .aload 0, .getfield 130, .iload 6, .iaload, .iload 1, .if_icmp .ne 2, .sipush 1, .goto 3] ls st h := ex_ev_eq d 49 1 ls st h
set_option maxRecDepth 20000 in
theorem ev_49_2 (d : Nat) (ls st : List ex_V) (h : ex_H) : ex_ev d 49 2 ls st h = ex_xs 1 (ex_ev d 49) (ex_cd d) [.sipush 0, .goto_w 3] ls st h := ex_ev_eq d 49 2 ls st h
set_option maxRecDepth 20000 in
theorem ev_49_3 (d : Nat) (ls st : List ex_V) (h : ex_H) : ex_ev d 49 3 ls st h = ex_xs 1 (ex_ev d 49) (ex_cd d) [.iadd, .istore 5, .iinc 6 1, .goto 1] ls st h := ex_ev_eq d 49 3 ls st h
set_option maxRecDepth 20000 in
theorem ev_49_4 (d : Nat) (ls st : List ex_V) (h : ex_H) : ex_ev d 49 4 ls st h = ex_xs 1 (ex_ev d 49) (ex_cd d) [.iload 5, .ireturn] ls st h := ex_ev_eq d 49 4 ls st h
set_option maxRecDepth 20000 in
theorem ev_50_0 (d : Nat) (ls st : List ex_V) (h : ex_H) : ex_ev d 50 0 ls st h = ex_xs 0 (ex_ev d 50) (ex_cd d) [.aload 0, .invokedynamic 1, .aload 0, .sipush 7, .newarray .int, .putfield 160, .aload 0, .sipush 7, .newarray .int, .putfield 161, .aload 0, .sipush 5, .newarray .int, .putfield 162, .aload 0, .sipush (-1), .putfield 163, .return_] ls st h := ex_ev_eq d 50 0 ls st h
set_option maxRecDepth 20000 in
theorem ev_51_0 (d : Nat) (ls st : List ex_V) (h : ex_H) : ex_ev d 51 0 ls st h = ex_xs 1 (ex_ev d 51) (ex_cd d) [.aload 0, .sipush (-1), .putfield 163, .aload 0, .getfield 162, .sipush 0, .invokestatic 239, .aload 0, .aload 1, .sipush 0, .sipush 0, .invokevirtual 52, .aload 0, .getfield 163, .ireturn] ls st h := ex_ev_eq d 51 0 ls st h
set_option maxRecDepth 20000 in
theorem ev_52_0 (d : Nat) (ls st : List ex_V) (h : ex_H) : ex_ev d 52 0 ls st h = ex_xs 0 (ex_ev d 52) (ex_cd d) [.aload 0, .getfield 163, .sipush (-1), .if_icmp .eq 1, .iload 3, .aload 0, .getfield 163, .if_icmp .lt 1, .return_] ls st h := ex_ev_eq d 52 0 ls st h
set_option maxRecDepth 20000 in
theorem ev_52_1 (d : Nat) (ls st : List ex_V) (h : ex_H) : ex_ev d 52 1 ls st h = ex_xs 0 (ex_ev d 52) (ex_cd d) [.iload 2, .aload 1, .getfield 39, .if_icmp .lt 2, .aload 0, .iload 3, .putfield 163, .aload 0, .getfield 161, .sipush 0, .aload 0, .getfield 160, .sipush 0, .aload 0, .getfield 160, .arraylength, .invokedynamic 0, .return_] ls st h := ex_ev_eq d 52 1 ls st h
set_option maxRecDepth 20000 in
theorem ev_52_2 (d : Nat) (ls st : List ex_V) (h : ex_H) : ex_ev d 52 2 ls st h = ex_xs 0 (ex_ev d 52) (ex_cd d) [.aload 1, .getfield 32, .astore 4, .aload 1, .getfield 37, .iload 2, .iaload, .istore 5, .aload 4, .iload 5, .sipush 0, .invokevirtual 17, .istore 6, .sipush 0, .istore 7, .goto_w 3] ls st h := ex_ev_eq d 52 2 ls st h
set_option maxRecDepth 20000 in
theorem ev_52_3 (d : Nat) (ls st : List ex_V) (h : ex_H) : ex_ev d 52 3 ls st h = ex_xs 0 (ex_ev d 52) (ex_cd d) [.iload 7, .aload 4, .getfield 64, .if_icmp .ge 6, .aload 0, .getfield 162, .iload 7, .iaload, .iload 6, .iadd, .aload 4, .getfield 67, .iload 7, .iaload, .if_icmp .gt 5, .aload 4, .iload 5, .iload 7, .invokevirtual 22, .ifCond .ne 4, .goto 5] ls st h := ex_ev_eq d 52 3 ls st h
set_option maxRecDepth 20000 in
theorem ev_52_4 (d : Nat) (ls st : List ex_V) (h : ex_H) : ex_ev d 52 4 ls st h = ex_xs 0 (ex_ev d 52) (ex_cd d) [.aload 0, .getfield 161, .iload 2, .iload 7, .iastore, .aload 0, .getfield 162, .iload 7, .dup2, .iaload, .iload 6, .iadd, .iastore, .aload 0, .aload 1, .iload 2, .sipush 1, .iadd, .iload 3, .aload 0, .aload 1, .iload 2, .invokevirtual 53, .iadd, .invokevirtual 52, .aload 0, .getfield 162, .iload 7, .dup2, .iaload, .iload 6, .isub, .iastore, .goto_w 5] ls st h := ex_ev_eq d 52 4 ls st h
set_option maxRecDepth 20000 in
theorem ev_52_5 (d : Nat) (ls st : List ex_V) (h : ex_H) : ex_ev d 52 5 ls st h = ex_xs 0 (ex_ev d 52) (ex_cd d) [.iinc 7 1, .goto 3] ls st h := ex_ev_eq d 52 5 ls st h
set_option maxRecDepth 20000 in
theorem ev_52_6 (d : Nat) (ls st : List ex_V) (h : ex_H) : ex_ev d 52 6 ls st h = ex_xs 0 (ex_ev d 52) (ex_cd d) [.return_] ls st h := ex_ev_eq d 52 6 ls st h
set_option maxRecDepth 20000 in
theorem ev_53_0 (d : Nat) (ls st : List ex_V) (h : ex_H) : ex_ev d 53 0 ls st h = ex_xs 1 (ex_ev d 53) (ex_cd d) [.aload 1, .getfield 32, .aload 1, .getfield 37, .iload 2, .iaload, .sipush 3, .invokevirtual 17, .istore 3, .sipush 0, .istore 4, .sipush 0, .istore 5, .goto_w 1] ls st h := ex_ev_eq d 53 0 ls st h
set_option maxRecDepth 20000 in
theorem ev_53_1 (d : Nat) (ls st : List ex_V) (h : ex_H) : ex_ev d 53 1 ls st h = ex_xs 1 (ex_ev d 53) (ex_cd d) [.iload 5, .iload 2, .if_icmp .ge 6, .aload 0, .getfield 161, .iload 5, .iaload, .aload 0, .getfield 161, .iload 2, .iaload, .if_icmp .ne 2, .iload 3, .aload 1, .getfield 32, .aload 1, .getfield 37, .iload 5, .iaload, .sipush 3, .invokevirtual 17, .if_icmp .le 2, .sipush 1, .goto 3] ls st h := ex_ev_eq d 53 1 ls st h
set_option maxRecDepth 20000 in
theorem ev_53_2 (d : Nat) (ls st : List ex_V) (h : ex_H) : ex_ev d 53 2 ls st h = ex_xs 1 (ex_ev d 53) (ex_cd d) [.sipush 0, .goto_w 3] ls st h := ex_ev_eq d 53 2 ls st h
set_option maxRecDepth 20000 in
theorem ev_53_3 (d : Nat) (ls st : List ex_V) (h : ex_H) : ex_ev d 53 3 ls st h = ex_xs 1 (ex_ev d 53) (ex_cd d) [.istore 6, .iload 4, .iload 6, .ifCond .eq 4, .sipush 2, .goto 5] ls st h := ex_ev_eq d 53 3 ls st h
set_option maxRecDepth 20000 in
theorem ev_53_4 (d : Nat) (ls st : List ex_V) (h : ex_H) : ex_ev d 53 4 ls st h = ex_xs 1 (ex_ev d 53) (ex_cd d) [.sipush 0, .goto_w 5] ls st h := ex_ev_eq d 53 4 ls st h
set_option maxRecDepth 20000 in
theorem ev_53_5 (d : Nat) (ls st : List ex_V) (h : ex_H) : ex_ev d 53 5 ls st h = ex_xs 1 (ex_ev d 53) (ex_cd d) [.iadd, .istore 4, .iinc 5 1, .goto 1] ls st h := ex_ev_eq d 53 5 ls st h
set_option maxRecDepth 20000 in
theorem ev_53_6 (d : Nat) (ls st : List ex_V) (h : ex_H) : ex_ev d 53 6 ls st h = ex_xs 1 (ex_ev d 53) (ex_cd d) [.iload 4, .ireturn] ls st h := ex_ev_eq d 53 6 ls st h
set_option maxRecDepth 20000 in
theorem ev_54_0 (d : Nat) (ls st : List ex_V) (h : ex_H) : ex_ev d 54 0 ls st h = ex_xs 0 (ex_ev d 54) (ex_cd d) [.aload 0, .invokedynamic 1, .aload 0, .sipush 5, .newarray .int, .putfield 192, .aload 0, .sipush 5, .newarray .int, .putfield 193, .aload 0, .sipush (-1), .putfield 194, .return_] ls st h := ex_ev_eq d 54 0 ls st h
set_option maxRecDepth 20000 in
theorem ev_55_0 (d : Nat) (ls st : List ex_V) (h : ex_H) : ex_ev d 55 0 ls st h = ex_xs 1 (ex_ev d 55) (ex_cd d) [.aload 0, .sipush (-1), .putfield 194, .aload 0, .aload 1, .iload 2, .sipush 0, .sipush 0, .sipush 0, .invokevirtual 56, .aload 0, .getfield 194, .ireturn] ls st h := ex_ev_eq d 55 0 ls st h
set_option maxRecDepth 20000 in
theorem ev_56_0 (d : Nat) (ls st : List ex_V) (h : ex_H) : ex_ev d 56 0 ls st h = ex_xs 0 (ex_ev d 56) (ex_cd d) [.iload 3, .sipush 5, .if_icmp .lt 2, .iload 5, .aload 0, .getfield 194, .if_icmp .le 1, .aload 0, .iload 5, .putfield 194, .aload 0, .getfield 193, .sipush 0, .aload 0, .getfield 192, .sipush 0, .aload 0, .getfield 192, .arraylength, .invokedynamic 0, .goto_w 1] ls st h := ex_ev_eq d 56 0 ls st h
set_option maxRecDepth 20000 in
theorem ev_56_1 (d : Nat) (ls st : List ex_V) (h : ex_H) : ex_ev d 56 1 ls st h = ex_xs 0 (ex_ev d 56) (ex_cd d) [.return_] ls st h := ex_ev_eq d 56 1 ls st h
set_option maxRecDepth 20000 in
theorem ev_56_2 (d : Nat) (ls st : List ex_V) (h : ex_H) : ex_ev d 56 2 ls st h = ex_xs 0 (ex_ev d 56) (ex_cd d) [.iload 3, .iload 2, .if_icmp .ne 3, .aload 0, .aload 1, .iload 2, .iload 3, .sipush 1, .iadd, .iload 4, .iload 5, .invokevirtual 56, .return_] ls st h := ex_ev_eq d 56 2 ls st h
set_option maxRecDepth 20000 in
theorem ev_56_3 (d : Nat) (ls st : List ex_V) (h : ex_H) : ex_ev d 56 3 ls st h = ex_xs 0 (ex_ev d 56) (ex_cd d) [.sipush 0, .istore 6, .goto_w 4] ls st h := ex_ev_eq d 56 3 ls st h
set_option maxRecDepth 20000 in
theorem ev_56_4 (d : Nat) (ls st : List ex_V) (h : ex_H) : ex_ev d 56 4 ls st h = ex_xs 0 (ex_ev d 56) (ex_cd d) [.iload 6, .sipush 5, .if_icmp .ge 6, .iload 4, .iload 6, .ishr, .sipush 1, .iand, .ifCond .ne 5, .aload 0, .getfield 193, .iload 3, .iload 6, .iastore, .aload 0, .aload 1, .iload 2, .iload 3, .sipush 1, .iadd, .iload 4, .sipush 1, .iload 6, .ishl, .ior, .iload 5, .aload 1, .iload 3, .sipush 5, .imul, .iload 6, .iadd, .iaload, .iadd, .invokevirtual 56, .goto_w 5] ls st h := ex_ev_eq d 56 4 ls st h
set_option maxRecDepth 20000 in
theorem ev_56_5 (d : Nat) (ls st : List ex_V) (h : ex_H) : ex_ev d 56 5 ls st h = ex_xs 0 (ex_ev d 56) (ex_cd d) [.iinc 6 1, .goto 4] ls st h := ex_ev_eq d 56 5 ls st h
set_option maxRecDepth 20000 in
theorem ev_56_6 (d : Nat) (ls st : List ex_V) (h : ex_H) : ex_ev d 56 6 ls st h = ex_xs 0 (ex_ev d 56) (ex_cd d) [.return_] ls st h := ex_ev_eq d 56 6 ls st h
set_option maxRecDepth 20000 in
theorem ev_57_0 (d : Nat) (ls st : List ex_V) (h : ex_H) : ex_ev d 57 0 ls st h = ex_xs 1 (ex_ev d 57) (ex_cd d) [.aload 0, .aload 1, .sipush (-1), .invokevirtual 55, .istore 3, .iload 3, .aload 1, .iload 2, .sipush 5, .imul, .aload 0, .getfield 192, .iload 2, .iaload, .iadd, .iaload, .isub, .istore 4, .aload 0, .aload 1, .iload 2, .invokevirtual 55, .iload 4, .isub, .ireturn] ls st h := ex_ev_eq d 57 0 ls st h
set_option maxRecDepth 20000 in
theorem ev_58_0 (d : Nat) (ls st : List ex_V) (h : ex_H) : ex_ev d 58 0 ls st h = ex_xs 0 (ex_ev d 58) (ex_cd d) [.aload 0, .invokedynamic 1, .aload 0, .sipush 8, .newarray .int, .putfield 224, .aload 0, .sipush 0, .putfield 225, .aload 0, .sipush 8, .newarray .int, .putfield 226, .aload 0, .sipush 5, .newarray .int, .putfield 227, .aload 0, .sipush (-1), .putfield 228, .return_] ls st h := ex_ev_eq d 58 0 ls st h
set_option maxRecDepth 20000 in
theorem ev_59_0 (d : Nat) (ls st : List ex_V) (h : ex_H) : ex_ev d 59 0 ls st h = ex_xs 1 (ex_ev d 59) (ex_cd d) [.aload 0, .sipush (-1), .putfield 228, .sipush 0, .istore 3, .goto_w 1] ls st h := ex_ev_eq d 59 0 ls st h
set_option maxRecDepth 20000 in
theorem ev_59_1 (d : Nat) (ls st : List ex_V) (h : ex_H) : ex_ev d 59 1 ls st h = ex_xs 1 (ex_ev d 59) (ex_cd d) [.iload 3, .aload 1, .getfield 64, .if_icmp .ge 4, .aload 0, .getfield 227, .iload 3, .aload 1, .getfield 72, .iload 3, .iaload, .ifCond .eq 2, .sipush 0, .goto 3] ls st h := ex_ev_eq d 59 1 ls st h
set_option maxRecDepth 20000 in
theorem ev_59_2 (d : Nat) (ls st : List ex_V) (h : ex_H) : ex_ev d 59 2 ls st h = ex_xs 1 (ex_ev d 59) (ex_cd d) [.aload 1, .getfield 73, .iload 3, .iaload, .goto_w 3] ls st h := ex_ev_eq d 59 2 ls st h
set_option maxRecDepth 20000 in
theorem ev_59_3 (d : Nat) (ls st : List ex_V) (h : ex_H) : ex_ev d 59 3 ls st h = ex_xs 1 (ex_ev d 59) (ex_cd d) [.iastore, .iinc 3 1, .goto 1] ls st h := ex_ev_eq d 59 3 ls st h
set_option maxRecDepth 20000 in
theorem ev_59_4 (d : Nat) (ls st : List ex_V) (h : ex_H) : ex_ev d 59 4 ls st h = ex_xs 1 (ex_ev d 59) (ex_cd d) [.aload 0, .aload 1, .iload 2, .sipush 0, .sipush 0, .invokevirtual 60, .aload 0, .getfield 228, .ireturn] ls st h := ex_ev_eq d 59 4 ls st h
set_option maxRecDepth 20000 in
theorem ev_60_0 (d : Nat) (ls st : List ex_V) (h : ex_H) : ex_ev d 60 0 ls st h = ex_xs 0 (ex_ev d 60) (ex_cd d) [.iload 4, .aload 0, .getfield 228, .if_icmp .gt 1, .iload 4, .aload 0, .getfield 228, .if_icmp .ne 2, .iload 3, .aload 0, .getfield 225, .if_icmp .ge 2, .goto_w 1] ls st h := ex_ev_eq d 60 0 ls st h
set_option maxRecDepth 20000 in
theorem ev_60_1 (d : Nat) (ls st : List ex_V) (h : ex_H) : ex_ev d 60 1 ls st h = ex_xs 0 (ex_ev d 60) (ex_cd d) [.aload 0, .iload 4, .putfield 228, .aload 0, .iload 3, .putfield 225, .aload 0, .getfield 226, .sipush 0, .aload 0, .getfield 224, .sipush 0, .aload 0, .getfield 224, .arraylength, .invokedynamic 0, .goto_w 2] ls st h := ex_ev_eq d 60 1 ls st h
set_option maxRecDepth 20000 in
theorem ev_60_2 (d : Nat) (ls st : List ex_V) (h : ex_H) : ex_ev d 60 2 ls st h = ex_xs 0 (ex_ev d 60) (ex_cd d) [.iload 3, .sipush 8, .if_icmp .lt 3, .return_] ls st h := ex_ev_eq d 60 2 ls st h
set_option maxRecDepth 20000 in
theorem ev_60_3 (d : Nat) (ls st : List ex_V) (h : ex_H) : ex_ev d 60 3 ls st h = ex_xs 0 (ex_ev d 60) (ex_cd d) [.iload 2, .iload 3, .sipush 1, .iadd, .imul, .istore 5, .sipush 0, .istore 6, .goto_w 4] ls st h := ex_ev_eq d 60 3 ls st h
set_option maxRecDepth 20000 in
theorem ev_60_4 (d : Nat) (ls st : List ex_V) (h : ex_H) : ex_ev d 60 4 ls st h = ex_xs 0 (ex_ev d 60) (ex_cd d) [.iload 6, .aload 1, .getfield 64, .if_icmp .ge 7, .aload 0, .getfield 227, .iload 6, .iaload, .ifCond .le 6, .aload 1, .iload 6, .invokevirtual 37, .iload 5, .if_icmp .ge 5, .goto 6] ls st h := ex_ev_eq d 60 4 ls st h
set_option maxRecDepth 20000 in
theorem ev_60_5 (d : Nat) (ls st : List ex_V) (h : ex_H) : ex_ev d 60 5 ls st h = ex_xs 0 (ex_ev d 60) (ex_cd d) [.aload 0, .getfield 227, .iload 6, .dup2, .iaload, .sipush 1, .isub, .iastore, .aload 1, .iload 6, .aload 0, .getfield 227, .iload 6, .iaload, .invokevirtual 23, .istore 7, .aload 0, .getfield 226, .iload 3, .iload 7, .iastore, .aload 0, .aload 1, .iload 2, .iload 3, .sipush 1, .iadd, .iload 4, .aload 1, .iload 7, .sipush 5, .invokevirtual 17, .iadd, .invokevirtual 60, .aload 0, .getfield 227, .iload 6, .dup2, .iaload, .sipush 1, .iadd, .iastore, .goto_w 6] ls st h := ex_ev_eq d 60 5 ls st h
set_option maxRecDepth 20000 in
theorem ev_60_6 (d : Nat) (ls st : List ex_V) (h : ex_H) : ex_ev d 60 6 ls st h = ex_xs 0 (ex_ev d 60) (ex_cd d) [.iinc 6 1, .goto 4] ls st h := ex_ev_eq d 60 6 ls st h
set_option maxRecDepth 20000 in
theorem ev_60_7 (d : Nat) (ls st : List ex_V) (h : ex_H) : ex_ev d 60 7 ls st h = ex_xs 0 (ex_ev d 60) (ex_cd d) [.return_] ls st h := ex_ev_eq d 60 7 ls st h
set_option maxRecDepth 20000 in
theorem ev_61_0 (d : Nat) (ls st : List ex_V) (h : ex_H) : ex_ev d 61 0 ls st h = ex_xs 0 (ex_ev d 61) (ex_cd d) [.aload 0, .invokedynamic 1, .aload 0, .sipush 5, .newarray .int, .putfield 256, .aload 0, .sipush 7, .newarray .int, .putfield 257, .return_] ls st h := ex_ev_eq d 61 0 ls st h
set_option maxRecDepth 20000 in
theorem ev_62_0 (d : Nat) (ls st : List ex_V) (h : ex_H) : ex_ev d 62 0 ls st h = ex_xs 2 (ex_ev d 62) (ex_cd d) [.iload 0, .sipush 1, .if_icmp .lt 1, .iload 0, .sipush 6, .if_icmp .le 3, .goto_w 1] ls st h := ex_ev_eq d 62 0 ls st h
set_option maxRecDepth 20000 in
theorem ev_62_1 (d : Nat) (ls st : List ex_V) (h : ex_H) : ex_ev d 62 1 ls st h = ex_xs 2 (ex_ev d 62) (ex_cd d) [.iload 0, .sipush 10, .if_icmp .lt 2, .iload 0, .sipush 34, .if_icmp .lt 3, .goto_w 2] ls st h := ex_ev_eq d 62 1 ls st h
set_option maxRecDepth 20000 in
theorem ev_62_2 (d : Nat) (ls st : List ex_V) (h : ex_H) : ex_ev d 62 2 ls st h = ex_xs 2 (ex_ev d 62) (ex_cd d) [.iload 0, .sipush 40, .if_icmp .lt 4, .iload 0, .sipush 44, .if_icmp .gt 4, .goto_w 3] ls st h := ex_ev_eq d 62 2 ls st h
set_option maxRecDepth 20000 in
theorem ev_62_3 (d : Nat) (ls st : List ex_V) (h : ex_H) : ex_ev d 62 3 ls st h = ex_xs 2 (ex_ev d 62) (ex_cd d) [.sipush 1, .goto 5] ls st h := ex_ev_eq d 62 3 ls st h
set_option maxRecDepth 20000 in
theorem ev_62_4 (d : Nat) (ls st : List ex_V) (h : ex_H) : ex_ev d 62 4 ls st h = ex_xs 2 (ex_ev d 62) (ex_cd d) [.sipush 0, .goto_w 5] ls st h := ex_ev_eq d 62 4 ls st h
set_option maxRecDepth 20000 in
theorem ev_62_5 (d : Nat) (ls st : List ex_V) (h : ex_H) : ex_ev d 62 5 ls st h = ex_xs 2 (ex_ev d 62) (ex_cd d) [.ireturn] ls st h := ex_ev_eq d 62 5 ls st h
set_option maxRecDepth 20000 in
theorem ev_63_0 (d : Nat) (ls st : List ex_V) (h : ex_H) : ex_ev d 63 0 ls st h = ex_xs 0 (ex_ev d 63) (ex_cd d) [.aload 0, .getfield 257, .sipush 1, .iload 1, .iastore, .aload 0, .getfield 257, .sipush 2, .iload 2, .iastore, .aload 0, .getfield 257, .sipush 3, .iload 3, .iastore, .aload 0, .getfield 257, .sipush 4, .iload 4, .iastore, .aload 0, .getfield 257, .sipush 5, .iload 5, .iastore, .aload 0, .getfield 257, .sipush 6, .iload 6, .iastore, .return_] ls st h := ex_ev_eq d 63 0 ls st h
set_option maxRecDepth 20000 in
theorem ev_64_0 (d : Nat) (ls st : List ex_V) (h : ex_H) : ex_ev d 64 0 ls st h = ex_xs 2 (ex_ev d 64) (ex_cd d) [.iload 2, .ifCond .eq 1, .aload 0, .aload 1, .iload 2, .invokevirtual 65, .sipush (-1), .if_icmp .ne 2, .aload 0, .getfield 256, .sipush 0, .iaload, .ifCond .eq 2, .goto_w 1] ls st h := ex_ev_eq d 64 0 ls st h
set_option maxRecDepth 20000 in
theorem ev_64_1 (d : Nat) (ls st : List ex_V) (h : ex_H) : ex_ev d 64 1 ls st h = ex_xs 2 (ex_ev d 64) (ex_cd d) [.sipush 1, .goto 3] ls st h := ex_ev_eq d 64 1 ls st h
set_option maxRecDepth 20000 in
theorem ev_64_2 (d : Nat) (ls st : List ex_V) (h : ex_H) : ex_ev d 64 2 ls st h = ex_xs 2 (ex_ev d 64) (ex_cd d) [.sipush 0, .goto_w 3] ls st h := ex_ev_eq d 64 2 ls st h
set_option maxRecDepth 20000 in
theorem ev_64_3 (d : Nat) (ls st : List ex_V) (h : ex_H) : ex_ev d 64 3 ls st h = ex_xs 2 (ex_ev d 64) (ex_cd d) [.ireturn] ls st h := ex_ev_eq d 64 3 ls st h
set_option maxRecDepth 20000 in
theorem ev_65_0 (d : Nat) (ls st : List ex_V) (h : ex_H) : ex_ev d 65 0 ls st h = ex_xs 1 (ex_ev d 65) (ex_cd d) [.sipush 0, .istore 3, .sipush 0, .istore 4, .goto_w 1] ls st h := ex_ev_eq d 65 0 ls st h
set_option maxRecDepth 20000 in
theorem ev_65_1 (d : Nat) (ls st : List ex_V) (h : ex_H) : ex_ev d 65 1 ls st h = ex_xs 1 (ex_ev d 65) (ex_cd d) [.iload 4, .iload 2, .if_icmp .ge 4, .aload 1, .iload 4, .iaload, .invokestatic 66, .istore 5, .iload 3, .iload 5, .isub, .istore 6, .iload 6, .ifCond .lt 2, .iload 6, .sipush 5, .if_icmp .lt 3, .goto_w 2] ls st h := ex_ev_eq d 65 1 ls st h
set_option maxRecDepth 20000 in
theorem ev_65_2 (d : Nat) (ls st : List ex_V) (h : ex_H) : ex_ev d 65 2 ls st h = ex_xs 1 (ex_ev d 65) (ex_cd d) [.iload 4, .ireturn] ls st h := ex_ev_eq d 65 2 ls st h
set_option maxRecDepth 20000 in
theorem ev_65_3 (d : Nat) (ls st : List ex_V) (h : ex_H) : ex_ev d 65 3 ls st h = ex_xs 1 (ex_ev d 65) (ex_cd d) [.aload 0, .getfield 256, .iload 6, .aload 0, .aload 1, .iload 4, .iaload, .iload 6, .invokevirtual 67, .iastore, .iload 6, .sipush 1, .iadd, .istore 3, .iinc 4 1, .goto 1] ls st h := ex_ev_eq d 65 3 ls st h
set_option maxRecDepth 20000 in
theorem ev_65_4 (d : Nat) (ls st : List ex_V) (h : ex_H) : ex_ev d 65 4 ls st h = ex_xs 1 (ex_ev d 65) (ex_cd d) [.iload 2, .ifCond .eq 5, .iload 3, .sipush 1, .if_icmp .ne 6, .goto_w 5] ls st h := ex_ev_eq d 65 4 ls st h
set_option maxRecDepth 20000 in
theorem ev_65_5 (d : Nat) (ls st : List ex_V) (h : ex_H) : ex_ev d 65 5 ls st h = ex_xs 1 (ex_ev d 65) (ex_cd d) [.sipush (-1), .goto 7] ls st h := ex_ev_eq d 65 5 ls st h
set_option maxRecDepth 20000 in
theorem ev_65_6 (d : Nat) (ls st : List ex_V) (h : ex_H) : ex_ev d 65 6 ls st h = ex_xs 1 (ex_ev d 65) (ex_cd d) [.iload 2, .goto_w 7] ls st h := ex_ev_eq d 65 6 ls st h
set_option maxRecDepth 20000 in
theorem ev_65_7 (d : Nat) (ls st : List ex_V) (h : ex_H) : ex_ev d 65 7 ls st h = ex_xs 1 (ex_ev d 65) (ex_cd d) [.ireturn] ls st h := ex_ev_eq d 65 7 ls st h
set_option maxRecDepth 20000 in
theorem ev_66_0 (d : Nat) (ls st : List ex_V) (h : ex_H) : ex_ev d 66 0 ls st h = ex_xs 1 (ex_ev d 66) (ex_cd d) [.iload 0, .sipush 40, .if_icmp .ge 1, .sipush 0, .ireturn] ls st h := ex_ev_eq d 66 0 ls st h
set_option maxRecDepth 20000 in
theorem ev_66_1 (d : Nat) (ls st : List ex_V) (h : ex_H) : ex_ev d 66 1 ls st h = ex_xs 1 (ex_ev d 66) (ex_cd d) [.iload 0, .sipush 42, .if_icmp .ne 2, .sipush 1, .goto 3] ls st h := ex_ev_eq d 66 1 ls st h
set_option maxRecDepth 20000 in
theorem ev_66_2 (d : Nat) (ls st : List ex_V) (h : ex_H) : ex_ev d 66 2 ls st h = ex_xs 1 (ex_ev d 66) (ex_cd d) [.sipush 2, .goto_w 3] ls st h := ex_ev_eq d 66 2 ls st h
set_option maxRecDepth 20000 in
theorem ev_66_3 (d : Nat) (ls st : List ex_V) (h : ex_H) : ex_ev d 66 3 ls st h = ex_xs 1 (ex_ev d 66) (ex_cd d) [.ireturn] ls st h := ex_ev_eq d 66 3 ls st h
set_option maxRecDepth 20000 in
theorem ev_67_0 (d : Nat) (ls st : List ex_V) (h : ex_H) : ex_ev d 67 0 ls st h = ex_xs 1 (ex_ev d 67) (ex_cd d) [.iload 1, .sipush 40, .if_icmp .ge 3, .iload 1, .sipush 10, .if_icmp .lt 1, .iload 1, .sipush 10, .isub, .goto 2] ls st h := ex_ev_eq d 67 0 ls st h
set_option maxRecDepth 20000 in
theorem ev_67_1 (d : Nat) (ls st : List ex_V) (h : ex_H) : ex_ev d 67 1 ls st h = ex_xs 1 (ex_ev d 67) (ex_cd d) [.aload 0, .iload 1, .invokevirtual 68, .goto_w 2] ls st h := ex_ev_eq d 67 1 ls st h
set_option maxRecDepth 20000 in
theorem ev_67_2 (d : Nat) (ls st : List ex_V) (h : ex_H) : ex_ev d 67 2 ls st h = ex_xs 1 (ex_ev d 67) (ex_cd d) [.ireturn] ls st h := ex_ev_eq d 67 2 ls st h
set_option maxRecDepth 20000 in
theorem ev_67_3 (d : Nat) (ls st : List ex_V) (h : ex_H) : ex_ev d 67 3 ls st h = ex_xs 1 (ex_ev d 67) (ex_cd d) [.aload 0, .getfield 256, .iload 2, .iaload, .istore 3, .iload 1, .sipush 42, .if_icmp .ne 6, .iload 3, .ifCond .ne 4, .sipush 1, .goto 5] ls st h := ex_ev_eq d 67 3 ls st h
set_option maxRecDepth 20000 in
theorem ev_67_4 (d : Nat) (ls st : List ex_V) (h : ex_H) : ex_ev d 67 4 ls st h = ex_xs 1 (ex_ev d 67) (ex_cd d) [.sipush 0, .goto_w 5] ls st h := ex_ev_eq d 67 4 ls st h
set_option maxRecDepth 20000 in
theorem ev_67_5 (d : Nat) (ls st : List ex_V) (h : ex_H) : ex_ev d 67 5 ls st h = ex_xs 1 (ex_ev d 67) (ex_cd d) [.ireturn] ls st h := ex_ev_eq d 67 5 ls st h
set_option maxRecDepth 20000 in
theorem ev_67_6 (d : Nat) (ls st : List ex_V) (h : ex_H) : ex_ev d 67 6 ls st h = ex_xs 1 (ex_ev d 67) (ex_cd d) [.iload 2, .sipush 1, .iadd, .sipush 5, .if_icmp .ge 7, .aload 0, .getfield 256, .iload 2, .sipush 1, .iadd, .iaload, .goto 8] ls st h := ex_ev_eq d 67 6 ls st h
set_option maxRecDepth 20000 in
theorem ev_67_7 (d : Nat) (ls st : List ex_V) (h : ex_H) : ex_ev d 67 7 ls st h = ex_xs 1 (ex_ev d 67) (ex_cd d) [.sipush 0, .goto_w 8] ls st h := ex_ev_eq d 67 7 ls st h
set_option maxRecDepth 20000 in
theorem ev_67_8 (d : Nat) (ls st : List ex_V) (h : ex_H) : ex_ev d 67 8 ls st h = ex_xs 1 (ex_ev d 67) (ex_cd d) [.istore 4, .iload 1, .iload 3, .iload 4, .invokestatic 69, .ifCond .eq 9, .sipush 1, .goto 10] ls st h := ex_ev_eq d 67 8 ls st h
set_option maxRecDepth 20000 in
theorem ev_67_9 (d : Nat) (ls st : List ex_V) (h : ex_H) : ex_ev d 67 9 ls st h = ex_xs 1 (ex_ev d 67) (ex_cd d) [.sipush 0, .goto_w 10] ls st h := ex_ev_eq d 67 9 ls st h
set_option maxRecDepth 20000 in
theorem ev_67_10 (d : Nat) (ls st : List ex_V) (h : ex_H) : ex_ev d 67 10 ls st h = ex_xs 1 (ex_ev d 67) (ex_cd d) [.ireturn] ls st h := ex_ev_eq d 67 10 ls st h
set_option maxRecDepth 20000 in
theorem ev_68_0 (d : Nat) (ls st : List ex_V) (h : ex_H) : ex_ev d 68 0 ls st h = ex_xs 1 (ex_ev d 68) (ex_cd d) [.iload 1, .sipush 1, .if_icmp .lt 1, .iload 1, .sipush 6, .if_icmp .gt 1, .aload 0, .getfield 257, .iload 1, .iaload, .goto 2] ls st h := ex_ev_eq d 68 0 ls st h
set_option maxRecDepth 20000 in
theorem ev_68_1 (d : Nat) (ls st : List ex_V) (h : ex_H) : ex_ev d 68 1 ls st h = ex_xs 1 (ex_ev d 68) (ex_cd d) [.sipush 0, .goto_w 2] ls st h := ex_ev_eq d 68 1 ls st h
set_option maxRecDepth 20000 in
theorem ev_68_2 (d : Nat) (ls st : List ex_V) (h : ex_H) : ex_ev d 68 2 ls st h = ex_xs 1 (ex_ev d 68) (ex_cd d) [.ireturn] ls st h := ex_ev_eq d 68 2 ls st h
set_option maxRecDepth 20000 in
theorem ev_69_0 (d : Nat) (ls st : List ex_V) (h : ex_H) : ex_ev d 69 0 ls st h = ex_xs 2 (ex_ev d 69) (ex_cd d) [.iload 0, .tableswitch 10 40 43 #[1, 4, 10, 7]] ls st h := ex_ev_eq d 69 0 ls st h
set_option maxRecDepth 20000 in
theorem ev_69_1 (d : Nat) (ls st : List ex_V) (h : ex_H) : ex_ev d 69 1 ls st h = ex_xs 2 (ex_ev d 69) (ex_cd d) [.iload 1, .iload 2, .if_icmp .ge 2, .sipush 1, .goto 3] ls st h := ex_ev_eq d 69 1 ls st h
set_option maxRecDepth 20000 in
theorem ev_69_2 (d : Nat) (ls st : List ex_V) (h : ex_H) : ex_ev d 69 2 ls st h = ex_xs 2 (ex_ev d 69) (ex_cd d) [.sipush 0, .goto_w 3] ls st h := ex_ev_eq d 69 2 ls st h
set_option maxRecDepth 20000 in
theorem ev_69_3 (d : Nat) (ls st : List ex_V) (h : ex_H) : ex_ev d 69 3 ls st h = ex_xs 2 (ex_ev d 69) (ex_cd d) [.ireturn] ls st h := ex_ev_eq d 69 3 ls st h
set_option maxRecDepth 20000 in
theorem ev_69_4 (d : Nat) (ls st : List ex_V) (h : ex_H) : ex_ev d 69 4 ls st h = ex_xs 2 (ex_ev d 69) (ex_cd d) [.iload 1, .iload 2, .if_icmp .ne 5, .sipush 1, .goto 6] ls st h := ex_ev_eq d 69 4 ls st h
set_option maxRecDepth 20000 in
theorem ev_69_5 (d : Nat) (ls st : List ex_V) (h : ex_H) : ex_ev d 69 5 ls st h = ex_xs 2 (ex_ev d 69) (ex_cd d) [.sipush 0, .goto_w 6] ls st h := ex_ev_eq d 69 5 ls st h
set_option maxRecDepth 20000 in
theorem ev_69_6 (d : Nat) (ls st : List ex_V) (h : ex_H) : ex_ev d 69 6 ls st h = ex_xs 2 (ex_ev d 69) (ex_cd d) [.ireturn] ls st h := ex_ev_eq d 69 6 ls st h
set_option maxRecDepth 20000 in
theorem ev_69_7 (d : Nat) (ls st : List ex_V) (h : ex_H) : ex_ev d 69 7 ls st h = ex_xs 2 (ex_ev d 69) (ex_cd d) [.iload 1, .ifCond .eq 8, .iload 2, .ifCond .eq 8, .sipush 1, .goto 9] ls st h := ex_ev_eq d 69 7 ls st h
set_option maxRecDepth 20000 in
theorem ev_69_8 (d : Nat) (ls st : List ex_V) (h : ex_H) : ex_ev d 69 8 ls st h = ex_xs 2 (ex_ev d 69) (ex_cd d) [.sipush 0, .goto_w 9] ls st h := ex_ev_eq d 69 8 ls st h
set_option maxRecDepth 20000 in
theorem ev_69_9 (d : Nat) (ls st : List ex_V) (h : ex_H) : ex_ev d 69 9 ls st h = ex_xs 2 (ex_ev d 69) (ex_cd d) [.ireturn] ls st h := ex_ev_eq d 69 9 ls st h
set_option maxRecDepth 20000 in
theorem ev_69_10 (d : Nat) (ls st : List ex_V) (h : ex_H) : ex_ev d 69 10 ls st h = ex_xs 2 (ex_ev d 69) (ex_cd d) [.iload 1, .ifCond .ne 11, .iload 2, .ifCond .eq 12, .goto_w 11] ls st h := ex_ev_eq d 69 10 ls st h
set_option maxRecDepth 20000 in
theorem ev_69_11 (d : Nat) (ls st : List ex_V) (h : ex_H) : ex_ev d 69 11 ls st h = ex_xs 2 (ex_ev d 69) (ex_cd d) [.sipush 1, .goto 13] ls st h := ex_ev_eq d 69 11 ls st h
set_option maxRecDepth 20000 in
theorem ev_69_12 (d : Nat) (ls st : List ex_V) (h : ex_H) : ex_ev d 69 12 ls st h = ex_xs 2 (ex_ev d 69) (ex_cd d) [.sipush 0, .goto_w 13] ls st h := ex_ev_eq d 69 12 ls st h
set_option maxRecDepth 20000 in
theorem ev_69_13 (d : Nat) (ls st : List ex_V) (h : ex_H) : ex_ev d 69 13 ls st h = ex_xs 2 (ex_ev d 69) (ex_cd d) [.ireturn] ls st h := ex_ev_eq d 69 13 ls st h
set_option maxRecDepth 20000 in
theorem ev_70_0 (d : Nat) (ls st : List ex_V) (h : ex_H) : ex_ev d 70 0 ls st h = ex_xs 0 (ex_ev d 70) (ex_cd d) [.aload 0, .invokedynamic 1, .aload 0, .sipush 4, .newarray .int, .putfield 288, .aload 0, .sipush 4, .newarray .int, .putfield 289, .aload 0, .sipush 80, .newarray .int, .putfield 290, .return_] ls st h := ex_ev_eq d 70 0 ls st h
set_option maxRecDepth 20000 in
theorem ev_71_0 (d : Nat) (ls st : List ex_V) (h : ex_H) : ex_ev d 71 0 ls st h = ex_xs 2 (ex_ev d 71) (ex_cd d) [.iload 1, .ifCond .lt 1, .iload 1, .sipush 4, .if_icmp .ge 1, .sipush 1, .goto 2] ls st h := ex_ev_eq d 71 0 ls st h
set_option maxRecDepth 20000 in
theorem ev_71_1 (d : Nat) (ls st : List ex_V) (h : ex_H) : ex_ev d 71 1 ls st h = ex_xs 2 (ex_ev d 71) (ex_cd d) [.sipush 0, .goto_w 2] ls st h := ex_ev_eq d 71 1 ls st h
set_option maxRecDepth 20000 in
theorem ev_71_2 (d : Nat) (ls st : List ex_V) (h : ex_H) : ex_ev d 71 2 ls st h = ex_xs 2 (ex_ev d 71) (ex_cd d) [.ireturn] ls st h := ex_ev_eq d 71 2 ls st h
set_option maxRecDepth 20000 in
theorem ev_72_0 (d : Nat) (ls st : List ex_V) (h : ex_H) : ex_ev d 72 0 ls st h = ex_xs 2 (ex_ev d 72) (ex_cd d) [.aload 0, .getfield 288, .iload 1, .iaload, .ifCond .ne 1, .sipush 1, .goto 2] ls st h := ex_ev_eq d 72 0 ls st h
set_option maxRecDepth 20000 in
theorem ev_72_1 (d : Nat) (ls st : List ex_V) (h : ex_H) : ex_ev d 72 1 ls st h = ex_xs 2 (ex_ev d 72) (ex_cd d) [.sipush 0, .goto_w 2] ls st h := ex_ev_eq d 72 1 ls st h
set_option maxRecDepth 20000 in
theorem ev_72_2 (d : Nat) (ls st : List ex_V) (h : ex_H) : ex_ev d 72 2 ls st h = ex_xs 2 (ex_ev d 72) (ex_cd d) [.ireturn] ls st h := ex_ev_eq d 72 2 ls st h
set_option maxRecDepth 20000 in
theorem ev_73_0 (d : Nat) (ls st : List ex_V) (h : ex_H) : ex_ev d 73 0 ls st h = ex_xs 0 (ex_ev d 73) (ex_cd d) [.aload 0, .getfield 288, .iload 1, .iload 2, .iastore, .aload 0, .getfield 289, .iload 1, .iload 3, .iastore, .aload 0, .getfield 290, .iload 1, .sipush 20, .imul, .iload 1, .sipush 1, .iadd, .sipush 20, .imul, .sipush 0, .invokestatic 240, .return_] ls st h := ex_ev_eq d 73 0 ls st h
set_option maxRecDepth 20000 in
theorem ev_74_0 (d : Nat) (ls st : List ex_V) (h : ex_H) : ex_ev d 74 0 ls st h = ex_xs 1 (ex_ev d 74) (ex_cd d) [.aload 0, .getfield 290, .iload 1, .sipush 20, .imul, .iload 2, .iadd, .iaload, .ireturn] ls st h := ex_ev_eq d 74 0 ls st h
set_option maxRecDepth 20000 in
theorem ev_75_0 (d : Nat) (ls st : List ex_V) (h : ex_H) : ex_ev d 75 0 ls st h = ex_xs 0 (ex_ev d 75) (ex_cd d) [.aload 0, .getfield 290, .iload 1, .sipush 20, .imul, .iload 2, .iadd, .aload 0, .getfield 288, .iload 1, .iaload, .sipush 32, .if_icmp .ne 1, .iload 3, .goto 2] ls st h := ex_ev_eq d 75 0 ls st h
set_option maxRecDepth 20000 in
theorem ev_75_1 (d : Nat) (ls st : List ex_V) (h : ex_H) : ex_ev d 75 1 ls st h = ex_xs 0 (ex_ev d 75) (ex_cd d) [.iload 3, .sipush 1, .aload 0, .getfield 288, .iload 1, .iaload, .ishl, .sipush 1, .isub, .iand, .goto_w 2] ls st h := ex_ev_eq d 75 1 ls st h
set_option maxRecDepth 20000 in
theorem ev_75_2 (d : Nat) (ls st : List ex_V) (h : ex_H) : ex_ev d 75 2 ls st h = ex_xs 0 (ex_ev d 75) (ex_cd d) [.iastore, .return_] ls st h := ex_ev_eq d 75 2 ls st h
set_option maxRecDepth 20000 in
theorem ev_76_0 (d : Nat) (ls st : List ex_V) (h : ex_H) : ex_ev d 76 0 ls st h = ex_xs 2 (ex_ev d 76) (ex_cd d) [.iload 2, .ifCond .lt 1, .iload 3, .ifCond .lt 1, .iload 2, .aload 0, .getfield 289, .iload 1, .iaload, .if_icmp .gt 1, .iload 3, .aload 0, .getfield 289, .iload 1, .iaload, .iload 2, .isub, .if_icmp .gt 1, .sipush 1, .goto 2] ls st h := ex_ev_eq d 76 0 ls st h
set_option maxRecDepth 20000 in
theorem ev_76_1 (d : Nat) (ls st : List ex_V) (h : ex_H) : ex_ev d 76 1 ls st h = ex_xs 2 (ex_ev d 76) (ex_cd d) [.sipush 0, .goto_w 2] ls st h := ex_ev_eq d 76 1 ls st h
set_option maxRecDepth 20000 in
theorem ev_76_2 (d : Nat) (ls st : List ex_V) (h : ex_H) : ex_ev d 76 2 ls st h = ex_xs 2 (ex_ev d 76) (ex_cd d) [.ireturn] ls st h := ex_ev_eq d 76 2 ls st h
set_option maxRecDepth 20000 in
theorem ev_77_0 (d : Nat) (ls st : List ex_V) (h : ex_H) : ex_ev d 77 0 ls st h = ex_xs 0 (ex_ev d 77) (ex_cd d) [.aload 0, .getfield 290, .iload 1, .sipush 20, .imul, .iload 2, .iadd, .aload 0, .getfield 290, .iload 3, .sipush 20, .imul, .iload 4, .iadd, .iload 5, .invokedynamic 0, .return_] ls st h := ex_ev_eq d 77 0 ls st h
set_option maxRecDepth 20000 in
theorem ev_78_0 (d : Nat) (ls st : List ex_V) (h : ex_H) : ex_ev d 78 0 ls st h = ex_xs 0 (ex_ev d 78) (ex_cd d) [.aload 0, .invokedynamic 1, .aload 0, .sipush 3, .newarray .int, .putfield 320, .aload 0, .new 2, .dup, .invokespecial 9, .putfield 321, .aload 0, .sipush 0, .putfield 322, .return_] ls st h := ex_ev_eq d 78 0 ls st h
set_option maxRecDepth 20000 in
theorem ev_79_0 (d : Nat) (ls st : List ex_V) (h : ex_H) : ex_ev d 79 0 ls st h = ex_xs 0 (ex_ev d 79) (ex_cd d) [.aload 0, .getfield 321, .aload 1, .invokevirtual 10, .aload 0, .iload 2, .putfield 322, .return_] ls st h := ex_ev_eq d 79 0 ls st h
set_option maxRecDepth 20000 in
theorem ev_80_0 (d : Nat) (ls st : List ex_V) (h : ex_H) : ex_ev d 80 0 ls st h = ex_xs 2 (ex_ev d 80) (ex_cd d) [.aload 0, .getfield 321, .iload 1, .invokevirtual 26, .ireturn] ls st h := ex_ev_eq d 80 0 ls st h
set_option maxRecDepth 20000 in
theorem ev_81_0 (d : Nat) (ls st : List ex_V) (h : ex_H) : ex_ev d 81 0 ls st h = ex_xs 1 (ex_ev d 81) (ex_cd d) [.aload 0, .aload 1, .iload 3, .invokevirtual 79, .sipush 0, .istore 4, .goto_w 1] ls st h := ex_ev_eq d 81 0 ls st h
set_option maxRecDepth 20000 in
theorem ev_81_1 (d : Nat) (ls st : List ex_V) (h : ex_H) : ex_ev d 81 1 ls st h = ex_xs 1 (ex_ev d 81) (ex_cd d) [.iload 4, .sipush 3, .if_icmp .gt 3, .aload 0, .iload 2, .sipush 0, .iload 4, .invokevirtual 82, .ifCond .eq 2, .iload 4, .ireturn] ls st h := ex_ev_eq d 81 1 ls st h
set_option maxRecDepth 20000 in
theorem ev_81_2 (d : Nat) (ls st : List ex_V) (h : ex_H) : ex_ev d 81 2 ls st h = ex_xs 1 (ex_ev d 81) (ex_cd d) [.iinc 4 1, .goto 1] ls st h := ex_ev_eq d 81 2 ls st h
set_option maxRecDepth 20000 in
theorem ev_81_3 (d : Nat) (ls st : List ex_V) (h : ex_H) : ex_ev d 81 3 ls st h = ex_xs 1 (ex_ev d 81) (ex_cd d) [.sipush (-1), .ireturn] ls st h := ex_ev_eq d 81 3 ls st h
set_option maxRecDepth 20000 in
theorem ev_82_0 (d : Nat) (ls st : List ex_V) (h : ex_H) : ex_ev d 82 0 ls st h = ex_xs 2 (ex_ev d 82) (ex_cd d) [.iload 2, .iload 3, .if_icmp .lt 1, .aload 0, .iload 1, .invokevirtual 80, .ireturn] ls st h := ex_ev_eq d 82 0 ls st h
set_option maxRecDepth 20000 in
theorem ev_82_1 (d : Nat) (ls st : List ex_V) (h : ex_H) : ex_ev d 82 1 ls st h = ex_xs 2 (ex_ev d 82) (ex_cd d) [.aload 0, .getfield 321, .iload 1, .invokevirtual 34, .invokestatic 235, .iload 3, .iload 2, .isub, .if_icmp .le 2, .sipush 0, .ireturn] ls st h := ex_ev_eq d 82 1 ls st h
set_option maxRecDepth 20000 in
theorem ev_82_2 (d : Nat) (ls st : List ex_V) (h : ex_H) : ex_ev d 82 2 ls st h = ex_xs 2 (ex_ev d 82) (ex_cd d) [.sipush 0, .istore 4, .goto_w 3] ls st h := ex_ev_eq d 82 2 ls st h
set_option maxRecDepth 20000 in
theorem ev_82_3 (d : Nat) (ls st : List ex_V) (h : ex_H) : ex_ev d 82 3 ls st h = ex_xs 2 (ex_ev d 82) (ex_cd d) [.iload 4, .aload 0, .getfield 321, .getfield 65, .if_icmp .ge 8, .aload 0, .getfield 321, .getfield 76, .iload 4, .iaload, .istore 5, .sipush 0, .istore 6, .goto_w 4] ls st h := ex_ev_eq d 82 3 ls st h
set_option maxRecDepth 20000 in
theorem ev_82_4 (d : Nat) (ls st : List ex_V) (h : ex_H) : ex_ev d 82 4 ls st h = ex_xs 2 (ex_ev d 82) (ex_cd d) [.iload 6, .aload 0, .getfield 321, .getfield 64, .if_icmp .ge 7, .iload 4, .sipush 8, .imul, .iload 6, .iadd, .istore 7, .aload 0, .iload 1, .iload 7, .invokevirtual 83, .ifCond .ne 5, .goto 6] ls st h := ex_ev_eq d 82 4 ls st h
set_option maxRecDepth 20000 in
theorem ev_82_5 (d : Nat) (ls st : List ex_V) (h : ex_H) : ex_ev d 82 5 ls st h = ex_xs 2 (ex_ev d 82) (ex_cd d) [.aload 0, .getfield 320, .iload 2, .iload 7, .iastore, .aload 0, .iload 1, .iload 2, .sipush 1, .iadd, .iload 3, .invokevirtual 82, .istore 8, .aload 0, .getfield 321, .iload 4, .iload 5, .invokevirtual 32, .iload 8, .ifCond .eq 6, .sipush 1, .ireturn] ls st h := ex_ev_eq d 82 5 ls st h
set_option maxRecDepth 20000 in
theorem ev_82_6 (d : Nat) (ls st : List ex_V) (h : ex_H) : ex_ev d 82 6 ls st h = ex_xs 2 (ex_ev d 82) (ex_cd d) [.iinc 6 1, .goto 4] ls st h := ex_ev_eq d 82 6 ls st h
set_option maxRecDepth 20000 in
theorem ev_82_7 (d : Nat) (ls st : List ex_V) (h : ex_H) : ex_ev d 82 7 ls st h = ex_xs 2 (ex_ev d 82) (ex_cd d) [.iinc 4 1, .goto 3] ls st h := ex_ev_eq d 82 7 ls st h
set_option maxRecDepth 20000 in
theorem ev_82_8 (d : Nat) (ls st : List ex_V) (h : ex_H) : ex_ev d 82 8 ls st h = ex_xs 2 (ex_ev d 82) (ex_cd d) [.sipush 0, .ireturn] ls st h := ex_ev_eq d 82 8 ls st h
set_option maxRecDepth 20000 in
theorem ev_83_0 (d : Nat) (ls st : List ex_V) (h : ex_H) : ex_ev d 83 0 ls st h = ex_xs 2 (ex_ev d 83) (ex_cd d) [.iload 2, .ifCond .ge 1, .sipush 0, .ireturn] ls st h := ex_ev_eq d 83 0 ls st h
set_option maxRecDepth 20000 in
theorem ev_83_1 (d : Nat) (ls st : List ex_V) (h : ex_H) : ex_ev d 83 1 ls st h = ex_xs 2 (ex_ev d 83) (ex_cd d) [.iload 2, .sipush 8, .idiv, .istore 3, .iload 2, .sipush 8, .irem, .istore 4, .aload 0, .getfield 321, .iload 3, .invokevirtual 14, .ifCond .eq 2, .aload 0, .getfield 321, .iload 4, .invokevirtual 13, .ifCond .eq 2, .iload 3, .iload 1, .if_icmp .eq 2, .aload 0, .getfield 322, .iload 3, .ishr, .sipush 1, .iand, .ifCond .eq 2, .aload 0, .getfield 321, .iload 3, .iload 4, .invokevirtual 28, .ifCond .eq 3, .goto_w 2] ls st h := ex_ev_eq d 83 1 ls st h
set_option maxRecDepth 20000 in
theorem ev_83_2 (d : Nat) (ls st : List ex_V) (h : ex_H) : ex_ev d 83 2 ls st h = ex_xs 2 (ex_ev d 83) (ex_cd d) [.sipush 0, .ireturn] ls st h := ex_ev_eq d 83 2 ls st h
set_option maxRecDepth 20000 in
theorem ev_83_3 (d : Nat) (ls st : List ex_V) (h : ex_H) : ex_ev d 83 3 ls st h = ex_xs 2 (ex_ev d 83) (ex_cd d) [.aload 0, .getfield 321, .iload 3, .iload 4, .invokevirtual 31, .sipush 1, .ireturn] ls st h := ex_ev_eq d 83 3 ls st h
set_option maxRecDepth 20000 in
theorem ev_84_0 (d : Nat) (ls st : List ex_V) (h : ex_H) : ex_ev d 84 0 ls st h = ex_xs 0 (ex_ev d 84) (ex_cd d) [.aload 0, .invokedynamic 1, .aload 0, .new 1, .dup, .invokespecial 6, .putfield 352, .aload 0, .sipush 16, .anewarray 1, .putfield 353, .aload 0, .new 9, .dup, .invokespecial 70, .putfield 354, .aload 0, .new 10, .dup, .invokespecial 78, .putfield 355, .aload 0, .new 5, .dup, .invokespecial 50, .putfield 356, .aload 0, .new 0, .dup, .invokespecial 0, .putfield 357, .aload 0, .new 6, .dup, .invokespecial 54, .putfield 358, .aload 0, .new 8, .dup, .invokespecial 61, .putfield 359, .aload 0, .new 7, .dup, .invokespecial 58, .putfield 360, .aload 0, .sipush 0, .putfield 361, .aload 0, .sipush 0, .putfield 362, .aload 0, .sipush 0, .putfield 363, .sipush 0, .istore 1, .goto_w 1] ls st h := ex_ev_eq d 84 0 ls st h
set_option maxRecDepth 20000 in
theorem ev_84_1 (d : Nat) (ls st : List ex_V) (h : ex_H) : ex_ev d 84 1 ls st h = ex_xs 0 (ex_ev d 84) (ex_cd d) [.iload 1, .sipush 16, .if_icmp .ge 2, .aload 0, .getfield 353, .iload 1, .new 1, .dup, .invokespecial 6, .aastore, .iinc 1 1, .goto 1] ls st h := ex_ev_eq d 84 1 ls st h
set_option maxRecDepth 20000 in
theorem ev_84_2 (d : Nat) (ls st : List ex_V) (h : ex_H) : ex_ev d 84 2 ls st h = ex_xs 0 (ex_ev d 84) (ex_cd d) [.return_] ls st h := ex_ev_eq d 84 2 ls st h
set_option maxRecDepth 20000 in
theorem ev_85_0 (d : Nat) (ls st : List ex_V) (h : ex_H) : ex_ev d 85 0 ls st h = ex_xs 1 (ex_ev d 85) (ex_cd d) [.iload 1, .invokestatic 11, .ifCond .eq 1, .iload 2, .sipush 1, .sipush 30, .invokestatic 137, .ifCond .eq 1, .iload 3, .sipush 1, .sipush 30, .invokestatic 137, .ifCond .eq 1, .iload 4, .sipush 1, .sipush 99, .invokestatic 137, .ifCond .ne 2, .goto_w 1] ls st h := ex_ev_eq d 85 0 ls st h
set_option maxRecDepth 20000 in
theorem ev_85_1 (d : Nat) (ls st : List ex_V) (h : ex_H) : ex_ev d 85 1 ls st h = ex_xs 1 (ex_ev d 85) (ex_cd d) [.aload 0, .sipush (-100001), .invokevirtual 132, .ireturn] ls st h := ex_ev_eq d 85 1 ls st h
set_option maxRecDepth 20000 in
theorem ev_85_2 (d : Nat) (ls st : List ex_V) (h : ex_H) : ex_ev d 85 2 ls st h = ex_xs 1 (ex_ev d 85) (ex_cd d) [.aload 0, .getfield 352, .getfield 32, .getfield 64, .sipush 5, .if_icmp .lt 3, .aload 0, .sipush (-100005), .invokevirtual 132, .ireturn] ls st h := ex_ev_eq d 85 2 ls st h
set_option maxRecDepth 20000 in
theorem ev_85_3 (d : Nat) (ls st : List ex_V) (h : ex_H) : ex_ev d 85 3 ls st h = ex_xs 1 (ex_ev d 85) (ex_cd d) [.aload 0, .invokevirtual 133, .aload 0, .getfield 352, .getfield 32, .iload 1, .iload 2, .iload 3, .iload 4, .invokevirtual 15, .ireturn] ls st h := ex_ev_eq d 85 3 ls st h
set_option maxRecDepth 20000 in
theorem ev_86_0 (d : Nat) (ls st : List ex_V) (h : ex_H) : ex_ev d 86 0 ls st h = ex_xs 1 (ex_ev d 86) (ex_cd d) [.aload 0, .getfield 352, .getfield 32, .iload 1, .invokevirtual 13, .ifCond .eq 1, .iload 2, .invokestatic 11, .ifCond .ne 2, .goto_w 1] ls st h := ex_ev_eq d 86 0 ls st h
set_option maxRecDepth 20000 in
theorem ev_86_1 (d : Nat) (ls st : List ex_V) (h : ex_H) : ex_ev d 86 1 ls st h = ex_xs 1 (ex_ev d 86) (ex_cd d) [.aload 0, .sipush (-100001), .invokevirtual 132, .ireturn] ls st h := ex_ev_eq d 86 1 ls st h
set_option maxRecDepth 20000 in
theorem ev_86_2 (d : Nat) (ls st : List ex_V) (h : ex_H) : ex_ev d 86 2 ls st h = ex_xs 1 (ex_ev d 86) (ex_cd d) [.aload 0, .getfield 352, .getfield 32, .iload 1, .iload 2, .invokevirtual 19, .ifCond .eq 3, .iload 1, .goto 4] ls st h := ex_ev_eq d 86 2 ls st h
set_option maxRecDepth 20000 in
theorem ev_86_3 (d : Nat) (ls st : List ex_V) (h : ex_H) : ex_ev d 86 3 ls st h = ex_xs 1 (ex_ev d 86) (ex_cd d) [.aload 0, .sipush (-100004), .invokevirtual 132, .goto_w 4] ls st h := ex_ev_eq d 86 3 ls st h
set_option maxRecDepth 20000 in
theorem ev_86_4 (d : Nat) (ls st : List ex_V) (h : ex_H) : ex_ev d 86 4 ls st h = ex_xs 1 (ex_ev d 86) (ex_cd d) [.ireturn] ls st h := ex_ev_eq d 86 4 ls st h
set_option maxRecDepth 20000 in
theorem ev_87_0 (d : Nat) (ls st : List ex_V) (h : ex_H) : ex_ev d 87 0 ls st h = ex_xs 1 (ex_ev d 87) (ex_cd d) [.aload 0, .getfield 352, .getfield 32, .astore 3, .aload 3, .iload 1, .invokevirtual 13, .ifCond .ne 1, .aload 0, .sipush (-100001), .invokevirtual 132, .ireturn] ls st h := ex_ev_eq d 87 0 ls st h
set_option maxRecDepth 20000 in
theorem ev_87_1 (d : Nat) (ls st : List ex_V) (h : ex_H) : ex_ev d 87 1 ls st h = ex_xs 1 (ex_ev d 87) (ex_cd d) [.iload 2, .tableswitch 10 0 7 #[2, 3, 4, 5, 6, 7, 8, 9]] ls st h := ex_ev_eq d 87 1 ls st h
set_option maxRecDepth 20000 in
theorem ev_87_2 (d : Nat) (ls st : List ex_V) (h : ex_H) : ex_ev d 87 2 ls st h = ex_xs 1 (ex_ev d 87) (ex_cd d) [.aload 3, .getfield 66, .iload 1, .iaload, .ireturn] ls st h := ex_ev_eq d 87 2 ls st h
set_option maxRecDepth 20000 in
theorem ev_87_3 (d : Nat) (ls st : List ex_V) (h : ex_H) : ex_ev d 87 3 ls st h = ex_xs 1 (ex_ev d 87) (ex_cd d) [.aload 3, .getfield 67, .iload 1, .iaload, .ireturn] ls st h := ex_ev_eq d 87 3 ls st h
set_option maxRecDepth 20000 in
theorem ev_87_4 (d : Nat) (ls st : List ex_V) (h : ex_H) : ex_ev d 87 4 ls st h = ex_xs 1 (ex_ev d 87) (ex_cd d) [.aload 3, .getfield 68, .iload 1, .iaload, .ireturn] ls st h := ex_ev_eq d 87 4 ls st h
set_option maxRecDepth 20000 in
theorem ev_87_5 (d : Nat) (ls st : List ex_V) (h : ex_H) : ex_ev d 87 5 ls st h = ex_xs 1 (ex_ev d 87) (ex_cd d) [.aload 3, .iload 1, .invokevirtual 21, .ireturn] ls st h := ex_ev_eq d 87 5 ls st h
set_option maxRecDepth 20000 in
theorem ev_87_6 (d : Nat) (ls st : List ex_V) (h : ex_H) : ex_ev d 87 6 ls st h = ex_xs 1 (ex_ev d 87) (ex_cd d) [.aload 3, .getfield 73, .iload 1, .iaload, .ireturn] ls st h := ex_ev_eq d 87 6 ls st h
set_option maxRecDepth 20000 in
theorem ev_87_7 (d : Nat) (ls st : List ex_V) (h : ex_H) : ex_ev d 87 7 ls st h = ex_xs 1 (ex_ev d 87) (ex_cd d) [.aload 3, .iload 1, .invokevirtual 24, .ireturn] ls st h := ex_ev_eq d 87 7 ls st h
set_option maxRecDepth 20000 in
theorem ev_87_8 (d : Nat) (ls st : List ex_V) (h : ex_H) : ex_ev d 87 8 ls st h = ex_xs 1 (ex_ev d 87) (ex_cd d) [.aload 3, .getfield 71, .iload 1, .iaload, .ireturn] ls st h := ex_ev_eq d 87 8 ls st h
set_option maxRecDepth 20000 in
theorem ev_87_9 (d : Nat) (ls st : List ex_V) (h : ex_H) : ex_ev d 87 9 ls st h = ex_xs 1 (ex_ev d 87) (ex_cd d) [.aload 3, .getfield 72, .iload 1, .iaload, .ireturn] ls st h := ex_ev_eq d 87 9 ls st h
set_option maxRecDepth 20000 in
theorem ev_87_10 (d : Nat) (ls st : List ex_V) (h : ex_H) : ex_ev d 87 10 ls st h = ex_xs 1 (ex_ev d 87) (ex_cd d) [.aload 0, .sipush (-100001), .invokevirtual 132, .ireturn] ls st h := ex_ev_eq d 87 10 ls st h
set_option maxRecDepth 20000 in
theorem ev_88_0 (d : Nat) (ls st : List ex_V) (h : ex_H) : ex_ev d 88 0 ls st h = ex_xs 1 (ex_ev d 88) (ex_cd d) [.aload 0, .getfield 352, .getfield 32, .astore 3, .aload 3, .iload 1, .invokevirtual 13, .ifCond .ne 1, .aload 0, .sipush (-100001), .invokevirtual 132, .ireturn] ls st h := ex_ev_eq d 88 0 ls st h
set_option maxRecDepth 20000 in
theorem ev_88_1 (d : Nat) (ls st : List ex_V) (h : ex_H) : ex_ev d 88 1 ls st h = ex_xs 1 (ex_ev d 88) (ex_cd d) [.aload 3, .iload 1, .sipush 1, .invokevirtual 19, .ifCond .ne 2, .aload 0, .sipush (-100004), .invokevirtual 132, .ireturn] ls st h := ex_ev_eq d 88 1 ls st h
set_option maxRecDepth 20000 in
theorem ev_88_2 (d : Nat) (ls st : List ex_V) (h : ex_H) : ex_ev d 88 2 ls st h = ex_xs 1 (ex_ev d 88) (ex_cd d) [.aload 0, .invokevirtual 133, .aload 3, .getfield 72, .iload 1, .iaload, .istore 4, .aload 3, .getfield 72, .iload 1, .iload 2, .ifCond .eq 3, .sipush 1, .goto 4] ls st h := ex_ev_eq d 88 2 ls st h
set_option maxRecDepth 20000 in
theorem ev_88_3 (d : Nat) (ls st : List ex_V) (h : ex_H) : ex_ev d 88 3 ls st h = ex_xs 1 (ex_ev d 88) (ex_cd d) [.sipush 0, .goto_w 4] ls st h := ex_ev_eq d 88 3 ls st h
set_option maxRecDepth 20000 in
theorem ev_88_4 (d : Nat) (ls st : List ex_V) (h : ex_H) : ex_ev d 88 4 ls st h = ex_xs 1 (ex_ev d 88) (ex_cd d) [.iastore, .aload 3, .getfield 72, .iload 1, .iaload, .iload 4, .if_icmp .ne 5, .sipush 0, .goto 6] ls st h := ex_ev_eq d 88 4 ls st h
set_option maxRecDepth 20000 in
theorem ev_88_5 (d : Nat) (ls st : List ex_V) (h : ex_H) : ex_ev d 88 5 ls st h = ex_xs 1 (ex_ev d 88) (ex_cd d) [.sipush 1, .goto_w 6] ls st h := ex_ev_eq d 88 5 ls st h
set_option maxRecDepth 20000 in
theorem ev_88_6 (d : Nat) (ls st : List ex_V) (h : ex_H) : ex_ev d 88 6 ls st h = ex_xs 1 (ex_ev d 88) (ex_cd d) [.ireturn] ls st h := ex_ev_eq d 88 6 ls st h
set_option maxRecDepth 20000 in
theorem ev_89_0 (d : Nat) (ls st : List ex_V) (h : ex_H) : ex_ev d 89 0 ls st h = ex_xs 1 (ex_ev d 89) (ex_cd d) [.sipush 0, .iload 1, .invokestatic 12, .ifCond .eq 1, .sipush 1, .iload 2, .invokestatic 12, .ifCond .eq 1, .sipush 2, .iload 3, .invokestatic 12, .ifCond .eq 1, .sipush 3, .iload 4, .invokestatic 12, .ifCond .eq 1, .sipush 4, .iload 5, .invokestatic 12, .ifCond .eq 1, .sipush 5, .iload 6, .invokestatic 12, .ifCond .ne 2, .goto_w 1] ls st h := ex_ev_eq d 89 0 ls st h
set_option maxRecDepth 20000 in
theorem ev_89_1 (d : Nat) (ls st : List ex_V) (h : ex_H) : ex_ev d 89 1 ls st h = ex_xs 1 (ex_ev d 89) (ex_cd d) [.aload 0, .sipush (-100001), .invokevirtual 132, .ireturn] ls st h := ex_ev_eq d 89 1 ls st h
set_option maxRecDepth 20000 in
theorem ev_89_2 (d : Nat) (ls st : List ex_V) (h : ex_H) : ex_ev d 89 2 ls st h = ex_xs 1 (ex_ev d 89) (ex_cd d) [.aload 0, .getfield 352, .getfield 32, .getfield 65, .sipush 8, .if_icmp .lt 3, .aload 0, .sipush (-100005), .invokevirtual 132, .ireturn] ls st h := ex_ev_eq d 89 2 ls st h
set_option maxRecDepth 20000 in
theorem ev_89_3 (d : Nat) (ls st : List ex_V) (h : ex_H) : ex_ev d 89 3 ls st h = ex_xs 1 (ex_ev d 89) (ex_cd d) [.aload 0, .invokevirtual 133, .aload 0, .getfield 352, .getfield 32, .iload 1, .iload 2, .iload 3, .iload 4, .iload 5, .iload 6, .invokevirtual 16, .ireturn] ls st h := ex_ev_eq d 89 3 ls st h
set_option maxRecDepth 20000 in
theorem ev_90_0 (d : Nat) (ls st : List ex_V) (h : ex_H) : ex_ev d 90 0 ls st h = ex_xs 1 (ex_ev d 90) (ex_cd d) [.aload 0, .getfield 352, .getfield 32, .astore 3, .aload 3, .iload 1, .invokevirtual 14, .ifCond .eq 1, .iload 2, .sipush 0, .sipush 7, .invokestatic 137, .ifCond .ne 2, .goto_w 1] ls st h := ex_ev_eq d 90 0 ls st h
set_option maxRecDepth 20000 in
theorem ev_90_1 (d : Nat) (ls st : List ex_V) (h : ex_H) : ex_ev d 90 1 ls st h = ex_xs 1 (ex_ev d 90) (ex_cd d) [.aload 0, .sipush (-100001), .invokevirtual 132, .ireturn] ls st h := ex_ev_eq d 90 1 ls st h
set_option maxRecDepth 20000 in
theorem ev_90_2 (d : Nat) (ls st : List ex_V) (h : ex_H) : ex_ev d 90 2 ls st h = ex_xs 1 (ex_ev d 90) (ex_cd d) [.iload 2, .sipush 6, .if_icmp .ge 3, .aload 3, .iload 1, .iload 2, .invokevirtual 17, .ireturn] ls st h := ex_ev_eq d 90 2 ls st h
set_option maxRecDepth 20000 in
theorem ev_90_3 (d : Nat) (ls st : List ex_V) (h : ex_H) : ex_ev d 90 3 ls st h = ex_xs 1 (ex_ev d 90) (ex_cd d) [.iload 2, .sipush 6, .if_icmp .ne 4, .aload 3, .getfield 76, .iload 1, .iaload, .goto 5] ls st h := ex_ev_eq d 90 3 ls st h
set_option maxRecDepth 20000 in
theorem ev_90_4 (d : Nat) (ls st : List ex_V) (h : ex_H) : ex_ev d 90 4 ls st h = ex_xs 1 (ex_ev d 90) (ex_cd d) [.aload 3, .iload 1, .invokevirtual 34, .invokestatic 235, .goto_w 5] ls st h := ex_ev_eq d 90 4 ls st h
set_option maxRecDepth 20000 in
theorem ev_90_5 (d : Nat) (ls st : List ex_V) (h : ex_H) : ex_ev d 90 5 ls st h = ex_xs 1 (ex_ev d 90) (ex_cd d) [.ireturn] ls st h := ex_ev_eq d 90 5 ls st h
set_option maxRecDepth 20000 in
theorem ev_91_0 (d : Nat) (ls st : List ex_V) (h : ex_H) : ex_ev d 91 0 ls st h = ex_xs 1 (ex_ev d 91) (ex_cd d) [.aload 0, .getfield 352, .getfield 32, .iload 1, .invokevirtual 14, .ifCond .eq 1, .iload 2, .sipush 0, .sipush 2, .invokestatic 137, .ifCond .eq 1, .sipush 3, .iload 2, .iadd, .iload 3, .invokestatic 12, .ifCond .ne 2, .goto_w 1] ls st h := ex_ev_eq d 91 0 ls st h
set_option maxRecDepth 20000 in
theorem ev_91_1 (d : Nat) (ls st : List ex_V) (h : ex_H) : ex_ev d 91 1 ls st h = ex_xs 1 (ex_ev d 91) (ex_cd d) [.aload 0, .sipush (-100001), .invokevirtual 132, .ireturn] ls st h := ex_ev_eq d 91 1 ls st h
set_option maxRecDepth 20000 in
theorem ev_91_2 (d : Nat) (ls st : List ex_V) (h : ex_H) : ex_ev d 91 2 ls st h = ex_xs 1 (ex_ev d 91) (ex_cd d) [.aload 0, .invokevirtual 133, .aload 0, .getfield 352, .getfield 32, .iload 1, .sipush 3, .iload 2, .iadd, .iload 3, .invokevirtual 18, .ireturn] ls st h := ex_ev_eq d 91 2 ls st h
set_option maxRecDepth 20000 in
theorem ev_92_0 (d : Nat) (ls st : List ex_V) (h : ex_H) : ex_ev d 92 0 ls st h = ex_xs 1 (ex_ev d 92) (ex_cd d) [.aload 0, .getfield 352, .getfield 32, .astore 3, .aload 3, .iload 1, .invokevirtual 13, .ifCond .ne 1, .aload 0, .sipush (-100001), .invokevirtual 132, .ireturn] ls st h := ex_ev_eq d 92 0 ls st h
set_option maxRecDepth 20000 in
theorem ev_92_1 (d : Nat) (ls st : List ex_V) (h : ex_H) : ex_ev d 92 1 ls st h = ex_xs 1 (ex_ev d 92) (ex_cd d) [.iload 2, .ifCond .lt 2, .iload 2, .aload 3, .getfield 73, .iload 1, .iaload, .if_icmp .lt 3, .goto_w 2] ls st h := ex_ev_eq d 92 1 ls st h
set_option maxRecDepth 20000 in
theorem ev_92_2 (d : Nat) (ls st : List ex_V) (h : ex_H) : ex_ev d 92 2 ls st h = ex_xs 1 (ex_ev d 92) (ex_cd d) [.aload 0, .sipush (-100006), .invokevirtual 132, .ireturn] ls st h := ex_ev_eq d 92 2 ls st h
set_option maxRecDepth 20000 in
theorem ev_92_3 (d : Nat) (ls st : List ex_V) (h : ex_H) : ex_ev d 92 3 ls st h = ex_xs 1 (ex_ev d 92) (ex_cd d) [.aload 3, .iload 1, .iload 2, .invokevirtual 23, .ireturn] ls st h := ex_ev_eq d 92 3 ls st h
set_option maxRecDepth 20000 in
theorem ev_93_0 (d : Nat) (ls st : List ex_V) (h : ex_H) : ex_ev d 93 0 ls st h = ex_xs 1 (ex_ev d 93) (ex_cd d) [.aload 0, .getfield 352, .getfield 32, .iload 1, .invokevirtual 14, .ifCond .eq 1, .aload 0, .getfield 352, .getfield 32, .iload 2, .invokevirtual 13, .ifCond .ne 2, .goto_w 1] ls st h := ex_ev_eq d 93 0 ls st h
set_option maxRecDepth 20000 in
theorem ev_93_1 (d : Nat) (ls st : List ex_V) (h : ex_H) : ex_ev d 93 1 ls st h = ex_xs 1 (ex_ev d 93) (ex_cd d) [.aload 0, .sipush (-100001), .invokevirtual 132, .ireturn] ls st h := ex_ev_eq d 93 1 ls st h
set_option maxRecDepth 20000 in
theorem ev_93_2 (d : Nat) (ls st : List ex_V) (h : ex_H) : ex_ev d 93 2 ls st h = ex_xs 1 (ex_ev d 93) (ex_cd d) [.aload 0, .getfield 352, .getfield 32, .iload 1, .iload 2, .invokevirtual 22, .ifCond .eq 3, .sipush 1, .goto 4] ls st h := ex_ev_eq d 93 2 ls st h
set_option maxRecDepth 20000 in
theorem ev_93_3 (d : Nat) (ls st : List ex_V) (h : ex_H) : ex_ev d 93 3 ls st h = ex_xs 1 (ex_ev d 93) (ex_cd d) [.sipush 0, .goto_w 4] ls st h := ex_ev_eq d 93 3 ls st h
set_option maxRecDepth 20000 in
theorem ev_93_4 (d : Nat) (ls st : List ex_V) (h : ex_H) : ex_ev d 93 4 ls st h = ex_xs 1 (ex_ev d 93) (ex_cd d) [.ireturn] ls st h := ex_ev_eq d 93 4 ls st h
set_option maxRecDepth 20000 in
theorem ev_94_0 (d : Nat) (ls st : List ex_V) (h : ex_H) : ex_ev d 94 0 ls st h = ex_xs 1 (ex_ev d 94) (ex_cd d) [.aload 0, .getfield 352, .getfield 32, .astore 3, .aload 3, .iload 1, .invokevirtual 14, .ifCond .eq 1, .aload 3, .iload 2, .invokevirtual 13, .ifCond .ne 2, .goto_w 1] ls st h := ex_ev_eq d 94 0 ls st h
set_option maxRecDepth 20000 in
theorem ev_94_1 (d : Nat) (ls st : List ex_V) (h : ex_H) : ex_ev d 94 1 ls st h = ex_xs 1 (ex_ev d 94) (ex_cd d) [.aload 0, .sipush (-100001), .invokevirtual 132, .ireturn] ls st h := ex_ev_eq d 94 1 ls st h
set_option maxRecDepth 20000 in
theorem ev_94_2 (d : Nat) (ls st : List ex_V) (h : ex_H) : ex_ev d 94 2 ls st h = ex_xs 1 (ex_ev d 94) (ex_cd d) [.aload 3, .iload 1, .iload 2, .invokevirtual 27, .istore 4, .iload 4, .ifCond .eq 3, .aload 0, .iload 4, .invokevirtual 132, .ireturn] ls st h := ex_ev_eq d 94 2 ls st h
set_option maxRecDepth 20000 in
theorem ev_94_3 (d : Nat) (ls st : List ex_V) (h : ex_H) : ex_ev d 94 3 ls st h = ex_xs 1 (ex_ev d 94) (ex_cd d) [.aload 0, .invokevirtual 133, .aload 3, .iload 1, .iload 2, .invokevirtual 29, .aload 3, .getfield 73, .iload 2, .iaload, .ireturn] ls st h := ex_ev_eq d 94 3 ls st h
set_option maxRecDepth 20000 in
theorem ev_95_0 (d : Nat) (ls st : List ex_V) (h : ex_H) : ex_ev d 95 0 ls st h = ex_xs 1 (ex_ev d 95) (ex_cd d) [.aload 0, .getfield 352, .getfield 32, .astore 3, .aload 3, .iload 1, .invokevirtual 14, .ifCond .eq 1, .aload 3, .iload 2, .invokevirtual 13, .ifCond .ne 2, .goto_w 1] ls st h := ex_ev_eq d 95 0 ls st h
set_option maxRecDepth 20000 in
theorem ev_95_1 (d : Nat) (ls st : List ex_V) (h : ex_H) : ex_ev d 95 1 ls st h = ex_xs 1 (ex_ev d 95) (ex_cd d) [.aload 0, .sipush (-100001), .invokevirtual 132, .ireturn] ls st h := ex_ev_eq d 95 1 ls st h
set_option maxRecDepth 20000 in
theorem ev_95_2 (d : Nat) (ls st : List ex_V) (h : ex_H) : ex_ev d 95 2 ls st h = ex_xs 1 (ex_ev d 95) (ex_cd d) [.aload 3, .iload 1, .iload 2, .invokevirtual 28, .istore 4, .iload 4, .ifCond .eq 3, .aload 0, .iload 4, .invokevirtual 132, .ireturn] ls st h := ex_ev_eq d 95 2 ls st h
set_option maxRecDepth 20000 in
theorem ev_95_3 (d : Nat) (ls st : List ex_V) (h : ex_H) : ex_ev d 95 3 ls st h = ex_xs 1 (ex_ev d 95) (ex_cd d) [.aload 0, .getfield 352, .getfield 34, .iload 1, .aload 0, .getfield 352, .getfield 40, .aload 0, .getfield 352, .getfield 34, .getfield 96, .invokevirtual 41, .ifCond .ne 4, .aload 0, .sipush (-100002), .invokevirtual 132, .ireturn] ls st h := ex_ev_eq d 95 3 ls st h
set_option maxRecDepth 20000 in
theorem ev_95_4 (d : Nat) (ls st : List ex_V) (h : ex_H) : ex_ev d 95 4 ls st h = ex_xs 1 (ex_ev d 95) (ex_cd d) [.aload 0, .iload 1, .iload 2, .aload 0, .getfield 352, .getfield 40, .invokevirtual 136, .ifCond .ne 5, .aload 0, .sipush (-100009), .invokevirtual 132, .ireturn] ls st h := ex_ev_eq d 95 4 ls st h
set_option maxRecDepth 20000 in
theorem ev_95_5 (d : Nat) (ls st : List ex_V) (h : ex_H) : ex_ev d 95 5 ls st h = ex_xs 1 (ex_ev d 95) (ex_cd d) [.aload 0, .invokevirtual 133, .aload 3, .iload 1, .iload 2, .invokevirtual 31, .aload 0, .getfield 352, .getfield 33, .iload 1, .aload 0, .getfield 352, .getfield 42, .invokevirtual 45, .aload 0, .getfield 352, .dup, .getfield 44, .sipush 1, .iadd, .putfield 44, .aload 0, .getfield 352, .getfield 44, .ireturn] ls st h := ex_ev_eq d 95 5 ls st h
set_option maxRecDepth 20000 in
theorem ev_96_0 (d : Nat) (ls st : List ex_V) (h : ex_H) : ex_ev d 96 0 ls st h = ex_xs 1 (ex_ev d 96) (ex_cd d) [.aload 0, .getfield 352, .getfield 32, .astore 2, .aload 0, .iload 1, .invokevirtual 134, .istore 3, .iload 3, .ifCond .eq 1, .aload 0, .iload 3, .invokevirtual 132, .ireturn] ls st h := ex_ev_eq d 96 0 ls st h
set_option maxRecDepth 20000 in
theorem ev_96_1 (d : Nat) (ls st : List ex_V) (h : ex_H) : ex_ev d 96 1 ls st h = ex_xs 1 (ex_ev d 96) (ex_cd d) [.aload 2, .iload 1, .invokevirtual 26, .ifCond .ne 2, .aload 0, .sipush (-100008), .invokevirtual 132, .ireturn] ls st h := ex_ev_eq d 96 1 ls st h
set_option maxRecDepth 20000 in
theorem ev_96_2 (d : Nat) (ls st : List ex_V) (h : ex_H) : ex_ev d 96 2 ls st h = ex_xs 1 (ex_ev d 96) (ex_cd d) [.aload 0, .invokevirtual 133, .aload 2, .iload 1, .invokevirtual 30, .aload 2, .iload 1, .sipush 3, .invokevirtual 17, .ireturn] ls st h := ex_ev_eq d 96 2 ls st h
set_option maxRecDepth 20000 in
theorem ev_97_0 (d : Nat) (ls st : List ex_V) (h : ex_H) : ex_ev d 97 0 ls st h = ex_xs 1 (ex_ev d 97) (ex_cd d) [.aload 0, .invokevirtual 133, .aload 0, .getfield 352, .sipush 0, .putfield 40, .aload 0, .getfield 352, .getfield 32, .invokevirtual 33, .ireturn] ls st h := ex_ev_eq d 97 0 ls st h
set_option maxRecDepth 20000 in
theorem ev_98_0 (d : Nat) (ls st : List ex_V) (h : ex_H) : ex_ev d 98 0 ls st h = ex_xs 1 (ex_ev d 98) (ex_cd d) [.iload 1, .invokestatic 138, .ifCond .ne 1, .aload 0, .sipush (-100001), .invokevirtual 132, .ireturn] ls st h := ex_ev_eq d 98 0 ls st h
set_option maxRecDepth 20000 in
theorem ev_98_1 (d : Nat) (ls st : List ex_V) (h : ex_H) : ex_ev d 98 1 ls st h = ex_xs 1 (ex_ev d 98) (ex_cd d) [.aload 0, .invokevirtual 133, .aload 0, .getfield 352, .getfield 40, .istore 2, .aload 0, .getfield 352, .iload 1, .putfield 40, .iload 2, .ireturn] ls st h := ex_ev_eq d 98 1 ls st h
set_option maxRecDepth 20000 in
theorem ev_99_0 (d : Nat) (ls st : List ex_V) (h : ex_H) : ex_ev d 99 0 ls st h = ex_xs 1 (ex_ev d 99) (ex_cd d) [.aload 0, .iload 1, .invokevirtual 134, .istore 2, .iload 2, .ifCond .ne 1, .aload 0, .getfield 352, .getfield 32, .iload 1, .invokevirtual 34, .goto 2] ls st h := ex_ev_eq d 99 0 ls st h
set_option maxRecDepth 20000 in
theorem ev_99_1 (d : Nat) (ls st : List ex_V) (h : ex_H) : ex_ev d 99 1 ls st h = ex_xs 1 (ex_ev d 99) (ex_cd d) [.aload 0, .iload 2, .invokevirtual 132, .goto_w 2] ls st h := ex_ev_eq d 99 1 ls st h
set_option maxRecDepth 20000 in
theorem ev_99_2 (d : Nat) (ls st : List ex_V) (h : ex_H) : ex_ev d 99 2 ls st h = ex_xs 1 (ex_ev d 99) (ex_cd d) [.ireturn] ls st h := ex_ev_eq d 99 2 ls st h
set_option maxRecDepth 20000 in
theorem ev_100_0 (d : Nat) (ls st : List ex_V) (h : ex_H) : ex_ev d 100 0 ls st h = ex_xs 1 (ex_ev d 100) (ex_cd d) [.aload 0, .iload 1, .invokevirtual 134, .istore 2, .iload 2, .ifCond .eq 1, .aload 0, .iload 2, .invokevirtual 132, .ireturn] ls st h := ex_ev_eq d 100 0 ls st h
set_option maxRecDepth 20000 in
theorem ev_100_1 (d : Nat) (ls st : List ex_V) (h : ex_H) : ex_ev d 100 1 ls st h = ex_xs 1 (ex_ev d 100) (ex_cd d) [.aload 0, .getfield 355, .aload 0, .getfield 352, .getfield 32, .iload 1, .aload 0, .invokevirtual 135, .invokevirtual 81, .istore 3, .iload 3, .sipush (-1), .if_icmp .ne 2, .aload 0, .sipush (-100006), .invokevirtual 132, .goto 3] ls st h := ex_ev_eq d 100 1 ls st h
set_option maxRecDepth 20000 in
theorem ev_100_2 (d : Nat) (ls st : List ex_V) (h : ex_H) : ex_ev d 100 2 ls st h = ex_xs 1 (ex_ev d 100) (ex_cd d) [.iload 3, .goto_w 3] ls st h := ex_ev_eq d 100 2 ls st h
set_option maxRecDepth 20000 in
theorem ev_100_3 (d : Nat) (ls st : List ex_V) (h : ex_H) : ex_ev d 100 3 ls st h = ex_xs 1 (ex_ev d 100) (ex_cd d) [.ireturn] ls st h := ex_ev_eq d 100 3 ls st h
set_option maxRecDepth 20000 in
theorem ev_101_0 (d : Nat) (ls st : List ex_V) (h : ex_H) : ex_ev d 101 0 ls st h = ex_xs 1 (ex_ev d 101) (ex_cd d) [.iload 2, .ifCond .ge 1, .sipush (-100001), .goto 2] ls st h := ex_ev_eq d 101 0 ls st h
set_option maxRecDepth 20000 in
theorem ev_101_1 (d : Nat) (ls st : List ex_V) (h : ex_H) : ex_ev d 101 1 ls st h = ex_xs 1 (ex_ev d 101) (ex_cd d) [.aload 0, .iload 1, .invokevirtual 134, .goto_w 2] ls st h := ex_ev_eq d 101 1 ls st h
set_option maxRecDepth 20000 in
theorem ev_101_2 (d : Nat) (ls st : List ex_V) (h : ex_H) : ex_ev d 101 2 ls st h = ex_xs 1 (ex_ev d 101) (ex_cd d) [.istore 3, .iload 3, .ifCond .eq 3, .aload 0, .iload 3, .invokevirtual 132, .ireturn] ls st h := ex_ev_eq d 101 2 ls st h
set_option maxRecDepth 20000 in
theorem ev_101_3 (d : Nat) (ls st : List ex_V) (h : ex_H) : ex_ev d 101 3 ls st h = ex_xs 1 (ex_ev d 101) (ex_cd d) [.aload 0, .getfield 355, .aload 0, .getfield 352, .getfield 32, .iload 1, .aload 0, .invokevirtual 135, .invokevirtual 81, .istore 4, .iload 2, .iload 4, .if_icmp .ge 4, .aload 0, .getfield 355, .getfield 320, .iload 2, .iaload, .goto 5] ls st h := ex_ev_eq d 101 3 ls st h
set_option maxRecDepth 20000 in
theorem ev_101_4 (d : Nat) (ls st : List ex_V) (h : ex_H) : ex_ev d 101 4 ls st h = ex_xs 1 (ex_ev d 101) (ex_cd d) [.aload 0, .sipush (-100006), .invokevirtual 132, .goto_w 5] ls st h := ex_ev_eq d 101 4 ls st h
set_option maxRecDepth 20000 in
theorem ev_101_5 (d : Nat) (ls st : List ex_V) (h : ex_H) : ex_ev d 101 5 ls st h = ex_xs 1 (ex_ev d 101) (ex_cd d) [.ireturn] ls st h := ex_ev_eq d 101 5 ls st h
set_option maxRecDepth 20000 in
theorem ev_102_0 (d : Nat) (ls st : List ex_V) (h : ex_H) : ex_ev d 102 0 ls st h = ex_xs 1 (ex_ev d 102) (ex_cd d) [.aload 0, .getfield 352, .getfield 32, .iload 1, .invokevirtual 14, .ifCond .eq 1, .aload 0, .getfield 354, .iload 2, .invokevirtual 71, .ifCond .ne 2, .goto_w 1] ls st h := ex_ev_eq d 102 0 ls st h
set_option maxRecDepth 20000 in
theorem ev_102_1 (d : Nat) (ls st : List ex_V) (h : ex_H) : ex_ev d 102 1 ls st h = ex_xs 1 (ex_ev d 102) (ex_cd d) [.aload 0, .sipush (-100001), .invokevirtual 132, .ireturn] ls st h := ex_ev_eq d 102 1 ls st h
set_option maxRecDepth 20000 in
theorem ev_102_2 (d : Nat) (ls st : List ex_V) (h : ex_H) : ex_ev d 102 2 ls st h = ex_xs 1 (ex_ev d 102) (ex_cd d) [.aload 0, .getfield 354, .iload 2, .invokevirtual 72, .ifCond .eq 3, .aload 0, .sipush (-100002), .invokevirtual 132, .ireturn] ls st h := ex_ev_eq d 102 2 ls st h
set_option maxRecDepth 20000 in
theorem ev_102_3 (d : Nat) (ls st : List ex_V) (h : ex_H) : ex_ev d 102 3 ls st h = ex_xs 1 (ex_ev d 102) (ex_cd d) [.aload 0, .getfield 352, .getfield 32, .getfield 76, .iload 1, .iaload, .sipush (-1), .if_icmp .ne 4, .aload 0, .sipush (-100006), .invokevirtual 132, .ireturn] ls st h := ex_ev_eq d 102 3 ls st h
set_option maxRecDepth 20000 in
theorem ev_102_4 (d : Nat) (ls st : List ex_V) (h : ex_H) : ex_ev d 102 4 ls st h = ex_xs 1 (ex_ev d 102) (ex_cd d) [.aload 0, .getfield 355, .aload 0, .getfield 352, .getfield 32, .aload 0, .invokevirtual 135, .invokevirtual 79, .sipush 0, .istore 3, .goto_w 5] ls st h := ex_ev_eq d 102 4 ls st h
set_option maxRecDepth 20000 in
theorem ev_102_5 (d : Nat) (ls st : List ex_V) (h : ex_H) : ex_ev d 102 5 ls st h = ex_xs 1 (ex_ev d 102) (ex_cd d) [.iload 3, .aload 0, .getfield 354, .getfield 289, .iload 2, .iaload, .if_icmp .ge 7, .aload 0, .getfield 355, .iload 1, .aload 0, .getfield 354, .iload 2, .iload 3, .invokevirtual 74, .invokevirtual 83, .ifCond .ne 6, .iload 3, .ireturn] ls st h := ex_ev_eq d 102 5 ls st h
set_option maxRecDepth 20000 in
theorem ev_102_6 (d : Nat) (ls st : List ex_V) (h : ex_H) : ex_ev d 102 6 ls st h = ex_xs 1 (ex_ev d 102) (ex_cd d) [.iinc 3 1, .goto 5] ls st h := ex_ev_eq d 102 6 ls st h
set_option maxRecDepth 20000 in
theorem ev_102_7 (d : Nat) (ls st : List ex_V) (h : ex_H) : ex_ev d 102 7 ls st h = ex_xs 1 (ex_ev d 102) (ex_cd d) [.aload 0, .getfield 355, .iload 1, .invokevirtual 80, .ifCond .eq 8, .sipush (-1), .goto 9] ls st h := ex_ev_eq d 102 7 ls st h
set_option maxRecDepth 20000 in
theorem ev_102_8 (d : Nat) (ls st : List ex_V) (h : ex_H) : ex_ev d 102 8 ls st h = ex_xs 1 (ex_ev d 102) (ex_cd d) [.aload 0, .getfield 354, .getfield 289, .iload 2, .iaload, .goto_w 9] ls st h := ex_ev_eq d 102 8 ls st h
set_option maxRecDepth 20000 in
theorem ev_102_9 (d : Nat) (ls st : List ex_V) (h : ex_H) : ex_ev d 102 9 ls st h = ex_xs 1 (ex_ev d 102) (ex_cd d) [.ireturn] ls st h := ex_ev_eq d 102 9 ls st h
set_option maxRecDepth 20000 in
theorem ev_103_0 (d : Nat) (ls st : List ex_V) (h : ex_H) : ex_ev d 103 0 ls st h = ex_xs 1 (ex_ev d 103) (ex_cd d) [.iload 1, .sipush (-1), .if_icmp .eq 3, .aload 0, .getfield 352, .getfield 32, .iload 1, .invokevirtual 13, .ifCond .eq 1, .aload 0, .getfield 352, .getfield 32, .iload 1, .invokevirtual 36, .goto 2] ls st h := ex_ev_eq d 103 0 ls st h
set_option maxRecDepth 20000 in
theorem ev_103_1 (d : Nat) (ls st : List ex_V) (h : ex_H) : ex_ev d 103 1 ls st h = ex_xs 1 (ex_ev d 103) (ex_cd d) [.aload 0, .sipush (-100001), .invokevirtual 132, .goto_w 2] ls st h := ex_ev_eq d 103 1 ls st h
set_option maxRecDepth 20000 in
theorem ev_103_2 (d : Nat) (ls st : List ex_V) (h : ex_H) : ex_ev d 103 2 ls st h = ex_xs 1 (ex_ev d 103) (ex_cd d) [.ireturn] ls st h := ex_ev_eq d 103 2 ls st h
set_option maxRecDepth 20000 in
theorem ev_103_3 (d : Nat) (ls st : List ex_V) (h : ex_H) : ex_ev d 103 3 ls st h = ex_xs 1 (ex_ev d 103) (ex_cd d) [.sipush 0, .istore 2, .sipush 0, .istore 3, .goto_w 4] ls st h := ex_ev_eq d 103 3 ls st h
set_option maxRecDepth 20000 in
theorem ev_103_4 (d : Nat) (ls st : List ex_V) (h : ex_H) : ex_ev d 103 4 ls st h = ex_xs 1 (ex_ev d 103) (ex_cd d) [.iload 3, .aload 0, .getfield 352, .getfield 32, .getfield 64, .if_icmp .ge 5, .iload 2, .aload 0, .getfield 352, .getfield 32, .iload 3, .invokevirtual 36, .iadd, .istore 2, .iinc 3 1, .goto 4] ls st h := ex_ev_eq d 103 4 ls st h
set_option maxRecDepth 20000 in
theorem ev_103_5 (d : Nat) (ls st : List ex_V) (h : ex_H) : ex_ev d 103 5 ls st h = ex_xs 1 (ex_ev d 103) (ex_cd d) [.iload 2, .ireturn] ls st h := ex_ev_eq d 103 5 ls st h
set_option maxRecDepth 20000 in
theorem ev_104_0 (d : Nat) (ls st : List ex_V) (h : ex_H) : ex_ev d 104 0 ls st h = ex_xs 1 (ex_ev d 104) (ex_cd d) [.aload 0, .getfield 352, .getfield 32, .iload 1, .invokevirtual 14, .ifCond .ne 1, .aload 0, .sipush (-100001), .invokevirtual 132, .ireturn] ls st h := ex_ev_eq d 104 0 ls st h
set_option maxRecDepth 20000 in
theorem ev_104_1 (d : Nat) (ls st : List ex_V) (h : ex_H) : ex_ev d 104 1 ls st h = ex_xs 1 (ex_ev d 104) (ex_cd d) [.aload 0, .getfield 352, .iload 1, .invokevirtual 8, .sipush (-1), .if_icmp .eq 2, .aload 0, .sipush (-100007), .invokevirtual 132, .ireturn] ls st h := ex_ev_eq d 104 1 ls st h
set_option maxRecDepth 20000 in
theorem ev_104_2 (d : Nat) (ls st : List ex_V) (h : ex_H) : ex_ev d 104 2 ls st h = ex_xs 1 (ex_ev d 104) (ex_cd d) [.aload 0, .getfield 352, .getfield 39, .sipush 7, .if_icmp .lt 3, .aload 0, .sipush (-100005), .invokevirtual 132, .ireturn] ls st h := ex_ev_eq d 104 2 ls st h
set_option maxRecDepth 20000 in
theorem ev_104_3 (d : Nat) (ls st : List ex_V) (h : ex_H) : ex_ev d 104 3 ls st h = ex_xs 1 (ex_ev d 104) (ex_cd d) [.aload 0, .invokevirtual 133, .aload 0, .getfield 352, .getfield 37, .aload 0, .getfield 352, .getfield 39, .iload 1, .iastore, .aload 0, .getfield 352, .dup, .getfield 39, .sipush 1, .iadd, .putfield 39, .aload 0, .getfield 352, .getfield 39, .ireturn] ls st h := ex_ev_eq d 104 3 ls st h
set_option maxRecDepth 20000 in
theorem ev_105_0 (d : Nat) (ls st : List ex_V) (h : ex_H) : ex_ev d 105 0 ls st h = ex_xs 1 (ex_ev d 105) (ex_cd d) [.aload 0, .invokevirtual 133, .aload 0, .getfield 352, .getfield 39, .istore 1, .aload 0, .getfield 352, .sipush 0, .putfield 39, .iload 1, .ireturn] ls st h := ex_ev_eq d 105 0 ls st h
set_option maxRecDepth 20000 in
theorem ev_106_0 (d : Nat) (ls st : List ex_V) (h : ex_H) : ex_ev d 106 0 ls st h = ex_xs 1 (ex_ev d 106) (ex_cd d) [.aload 0, .getfield 356, .aload 0, .getfield 352, .invokevirtual 51, .istore 1, .iload 1, .sipush (-1), .if_icmp .ne 1, .aload 0, .sipush (-100006), .invokevirtual 132, .goto 2] ls st h := ex_ev_eq d 106 0 ls st h
set_option maxRecDepth 20000 in
theorem ev_106_1 (d : Nat) (ls st : List ex_V) (h : ex_H) : ex_ev d 106 1 ls st h = ex_xs 1 (ex_ev d 106) (ex_cd d) [.iload 1, .goto_w 2] ls st h := ex_ev_eq d 106 1 ls st h
set_option maxRecDepth 20000 in
theorem ev_106_2 (d : Nat) (ls st : List ex_V) (h : ex_H) : ex_ev d 106 2 ls st h = ex_xs 1 (ex_ev d 106) (ex_cd d) [.ireturn] ls st h := ex_ev_eq d 106 2 ls st h
set_option maxRecDepth 20000 in
theorem ev_107_0 (d : Nat) (ls st : List ex_V) (h : ex_H) : ex_ev d 107 0 ls st h = ex_xs 1 (ex_ev d 107) (ex_cd d) [.aload 0, .getfield 352, .getfield 32, .iload 1, .invokevirtual 14, .ifCond .ne 1, .aload 0, .sipush (-100001), .invokevirtual 132, .ireturn] ls st h := ex_ev_eq d 107 0 ls st h
set_option maxRecDepth 20000 in
theorem ev_107_1 (d : Nat) (ls st : List ex_V) (h : ex_H) : ex_ev d 107 1 ls st h = ex_xs 1 (ex_ev d 107) (ex_cd d) [.aload 0, .getfield 352, .iload 1, .invokevirtual 8, .istore 2, .iload 2, .sipush (-1), .if_icmp .eq 2, .aload 0, .getfield 356, .aload 0, .getfield 352, .invokevirtual 51, .sipush (-1), .if_icmp .ne 3, .goto_w 2] ls st h := ex_ev_eq d 107 1 ls st h
set_option maxRecDepth 20000 in
theorem ev_107_2 (d : Nat) (ls st : List ex_V) (h : ex_H) : ex_ev d 107 2 ls st h = ex_xs 1 (ex_ev d 107) (ex_cd d) [.aload 0, .sipush (-100006), .invokevirtual 132, .ireturn] ls st h := ex_ev_eq d 107 2 ls st h
set_option maxRecDepth 20000 in
theorem ev_107_3 (d : Nat) (ls st : List ex_V) (h : ex_H) : ex_ev d 107 3 ls st h = ex_xs 1 (ex_ev d 107) (ex_cd d) [.aload 0, .getfield 356, .getfield 160, .iload 2, .iaload, .ireturn] ls st h := ex_ev_eq d 107 3 ls st h
set_option maxRecDepth 20000 in
theorem ev_108_0 (d : Nat) (ls st : List ex_V) (h : ex_H) : ex_ev d 108 0 ls st h = ex_xs 1 (ex_ev d 108) (ex_cd d) [.iload 1, .sipush 0, .sipush 3, .invokestatic 137, .ifCond .ne 1, .aload 0, .sipush (-100001), .invokevirtual 132, .ireturn] ls st h := ex_ev_eq d 108 0 ls st h
set_option maxRecDepth 20000 in
theorem ev_108_1 (d : Nat) (ls st : List ex_V) (h : ex_H) : ex_ev d 108 1 ls st h = ex_xs 1 (ex_ev d 108) (ex_cd d) [.aload 0, .invokevirtual 133, .aload 0, .getfield 352, .getfield 41, .istore 2, .aload 0, .getfield 352, .iload 1, .putfield 41, .iload 2, .ireturn] ls st h := ex_ev_eq d 108 1 ls st h
set_option maxRecDepth 20000 in
theorem ev_109_0 (d : Nat) (ls st : List ex_V) (h : ex_H) : ex_ev d 109 0 ls st h = ex_xs 1 (ex_ev d 109) (ex_cd d) [.aload 0, .getfield 357, .aload 0, .getfield 352, .getfield 32, .aload 0, .getfield 352, .getfield 41, .invokevirtual 1, .ireturn] ls st h := ex_ev_eq d 109 0 ls st h
set_option maxRecDepth 20000 in
theorem ev_110_0 (d : Nat) (ls st : List ex_V) (h : ex_H) : ex_ev d 110 0 ls st h = ex_xs 1 (ex_ev d 110) (ex_cd d) [.iload 1, .invokestatic 138, .ifCond .ne 1, .aload 0, .sipush (-100001), .invokevirtual 132, .ireturn] ls st h := ex_ev_eq d 110 0 ls st h
set_option maxRecDepth 20000 in
theorem ev_110_1 (d : Nat) (ls st : List ex_V) (h : ex_H) : ex_ev d 110 1 ls st h = ex_xs 1 (ex_ev d 110) (ex_cd d) [.aload 0, .getfield 357, .aload 0, .getfield 352, .getfield 32, .aload 0, .getfield 352, .getfield 41, .invokevirtual 1, .istore 2, .aload 0, .getfield 357, .aload 0, .getfield 352, .getfield 32, .aload 0, .getfield 352, .getfield 41, .iload 2, .invokevirtual 3, .pop, .aload 0, .getfield 357, .getfield 0, .iload 1, .iaload, .ireturn] ls st h := ex_ev_eq d 110 1 ls st h
set_option maxRecDepth 20000 in
theorem ev_111_0 (d : Nat) (ls st : List ex_V) (h : ex_H) : ex_ev d 111 0 ls st h = ex_xs 1 (ex_ev d 111) (ex_cd d) [.iload 1, .invokestatic 139, .ifCond .eq 1, .iload 2, .invokestatic 139, .ifCond .eq 1, .iload 3, .sipush 0, .sipush 999, .invokestatic 137, .ifCond .ne 2, .goto_w 1] ls st h := ex_ev_eq d 111 0 ls st h
set_option maxRecDepth 20000 in
theorem ev_111_1 (d : Nat) (ls st : List ex_V) (h : ex_H) : ex_ev d 111 1 ls st h = ex_xs 1 (ex_ev d 111) (ex_cd d) [.aload 0, .sipush (-100001), .invokevirtual 132, .ireturn] ls st h := ex_ev_eq d 111 1 ls st h
set_option maxRecDepth 20000 in
theorem ev_111_2 (d : Nat) (ls st : List ex_V) (h : ex_H) : ex_ev d 111 2 ls st h = ex_xs 1 (ex_ev d 111) (ex_cd d) [.aload 0, .invokevirtual 133, .aload 0, .getfield 352, .getfield 35, .iload 1, .sipush 5, .imul, .iload 2, .iadd, .iaload, .istore 4, .aload 0, .getfield 352, .getfield 35, .iload 1, .sipush 5, .imul, .iload 2, .iadd, .iload 3, .iastore, .iload 4, .ireturn] ls st h := ex_ev_eq d 111 2 ls st h
set_option maxRecDepth 20000 in
theorem ev_112_0 (d : Nat) (ls st : List ex_V) (h : ex_H) : ex_ev d 112 0 ls st h = ex_xs 1 (ex_ev d 112) (ex_cd d) [.iload 1, .invokestatic 139, .ifCond .ne 1, .aload 0, .sipush (-100001), .invokevirtual 132, .ireturn] ls st h := ex_ev_eq d 112 0 ls st h
set_option maxRecDepth 20000 in
theorem ev_112_1 (d : Nat) (ls st : List ex_V) (h : ex_H) : ex_ev d 112 1 ls st h = ex_xs 1 (ex_ev d 112) (ex_cd d) [.aload 0, .getfield 358, .aload 0, .getfield 352, .getfield 35, .sipush (-1), .invokevirtual 55, .pop, .aload 0, .getfield 358, .getfield 192, .iload 1, .iaload, .ireturn] ls st h := ex_ev_eq d 112 1 ls st h
set_option maxRecDepth 20000 in
theorem ev_113_0 (d : Nat) (ls st : List ex_V) (h : ex_H) : ex_ev d 113 0 ls st h = ex_xs 1 (ex_ev d 113) (ex_cd d) [.iload 1, .invokestatic 139, .ifCond .eq 1, .aload 0, .getfield 358, .aload 0, .getfield 352, .getfield 35, .iload 1, .invokevirtual 57, .goto 2] ls st h := ex_ev_eq d 113 0 ls st h
set_option maxRecDepth 20000 in
theorem ev_113_1 (d : Nat) (ls st : List ex_V) (h : ex_H) : ex_ev d 113 1 ls st h = ex_xs 1 (ex_ev d 113) (ex_cd d) [.aload 0, .sipush (-100001), .invokevirtual 132, .goto_w 2] ls st h := ex_ev_eq d 113 1 ls st h
set_option maxRecDepth 20000 in
theorem ev_113_2 (d : Nat) (ls st : List ex_V) (h : ex_H) : ex_ev d 113 2 ls st h = ex_xs 1 (ex_ev d 113) (ex_cd d) [.ireturn] ls st h := ex_ev_eq d 113 2 ls st h
set_option maxRecDepth 20000 in
theorem ev_114_0 (d : Nat) (ls st : List ex_V) (h : ex_H) : ex_ev d 114 0 ls st h = ex_xs 1 (ex_ev d 114) (ex_cd d) [.aload 0, .getfield 358, .aload 0, .getfield 352, .getfield 35, .sipush (-1), .invokevirtual 55, .ireturn] ls st h := ex_ev_eq d 114 0 ls st h
set_option maxRecDepth 20000 in
theorem ev_115_0 (d : Nat) (ls st : List ex_V) (h : ex_H) : ex_ev d 115 0 ls st h = ex_xs 1 (ex_ev d 115) (ex_cd d) [.iload 1, .invokestatic 140, .ifCond .ne 1, .aload 0, .sipush (-100001), .invokevirtual 132, .ireturn] ls st h := ex_ev_eq d 115 0 ls st h
set_option maxRecDepth 20000 in
theorem ev_115_1 (d : Nat) (ls st : List ex_V) (h : ex_H) : ex_ev d 115 1 ls st h = ex_xs 1 (ex_ev d 115) (ex_cd d) [.aload 0, .invokevirtual 133, .aload 0, .getfield 352, .getfield 42, .istore 2, .aload 0, .getfield 352, .iload 1, .putfield 42, .iload 2, .ireturn] ls st h := ex_ev_eq d 115 1 ls st h
set_option maxRecDepth 20000 in
theorem ev_116_0 (d : Nat) (ls st : List ex_V) (h : ex_H) : ex_ev d 116 0 ls st h = ex_xs 1 (ex_ev d 116) (ex_cd d) [.aload 0, .getfield 352, .getfield 32, .iload 1, .invokevirtual 14, .ifCond .ne 1, .aload 0, .sipush (-100001), .invokevirtual 132, .ireturn] ls st h := ex_ev_eq d 116 0 ls st h
set_option maxRecDepth 20000 in
theorem ev_116_1 (d : Nat) (ls st : List ex_V) (h : ex_H) : ex_ev d 116 1 ls st h = ex_xs 1 (ex_ev d 116) (ex_cd d) [.aload 0, .invokevirtual 133, .aload 0, .getfield 352, .getfield 33, .iload 1, .iload 2, .ifCond .eq 2, .sipush 5, .goto 3] ls st h := ex_ev_eq d 116 1 ls st h
set_option maxRecDepth 20000 in
theorem ev_116_2 (d : Nat) (ls st : List ex_V) (h : ex_H) : ex_ev d 116 2 ls st h = ex_xs 1 (ex_ev d 116) (ex_cd d) [.sipush 4, .goto_w 3] ls st h := ex_ev_eq d 116 2 ls st h
set_option maxRecDepth 20000 in
theorem ev_116_3 (d : Nat) (ls st : List ex_V) (h : ex_H) : ex_ev d 116 3 ls st h = ex_xs 1 (ex_ev d 116) (ex_cd d) [.invokevirtual 45, .aload 0, .getfield 352, .getfield 33, .getfield 128, .ireturn] ls st h := ex_ev_eq d 116 3 ls st h
set_option maxRecDepth 20000 in
theorem ev_117_0 (d : Nat) (ls st : List ex_V) (h : ex_H) : ex_ev d 117 0 ls st h = ex_xs 1 (ex_ev d 117) (ex_cd d) [.aload 0, .getfield 352, .getfield 32, .iload 1, .invokevirtual 14, .ifCond .eq 1, .iload 2, .invokestatic 140, .ifCond .eq 1, .iload 3, .sipush 0, .sipush 9999, .invokestatic 137, .ifCond .ne 2, .goto_w 1] ls st h := ex_ev_eq d 117 0 ls st h
set_option maxRecDepth 20000 in
theorem ev_117_1 (d : Nat) (ls st : List ex_V) (h : ex_H) : ex_ev d 117 1 ls st h = ex_xs 1 (ex_ev d 117) (ex_cd d) [.aload 0, .sipush (-100001), .invokevirtual 132, .ireturn] ls st h := ex_ev_eq d 117 1 ls st h
set_option maxRecDepth 20000 in
theorem ev_117_2 (d : Nat) (ls st : List ex_V) (h : ex_H) : ex_ev d 117 2 ls st h = ex_xs 1 (ex_ev d 117) (ex_cd d) [.aload 0, .getfield 352, .getfield 33, .iload 1, .iload 2, .iload 3, .invokevirtual 46, .istore 4, .iload 4, .sipush (-1), .if_icmp .ne 3, .aload 0, .sipush (-100006), .invokevirtual 132, .goto 4] ls st h := ex_ev_eq d 117 2 ls st h
set_option maxRecDepth 20000 in
theorem ev_117_3 (d : Nat) (ls st : List ex_V) (h : ex_H) : ex_ev d 117 3 ls st h = ex_xs 1 (ex_ev d 117) (ex_cd d) [.iload 4, .goto_w 4] ls st h := ex_ev_eq d 117 3 ls st h
set_option maxRecDepth 20000 in
theorem ev_117_4 (d : Nat) (ls st : List ex_V) (h : ex_H) : ex_ev d 117 4 ls st h = ex_xs 1 (ex_ev d 117) (ex_cd d) [.ireturn] ls st h := ex_ev_eq d 117 4 ls st h
set_option maxRecDepth 20000 in
theorem ev_118_0 (d : Nat) (ls st : List ex_V) (h : ex_H) : ex_ev d 118 0 ls st h = ex_xs 1 (ex_ev d 118) (ex_cd d) [.aload 0, .getfield 354, .iload 1, .invokevirtual 71, .ifCond .ne 1, .aload 0, .sipush (-100001), .invokevirtual 132, .ireturn] ls st h := ex_ev_eq d 118 0 ls st h
set_option maxRecDepth 20000 in
theorem ev_118_1 (d : Nat) (ls st : List ex_V) (h : ex_H) : ex_ev d 118 1 ls st h = ex_xs 1 (ex_ev d 118) (ex_cd d) [.aload 0, .getfield 354, .iload 1, .invokevirtual 72, .ifCond .eq 2, .aload 0, .sipush (-100002), .invokevirtual 132, .ireturn] ls st h := ex_ev_eq d 118 1 ls st h
set_option maxRecDepth 20000 in
theorem ev_118_2 (d : Nat) (ls st : List ex_V) (h : ex_H) : ex_ev d 118 2 ls st h = ex_xs 1 (ex_ev d 118) (ex_cd d) [.aload 0, .getfield 354, .getfield 289, .iload 1, .iaload, .istore 2, .iload 2, .sipush 16, .if_icmp .le 3, .aload 0, .sipush (-100003), .invokevirtual 132, .ireturn] ls st h := ex_ev_eq d 118 2 ls st h
set_option maxRecDepth 20000 in
theorem ev_118_3 (d : Nat) (ls st : List ex_V) (h : ex_H) : ex_ev d 118 3 ls st h = ex_xs 1 (ex_ev d 118) (ex_cd d) [.sipush 0, .istore 3, .goto_w 4] ls st h := ex_ev_eq d 118 3 ls st h
set_option maxRecDepth 20000 in
theorem ev_118_4 (d : Nat) (ls st : List ex_V) (h : ex_H) : ex_ev d 118 4 ls st h = ex_xs 1 (ex_ev d 118) (ex_cd d) [.iload 3, .iload 2, .if_icmp .ge 6, .aload 0, .getfield 354, .iload 1, .iload 3, .invokevirtual 74, .invokestatic 62, .ifCond .ne 5, .aload 0, .sipush (-100001), .invokevirtual 132, .ireturn] ls st h := ex_ev_eq d 118 4 ls st h
set_option maxRecDepth 20000 in
theorem ev_118_5 (d : Nat) (ls st : List ex_V) (h : ex_H) : ex_ev d 118 5 ls st h = ex_xs 1 (ex_ev d 118) (ex_cd d) [.iinc 3 1, .goto 4] ls st h := ex_ev_eq d 118 5 ls st h
set_option maxRecDepth 20000 in
theorem ev_118_6 (d : Nat) (ls st : List ex_V) (h : ex_H) : ex_ev d 118 6 ls st h = ex_xs 1 (ex_ev d 118) (ex_cd d) [.aload 0, .invokevirtual 133, .sipush 0, .istore 3, .goto_w 7] ls st h := ex_ev_eq d 118 6 ls st h
set_option maxRecDepth 20000 in
theorem ev_118_7 (d : Nat) (ls st : List ex_V) (h : ex_H) : ex_ev d 118 7 ls st h = ex_xs 1 (ex_ev d 118) (ex_cd d) [.iload 3, .iload 2, .if_icmp .ge 8, .aload 0, .getfield 352, .getfield 36, .iload 3, .aload 0, .getfield 354, .iload 1, .iload 3, .invokevirtual 74, .iastore, .iinc 3 1, .goto 7] ls st h := ex_ev_eq d 118 7 ls st h
set_option maxRecDepth 20000 in
theorem ev_118_8 (d : Nat) (ls st : List ex_V) (h : ex_H) : ex_ev d 118 8 ls st h = ex_xs 1 (ex_ev d 118) (ex_cd d) [.aload 0, .getfield 352, .iload 2, .putfield 38, .iload 2, .ireturn] ls st h := ex_ev_eq d 118 8 ls st h
set_option maxRecDepth 20000 in
theorem ev_119_0 (d : Nat) (ls st : List ex_V) (h : ex_H) : ex_ev d 119 0 ls st h = ex_xs 1 (ex_ev d 119) (ex_cd d) [.aload 0, .getfield 359, .aload 0, .getfield 352, .getfield 36, .aload 0, .getfield 352, .getfield 38, .invokevirtual 65, .ireturn] ls st h := ex_ev_eq d 119 0 ls st h
set_option maxRecDepth 20000 in
theorem ev_120_0 (d : Nat) (ls st : List ex_V) (h : ex_H) : ex_ev d 120 0 ls st h = ex_xs 1 (ex_ev d 120) (ex_cd d) [.aload 0, .getfield 352, .getfield 32, .iload 1, .invokevirtual 14, .ifCond .eq 1, .aload 0, .getfield 352, .getfield 32, .iload 2, .invokevirtual 13, .ifCond .eq 1, .iload 3, .invokestatic 138, .ifCond .ne 2, .goto_w 1] ls st h := ex_ev_eq d 120 0 ls st h
set_option maxRecDepth 20000 in
theorem ev_120_1 (d : Nat) (ls st : List ex_V) (h : ex_H) : ex_ev d 120 1 ls st h = ex_xs 1 (ex_ev d 120) (ex_cd d) [.aload 0, .sipush (-100001), .invokevirtual 132, .ireturn] ls st h := ex_ev_eq d 120 1 ls st h
set_option maxRecDepth 20000 in
theorem ev_120_2 (d : Nat) (ls st : List ex_V) (h : ex_H) : ex_ev d 120 2 ls st h = ex_xs 1 (ex_ev d 120) (ex_cd d) [.aload 0, .iload 1, .iload 2, .iload 3, .invokevirtual 136, .ifCond .eq 3, .sipush 1, .goto 4] ls st h := ex_ev_eq d 120 2 ls st h
set_option maxRecDepth 20000 in
theorem ev_120_3 (d : Nat) (ls st : List ex_V) (h : ex_H) : ex_ev d 120 3 ls st h = ex_xs 1 (ex_ev d 120) (ex_cd d) [.sipush 0, .goto_w 4] ls st h := ex_ev_eq d 120 3 ls st h
set_option maxRecDepth 20000 in
theorem ev_120_4 (d : Nat) (ls st : List ex_V) (h : ex_H) : ex_ev d 120 4 ls st h = ex_xs 1 (ex_ev d 120) (ex_cd d) [.ireturn] ls st h := ex_ev_eq d 120 4 ls st h
set_option maxRecDepth 20000 in
theorem ev_121_0 (d : Nat) (ls st : List ex_V) (h : ex_H) : ex_ev d 121 0 ls st h = ex_xs 1 (ex_ev d 121) (ex_cd d) [.aload 0, .getfield 352, .getfield 32, .iload 1, .invokevirtual 13, .ifCond .eq 1, .iload 2, .sipush 0, .sipush 200, .invokestatic 137, .ifCond .ne 2, .goto_w 1] ls st h := ex_ev_eq d 121 0 ls st h
set_option maxRecDepth 20000 in
theorem ev_121_1 (d : Nat) (ls st : List ex_V) (h : ex_H) : ex_ev d 121 1 ls st h = ex_xs 1 (ex_ev d 121) (ex_cd d) [.aload 0, .sipush (-100001), .invokevirtual 132, .ireturn] ls st h := ex_ev_eq d 121 1 ls st h
set_option maxRecDepth 20000 in
theorem ev_121_2 (d : Nat) (ls st : List ex_V) (h : ex_H) : ex_ev d 121 2 ls st h = ex_xs 1 (ex_ev d 121) (ex_cd d) [.aload 0, .invokevirtual 133, .aload 0, .getfield 352, .getfield 32, .getfield 70, .iload 1, .iaload, .istore 3, .aload 0, .getfield 352, .getfield 32, .getfield 70, .iload 1, .iload 2, .iastore, .iload 3, .ireturn] ls st h := ex_ev_eq d 121 2 ls st h
set_option maxRecDepth 20000 in
theorem ev_122_0 (d : Nat) (ls st : List ex_V) (h : ex_H) : ex_ev d 122 0 ls st h = ex_xs 1 (ex_ev d 122) (ex_cd d) [.iload 1, .sipush 1, .sipush 30, .invokestatic 137, .ifCond .ne 1, .aload 0, .sipush (-100001), .invokevirtual 132, .ireturn] ls st h := ex_ev_eq d 122 0 ls st h
set_option maxRecDepth 20000 in
theorem ev_122_1 (d : Nat) (ls st : List ex_V) (h : ex_H) : ex_ev d 122 1 ls st h = ex_xs 1 (ex_ev d 122) (ex_cd d) [.aload 0, .invokevirtual 133, .aload 0, .getfield 352, .getfield 43, .istore 2, .aload 0, .getfield 352, .iload 1, .putfield 43, .iload 2, .ireturn] ls st h := ex_ev_eq d 122 1 ls st h
set_option maxRecDepth 20000 in
theorem ev_123_0 (d : Nat) (ls st : List ex_V) (h : ex_H) : ex_ev d 123 0 ls st h = ex_xs 1 (ex_ev d 123) (ex_cd d) [.aload 0, .getfield 360, .aload 0, .getfield 352, .getfield 32, .aload 0, .getfield 352, .getfield 43, .invokevirtual 59, .ireturn] ls st h := ex_ev_eq d 123 0 ls st h
set_option maxRecDepth 20000 in
theorem ev_124_0 (d : Nat) (ls st : List ex_V) (h : ex_H) : ex_ev d 124 0 ls st h = ex_xs 1 (ex_ev d 124) (ex_cd d) [.iload 1, .ifCond .ge 1, .aload 0, .sipush (-100001), .invokevirtual 132, .ireturn] ls st h := ex_ev_eq d 124 0 ls st h
set_option maxRecDepth 20000 in
theorem ev_124_1 (d : Nat) (ls st : List ex_V) (h : ex_H) : ex_ev d 124 1 ls st h = ex_xs 1 (ex_ev d 124) (ex_cd d) [.aload 0, .getfield 360, .aload 0, .getfield 352, .getfield 32, .aload 0, .getfield 352, .getfield 43, .invokevirtual 59, .pop, .iload 1, .aload 0, .getfield 360, .getfield 225, .if_icmp .ge 2, .aload 0, .getfield 360, .getfield 224, .iload 1, .iaload, .goto 3] ls st h := ex_ev_eq d 124 1 ls st h
set_option maxRecDepth 20000 in
theorem ev_124_2 (d : Nat) (ls st : List ex_V) (h : ex_H) : ex_ev d 124 2 ls st h = ex_xs 1 (ex_ev d 124) (ex_cd d) [.aload 0, .sipush (-100006), .invokevirtual 132, .goto_w 3] ls st h := ex_ev_eq d 124 2 ls st h
set_option maxRecDepth 20000 in
theorem ev_124_3 (d : Nat) (ls st : List ex_V) (h : ex_H) : ex_ev d 124 3 ls st h = ex_xs 1 (ex_ev d 124) (ex_cd d) [.ireturn] ls st h := ex_ev_eq d 124 3 ls st h
set_option maxRecDepth 20000 in
theorem ev_125_0 (d : Nat) (ls st : List ex_V) (h : ex_H) : ex_ev d 125 0 ls st h = ex_xs 1 (ex_ev d 125) (ex_cd d) [.aload 0, .getfield 352, .getfield 32, .iload 1, .invokevirtual 14, .ifCond .eq 1, .iload 2, .invokestatic 138, .ifCond .ne 2, .goto_w 1] ls st h := ex_ev_eq d 125 0 ls st h
set_option maxRecDepth 20000 in
theorem ev_125_1 (d : Nat) (ls st : List ex_V) (h : ex_H) : ex_ev d 125 1 ls st h = ex_xs 1 (ex_ev d 125) (ex_cd d) [.aload 0, .sipush (-100001), .invokevirtual 132, .ireturn] ls st h := ex_ev_eq d 125 1 ls st h
set_option maxRecDepth 20000 in
theorem ev_125_2 (d : Nat) (ls st : List ex_V) (h : ex_H) : ex_ev d 125 2 ls st h = ex_xs 1 (ex_ev d 125) (ex_cd d) [.aload 0, .getfield 352, .getfield 34, .getfield 96, .sipush 30, .if_icmp .lt 3, .aload 0, .sipush (-100005), .invokevirtual 132, .ireturn] ls st h := ex_ev_eq d 125 2 ls st h
set_option maxRecDepth 20000 in
theorem ev_125_3 (d : Nat) (ls st : List ex_V) (h : ex_H) : ex_ev d 125 3 ls st h = ex_xs 1 (ex_ev d 125) (ex_cd d) [.aload 0, .invokevirtual 133, .aload 0, .getfield 352, .getfield 34, .iload 1, .iload 2, .iload 3, .invokevirtual 40, .aload 0, .getfield 352, .getfield 34, .getfield 96, .ireturn] ls st h := ex_ev_eq d 125 3 ls st h
set_option maxRecDepth 20000 in
theorem ev_126_0 (d : Nat) (ls st : List ex_V) (h : ex_H) : ex_ev d 126 0 ls st h = ex_xs 1 (ex_ev d 126) (ex_cd d) [.aload 0, .getfield 352, .getfield 32, .iload 1, .invokevirtual 14, .ifCond .eq 1, .iload 2, .invokestatic 138, .ifCond .eq 1, .iload 3, .sipush 0, .aload 0, .getfield 352, .getfield 34, .getfield 96, .invokestatic 137, .ifCond .ne 2, .goto_w 1] ls st h := ex_ev_eq d 126 0 ls st h
set_option maxRecDepth 20000 in
theorem ev_126_1 (d : Nat) (ls st : List ex_V) (h : ex_H) : ex_ev d 126 1 ls st h = ex_xs 1 (ex_ev d 126) (ex_cd d) [.aload 0, .sipush (-100001), .invokevirtual 132, .ireturn] ls st h := ex_ev_eq d 126 1 ls st h
set_option maxRecDepth 20000 in
theorem ev_126_2 (d : Nat) (ls st : List ex_V) (h : ex_H) : ex_ev d 126 2 ls st h = ex_xs 1 (ex_ev d 126) (ex_cd d) [.aload 0, .getfield 352, .getfield 34, .iload 1, .iload 2, .iload 3, .invokevirtual 41, .ifCond .eq 3, .sipush 1, .goto 4] ls st h := ex_ev_eq d 126 2 ls st h
set_option maxRecDepth 20000 in
theorem ev_126_3 (d : Nat) (ls st : List ex_V) (h : ex_H) : ex_ev d 126 3 ls st h = ex_xs 1 (ex_ev d 126) (ex_cd d) [.sipush 0, .goto_w 4] ls st h := ex_ev_eq d 126 3 ls st h
set_option maxRecDepth 20000 in
theorem ev_126_4 (d : Nat) (ls st : List ex_V) (h : ex_H) : ex_ev d 126 4 ls st h = ex_xs 1 (ex_ev d 126) (ex_cd d) [.ireturn] ls st h := ex_ev_eq d 126 4 ls st h
set_option maxRecDepth 20000 in
theorem ev_127_0 (d : Nat) (ls st : List ex_V) (h : ex_H) : ex_ev d 127 0 ls st h = ex_xs 1 (ex_ev d 127) (ex_cd d) [.aload 0, .getfield 354, .iload 1, .invokevirtual 71, .ifCond .eq 1, .iload 2, .ifCond .eq 2, .iload 2, .sipush 8, .if_icmp .eq 2, .iload 2, .sipush 16, .if_icmp .eq 2, .iload 2, .sipush 32, .if_icmp .eq 2, .goto_w 1] ls st h := ex_ev_eq d 127 0 ls st h
set_option maxRecDepth 20000 in
theorem ev_127_1 (d : Nat) (ls st : List ex_V) (h : ex_H) : ex_ev d 127 1 ls st h = ex_xs 1 (ex_ev d 127) (ex_cd d) [.aload 0, .sipush (-100001), .invokevirtual 132, .ireturn] ls st h := ex_ev_eq d 127 1 ls st h
set_option maxRecDepth 20000 in
theorem ev_127_2 (d : Nat) (ls st : List ex_V) (h : ex_H) : ex_ev d 127 2 ls st h = ex_xs 1 (ex_ev d 127) (ex_cd d) [.iload 3, .ifCond .ge 3, .aload 0, .sipush (-100003), .invokevirtual 132, .ireturn] ls st h := ex_ev_eq d 127 2 ls st h
set_option maxRecDepth 20000 in
theorem ev_127_3 (d : Nat) (ls st : List ex_V) (h : ex_H) : ex_ev d 127 3 ls st h = ex_xs 1 (ex_ev d 127) (ex_cd d) [.iload 3, .sipush 20, .if_icmp .le 4, .aload 0, .sipush (-100001), .invokevirtual 132, .ireturn] ls st h := ex_ev_eq d 127 3 ls st h
set_option maxRecDepth 20000 in
theorem ev_127_4 (d : Nat) (ls st : List ex_V) (h : ex_H) : ex_ev d 127 4 ls st h = ex_xs 1 (ex_ev d 127) (ex_cd d) [.aload 0, .getfield 354, .iload 1, .iload 2, .iload 2, .ifCond .ne 5, .sipush 0, .goto 6] ls st h := ex_ev_eq d 127 4 ls st h
set_option maxRecDepth 20000 in
theorem ev_127_5 (d : Nat) (ls st : List ex_V) (h : ex_H) : ex_ev d 127 5 ls st h = ex_xs 1 (ex_ev d 127) (ex_cd d) [.iload 3, .goto_w 6] ls st h := ex_ev_eq d 127 5 ls st h
set_option maxRecDepth 20000 in
theorem ev_127_6 (d : Nat) (ls st : List ex_V) (h : ex_H) : ex_ev d 127 6 ls st h = ex_xs 1 (ex_ev d 127) (ex_cd d) [.invokevirtual 73, .aload 0, .getfield 354, .getfield 289, .iload 1, .iaload, .ireturn] ls st h := ex_ev_eq d 127 6 ls st h
set_option maxRecDepth 20000 in
theorem ev_128_0 (d : Nat) (ls st : List ex_V) (h : ex_H) : ex_ev d 128 0 ls st h = ex_xs 1 (ex_ev d 128) (ex_cd d) [.aload 0, .getfield 354, .iload 1, .invokevirtual 71, .ifCond .ne 1, .aload 0, .sipush (-100001), .invokevirtual 132, .ireturn] ls st h := ex_ev_eq d 128 0 ls st h
set_option maxRecDepth 20000 in
theorem ev_128_1 (d : Nat) (ls st : List ex_V) (h : ex_H) : ex_ev d 128 1 ls st h = ex_xs 1 (ex_ev d 128) (ex_cd d) [.aload 0, .getfield 354, .iload 1, .invokevirtual 72, .ifCond .eq 2, .aload 0, .sipush (-100002), .invokevirtual 132, .ireturn] ls st h := ex_ev_eq d 128 1 ls st h
set_option maxRecDepth 20000 in
theorem ev_128_2 (d : Nat) (ls st : List ex_V) (h : ex_H) : ex_ev d 128 2 ls st h = ex_xs 1 (ex_ev d 128) (ex_cd d) [.iload 2, .ifCond .lt 3, .iload 2, .aload 0, .getfield 354, .getfield 289, .iload 1, .iaload, .if_icmp .lt 4, .goto_w 3] ls st h := ex_ev_eq d 128 2 ls st h
set_option maxRecDepth 20000 in
theorem ev_128_3 (d : Nat) (ls st : List ex_V) (h : ex_H) : ex_ev d 128 3 ls st h = ex_xs 1 (ex_ev d 128) (ex_cd d) [.aload 0, .sipush (-100001), .invokevirtual 132, .ireturn] ls st h := ex_ev_eq d 128 3 ls st h
set_option maxRecDepth 20000 in
theorem ev_128_4 (d : Nat) (ls st : List ex_V) (h : ex_H) : ex_ev d 128 4 ls st h = ex_xs 1 (ex_ev d 128) (ex_cd d) [.aload 0, .getfield 354, .iload 1, .iload 2, .iload 3, .invokevirtual 75, .sipush 0, .ireturn] ls st h := ex_ev_eq d 128 4 ls st h
set_option maxRecDepth 20000 in
theorem ev_129_0 (d : Nat) (ls st : List ex_V) (h : ex_H) : ex_ev d 129 0 ls st h = ex_xs 1 (ex_ev d 129) (ex_cd d) [.aload 0, .getfield 354, .iload 1, .invokevirtual 71, .ifCond .eq 1, .aload 0, .getfield 354, .iload 3, .invokevirtual 71, .ifCond .ne 2, .goto_w 1] ls st h := ex_ev_eq d 129 0 ls st h
set_option maxRecDepth 20000 in
theorem ev_129_1 (d : Nat) (ls st : List ex_V) (h : ex_H) : ex_ev d 129 1 ls st h = ex_xs 1 (ex_ev d 129) (ex_cd d) [.aload 0, .sipush (-100001), .invokevirtual 132, .ireturn] ls st h := ex_ev_eq d 129 1 ls st h
set_option maxRecDepth 20000 in
theorem ev_129_2 (d : Nat) (ls st : List ex_V) (h : ex_H) : ex_ev d 129 2 ls st h = ex_xs 1 (ex_ev d 129) (ex_cd d) [.aload 0, .getfield 354, .iload 1, .invokevirtual 72, .ifCond .ne 3, .aload 0, .getfield 354, .iload 3, .invokevirtual 72, .ifCond .eq 4, .goto_w 3] ls st h := ex_ev_eq d 129 2 ls st h
set_option maxRecDepth 20000 in
theorem ev_129_3 (d : Nat) (ls st : List ex_V) (h : ex_H) : ex_ev d 129 3 ls st h = ex_xs 1 (ex_ev d 129) (ex_cd d) [.aload 0, .sipush (-100002), .invokevirtual 132, .ireturn] ls st h := ex_ev_eq d 129 3 ls st h
set_option maxRecDepth 20000 in
theorem ev_129_4 (d : Nat) (ls st : List ex_V) (h : ex_H) : ex_ev d 129 4 ls st h = ex_xs 1 (ex_ev d 129) (ex_cd d) [.aload 0, .getfield 354, .getfield 288, .iload 1, .iaload, .aload 0, .getfield 354, .getfield 288, .iload 3, .iaload, .if_icmp .eq 5, .aload 0, .sipush (-100004), .invokevirtual 132, .ireturn] ls st h := ex_ev_eq d 129 4 ls st h
set_option maxRecDepth 20000 in
theorem ev_129_5 (d : Nat) (ls st : List ex_V) (h : ex_H) : ex_ev d 129 5 ls st h = ex_xs 1 (ex_ev d 129) (ex_cd d) [.aload 0, .getfield 354, .iload 1, .iload 2, .iload 5, .invokevirtual 76, .ifCond .eq 6, .aload 0, .getfield 354, .iload 3, .iload 4, .iload 5, .invokevirtual 76, .ifCond .ne 7, .goto_w 6] ls st h := ex_ev_eq d 129 5 ls st h
set_option maxRecDepth 20000 in
theorem ev_129_6 (d : Nat) (ls st : List ex_V) (h : ex_H) : ex_ev d 129 6 ls st h = ex_xs 1 (ex_ev d 129) (ex_cd d) [.aload 0, .sipush (-100001), .invokevirtual 132, .ireturn] ls st h := ex_ev_eq d 129 6 ls st h
set_option maxRecDepth 20000 in
theorem ev_129_7 (d : Nat) (ls st : List ex_V) (h : ex_H) : ex_ev d 129 7 ls st h = ex_xs 1 (ex_ev d 129) (ex_cd d) [.aload 0, .getfield 354, .iload 1, .iload 2, .iload 3, .iload 4, .iload 5, .invokevirtual 77, .iload 5, .ireturn] ls st h := ex_ev_eq d 129 7 ls st h
set_option maxRecDepth 20000 in
theorem ev_130_0 (d : Nat) (ls st : List ex_V) (h : ex_H) : ex_ev d 130 0 ls st h = ex_xs 1 (ex_ev d 130) (ex_cd d) [.aload 0, .getfield 362, .ifCond .gt 1, .aload 0, .sipush (-100006), .invokevirtual 132, .ireturn] ls st h := ex_ev_eq d 130 0 ls st h
set_option maxRecDepth 20000 in
theorem ev_130_1 (d : Nat) (ls st : List ex_V) (h : ex_H) : ex_ev d 130 1 ls st h = ex_xs 1 (ex_ev d 130) (ex_cd d) [.aload 0, .aload 0, .getfield 361, .sipush 16, .iadd, .sipush 1, .isub, .sipush 16, .irem, .putfield 361, .aload 0, .dup, .getfield 362, .sipush 1, .isub, .putfield 362, .aload 0, .getfield 353, .aload 0, .getfield 361, .aaload, .astore 1, .aload 1, .ifnull 2, .aload 0, .getfield 352, .aload 1, .invokevirtual 7, .goto_w 2] ls st h := ex_ev_eq d 130 1 ls st h
set_option maxRecDepth 20000 in
theorem ev_130_2 (d : Nat) (ls st : List ex_V) (h : ex_H) : ex_ev d 130 2 ls st h = ex_xs 1 (ex_ev d 130) (ex_cd d) [.aload 0, .getfield 362, .ireturn] ls st h := ex_ev_eq d 130 2 ls st h
set_option maxRecDepth 20000 in
theorem ev_131_0 (d : Nat) (ls st : List ex_V) (h : ex_H) : ex_ev d 131 0 ls st h = ex_xs 1 (ex_ev d 131) (ex_cd d) [.iload 1, .tableswitch 8 0 6 #[1, 2, 3, 4, 5, 6, 7]] ls st h := ex_ev_eq d 131 0 ls st h
set_option maxRecDepth 20000 in
theorem ev_131_1 (d : Nat) (ls st : List ex_V) (h : ex_H) : ex_ev d 131 1 ls st h = ex_xs 1 (ex_ev d 131) (ex_cd d) [.aload 0, .getfield 352, .getfield 32, .getfield 64, .ireturn] ls st h := ex_ev_eq d 131 1 ls st h
set_option maxRecDepth 20000 in
theorem ev_131_2 (d : Nat) (ls st : List ex_V) (h : ex_H) : ex_ev d 131 2 ls st h = ex_xs 1 (ex_ev d 131) (ex_cd d) [.aload 0, .getfield 352, .getfield 32, .getfield 65, .ireturn] ls st h := ex_ev_eq d 131 2 ls st h
set_option maxRecDepth 20000 in
theorem ev_131_3 (d : Nat) (ls st : List ex_V) (h : ex_H) : ex_ev d 131 3 ls st h = ex_xs 1 (ex_ev d 131) (ex_cd d) [.aload 0, .getfield 352, .getfield 32, .invokevirtual 35, .ireturn] ls st h := ex_ev_eq d 131 3 ls st h
set_option maxRecDepth 20000 in
theorem ev_131_4 (d : Nat) (ls st : List ex_V) (h : ex_H) : ex_ev d 131 4 ls st h = ex_xs 1 (ex_ev d 131) (ex_cd d) [.aload 0, .getfield 352, .getfield 44, .ireturn] ls st h := ex_ev_eq d 131 4 ls st h
set_option maxRecDepth 20000 in
theorem ev_131_5 (d : Nat) (ls st : List ex_V) (h : ex_H) : ex_ev d 131 5 ls st h = ex_xs 1 (ex_ev d 131) (ex_cd d) [.aload 0, .getfield 352, .getfield 34, .getfield 96, .ireturn] ls st h := ex_ev_eq d 131 5 ls st h
set_option maxRecDepth 20000 in
theorem ev_131_6 (d : Nat) (ls st : List ex_V) (h : ex_H) : ex_ev d 131 6 ls st h = ex_xs 1 (ex_ev d 131) (ex_cd d) [.aload 0, .getfield 352, .getfield 33, .getfield 128, .ireturn] ls st h := ex_ev_eq d 131 6 ls st h
set_option maxRecDepth 20000 in
theorem ev_131_7 (d : Nat) (ls st : List ex_V) (h : ex_H) : ex_ev d 131 7 ls st h = ex_xs 1 (ex_ev d 131) (ex_cd d) [.aload 0, .getfield 363, .ireturn] ls st h := ex_ev_eq d 131 7 ls st h
set_option maxRecDepth 20000 in
theorem ev_131_8 (d : Nat) (ls st : List ex_V) (h : ex_H) : ex_ev d 131 8 ls st h = ex_xs 1 (ex_ev d 131) (ex_cd d) [.aload 0, .sipush (-100001), .invokevirtual 132, .ireturn] ls st h := ex_ev_eq d 131 8 ls st h
set_option maxRecDepth 20000 in
theorem ev_132_0 (d : Nat) (ls st : List ex_V) (h : ex_H) : ex_ev d 132 0 ls st h = ex_xs 1 (ex_ev d 132) (ex_cd d) [.aload 0, .dup, .getfield 363, .sipush 1, .iadd, .putfield 363, .iload 1, .ireturn] ls st h := ex_ev_eq d 132 0 ls st h
set_option maxRecDepth 20000 in
theorem ev_133_0 (d : Nat) (ls st : List ex_V) (h : ex_H) : ex_ev d 133 0 ls st h = ex_xs 0 (ex_ev d 133) (ex_cd d) [.aload 0, .getfield 353, .aload 0, .getfield 361, .aaload, .astore 1, .aload 1, .ifnull 1, .aload 1, .aload 0, .getfield 352, .invokevirtual 7, .goto_w 1] ls st h := ex_ev_eq d 133 0 ls st h
set_option maxRecDepth 20000 in
theorem ev_133_1 (d : Nat) (ls st : List ex_V) (h : ex_H) : ex_ev d 133 1 ls st h = ex_xs 0 (ex_ev d 133) (ex_cd d) [.aload 0, .aload 0, .getfield 361, .sipush 1, .iadd, .sipush 16, .irem, .putfield 361, .aload 0, .aload 0, .getfield 362, .sipush 1, .iadd, .sipush 16, .invokestatic 237, .putfield 362, .return_] ls st h := ex_ev_eq d 133 1 ls st h
set_option maxRecDepth 20000 in
theorem ev_134_0 (d : Nat) (ls st : List ex_V) (h : ex_H) : ex_ev d 134 0 ls st h = ex_xs 1 (ex_ev d 134) (ex_cd d) [.aload 0, .getfield 352, .getfield 32, .iload 1, .invokevirtual 14, .ifCond .ne 1, .sipush (-100001), .ireturn] ls st h := ex_ev_eq d 134 0 ls st h
set_option maxRecDepth 20000 in
theorem ev_134_1 (d : Nat) (ls st : List ex_V) (h : ex_H) : ex_ev d 134 1 ls st h = ex_xs 1 (ex_ev d 134) (ex_cd d) [.aload 0, .getfield 352, .getfield 32, .getfield 76, .iload 1, .iaload, .sipush (-1), .if_icmp .ne 2, .sipush (-100006), .goto 3] ls st h := ex_ev_eq d 134 1 ls st h
set_option maxRecDepth 20000 in
theorem ev_134_2 (d : Nat) (ls st : List ex_V) (h : ex_H) : ex_ev d 134 2 ls st h = ex_xs 1 (ex_ev d 134) (ex_cd d) [.sipush 0, .goto_w 3] ls st h := ex_ev_eq d 134 2 ls st h
set_option maxRecDepth 20000 in
theorem ev_134_3 (d : Nat) (ls st : List ex_V) (h : ex_H) : ex_ev d 134 3 ls st h = ex_xs 1 (ex_ev d 134) (ex_cd d) [.ireturn] ls st h := ex_ev_eq d 134 3 ls st h
set_option maxRecDepth 20000 in
theorem ev_135_0 (d : Nat) (ls st : List ex_V) (h : ex_H) : ex_ev d 135 0 ls st h = ex_xs 1 (ex_ev d 135) (ex_cd d) [.aload 0, .getfield 352, .getfield 34, .aload 0, .getfield 352, .getfield 32, .getfield 65, .aload 0, .getfield 352, .getfield 40, .invokevirtual 42, .ireturn] ls st h := ex_ev_eq d 135 0 ls st h
set_option maxRecDepth 20000 in
theorem ev_136_0 (d : Nat) (ls st : List ex_V) (h : ex_H) : ex_ev d 136 0 ls st h = ex_xs 2 (ex_ev d 136) (ex_cd d) [.aload 0, .getfield 352, .getfield 32, .astore 4, .aload 0, .getfield 359, .iload 3, .aload 4, .iload 1, .sipush 0, .invokevirtual 17, .aload 4, .iload 1, .sipush 2, .invokevirtual 17, .iload 2, .aload 4, .getfield 66, .iload 2, .iaload, .aload 0, .getfield 352, .getfield 42, .invokevirtual 63, .aload 0, .getfield 359, .aload 0, .getfield 352, .getfield 36, .aload 0, .getfield 352, .getfield 38, .invokevirtual 64, .ireturn] ls st h := ex_ev_eq d 136 0 ls st h
set_option maxRecDepth 20000 in
theorem ev_137_0 (d : Nat) (ls st : List ex_V) (h : ex_H) : ex_ev d 137 0 ls st h = ex_xs 2 (ex_ev d 137) (ex_cd d) [.iload 0, .iload 1, .if_icmp .lt 1, .iload 0, .iload 2, .if_icmp .gt 1, .sipush 1, .goto 2] ls st h := ex_ev_eq d 137 0 ls st h
set_option maxRecDepth 20000 in
theorem ev_137_1 (d : Nat) (ls st : List ex_V) (h : ex_H) : ex_ev d 137 1 ls st h = ex_xs 2 (ex_ev d 137) (ex_cd d) [.sipush 0, .goto_w 2] ls st h := ex_ev_eq d 137 1 ls st h
set_option maxRecDepth 20000 in
theorem ev_137_2 (d : Nat) (ls st : List ex_V) (h : ex_H) : ex_ev d 137 2 ls st h = ex_xs 2 (ex_ev d 137) (ex_cd d) [.ireturn] ls st h := ex_ev_eq d 137 2 ls st h
set_option maxRecDepth 20000 in
theorem ev_138_0 (d : Nat) (ls st : List ex_V) (h : ex_H) : ex_ev d 138 0 ls st h = ex_xs 2 (ex_ev d 138) (ex_cd d) [.iload 0, .sipush 0, .sipush 23, .invokestatic 137, .ireturn] ls st h := ex_ev_eq d 138 0 ls st h
set_option maxRecDepth 20000 in
theorem ev_139_0 (d : Nat) (ls st : List ex_V) (h : ex_H) : ex_ev d 139 0 ls st h = ex_xs 2 (ex_ev d 139) (ex_cd d) [.iload 0, .sipush 0, .sipush 4, .invokestatic 137, .ireturn] ls st h := ex_ev_eq d 139 0 ls st h
set_option maxRecDepth 20000 in
theorem ev_140_0 (d : Nat) (ls st : List ex_V) (h : ex_H) : ex_ev d 140 0 ls st h = ex_xs 2 (ex_ev d 140) (ex_cd d) [.iload 0, .sipush 0, .sipush 3, .invokestatic 137, .ireturn] ls st h := ex_ev_eq d 140 0 ls st h
set_option maxRecDepth 20000 in
theorem ev_141_0 (d : Nat) (ls st : List ex_V) (h : ex_H) : ex_ev d 141 0 ls st h = ex_xs 0 (ex_ev d 141) (ex_cd d) [.aload 0, .invokedynamic 1, .aload 0, .sipush 277, .newarray .int, .putfield 384, .aload 0, .sipush 4432, .newarray .int, .putfield 385, .aload 0, .sipush 4, .newarray .int, .putfield 388, .aload 0, .sipush 4, .newarray .int, .putfield 389, .aload 0, .sipush 80, .newarray .int, .putfield 390, .aload 0, .sipush 200, .newarray .int, .putfield 391, .aload 0, .sipush 3, .newarray .int, .putfield 392, .aload 0, .sipush 7, .newarray .int, .putfield 393, .aload 0, .sipush 7, .newarray .int, .putfield 394, .aload 0, .sipush 8, .newarray .int, .putfield 396, .aload 0, .sipush 5, .newarray .int, .putfield 397, .aload 0, .sipush 5, .newarray .int, .putfield 398, .aload 0, .sipush 8, .newarray .int, .putfield 401, .aload 0, .sipush 8, .newarray .int, .putfield 402, .aload 0, .sipush 5, .newarray .int, .putfield 403, .aload 0, .sipush 20, .newarray .int, .putfield 404, .aload 0, .getfield 384, .sipush 3, .sipush 1, .iastore, .aload 0, .getfield 384, .sipush 5, .sipush 10, .iastore, .sipush 0, .istore 1, .goto_w 1] ls st h := ex_ev_eq d 141 0 ls st h
set_option maxRecDepth 20000 in
theorem ev_141_1 (d : Nat) (ls st : List ex_V) (h : ex_H) : ex_ev d 141 1 ls st h = ex_xs 0 (ex_ev d 141) (ex_cd d) [.iload 1, .sipush 5, .if_icmp .ge 2, .aload 0, .getfield 384, .sipush 36, .iload 1, .iadd, .sipush 100, .iastore, .iinc 1 1, .goto 1] ls st h := ex_ev_eq d 141 1 ls st h
set_option maxRecDepth 20000 in
theorem ev_141_2 (d : Nat) (ls st : List ex_V) (h : ex_H) : ex_ev d 141 2 ls st h = ex_xs 0 (ex_ev d 141) (ex_cd d) [.return_] ls st h := ex_ev_eq d 141 2 ls st h
set_option maxRecDepth 20000 in
theorem ev_142_0 (d : Nat) (ls st : List ex_V) (h : ex_H) : ex_ev d 142 0 ls st h = ex_xs 1 (ex_ev d 142) (ex_cd d) [.aload 0, .dup, .getfield 387, .sipush 1, .iadd, .putfield 387, .iload 1, .ireturn] ls st h := ex_ev_eq d 142 0 ls st h
set_option maxRecDepth 20000 in
theorem ev_143_0 (d : Nat) (ls st : List ex_V) (h : ex_H) : ex_ev d 143 0 ls st h = ex_xs 2 (ex_ev d 143) (ex_cd d) [.iload 0, .iload 1, .if_icmp .lt 1, .iload 0, .iload 2, .if_icmp .gt 1, .sipush 1, .goto 2] ls st h := ex_ev_eq d 143 0 ls st h
set_option maxRecDepth 20000 in
theorem ev_143_1 (d : Nat) (ls st : List ex_V) (h : ex_H) : ex_ev d 143 1 ls st h = ex_xs 2 (ex_ev d 143) (ex_cd d) [.sipush 0, .goto_w 2] ls st h := ex_ev_eq d 143 1 ls st h
set_option maxRecDepth 20000 in
theorem ev_143_2 (d : Nat) (ls st : List ex_V) (h : ex_H) : ex_ev d 143 2 ls st h = ex_xs 2 (ex_ev d 143) (ex_cd d) [.ireturn] ls st h := ex_ev_eq d 143 2 ls st h
set_option maxRecDepth 20000 in
theorem ev_144_0 (d : Nat) (ls st : List ex_V) (h : ex_H) : ex_ev d 144 0 ls st h = ex_xs 2 (ex_ev d 144) (ex_cd d) [.iload 1, .sipush 0, .aload 0, .getfield 384, .sipush 0, .iaload, .sipush 1, .isub, .invokestatic 143, .ireturn] ls st h := ex_ev_eq d 144 0 ls st h
set_option maxRecDepth 20000 in
theorem ev_145_0 (d : Nat) (ls st : List ex_V) (h : ex_H) : ex_ev d 145 0 ls st h = ex_xs 2 (ex_ev d 145) (ex_cd d) [.iload 1, .sipush 0, .aload 0, .getfield 384, .sipush 1, .iaload, .sipush 1, .isub, .invokestatic 143, .ireturn] ls st h := ex_ev_eq d 145 0 ls st h
set_option maxRecDepth 20000 in
theorem ev_146_0 (d : Nat) (ls st : List ex_V) (h : ex_H) : ex_ev d 146 0 ls st h = ex_xs 2 (ex_ev d 146) (ex_cd d) [.iload 0, .sipush 0, .sipush 23, .invokestatic 143, .ireturn] ls st h := ex_ev_eq d 146 0 ls st h
set_option maxRecDepth 20000 in
theorem ev_147_0 (d : Nat) (ls st : List ex_V) (h : ex_H) : ex_ev d 147 0 ls st h = ex_xs 0 (ex_ev d 147) (ex_cd d) [.aload 0, .getfield 386, .sipush 16, .if_icmp .ne 3, .sipush 0, .istore 1, .goto_w 1] ls st h := ex_ev_eq d 147 0 ls st h
set_option maxRecDepth 20000 in
theorem ev_147_1 (d : Nat) (ls st : List ex_V) (h : ex_H) : ex_ev d 147 1 ls st h = ex_xs 0 (ex_ev d 147) (ex_cd d) [.iload 1, .sipush 4155, .if_icmp .ge 2, .aload 0, .getfield 385, .iload 1, .aload 0, .getfield 385, .iload 1, .sipush 277, .iadd, .iaload, .iastore, .iinc 1 1, .goto 1] ls st h := ex_ev_eq d 147 1 ls st h
set_option maxRecDepth 20000 in
theorem ev_147_2 (d : Nat) (ls st : List ex_V) (h : ex_H) : ex_ev d 147 2 ls st h = ex_xs 0 (ex_ev d 147) (ex_cd d) [.aload 0, .dup, .getfield 386, .sipush 1, .isub, .putfield 386, .goto_w 3] ls st h := ex_ev_eq d 147 2 ls st h
set_option maxRecDepth 20000 in
theorem ev_147_3 (d : Nat) (ls st : List ex_V) (h : ex_H) : ex_ev d 147 3 ls st h = ex_xs 0 (ex_ev d 147) (ex_cd d) [.sipush 0, .istore 1, .goto_w 4] ls st h := ex_ev_eq d 147 3 ls st h
set_option maxRecDepth 20000 in
theorem ev_147_4 (d : Nat) (ls st : List ex_V) (h : ex_H) : ex_ev d 147 4 ls st h = ex_xs 0 (ex_ev d 147) (ex_cd d) [.iload 1, .sipush 277, .if_icmp .ge 5, .aload 0, .getfield 385, .aload 0, .getfield 386, .sipush 277, .imul, .iload 1, .iadd, .aload 0, .getfield 384, .iload 1, .iaload, .iastore, .iinc 1 1, .goto 4] ls st h := ex_ev_eq d 147 4 ls st h
set_option maxRecDepth 20000 in
theorem ev_147_5 (d : Nat) (ls st : List ex_V) (h : ex_H) : ex_ev d 147 5 ls st h = ex_xs 0 (ex_ev d 147) (ex_cd d) [.aload 0, .dup, .getfield 386, .sipush 1, .iadd, .putfield 386, .return_] ls st h := ex_ev_eq d 147 5 ls st h
set_option maxRecDepth 20000 in
theorem ev_148_0 (d : Nat) (ls st : List ex_V) (h : ex_H) : ex_ev d 148 0 ls st h = ex_xs 1 (ex_ev d 148) (ex_cd d) [.aload 0, .getfield 386, .ifCond .ne 1, .aload 0, .sipush (-100006), .invokevirtual 142, .ireturn] ls st h := ex_ev_eq d 148 0 ls st h
set_option maxRecDepth 20000 in
theorem ev_148_1 (d : Nat) (ls st : List ex_V) (h : ex_H) : ex_ev d 148 1 ls st h = ex_xs 1 (ex_ev d 148) (ex_cd d) [.aload 0, .dup, .getfield 386, .sipush 1, .isub, .putfield 386, .sipush 0, .istore 1, .goto_w 2] ls st h := ex_ev_eq d 148 1 ls st h
set_option maxRecDepth 20000 in
theorem ev_148_2 (d : Nat) (ls st : List ex_V) (h : ex_H) : ex_ev d 148 2 ls st h = ex_xs 1 (ex_ev d 148) (ex_cd d) [.iload 1, .sipush 277, .if_icmp .ge 3, .aload 0, .getfield 384, .iload 1, .aload 0, .getfield 385, .aload 0, .getfield 386, .sipush 277, .imul, .iload 1, .iadd, .iaload, .iastore, .iinc 1 1, .goto 2] ls st h := ex_ev_eq d 148 2 ls st h
set_option maxRecDepth 20000 in
theorem ev_148_3 (d : Nat) (ls st : List ex_V) (h : ex_H) : ex_ev d 148 3 ls st h = ex_xs 1 (ex_ev d 148) (ex_cd d) [.aload 0, .getfield 386, .ireturn] ls st h := ex_ev_eq d 148 3 ls st h
set_option maxRecDepth 20000 in
theorem ev_149_0 (d : Nat) (ls st : List ex_V) (h : ex_H) : ex_ev d 149 0 ls st h = ex_xs 1 (ex_ev d 149) (ex_cd d) [.iload 1, .sipush 0, .sipush 3, .invokestatic 143, .ifCond .eq 1, .iload 2, .sipush 1, .sipush 30, .invokestatic 143, .ifCond .eq 1, .iload 3, .sipush 1, .sipush 30, .invokestatic 143, .ifCond .eq 1, .iload 4, .sipush 1, .sipush 99, .invokestatic 143, .ifCond .ne 2, .goto_w 1] ls st h := ex_ev_eq d 149 0 ls st h
set_option maxRecDepth 20000 in
theorem ev_149_1 (d : Nat) (ls st : List ex_V) (h : ex_H) : ex_ev d 149 1 ls st h = ex_xs 1 (ex_ev d 149) (ex_cd d) [.aload 0, .sipush (-100001), .invokevirtual 142, .ireturn] ls st h := ex_ev_eq d 149 1 ls st h
set_option maxRecDepth 20000 in
theorem ev_149_2 (d : Nat) (ls st : List ex_V) (h : ex_H) : ex_ev d 149 2 ls st h = ex_xs 1 (ex_ev d 149) (ex_cd d) [.aload 0, .getfield 384, .sipush 0, .iaload, .istore 5, .iload 5, .sipush 5, .if_icmp .ne 3, .aload 0, .sipush (-100005), .invokevirtual 142, .ireturn] ls st h := ex_ev_eq d 149 2 ls st h
set_option maxRecDepth 20000 in
theorem ev_149_3 (d : Nat) (ls st : List ex_V) (h : ex_H) : ex_ev d 149 3 ls st h = ex_xs 1 (ex_ev d 149) (ex_cd d) [.aload 0, .invokevirtual 147, .aload 0, .getfield 384, .sipush 11, .iload 5, .iadd, .iload 1, .iastore, .aload 0, .getfield 384, .sipush 16, .iload 5, .iadd, .iload 2, .iastore, .aload 0, .getfield 384, .sipush 21, .iload 5, .iadd, .iload 3, .iastore, .aload 0, .getfield 384, .sipush 26, .iload 5, .iadd, .iload 1, .sipush 3, .if_icmp .ne 4, .iload 4, .sipush 2, .idiv, .goto 5] ls st h := ex_ev_eq d 149 3 ls st h
set_option maxRecDepth 20000 in
theorem ev_149_4 (d : Nat) (ls st : List ex_V) (h : ex_H) : ex_ev d 149 4 ls st h = ex_xs 1 (ex_ev d 149) (ex_cd d) [.iload 4, .goto_w 5] ls st h := ex_ev_eq d 149 4 ls st h
set_option maxRecDepth 20000 in
theorem ev_149_5 (d : Nat) (ls st : List ex_V) (h : ex_H) : ex_ev d 149 5 ls st h = ex_xs 1 (ex_ev d 149) (ex_cd d) [.iastore, .aload 0, .getfield 384, .sipush 0, .dup2, .iaload, .sipush 1, .iadd, .iastore, .iload 5, .ireturn] ls st h := ex_ev_eq d 149 5 ls st h
set_option maxRecDepth 20000 in
theorem ev_150_0 (d : Nat) (ls st : List ex_V) (h : ex_H) : ex_ev d 150 0 ls st h = ex_xs 2 (ex_ev d 150) (ex_cd d) [.aload 0, .getfield 384, .sipush 11, .iload 1, .iadd, .iaload, .sipush 1, .if_icmp .eq 1, .aload 0, .getfield 384, .sipush 11, .iload 1, .iadd, .iaload, .sipush 3, .if_icmp .ne 2, .goto_w 1] ls st h := ex_ev_eq d 150 0 ls st h
set_option maxRecDepth 20000 in
theorem ev_150_1 (d : Nat) (ls st : List ex_V) (h : ex_H) : ex_ev d 150 1 ls st h = ex_xs 2 (ex_ev d 150) (ex_cd d) [.sipush 1, .goto 3] ls st h := ex_ev_eq d 150 1 ls st h
set_option maxRecDepth 20000 in
theorem ev_150_2 (d : Nat) (ls st : List ex_V) (h : ex_H) : ex_ev d 150 2 ls st h = ex_xs 2 (ex_ev d 150) (ex_cd d) [.sipush 0, .goto_w 3] ls st h := ex_ev_eq d 150 2 ls st h
set_option maxRecDepth 20000 in
theorem ev_150_3 (d : Nat) (ls st : List ex_V) (h : ex_H) : ex_ev d 150 3 ls st h = ex_xs 2 (ex_ev d 150) (ex_cd d) [.ireturn] ls st h := ex_ev_eq d 150 3 ls st h
set_option maxRecDepth 20000 in
theorem ev_151_0 (d : Nat) (ls st : List ex_V) (h : ex_H) : ex_ev d 151 0 ls st h = ex_xs 1 (ex_ev d 151) (ex_cd d) [.aload 0, .iload 1, .invokevirtual 144, .ifCond .eq 1, .iload 2, .sipush 0, .sipush 3, .invokestatic 143, .ifCond .ne 2, .goto_w 1] ls st h := ex_ev_eq d 151 0 ls st h
set_option maxRecDepth 20000 in
theorem ev_151_1 (d : Nat) (ls st : List ex_V) (h : ex_H) : ex_ev d 151 1 ls st h = ex_xs 1 (ex_ev d 151) (ex_cd d) [.aload 0, .sipush (-100001), .invokevirtual 142, .ireturn] ls st h := ex_ev_eq d 151 1 ls st h
set_option maxRecDepth 20000 in
theorem ev_151_2 (d : Nat) (ls st : List ex_V) (h : ex_H) : ex_ev d 151 2 ls st h = ex_xs 1 (ex_ev d 151) (ex_cd d) [.aload 0, .getfield 384, .sipush 11, .iload 1, .iadd, .iaload, .istore 3, .iload 2, .ifCond .eq 3, .iload 3, .iload 2, .if_icmp .eq 3, .iload 2, .sipush 1, .if_icmp .ne 4, .iload 3, .sipush 3, .if_icmp .ne 4, .goto_w 3] ls st h := ex_ev_eq d 151 2 ls st h
set_option maxRecDepth 20000 in
theorem ev_151_3 (d : Nat) (ls st : List ex_V) (h : ex_H) : ex_ev d 151 3 ls st h = ex_xs 1 (ex_ev d 151) (ex_cd d) [.iload 1, .goto 5] ls st h := ex_ev_eq d 151 3 ls st h
set_option maxRecDepth 20000 in
theorem ev_151_4 (d : Nat) (ls st : List ex_V) (h : ex_H) : ex_ev d 151 4 ls st h = ex_xs 1 (ex_ev d 151) (ex_cd d) [.aload 0, .sipush (-100004), .invokevirtual 142, .goto_w 5] ls st h := ex_ev_eq d 151 4 ls st h
set_option maxRecDepth 20000 in
theorem ev_151_5 (d : Nat) (ls st : List ex_V) (h : ex_H) : ex_ev d 151 5 ls st h = ex_xs 1 (ex_ev d 151) (ex_cd d) [.ireturn] ls st h := ex_ev_eq d 151 5 ls st h
set_option maxRecDepth 20000 in
theorem ev_152_0 (d : Nat) (ls st : List ex_V) (h : ex_H) : ex_ev d 152 0 ls st h = ex_xs 1 (ex_ev d 152) (ex_cd d) [.aload 0, .getfield 384, .sipush 51, .sipush 8, .iload 1, .imul, .iadd, .iload 2, .iadd, .iaload, .ireturn] ls st h := ex_ev_eq d 152 0 ls st h
set_option maxRecDepth 20000 in
theorem ev_153_0 (d : Nat) (ls st : List ex_V) (h : ex_H) : ex_ev d 153 0 ls st h = ex_xs 1 (ex_ev d 153) (ex_cd d) [.aload 0, .getfield 384, .sipush 16, .iload 1, .iadd, .iaload, .istore 2, .sipush 0, .istore 3, .goto_w 1] ls st h := ex_ev_eq d 153 0 ls st h
set_option maxRecDepth 20000 in
theorem ev_153_1 (d : Nat) (ls st : List ex_V) (h : ex_H) : ex_ev d 153 1 ls st h = ex_xs 1 (ex_ev d 153) (ex_cd d) [.iload 3, .aload 0, .getfield 384, .sipush 46, .iload 1, .iadd, .iaload, .if_icmp .ge 2, .iload 2, .aload 0, .getfield 384, .sipush 91, .aload 0, .iload 1, .iload 3, .invokevirtual 152, .iadd, .iaload, .isub, .istore 2, .iinc 3 1, .goto 1] ls st h := ex_ev_eq d 153 1 ls st h
set_option maxRecDepth 20000 in
theorem ev_153_2 (d : Nat) (ls st : List ex_V) (h : ex_H) : ex_ev d 153 2 ls st h = ex_xs 1 (ex_ev d 153) (ex_cd d) [.iload 2, .ireturn] ls st h := ex_ev_eq d 153 2 ls st h
set_option maxRecDepth 20000 in
theorem ev_154_0 (d : Nat) (ls st : List ex_V) (h : ex_H) : ex_ev d 154 0 ls st h = ex_xs 1 (ex_ev d 154) (ex_cd d) [.aload 0, .iload 1, .invokevirtual 144, .ifCond .eq 1, .iload 2, .sipush 0, .sipush 7, .invokestatic 143, .ifCond .ne 2, .goto_w 1] ls st h := ex_ev_eq d 154 0 ls st h
set_option maxRecDepth 20000 in
theorem ev_154_1 (d : Nat) (ls st : List ex_V) (h : ex_H) : ex_ev d 154 1 ls st h = ex_xs 1 (ex_ev d 154) (ex_cd d) [.aload 0, .sipush (-100001), .invokevirtual 142, .ireturn] ls st h := ex_ev_eq d 154 1 ls st h
set_option maxRecDepth 20000 in
theorem ev_154_2 (d : Nat) (ls st : List ex_V) (h : ex_H) : ex_ev d 154 2 ls st h = ex_xs 1 (ex_ev d 154) (ex_cd d) [.iload 2, .tableswitch 7 4 7 #[3, 4, 5, 6]] ls st h := ex_ev_eq d 154 2 ls st h
set_option maxRecDepth 20000 in
theorem ev_154_3 (d : Nat) (ls st : List ex_V) (h : ex_H) : ex_ev d 154 3 ls st h = ex_xs 1 (ex_ev d 154) (ex_cd d) [.aload 0, .getfield 384, .sipush 46, .iload 1, .iadd, .iaload, .ireturn] ls st h := ex_ev_eq d 154 3 ls st h
set_option maxRecDepth 20000 in
theorem ev_154_4 (d : Nat) (ls st : List ex_V) (h : ex_H) : ex_ev d 154 4 ls st h = ex_xs 1 (ex_ev d 154) (ex_cd d) [.aload 0, .iload 1, .invokevirtual 153, .ireturn] ls st h := ex_ev_eq d 154 4 ls st h
set_option maxRecDepth 20000 in
theorem ev_154_5 (d : Nat) (ls st : List ex_V) (h : ex_H) : ex_ev d 154 5 ls st h = ex_xs 1 (ex_ev d 154) (ex_cd d) [.aload 0, .getfield 384, .sipush 41, .iload 1, .iadd, .iaload, .ireturn] ls st h := ex_ev_eq d 154 5 ls st h
set_option maxRecDepth 20000 in
theorem ev_154_6 (d : Nat) (ls st : List ex_V) (h : ex_H) : ex_ev d 154 6 ls st h = ex_xs 1 (ex_ev d 154) (ex_cd d) [.aload 0, .getfield 384, .sipush 31, .iload 1, .iadd, .iaload, .ireturn] ls st h := ex_ev_eq d 154 6 ls st h
set_option maxRecDepth 20000 in
theorem ev_154_7 (d : Nat) (ls st : List ex_V) (h : ex_H) : ex_ev d 154 7 ls st h = ex_xs 1 (ex_ev d 154) (ex_cd d) [.aload 0, .getfield 384, .sipush 11, .sipush 5, .iload 2, .imul, .iadd, .iload 1, .iadd, .iaload, .ireturn] ls st h := ex_ev_eq d 154 7 ls st h
set_option maxRecDepth 20000 in
theorem ev_155_0 (d : Nat) (ls st : List ex_V) (h : ex_H) : ex_ev d 155 0 ls st h = ex_xs 1 (ex_ev d 155) (ex_cd d) [.aload 0, .iload 1, .invokevirtual 144, .ifCond .ne 1, .aload 0, .sipush (-100001), .invokevirtual 142, .ireturn] ls st h := ex_ev_eq d 155 0 ls st h
set_option maxRecDepth 20000 in
theorem ev_155_1 (d : Nat) (ls st : List ex_V) (h : ex_H) : ex_ev d 155 1 ls st h = ex_xs 1 (ex_ev d 155) (ex_cd d) [.aload 0, .iload 1, .invokevirtual 150, .ifCond .ne 2, .aload 0, .sipush (-100004), .invokevirtual 142, .ireturn] ls st h := ex_ev_eq d 155 1 ls st h
set_option maxRecDepth 20000 in
theorem ev_155_2 (d : Nat) (ls st : List ex_V) (h : ex_H) : ex_ev d 155 2 ls st h = ex_xs 1 (ex_ev d 155) (ex_cd d) [.aload 0, .invokevirtual 147, .aload 0, .getfield 384, .sipush 31, .iload 1, .iadd, .iaload, .istore 3, .aload 0, .getfield 384, .sipush 31, .iload 1, .iadd, .iload 2, .ifCond .eq 3, .sipush 1, .goto 4] ls st h := ex_ev_eq d 155 2 ls st h
set_option maxRecDepth 20000 in
theorem ev_155_3 (d : Nat) (ls st : List ex_V) (h : ex_H) : ex_ev d 155 3 ls st h = ex_xs 1 (ex_ev d 155) (ex_cd d) [.sipush 0, .goto_w 4] ls st h := ex_ev_eq d 155 3 ls st h
set_option maxRecDepth 20000 in
theorem ev_155_4 (d : Nat) (ls st : List ex_V) (h : ex_H) : ex_ev d 155 4 ls st h = ex_xs 1 (ex_ev d 155) (ex_cd d) [.iastore, .iload 3, .aload 0, .getfield 384, .sipush 31, .iload 1, .iadd, .iaload, .if_icmp .ne 5, .sipush 0, .goto 6] ls st h := ex_ev_eq d 155 4 ls st h
set_option maxRecDepth 20000 in
theorem ev_155_5 (d : Nat) (ls st : List ex_V) (h : ex_H) : ex_ev d 155 5 ls st h = ex_xs 1 (ex_ev d 155) (ex_cd d) [.sipush 1, .goto_w 6] ls st h := ex_ev_eq d 155 5 ls st h
set_option maxRecDepth 20000 in
theorem ev_155_6 (d : Nat) (ls st : List ex_V) (h : ex_H) : ex_ev d 155 6 ls st h = ex_xs 1 (ex_ev d 155) (ex_cd d) [.ireturn] ls st h := ex_ev_eq d 155 6 ls st h
set_option maxRecDepth 20000 in
theorem ev_156_0 (d : Nat) (ls st : List ex_V) (h : ex_H) : ex_ev d 156 0 ls st h = ex_xs 1 (ex_ev d 156) (ex_cd d) [.iload 1, .sipush 1, .sipush 9, .invokestatic 143, .ifCond .eq 1, .iload 2, .sipush 1, .sipush 30, .invokestatic 143, .ifCond .eq 1, .iload 3, .sipush 1, .sipush 99, .invokestatic 143, .ifCond .eq 1, .sipush 1, .goto 2] ls st h := ex_ev_eq d 156 0 ls st h
set_option maxRecDepth 20000 in
theorem ev_156_1 (d : Nat) (ls st : List ex_V) (h : ex_H) : ex_ev d 156 1 ls st h = ex_xs 1 (ex_ev d 156) (ex_cd d) [.sipush 0, .goto_w 2] ls st h := ex_ev_eq d 156 1 ls st h
set_option maxRecDepth 20000 in
theorem ev_156_2 (d : Nat) (ls st : List ex_V) (h : ex_H) : ex_ev d 156 2 ls st h = ex_xs 1 (ex_ev d 156) (ex_cd d) [.istore 7, .iload 7, .ifCond .eq 3, .iload 4, .invokestatic 146, .ifCond .eq 3, .iload 5, .sipush 0, .sipush 9, .invokestatic 143, .ifCond .eq 3, .iload 6, .sipush 0, .sipush 99, .invokestatic 143, .ifCond .ne 4, .goto_w 3] ls st h := ex_ev_eq d 156 2 ls st h
set_option maxRecDepth 20000 in
theorem ev_156_3 (d : Nat) (ls st : List ex_V) (h : ex_H) : ex_ev d 156 3 ls st h = ex_xs 1 (ex_ev d 156) (ex_cd d) [.aload 0, .sipush (-100001), .invokevirtual 142, .ireturn] ls st h := ex_ev_eq d 156 3 ls st h
set_option maxRecDepth 20000 in
theorem ev_156_4 (d : Nat) (ls st : List ex_V) (h : ex_H) : ex_ev d 156 4 ls st h = ex_xs 1 (ex_ev d 156) (ex_cd d) [.aload 0, .getfield 384, .sipush 1, .iaload, .istore 8, .iload 8, .sipush 8, .if_icmp .ne 5, .aload 0, .sipush (-100005), .invokevirtual 142, .ireturn] ls st h := ex_ev_eq d 156 4 ls st h
set_option maxRecDepth 20000 in
theorem ev_156_5 (d : Nat) (ls st : List ex_V) (h : ex_H) : ex_ev d 156 5 ls st h = ex_xs 1 (ex_ev d 156) (ex_cd d) [.aload 0, .invokevirtual 147, .aload 0, .getfield 384, .sipush 91, .iload 8, .iadd, .iload 1, .iastore, .aload 0, .getfield 384, .sipush 99, .iload 8, .iadd, .iload 2, .iastore, .aload 0, .getfield 384, .sipush 107, .iload 8, .iadd, .iload 3, .iastore, .aload 0, .getfield 384, .sipush 115, .iload 8, .iadd, .iload 4, .iastore, .aload 0, .getfield 384, .sipush 123, .iload 8, .iadd, .iload 5, .iastore, .aload 0, .getfield 384, .sipush 131, .iload 8, .iadd, .iload 6, .iastore, .aload 0, .getfield 384, .sipush 1, .dup2, .iaload, .sipush 1, .iadd, .iastore, .iload 8, .ireturn] ls st h := ex_ev_eq d 156 5 ls st h
set_option maxRecDepth 20000 in
theorem ev_157_0 (d : Nat) (ls st : List ex_V) (h : ex_H) : ex_ev d 157 0 ls st h = ex_xs 1 (ex_ev d 157) (ex_cd d) [.sipush 0, .istore 2, .goto_w 1] ls st h := ex_ev_eq d 157 0 ls st h
set_option maxRecDepth 20000 in
theorem ev_157_1 (d : Nat) (ls st : List ex_V) (h : ex_H) : ex_ev d 157 1 ls st h = ex_xs 1 (ex_ev d 157) (ex_cd d) [.iload 2, .aload 0, .getfield 384, .sipush 0, .iaload, .if_icmp .ge 5, .sipush 0, .istore 3, .goto_w 2] ls st h := ex_ev_eq d 157 1 ls st h
set_option maxRecDepth 20000 in
theorem ev_157_2 (d : Nat) (ls st : List ex_V) (h : ex_H) : ex_ev d 157 2 ls st h = ex_xs 1 (ex_ev d 157) (ex_cd d) [.iload 3, .aload 0, .getfield 384, .sipush 46, .iload 2, .iadd, .iaload, .if_icmp .ge 4, .aload 0, .iload 2, .iload 3, .invokevirtual 152, .iload 1, .if_icmp .ne 3, .sipush 8, .iload 2, .imul, .iload 3, .iadd, .ireturn] ls st h := ex_ev_eq d 157 2 ls st h
set_option maxRecDepth 20000 in
theorem ev_157_3 (d : Nat) (ls st : List ex_V) (h : ex_H) : ex_ev d 157 3 ls st h = ex_xs 1 (ex_ev d 157) (ex_cd d) [.iinc 3 1, .goto 2] ls st h := ex_ev_eq d 157 3 ls st h
set_option maxRecDepth 20000 in
theorem ev_157_4 (d : Nat) (ls st : List ex_V) (h : ex_H) : ex_ev d 157 4 ls st h = ex_xs 1 (ex_ev d 157) (ex_cd d) [.iinc 2 1, .goto 1] ls st h := ex_ev_eq d 157 4 ls st h
set_option maxRecDepth 20000 in
theorem ev_157_5 (d : Nat) (ls st : List ex_V) (h : ex_H) : ex_ev d 157 5 ls st h = ex_xs 1 (ex_ev d 157) (ex_cd d) [.sipush (-1), .ireturn] ls st h := ex_ev_eq d 157 5 ls st h
set_option maxRecDepth 20000 in
theorem ev_158_0 (d : Nat) (ls st : List ex_V) (h : ex_H) : ex_ev d 158 0 ls st h = ex_xs 1 (ex_ev d 158) (ex_cd d) [.aload 0, .getfield 384, .sipush 46, .iload 1, .sipush 8, .idiv, .iadd, .iaload, .sipush 1, .isub, .iload 1, .sipush 8, .irem, .isub, .ireturn] ls st h := ex_ev_eq d 158 0 ls st h
set_option maxRecDepth 20000 in
theorem ev_159_0 (d : Nat) (ls st : List ex_V) (h : ex_H) : ex_ev d 159 0 ls st h = ex_xs 1 (ex_ev d 159) (ex_cd d) [.aload 0, .iload 1, .invokevirtual 145, .ifCond .eq 1, .iload 2, .sipush 0, .sipush 7, .invokestatic 143, .ifCond .ne 2, .goto_w 1] ls st h := ex_ev_eq d 159 0 ls st h
set_option maxRecDepth 20000 in
theorem ev_159_1 (d : Nat) (ls st : List ex_V) (h : ex_H) : ex_ev d 159 1 ls st h = ex_xs 1 (ex_ev d 159) (ex_cd d) [.aload 0, .sipush (-100001), .invokevirtual 142, .ireturn] ls st h := ex_ev_eq d 159 1 ls st h
set_option maxRecDepth 20000 in
theorem ev_159_2 (d : Nat) (ls st : List ex_V) (h : ex_H) : ex_ev d 159 2 ls st h = ex_xs 1 (ex_ev d 159) (ex_cd d) [.aload 0, .iload 1, .invokevirtual 157, .istore 3, .iload 2, .lookupswitch 9 #[(6, 3), (7, 6)]] ls st h := ex_ev_eq d 159 2 ls st h
set_option maxRecDepth 20000 in
theorem ev_159_3 (d : Nat) (ls st : List ex_V) (h : ex_H) : ex_ev d 159 3 ls st h = ex_xs 1 (ex_ev d 159) (ex_cd d) [.iload 3, .ifCond .ge 4, .sipush (-1), .goto 5] ls st h := ex_ev_eq d 159 3 ls st h
set_option maxRecDepth 20000 in
theorem ev_159_4 (d : Nat) (ls st : List ex_V) (h : ex_H) : ex_ev d 159 4 ls st h = ex_xs 1 (ex_ev d 159) (ex_cd d) [.iload 3, .sipush 8, .idiv, .goto_w 5] ls st h := ex_ev_eq d 159 4 ls st h
set_option maxRecDepth 20000 in
theorem ev_159_5 (d : Nat) (ls st : List ex_V) (h : ex_H) : ex_ev d 159 5 ls st h = ex_xs 1 (ex_ev d 159) (ex_cd d) [.ireturn] ls st h := ex_ev_eq d 159 5 ls st h
set_option maxRecDepth 20000 in
theorem ev_159_6 (d : Nat) (ls st : List ex_V) (h : ex_H) : ex_ev d 159 6 ls st h = ex_xs 1 (ex_ev d 159) (ex_cd d) [.iload 3, .ifCond .ge 7, .sipush 0, .goto 8] ls st h := ex_ev_eq d 159 6 ls st h
set_option maxRecDepth 20000 in
theorem ev_159_7 (d : Nat) (ls st : List ex_V) (h : ex_H) : ex_ev d 159 7 ls st h = ex_xs 1 (ex_ev d 159) (ex_cd d) [.aload 0, .iload 3, .invokevirtual 158, .goto_w 8] ls st h := ex_ev_eq d 159 7 ls st h
set_option maxRecDepth 20000 in
theorem ev_159_8 (d : Nat) (ls st : List ex_V) (h : ex_H) : ex_ev d 159 8 ls st h = ex_xs 1 (ex_ev d 159) (ex_cd d) [.ireturn] ls st h := ex_ev_eq d 159 8 ls st h
set_option maxRecDepth 20000 in
theorem ev_159_9 (d : Nat) (ls st : List ex_V) (h : ex_H) : ex_ev d 159 9 ls st h = ex_xs 1 (ex_ev d 159) (ex_cd d) [.aload 0, .getfield 384, .sipush 91, .sipush 8, .iload 2, .imul, .iadd, .iload 1, .iadd, .iaload, .ireturn] ls st h := ex_ev_eq d 159 9 ls st h
set_option maxRecDepth 20000 in
theorem ev_160_0 (d : Nat) (ls st : List ex_V) (h : ex_H) : ex_ev d 160 0 ls st h = ex_xs 1 (ex_ev d 160) (ex_cd d) [.aload 0, .iload 1, .invokevirtual 145, .ifCond .eq 4, .iload 2, .sipush 0, .sipush 2, .invokestatic 143, .ifCond .eq 4, .iload 3, .sipush 0, .iload 2, .ifCond .ne 1, .sipush 23, .goto 3] ls st h := ex_ev_eq d 160 0 ls st h
set_option maxRecDepth 20000 in
theorem ev_160_1 (d : Nat) (ls st : List ex_V) (h : ex_H) : ex_ev d 160 1 ls st h = ex_xs 1 (ex_ev d 160) (ex_cd d) [.iload 2, .sipush 1, .if_icmp .ne 2, .sipush 9, .goto 3] ls st h := ex_ev_eq d 160 1 ls st h
set_option maxRecDepth 20000 in
theorem ev_160_2 (d : Nat) (ls st : List ex_V) (h : ex_H) : ex_ev d 160 2 ls st h = ex_xs 1 (ex_ev d 160) (ex_cd d) [.sipush 99, .goto_w 3] ls st h := ex_ev_eq d 160 2 ls st h
set_option maxRecDepth 20000 in
theorem ev_160_3 (d : Nat) (ls st : List ex_V) (h : ex_H) : ex_ev d 160 3 ls st h = ex_xs 1 (ex_ev d 160) (ex_cd d) [.invokestatic 143, .ifCond .ne 5, .goto_w 4] ls st h := ex_ev_eq d 160 3 ls st h
set_option maxRecDepth 20000 in
theorem ev_160_4 (d : Nat) (ls st : List ex_V) (h : ex_H) : ex_ev d 160 4 ls st h = ex_xs 1 (ex_ev d 160) (ex_cd d) [.aload 0, .sipush (-100001), .invokevirtual 142, .ireturn] ls st h := ex_ev_eq d 160 4 ls st h
set_option maxRecDepth 20000 in
theorem ev_160_5 (d : Nat) (ls st : List ex_V) (h : ex_H) : ex_ev d 160 5 ls st h = ex_xs 1 (ex_ev d 160) (ex_cd d) [.aload 0, .invokevirtual 147, .aload 0, .getfield 384, .sipush 115, .sipush 8, .iload 2, .imul, .iadd, .iload 1, .iadd, .iaload, .istore 4, .aload 0, .getfield 384, .sipush 115, .sipush 8, .iload 2, .imul, .iadd, .iload 1, .iadd, .iload 3, .iastore, .iload 4, .ireturn] ls st h := ex_ev_eq d 160 5 ls st h
set_option maxRecDepth 20000 in
theorem ev_161_0 (d : Nat) (ls st : List ex_V) (h : ex_H) : ex_ev d 161 0 ls st h = ex_xs 1 (ex_ev d 161) (ex_cd d) [.aload 0, .iload 1, .invokevirtual 144, .ifCond .ne 1, .aload 0, .sipush (-100001), .invokevirtual 142, .ireturn] ls st h := ex_ev_eq d 161 0 ls st h
set_option maxRecDepth 20000 in
theorem ev_161_1 (d : Nat) (ls st : List ex_V) (h : ex_H) : ex_ev d 161 1 ls st h = ex_xs 1 (ex_ev d 161) (ex_cd d) [.iload 2, .sipush 0, .aload 0, .getfield 384, .sipush 46, .iload 1, .iadd, .iaload, .sipush 1, .isub, .invokestatic 143, .ifCond .eq 2, .aload 0, .iload 1, .iload 2, .invokevirtual 152, .goto 3] ls st h := ex_ev_eq d 161 1 ls st h
set_option maxRecDepth 20000 in
theorem ev_161_2 (d : Nat) (ls st : List ex_V) (h : ex_H) : ex_ev d 161 2 ls st h = ex_xs 1 (ex_ev d 161) (ex_cd d) [.aload 0, .sipush (-100006), .invokevirtual 142, .goto_w 3] ls st h := ex_ev_eq d 161 2 ls st h
set_option maxRecDepth 20000 in
theorem ev_161_3 (d : Nat) (ls st : List ex_V) (h : ex_H) : ex_ev d 161 3 ls st h = ex_xs 1 (ex_ev d 161) (ex_cd d) [.ireturn] ls st h := ex_ev_eq d 161 3 ls st h
set_option maxRecDepth 20000 in
theorem ev_162_0 (d : Nat) (ls st : List ex_V) (h : ex_H) : ex_ev d 162 0 ls st h = ex_xs 2 (ex_ev d 162) (ex_cd d) [.aload 0, .getfield 384, .sipush 99, .iload 1, .iadd, .iaload, .aload 0, .getfield 384, .sipush 21, .iload 2, .iadd, .iaload, .if_icmp .gt 1, .aload 0, .getfield 384, .sipush 107, .iload 1, .iadd, .iaload, .aload 0, .getfield 384, .sipush 26, .iload 2, .iadd, .iaload, .if_icmp .gt 1, .sipush 1, .goto 2] ls st h := ex_ev_eq d 162 0 ls st h
set_option maxRecDepth 20000 in
theorem ev_162_1 (d : Nat) (ls st : List ex_V) (h : ex_H) : ex_ev d 162 1 ls st h = ex_xs 2 (ex_ev d 162) (ex_cd d) [.sipush 0, .goto_w 2] ls st h := ex_ev_eq d 162 1 ls st h
set_option maxRecDepth 20000 in
theorem ev_162_2 (d : Nat) (ls st : List ex_V) (h : ex_H) : ex_ev d 162 2 ls st h = ex_xs 2 (ex_ev d 162) (ex_cd d) [.ireturn] ls st h := ex_ev_eq d 162 2 ls st h
set_option maxRecDepth 20000 in
theorem ev_163_0 (d : Nat) (ls st : List ex_V) (h : ex_H) : ex_ev d 163 0 ls st h = ex_xs 1 (ex_ev d 163) (ex_cd d) [.aload 0, .iload 1, .invokevirtual 145, .ifCond .eq 1, .aload 0, .iload 2, .invokevirtual 144, .ifCond .ne 2, .goto_w 1] ls st h := ex_ev_eq d 163 0 ls st h
set_option maxRecDepth 20000 in
theorem ev_163_1 (d : Nat) (ls st : List ex_V) (h : ex_H) : ex_ev d 163 1 ls st h = ex_xs 1 (ex_ev d 163) (ex_cd d) [.aload 0, .sipush (-100001), .invokevirtual 142, .goto 4] ls st h := ex_ev_eq d 163 1 ls st h
set_option maxRecDepth 20000 in
theorem ev_163_2 (d : Nat) (ls st : List ex_V) (h : ex_H) : ex_ev d 163 2 ls st h = ex_xs 1 (ex_ev d 163) (ex_cd d) [.aload 0, .iload 1, .iload 2, .invokevirtual 162, .ifCond .eq 3, .sipush 1, .goto 4] ls st h := ex_ev_eq d 163 2 ls st h
set_option maxRecDepth 20000 in
theorem ev_163_3 (d : Nat) (ls st : List ex_V) (h : ex_H) : ex_ev d 163 3 ls st h = ex_xs 1 (ex_ev d 163) (ex_cd d) [.sipush 0, .goto_w 4] ls st h := ex_ev_eq d 163 3 ls st h
set_option maxRecDepth 20000 in
theorem ev_163_4 (d : Nat) (ls st : List ex_V) (h : ex_H) : ex_ev d 163 4 ls st h = ex_xs 1 (ex_ev d 163) (ex_cd d) [.ireturn] ls st h := ex_ev_eq d 163 4 ls st h
set_option maxRecDepth 20000 in
theorem ev_164_0 (d : Nat) (ls st : List ex_V) (h : ex_H) : ex_ev d 164 0 ls st h = ex_xs 2 (ex_ev d 164) (ex_cd d) [.aload 0, .getfield 384, .sipush 31, .iload 1, .iadd, .iaload, .sipush 1, .if_icmp .eq 1, .aload 0, .getfield 384, .sipush 41, .iload 1, .iadd, .iaload, .sipush 12, .if_icmp .ne 2, .goto_w 1] ls st h := ex_ev_eq d 164 0 ls st h
set_option maxRecDepth 20000 in
theorem ev_164_1 (d : Nat) (ls st : List ex_V) (h : ex_H) : ex_ev d 164 1 ls st h = ex_xs 2 (ex_ev d 164) (ex_cd d) [.sipush 1, .goto 3] ls st h := ex_ev_eq d 164 1 ls st h
set_option maxRecDepth 20000 in
theorem ev_164_2 (d : Nat) (ls st : List ex_V) (h : ex_H) : ex_ev d 164 2 ls st h = ex_xs 2 (ex_ev d 164) (ex_cd d) [.sipush 0, .goto_w 3] ls st h := ex_ev_eq d 164 2 ls st h
set_option maxRecDepth 20000 in
theorem ev_164_3 (d : Nat) (ls st : List ex_V) (h : ex_H) : ex_ev d 164 3 ls st h = ex_xs 2 (ex_ev d 164) (ex_cd d) [.ireturn] ls st h := ex_ev_eq d 164 3 ls st h
set_option maxRecDepth 20000 in
theorem ev_165_0 (d : Nat) (ls st : List ex_V) (h : ex_H) : ex_ev d 165 0 ls st h = ex_xs 2 (ex_ev d 165) (ex_cd d) [.aload 0, .iload 1, .invokevirtual 157, .istore 2, .iload 2, .ifCond .lt 1, .aload 0, .iload 2, .invokevirtual 158, .ifCond .ne 1, .aload 0, .iload 2, .sipush 8, .idiv, .invokevirtual 164, .ifCond .ne 1, .sipush 1, .goto 2] ls st h := ex_ev_eq d 165 0 ls st h
set_option maxRecDepth 20000 in
theorem ev_165_1 (d : Nat) (ls st : List ex_V) (h : ex_H) : ex_ev d 165 1 ls st h = ex_xs 2 (ex_ev d 165) (ex_cd d) [.sipush 0, .goto_w 2] ls st h := ex_ev_eq d 165 1 ls st h
set_option maxRecDepth 20000 in
theorem ev_165_2 (d : Nat) (ls st : List ex_V) (h : ex_H) : ex_ev d 165 2 ls st h = ex_xs 2 (ex_ev d 165) (ex_cd d) [.ireturn] ls st h := ex_ev_eq d 165 2 ls st h
set_option maxRecDepth 20000 in
theorem ev_166_0 (d : Nat) (ls st : List ex_V) (h : ex_H) : ex_ev d 166 0 ls st h = ex_xs 0 (ex_ev d 166) (ex_cd d) [.aload 0, .getfield 384, .sipush 41, .iload 1, .iadd, .dup2, .iaload, .aload 0, .iload 1, .invokevirtual 150, .ifCond .eq 1, .sipush 1, .goto 2] ls st h := ex_ev_eq d 166 0 ls st h
set_option maxRecDepth 20000 in
theorem ev_166_1 (d : Nat) (ls st : List ex_V) (h : ex_H) : ex_ev d 166 1 ls st h = ex_xs 0 (ex_ev d 166) (ex_cd d) [.sipush 0, .goto_w 2] ls st h := ex_ev_eq d 166 1 ls st h
set_option maxRecDepth 20000 in
theorem ev_166_2 (d : Nat) (ls st : List ex_V) (h : ex_H) : ex_ev d 166 2 ls st h = ex_xs 0 (ex_ev d 166) (ex_cd d) [.iadd, .iastore, .return_] ls st h := ex_ev_eq d 166 2 ls st h
set_option maxRecDepth 20000 in
theorem ev_167_0 (d : Nat) (ls st : List ex_V) (h : ex_H) : ex_ev d 167 0 ls st h = ex_xs 0 (ex_ev d 167) (ex_cd d) [.aload 0, .getfield 384, .sipush 51, .sipush 8, .iload 2, .imul, .iadd, .aload 0, .getfield 384, .sipush 46, .iload 2, .iadd, .iaload, .iadd, .iload 1, .iastore, .aload 0, .getfield 384, .sipush 46, .iload 2, .iadd, .dup2, .iaload, .sipush 1, .iadd, .iastore, .aload 0, .iload 2, .invokevirtual 166, .return_] ls st h := ex_ev_eq d 167 0 ls st h
set_option maxRecDepth 20000 in
theorem ev_168_0 (d : Nat) (ls st : List ex_V) (h : ex_H) : ex_ev d 168 0 ls st h = ex_xs 0 (ex_ev d 168) (ex_cd d) [.aload 0, .getfield 384, .sipush 46, .iload 1, .iadd, .dup2, .iaload, .sipush 1, .isub, .iastore, .aload 0, .iload 1, .invokevirtual 166, .return_] ls st h := ex_ev_eq d 168 0 ls st h
set_option maxRecDepth 20000 in
theorem ev_169_0 (d : Nat) (ls st : List ex_V) (h : ex_H) : ex_ev d 169 0 ls st h = ex_xs 1 (ex_ev d 169) (ex_cd d) [.aload 0, .iload 1, .invokevirtual 145, .ifCond .eq 1, .aload 0, .iload 2, .invokevirtual 144, .ifCond .ne 2, .goto_w 1] ls st h := ex_ev_eq d 169 0 ls st h
set_option maxRecDepth 20000 in
theorem ev_169_1 (d : Nat) (ls st : List ex_V) (h : ex_H) : ex_ev d 169 1 ls st h = ex_xs 1 (ex_ev d 169) (ex_cd d) [.aload 0, .sipush (-100001), .invokevirtual 142, .ireturn] ls st h := ex_ev_eq d 169 1 ls st h
set_option maxRecDepth 20000 in
theorem ev_169_2 (d : Nat) (ls st : List ex_V) (h : ex_H) : ex_ev d 169 2 ls st h = ex_xs 1 (ex_ev d 169) (ex_cd d) [.aload 0, .iload 1, .invokevirtual 157, .ifCond .lt 3, .aload 0, .sipush (-100007), .invokevirtual 142, .ireturn] ls st h := ex_ev_eq d 169 2 ls st h
set_option maxRecDepth 20000 in
theorem ev_169_3 (d : Nat) (ls st : List ex_V) (h : ex_H) : ex_ev d 169 3 ls st h = ex_xs 1 (ex_ev d 169) (ex_cd d) [.aload 0, .iload 1, .iload 2, .invokevirtual 162, .ifCond .ne 4, .aload 0, .sipush (-100004), .invokevirtual 142, .ireturn] ls st h := ex_ev_eq d 169 3 ls st h
set_option maxRecDepth 20000 in
theorem ev_169_4 (d : Nat) (ls st : List ex_V) (h : ex_H) : ex_ev d 169 4 ls st h = ex_xs 1 (ex_ev d 169) (ex_cd d) [.aload 0, .iload 2, .invokevirtual 164, .ifCond .eq 5, .aload 0, .sipush (-100008), .invokevirtual 142, .ireturn] ls st h := ex_ev_eq d 169 4 ls st h
set_option maxRecDepth 20000 in
theorem ev_169_5 (d : Nat) (ls st : List ex_V) (h : ex_H) : ex_ev d 169 5 ls st h = ex_xs 1 (ex_ev d 169) (ex_cd d) [.aload 0, .iload 2, .invokevirtual 153, .aload 0, .getfield 384, .sipush 91, .iload 1, .iadd, .iaload, .if_icmp .ge 6, .aload 0, .sipush (-100005), .invokevirtual 142, .ireturn] ls st h := ex_ev_eq d 169 5 ls st h
set_option maxRecDepth 20000 in
theorem ev_169_6 (d : Nat) (ls st : List ex_V) (h : ex_H) : ex_ev d 169 6 ls st h = ex_xs 1 (ex_ev d 169) (ex_cd d) [.aload 0, .invokevirtual 147, .aload 0, .iload 1, .iload 2, .invokevirtual 167, .aload 0, .getfield 384, .sipush 46, .iload 2, .iadd, .iaload, .ireturn] ls st h := ex_ev_eq d 169 6 ls st h
set_option maxRecDepth 20000 in
theorem ev_170_0 (d : Nat) (ls st : List ex_V) (h : ex_H) : ex_ev d 170 0 ls st h = ex_xs 1 (ex_ev d 170) (ex_cd d) [.aload 0, .iload 1, .invokevirtual 157, .istore 3, .iload 3, .ifCond .ge 1, .sipush (-100006), .ireturn] ls st h := ex_ev_eq d 170 0 ls st h
set_option maxRecDepth 20000 in
theorem ev_170_1 (d : Nat) (ls st : List ex_V) (h : ex_H) : ex_ev d 170 1 ls st h = ex_xs 1 (ex_ev d 170) (ex_cd d) [.iload 3, .sipush 8, .idiv, .iload 2, .if_icmp .ne 2, .sipush (-100007), .ireturn] ls st h := ex_ev_eq d 170 1 ls st h
set_option maxRecDepth 20000 in
theorem ev_170_2 (d : Nat) (ls st : List ex_V) (h : ex_H) : ex_ev d 170 2 ls st h = ex_xs 1 (ex_ev d 170) (ex_cd d) [.aload 0, .iload 1, .invokevirtual 165, .ifCond .eq 3, .aload 0, .iload 2, .invokevirtual 164, .ifCond .eq 4, .goto_w 3] ls st h := ex_ev_eq d 170 2 ls st h
set_option maxRecDepth 20000 in
theorem ev_170_3 (d : Nat) (ls st : List ex_V) (h : ex_H) : ex_ev d 170 3 ls st h = ex_xs 1 (ex_ev d 170) (ex_cd d) [.sipush (-100008), .ireturn] ls st h := ex_ev_eq d 170 3 ls st h
set_option maxRecDepth 20000 in
theorem ev_170_4 (d : Nat) (ls st : List ex_V) (h : ex_H) : ex_ev d 170 4 ls st h = ex_xs 1 (ex_ev d 170) (ex_cd d) [.aload 0, .iload 1, .iload 2, .invokevirtual 162, .ifCond .ne 5, .sipush (-100004), .ireturn] ls st h := ex_ev_eq d 170 4 ls st h
set_option maxRecDepth 20000 in
theorem ev_170_5 (d : Nat) (ls st : List ex_V) (h : ex_H) : ex_ev d 170 5 ls st h = ex_xs 1 (ex_ev d 170) (ex_cd d) [.aload 0, .iload 2, .invokevirtual 153, .aload 0, .getfield 384, .sipush 91, .iload 1, .iadd, .iaload, .if_icmp .ge 6, .sipush (-100005), .ireturn] ls st h := ex_ev_eq d 170 5 ls st h
set_option maxRecDepth 20000 in
theorem ev_170_6 (d : Nat) (ls st : List ex_V) (h : ex_H) : ex_ev d 170 6 ls st h = ex_xs 1 (ex_ev d 170) (ex_cd d) [.aload 0, .iload 1, .aload 0, .getfield 384, .sipush 2, .iaload, .aload 0, .getfield 384, .sipush 10, .iaload, .invokevirtual 228, .ifCond .eq 7, .sipush 0, .goto 8] ls st h := ex_ev_eq d 170 6 ls st h
set_option maxRecDepth 20000 in
theorem ev_170_7 (d : Nat) (ls st : List ex_V) (h : ex_H) : ex_ev d 170 7 ls st h = ex_xs 1 (ex_ev d 170) (ex_cd d) [.sipush (-100002), .goto_w 8] ls st h := ex_ev_eq d 170 7 ls st h
set_option maxRecDepth 20000 in
theorem ev_170_8 (d : Nat) (ls st : List ex_V) (h : ex_H) : ex_ev d 170 8 ls st h = ex_xs 1 (ex_ev d 170) (ex_cd d) [.ireturn] ls st h := ex_ev_eq d 170 8 ls st h
set_option maxRecDepth 20000 in
theorem ev_171_0 (d : Nat) (ls st : List ex_V) (h : ex_H) : ex_ev d 171 0 ls st h = ex_xs 0 (ex_ev d 171) (ex_cd d) [.aload 0, .aload 0, .iload 1, .invokevirtual 157, .sipush 8, .idiv, .invokevirtual 168, .aload 0, .iload 1, .iload 2, .invokevirtual 167, .return_] ls st h := ex_ev_eq d 171 0 ls st h
set_option maxRecDepth 20000 in
theorem ev_172_0 (d : Nat) (ls st : List ex_V) (h : ex_H) : ex_ev d 172 0 ls st h = ex_xs 0 (ex_ev d 172) (ex_cd d) [.aload 0, .getfield 384, .sipush 8, .iaload, .sipush 60, .if_icmp .ne 3, .sipush 1, .istore 2, .goto_w 1] ls st h := ex_ev_eq d 172 0 ls st h
set_option maxRecDepth 20000 in
theorem ev_172_1 (d : Nat) (ls st : List ex_V) (h : ex_H) : ex_ev d 172 1 ls st h = ex_xs 0 (ex_ev d 172) (ex_cd d) [.iload 2, .sipush 60, .if_icmp .ge 2, .aload 0, .getfield 384, .sipush 171, .iload 2, .iadd, .sipush 1, .isub, .aload 0, .getfield 384, .sipush 171, .iload 2, .iadd, .iaload, .iastore, .iinc 2 1, .goto 1] ls st h := ex_ev_eq d 172 1 ls st h
set_option maxRecDepth 20000 in
theorem ev_172_2 (d : Nat) (ls st : List ex_V) (h : ex_H) : ex_ev d 172 2 ls st h = ex_xs 0 (ex_ev d 172) (ex_cd d) [.aload 0, .getfield 384, .sipush 8, .dup2, .iaload, .sipush 1, .isub, .iastore, .goto_w 3] ls st h := ex_ev_eq d 172 2 ls st h
set_option maxRecDepth 20000 in
theorem ev_172_3 (d : Nat) (ls st : List ex_V) (h : ex_H) : ex_ev d 172 3 ls st h = ex_xs 0 (ex_ev d 172) (ex_cd d) [.aload 0, .getfield 384, .sipush 171, .aload 0, .getfield 384, .sipush 8, .iaload, .iadd, .iload 1, .iastore, .aload 0, .getfield 384, .sipush 8, .dup2, .iaload, .sipush 1, .iadd, .iastore, .return_] ls st h := ex_ev_eq d 172 3 ls st h
set_option maxRecDepth 20000 in
theorem ev_173_0 (d : Nat) (ls st : List ex_V) (h : ex_H) : ex_ev d 173 0 ls st h = ex_xs 1 (ex_ev d 173) (ex_cd d) [.aload 0, .iload 1, .invokevirtual 145, .ifCond .eq 1, .aload 0, .iload 2, .invokevirtual 144, .ifCond .ne 2, .goto_w 1] ls st h := ex_ev_eq d 173 0 ls st h
set_option maxRecDepth 20000 in
theorem ev_173_1 (d : Nat) (ls st : List ex_V) (h : ex_H) : ex_ev d 173 1 ls st h = ex_xs 1 (ex_ev d 173) (ex_cd d) [.aload 0, .sipush (-100001), .invokevirtual 142, .ireturn] ls st h := ex_ev_eq d 173 1 ls st h
set_option maxRecDepth 20000 in
theorem ev_173_2 (d : Nat) (ls st : List ex_V) (h : ex_H) : ex_ev d 173 2 ls st h = ex_xs 1 (ex_ev d 173) (ex_cd d) [.aload 0, .iload 1, .iload 2, .invokevirtual 170, .istore 3, .iload 3, .ifCond .eq 3, .aload 0, .iload 3, .invokevirtual 142, .ireturn] ls st h := ex_ev_eq d 173 2 ls st h
set_option maxRecDepth 20000 in
theorem ev_173_3 (d : Nat) (ls st : List ex_V) (h : ex_H) : ex_ev d 173 3 ls st h = ex_xs 1 (ex_ev d 173) (ex_cd d) [.aload 0, .iload 1, .iload 2, .aload 0, .getfield 384, .sipush 2, .iaload, .invokevirtual 218, .ifCond .ne 4, .aload 0, .sipush (-100009), .invokevirtual 142, .ireturn] ls st h := ex_ev_eq d 173 3 ls st h
set_option maxRecDepth 20000 in
theorem ev_173_4 (d : Nat) (ls st : List ex_V) (h : ex_H) : ex_ev d 173 4 ls st h = ex_xs 1 (ex_ev d 173) (ex_cd d) [.aload 0, .invokevirtual 147, .aload 0, .iload 1, .iload 2, .invokevirtual 171, .aload 0, .iload 1, .sipush 8, .aload 0, .getfield 384, .sipush 4, .iaload, .imul, .iadd, .invokevirtual 172, .aload 0, .getfield 384, .sipush 6, .dup2, .iaload, .sipush 1, .iadd, .iastore, .aload 0, .getfield 384, .sipush 6, .iaload, .ireturn] ls st h := ex_ev_eq d 173 4 ls st h
set_option maxRecDepth 20000 in
theorem ev_174_0 (d : Nat) (ls st : List ex_V) (h : ex_H) : ex_ev d 174 0 ls st h = ex_xs 1 (ex_ev d 174) (ex_cd d) [.aload 0, .iload 1, .invokevirtual 145, .ifCond .ne 1, .aload 0, .sipush (-100001), .invokevirtual 142, .ireturn] ls st h := ex_ev_eq d 174 0 ls st h
set_option maxRecDepth 20000 in
theorem ev_174_1 (d : Nat) (ls st : List ex_V) (h : ex_H) : ex_ev d 174 1 ls st h = ex_xs 1 (ex_ev d 174) (ex_cd d) [.aload 0, .iload 1, .invokevirtual 157, .istore 2, .iload 2, .ifCond .ge 2, .aload 0, .sipush (-100006), .invokevirtual 142, .ireturn] ls st h := ex_ev_eq d 174 1 ls st h
set_option maxRecDepth 20000 in
theorem ev_174_2 (d : Nat) (ls st : List ex_V) (h : ex_H) : ex_ev d 174 2 ls st h = ex_xs 1 (ex_ev d 174) (ex_cd d) [.aload 0, .iload 1, .invokevirtual 165, .ifCond .ne 3, .aload 0, .sipush (-100008), .invokevirtual 142, .ireturn] ls st h := ex_ev_eq d 174 2 ls st h
set_option maxRecDepth 20000 in
theorem ev_174_3 (d : Nat) (ls st : List ex_V) (h : ex_H) : ex_ev d 174 3 ls st h = ex_xs 1 (ex_ev d 174) (ex_cd d) [.aload 0, .invokevirtual 147, .aload 0, .iload 2, .sipush 8, .idiv, .invokevirtual 168, .aload 0, .getfield 384, .sipush 115, .iload 1, .iadd, .iaload, .ireturn] ls st h := ex_ev_eq d 174 3 ls st h
set_option maxRecDepth 20000 in
theorem ev_175_0 (d : Nat) (ls st : List ex_V) (h : ex_H) : ex_ev d 175 0 ls st h = ex_xs 1 (ex_ev d 175) (ex_cd d) [.aload 0, .invokevirtual 147, .sipush 0, .istore 1, .sipush 0, .istore 2, .goto_w 1] ls st h := ex_ev_eq d 175 0 ls st h
set_option maxRecDepth 20000 in
theorem ev_175_1 (d : Nat) (ls st : List ex_V) (h : ex_H) : ex_ev d 175 1 ls st h = ex_xs 1 (ex_ev d 175) (ex_cd d) [.iload 2, .sipush 5, .if_icmp .ge 2, .iload 1, .aload 0, .getfield 384, .sipush 41, .iload 2, .iadd, .iaload, .iadd, .istore 1, .aload 0, .getfield 384, .sipush 41, .iload 2, .iadd, .sipush 0, .iastore, .iinc 2 1, .goto 1] ls st h := ex_ev_eq d 175 1 ls st h
set_option maxRecDepth 20000 in
theorem ev_175_2 (d : Nat) (ls st : List ex_V) (h : ex_H) : ex_ev d 175 2 ls st h = ex_xs 1 (ex_ev d 175) (ex_cd d) [.aload 0, .getfield 384, .sipush 2, .sipush 0, .iastore, .iload 1, .ireturn] ls st h := ex_ev_eq d 175 2 ls st h
set_option maxRecDepth 20000 in
theorem ev_176_0 (d : Nat) (ls st : List ex_V) (h : ex_H) : ex_ev d 176 0 ls st h = ex_xs 1 (ex_ev d 176) (ex_cd d) [.iload 1, .invokestatic 146, .ifCond .ne 1, .aload 0, .sipush (-100001), .invokevirtual 142, .ireturn] ls st h := ex_ev_eq d 176 0 ls st h
set_option maxRecDepth 20000 in
theorem ev_176_1 (d : Nat) (ls st : List ex_V) (h : ex_H) : ex_ev d 176 1 ls st h = ex_xs 1 (ex_ev d 176) (ex_cd d) [.aload 0, .invokevirtual 147, .aload 0, .getfield 384, .sipush 2, .iaload, .istore 2, .aload 0, .getfield 384, .sipush 2, .iload 1, .iastore, .iload 2, .ireturn] ls st h := ex_ev_eq d 176 1 ls st h
set_option maxRecDepth 20000 in
theorem ev_177_0 (d : Nat) (ls st : List ex_V) (h : ex_H) : ex_ev d 177 0 ls st h = ex_xs 1 (ex_ev d 177) (ex_cd d) [.aload 0, .iload 1, .invokevirtual 145, .ifCond .ne 1, .aload 0, .sipush (-100001), .invokevirtual 142, .ireturn] ls st h := ex_ev_eq d 177 0 ls st h
set_option maxRecDepth 20000 in
theorem ev_177_1 (d : Nat) (ls st : List ex_V) (h : ex_H) : ex_ev d 177 1 ls st h = ex_xs 1 (ex_ev d 177) (ex_cd d) [.aload 0, .iload 1, .invokevirtual 157, .istore 2, .iload 2, .ifCond .ge 2, .aload 0, .sipush (-100006), .invokevirtual 142, .ireturn] ls st h := ex_ev_eq d 177 1 ls st h
set_option maxRecDepth 20000 in
theorem ev_177_2 (d : Nat) (ls st : List ex_V) (h : ex_H) : ex_ev d 177 2 ls st h = ex_xs 1 (ex_ev d 177) (ex_cd d) [.sipush 0, .istore 3, .iload 2, .sipush 8, .irem, .sipush 1, .iadd, .istore 4, .goto_w 3] ls st h := ex_ev_eq d 177 2 ls st h
set_option maxRecDepth 20000 in
theorem ev_177_3 (d : Nat) (ls st : List ex_V) (h : ex_H) : ex_ev d 177 3 ls st h = ex_xs 1 (ex_ev d 177) (ex_cd d) [.iload 4, .aload 0, .getfield 384, .sipush 46, .iload 2, .sipush 8, .idiv, .iadd, .iaload, .if_icmp .ge 4, .iload 3, .sipush 1, .aload 0, .iload 2, .sipush 8, .idiv, .iload 4, .invokevirtual 152, .ishl, .ior, .istore 3, .iinc 4 1, .goto 3] ls st h := ex_ev_eq d 177 3 ls st h
set_option maxRecDepth 20000 in
theorem ev_177_4 (d : Nat) (ls st : List ex_V) (h : ex_H) : ex_ev d 177 4 ls st h = ex_xs 1 (ex_ev d 177) (ex_cd d) [.iload 3, .ireturn] ls st h := ex_ev_eq d 177 4 ls st h
set_option maxRecDepth 20000 in
theorem ev_178_0 (d : Nat) (ls st : List ex_V) (h : ex_H) : ex_ev d 178 0 ls st h = ex_xs 0 (ex_ev d 178) (ex_cd d) [.sipush 0, .istore 2, .goto_w 1] ls st h := ex_ev_eq d 178 0 ls st h
set_option maxRecDepth 20000 in
theorem ev_178_1 (d : Nat) (ls st : List ex_V) (h : ex_H) : ex_ev d 178 1 ls st h = ex_xs 0 (ex_ev d 178) (ex_cd d) [.iload 2, .sipush 50, .if_icmp .ge 2, .aload 0, .getfield 391, .sipush 50, .iload 1, .imul, .iload 2, .iadd, .aload 0, .getfield 384, .sipush 41, .iload 2, .iadd, .iaload, .iastore, .iinc 2 1, .goto 1] ls st h := ex_ev_eq d 178 1 ls st h
set_option maxRecDepth 20000 in
theorem ev_178_2 (d : Nat) (ls st : List ex_V) (h : ex_H) : ex_ev d 178 2 ls st h = ex_xs 0 (ex_ev d 178) (ex_cd d) [.return_] ls st h := ex_ev_eq d 178 2 ls st h
set_option maxRecDepth 20000 in
theorem ev_179_0 (d : Nat) (ls st : List ex_V) (h : ex_H) : ex_ev d 179 0 ls st h = ex_xs 0 (ex_ev d 179) (ex_cd d) [.sipush 0, .istore 2, .goto_w 1] ls st h := ex_ev_eq d 179 0 ls st h
set_option maxRecDepth 20000 in
theorem ev_179_1 (d : Nat) (ls st : List ex_V) (h : ex_H) : ex_ev d 179 1 ls st h = ex_xs 0 (ex_ev d 179) (ex_cd d) [.iload 2, .sipush 50, .if_icmp .ge 2, .aload 0, .getfield 384, .sipush 41, .iload 2, .iadd, .aload 0, .getfield 391, .sipush 50, .iload 1, .imul, .iload 2, .iadd, .iaload, .iastore, .iinc 2 1, .goto 1] ls st h := ex_ev_eq d 179 1 ls st h
set_option maxRecDepth 20000 in
theorem ev_179_2 (d : Nat) (ls st : List ex_V) (h : ex_H) : ex_ev d 179 2 ls st h = ex_xs 0 (ex_ev d 179) (ex_cd d) [.return_] ls st h := ex_ev_eq d 179 2 ls st h
set_option maxRecDepth 20000 in
theorem ev_180_0 (d : Nat) (ls st : List ex_V) (h : ex_H) : ex_ev d 180 0 ls st h = ex_xs 2 (ex_ev d 180) (ex_cd d) [.iload 2, .iload 3, .if_icmp .ne 1, .aload 0, .iload 1, .invokevirtual 165, .ireturn] ls st h := ex_ev_eq d 180 0 ls st h
set_option maxRecDepth 20000 in
theorem ev_180_1 (d : Nat) (ls st : List ex_V) (h : ex_H) : ex_ev d 180 1 ls st h = ex_xs 2 (ex_ev d 180) (ex_cd d) [.aload 0, .iload 2, .invokevirtual 178, .sipush 0, .istore 4, .goto_w 2] ls st h := ex_ev_eq d 180 1 ls st h
set_option maxRecDepth 20000 in
theorem ev_180_2 (d : Nat) (ls st : List ex_V) (h : ex_H) : ex_ev d 180 2 ls st h = ex_xs 2 (ex_ev d 180) (ex_cd d) [.iload 4, .sipush 8, .aload 0, .getfield 384, .sipush 1, .iaload, .imul, .if_icmp .ge 5, .iload 4, .sipush 8, .idiv, .iload 1, .if_icmp .eq 4, .aload 0, .iload 4, .sipush 8, .irem, .invokevirtual 144, .ifCond .eq 4, .aload 0, .iload 4, .sipush 8, .idiv, .iload 4, .sipush 8, .irem, .invokevirtual 170, .ifCond .eq 3, .goto 4] ls st h := ex_ev_eq d 180 2 ls st h
set_option maxRecDepth 20000 in
theorem ev_180_3 (d : Nat) (ls st : List ex_V) (h : ex_H) : ex_ev d 180 3 ls st h = ex_xs 2 (ex_ev d 180) (ex_cd d) [.aload 0, .iload 4, .sipush 8, .idiv, .iload 4, .sipush 8, .irem, .invokevirtual 171, .aload 0, .getfield 392, .iload 2, .iload 4, .iastore, .aload 0, .iload 1, .iload 2, .sipush 1, .iadd, .iload 3, .invokevirtual 180, .istore 5, .aload 0, .iload 2, .invokevirtual 179, .iload 5, .ifCond .eq 4, .sipush 1, .ireturn] ls st h := ex_ev_eq d 180 3 ls st h
set_option maxRecDepth 20000 in
theorem ev_180_4 (d : Nat) (ls st : List ex_V) (h : ex_H) : ex_ev d 180 4 ls st h = ex_xs 2 (ex_ev d 180) (ex_cd d) [.iinc 4 1, .goto 2] ls st h := ex_ev_eq d 180 4 ls st h
set_option maxRecDepth 20000 in
theorem ev_180_5 (d : Nat) (ls st : List ex_V) (h : ex_H) : ex_ev d 180 5 ls st h = ex_xs 2 (ex_ev d 180) (ex_cd d) [.sipush 0, .ireturn] ls st h := ex_ev_eq d 180 5 ls st h
set_option maxRecDepth 20000 in
theorem ev_181_0 (d : Nat) (ls st : List ex_V) (h : ex_H) : ex_ev d 181 0 ls st h = ex_xs 1 (ex_ev d 181) (ex_cd d) [.sipush 0, .istore 2, .goto_w 1] ls st h := ex_ev_eq d 181 0 ls st h
set_option maxRecDepth 20000 in
theorem ev_181_1 (d : Nat) (ls st : List ex_V) (h : ex_H) : ex_ev d 181 1 ls st h = ex_xs 1 (ex_ev d 181) (ex_cd d) [.iload 2, .sipush 3, .if_icmp .gt 2, .aload 0, .iload 1, .sipush 0, .iload 2, .invokevirtual 180, .ifCond .ne 2, .iinc 2 1, .goto 1] ls st h := ex_ev_eq d 181 1 ls st h
set_option maxRecDepth 20000 in
theorem ev_181_2 (d : Nat) (ls st : List ex_V) (h : ex_H) : ex_ev d 181 2 ls st h = ex_xs 1 (ex_ev d 181) (ex_cd d) [.iload 2, .sipush 3, .if_icmp .le 3, .sipush (-1), .goto 4] ls st h := ex_ev_eq d 181 2 ls st h
set_option maxRecDepth 20000 in
theorem ev_181_3 (d : Nat) (ls st : List ex_V) (h : ex_H) : ex_ev d 181 3 ls st h = ex_xs 1 (ex_ev d 181) (ex_cd d) [.iload 2, .goto_w 4] ls st h := ex_ev_eq d 181 3 ls st h
set_option maxRecDepth 20000 in
theorem ev_181_4 (d : Nat) (ls st : List ex_V) (h : ex_H) : ex_ev d 181 4 ls st h = ex_xs 1 (ex_ev d 181) (ex_cd d) [.ireturn] ls st h := ex_ev_eq d 181 4 ls st h
set_option maxRecDepth 20000 in
theorem ev_182_0 (d : Nat) (ls st : List ex_V) (h : ex_H) : ex_ev d 182 0 ls st h = ex_xs 1 (ex_ev d 182) (ex_cd d) [.aload 0, .iload 1, .invokevirtual 145, .ifCond .ne 1, .aload 0, .sipush (-100001), .invokevirtual 142, .ireturn] ls st h := ex_ev_eq d 182 0 ls st h
set_option maxRecDepth 20000 in
theorem ev_182_1 (d : Nat) (ls st : List ex_V) (h : ex_H) : ex_ev d 182 1 ls st h = ex_xs 1 (ex_ev d 182) (ex_cd d) [.aload 0, .iload 1, .invokevirtual 157, .ifCond .ge 2, .sipush (-1), .goto 3] ls st h := ex_ev_eq d 182 1 ls st h
set_option maxRecDepth 20000 in
theorem ev_182_2 (d : Nat) (ls st : List ex_V) (h : ex_H) : ex_ev d 182 2 ls st h = ex_xs 1 (ex_ev d 182) (ex_cd d) [.aload 0, .iload 1, .invokevirtual 181, .goto_w 3] ls st h := ex_ev_eq d 182 2 ls st h
set_option maxRecDepth 20000 in
theorem ev_182_3 (d : Nat) (ls st : List ex_V) (h : ex_H) : ex_ev d 182 3 ls st h = ex_xs 1 (ex_ev d 182) (ex_cd d) [.istore 2, .iload 2, .ifCond .ge 4, .aload 0, .sipush (-100006), .invokevirtual 142, .goto 5] ls st h := ex_ev_eq d 182 3 ls st h
set_option maxRecDepth 20000 in
theorem ev_182_4 (d : Nat) (ls st : List ex_V) (h : ex_H) : ex_ev d 182 4 ls st h = ex_xs 1 (ex_ev d 182) (ex_cd d) [.iload 2, .goto_w 5] ls st h := ex_ev_eq d 182 4 ls st h
set_option maxRecDepth 20000 in
theorem ev_182_5 (d : Nat) (ls st : List ex_V) (h : ex_H) : ex_ev d 182 5 ls st h = ex_xs 1 (ex_ev d 182) (ex_cd d) [.ireturn] ls st h := ex_ev_eq d 182 5 ls st h
set_option maxRecDepth 20000 in
theorem ev_183_0 (d : Nat) (ls st : List ex_V) (h : ex_H) : ex_ev d 183 0 ls st h = ex_xs 1 (ex_ev d 183) (ex_cd d) [.aload 0, .iload 1, .invokevirtual 145, .ifCond .eq 1, .iload 2, .ifCond .ge 2, .goto_w 1] ls st h := ex_ev_eq d 183 0 ls st h
set_option maxRecDepth 20000 in
theorem ev_183_1 (d : Nat) (ls st : List ex_V) (h : ex_H) : ex_ev d 183 1 ls st h = ex_xs 1 (ex_ev d 183) (ex_cd d) [.aload 0, .sipush (-100001), .invokevirtual 142, .ireturn] ls st h := ex_ev_eq d 183 1 ls st h
set_option maxRecDepth 20000 in
theorem ev_183_2 (d : Nat) (ls st : List ex_V) (h : ex_H) : ex_ev d 183 2 ls st h = ex_xs 1 (ex_ev d 183) (ex_cd d) [.aload 0, .iload 1, .invokevirtual 157, .ifCond .ge 3, .sipush (-1), .goto 4] ls st h := ex_ev_eq d 183 2 ls st h
set_option maxRecDepth 20000 in
theorem ev_183_3 (d : Nat) (ls st : List ex_V) (h : ex_H) : ex_ev d 183 3 ls st h = ex_xs 1 (ex_ev d 183) (ex_cd d) [.aload 0, .iload 1, .invokevirtual 181, .goto_w 4] ls st h := ex_ev_eq d 183 3 ls st h
set_option maxRecDepth 20000 in
theorem ev_183_4 (d : Nat) (ls st : List ex_V) (h : ex_H) : ex_ev d 183 4 ls st h = ex_xs 1 (ex_ev d 183) (ex_cd d) [.istore 3, .iload 2, .iload 3, .if_icmp .lt 5, .aload 0, .sipush (-100006), .invokevirtual 142, .goto 6] ls st h := ex_ev_eq d 183 4 ls st h
set_option maxRecDepth 20000 in
theorem ev_183_5 (d : Nat) (ls st : List ex_V) (h : ex_H) : ex_ev d 183 5 ls st h = ex_xs 1 (ex_ev d 183) (ex_cd d) [.aload 0, .getfield 392, .iload 2, .iaload, .goto_w 6] ls st h := ex_ev_eq d 183 5 ls st h
set_option maxRecDepth 20000 in
theorem ev_183_6 (d : Nat) (ls st : List ex_V) (h : ex_H) : ex_ev d 183 6 ls st h = ex_xs 1 (ex_ev d 183) (ex_cd d) [.ireturn] ls st h := ex_ev_eq d 183 6 ls st h
set_option maxRecDepth 20000 in
theorem ev_184_0 (d : Nat) (ls st : List ex_V) (h : ex_H) : ex_ev d 184 0 ls st h = ex_xs 1 (ex_ev d 184) (ex_cd d) [.aload 0, .iload 1, .invokevirtual 145, .ifCond .eq 1, .iload 2, .invokestatic 230, .ifCond .ne 2, .goto_w 1] ls st h := ex_ev_eq d 184 0 ls st h
set_option maxRecDepth 20000 in
theorem ev_184_1 (d : Nat) (ls st : List ex_V) (h : ex_H) : ex_ev d 184 1 ls st h = ex_xs 1 (ex_ev d 184) (ex_cd d) [.aload 0, .sipush (-100001), .invokevirtual 142, .ireturn] ls st h := ex_ev_eq d 184 1 ls st h
set_option maxRecDepth 20000 in
theorem ev_184_2 (d : Nat) (ls st : List ex_V) (h : ex_H) : ex_ev d 184 2 ls st h = ex_xs 1 (ex_ev d 184) (ex_cd d) [.aload 0, .getfield 388, .iload 2, .iaload, .ifCond .ne 3, .aload 0, .sipush (-100002), .invokevirtual 142, .ireturn] ls st h := ex_ev_eq d 184 2 ls st h
set_option maxRecDepth 20000 in
theorem ev_184_3 (d : Nat) (ls st : List ex_V) (h : ex_H) : ex_ev d 184 3 ls st h = ex_xs 1 (ex_ev d 184) (ex_cd d) [.aload 0, .iload 1, .invokevirtual 157, .ifCond .ge 4, .aload 0, .sipush (-100006), .invokevirtual 142, .ireturn] ls st h := ex_ev_eq d 184 3 ls st h
set_option maxRecDepth 20000 in
theorem ev_184_4 (d : Nat) (ls st : List ex_V) (h : ex_H) : ex_ev d 184 4 ls st h = ex_xs 1 (ex_ev d 184) (ex_cd d) [.aload 0, .sipush 0, .invokevirtual 178, .sipush 0, .istore 3, .sipush 1, .istore 4, .goto_w 5] ls st h := ex_ev_eq d 184 4 ls st h
set_option maxRecDepth 20000 in
theorem ev_184_5 (d : Nat) (ls st : List ex_V) (h : ex_H) : ex_ev d 184 5 ls st h = ex_xs 1 (ex_ev d 184) (ex_cd d) [.iload 4, .ifCond .eq 9, .iload 3, .aload 0, .getfield 389, .iload 2, .iaload, .if_icmp .ge 9, .aload 0, .getfield 390, .sipush 20, .iload 2, .imul, .iload 3, .iadd, .iaload, .istore 5, .iload 5, .ifCond .lt 6, .aload 0, .iload 5, .sipush 8, .idiv, .invokevirtual 145, .ifCond .eq 6, .iload 5, .sipush 8, .idiv, .iload 1, .if_icmp .eq 6, .aload 0, .iload 5, .sipush 8, .irem, .invokevirtual 144, .ifCond .eq 6, .aload 0, .iload 5, .sipush 8, .idiv, .iload 5, .sipush 8, .irem, .invokevirtual 170, .ifCond .ne 6, .sipush 1, .goto 7] ls st h := ex_ev_eq d 184 5 ls st h
set_option maxRecDepth 20000 in
theorem ev_184_6 (d : Nat) (ls st : List ex_V) (h : ex_H) : ex_ev d 184 6 ls st h = ex_xs 1 (ex_ev d 184) (ex_cd d) [.sipush 0, .goto_w 7] ls st h := ex_ev_eq d 184 6 ls st h
set_option maxRecDepth 20000 in
theorem ev_184_7 (d : Nat) (ls st : List ex_V) (h : ex_H) : ex_ev d 184 7 ls st h = ex_xs 1 (ex_ev d 184) (ex_cd d) [.istore 4, .iload 4, .ifCond .eq 8, .aload 0, .iload 5, .sipush 8, .idiv, .iload 5, .sipush 8, .irem, .invokevirtual 171, .iinc 3 1, .goto_w 8] ls st h := ex_ev_eq d 184 7 ls st h
set_option maxRecDepth 20000 in
theorem ev_184_8 (d : Nat) (ls st : List ex_V) (h : ex_H) : ex_ev d 184 8 ls st h = ex_xs 1 (ex_ev d 184) (ex_cd d) [.goto 5] ls st h := ex_ev_eq d 184 8 ls st h
set_option maxRecDepth 20000 in
theorem ev_184_9 (d : Nat) (ls st : List ex_V) (h : ex_H) : ex_ev d 184 9 ls st h = ex_xs 1 (ex_ev d 184) (ex_cd d) [.iload 4, .ifCond .eq 10, .aload 0, .iload 1, .invokevirtual 165, .ifCond .eq 10, .sipush (-1), .goto 11] ls st h := ex_ev_eq d 184 9 ls st h
set_option maxRecDepth 20000 in
theorem ev_184_10 (d : Nat) (ls st : List ex_V) (h : ex_H) : ex_ev d 184 10 ls st h = ex_xs 1 (ex_ev d 184) (ex_cd d) [.iload 3, .goto_w 11] ls st h := ex_ev_eq d 184 10 ls st h
set_option maxRecDepth 20000 in
theorem ev_184_11 (d : Nat) (ls st : List ex_V) (h : ex_H) : ex_ev d 184 11 ls st h = ex_xs 1 (ex_ev d 184) (ex_cd d) [.istore 5, .aload 0, .sipush 0, .invokevirtual 179, .iload 5, .ireturn] ls st h := ex_ev_eq d 184 11 ls st h
set_option maxRecDepth 20000 in
theorem ev_185_0 (d : Nat) (ls st : List ex_V) (h : ex_H) : ex_ev d 185 0 ls st h = ex_xs 1 (ex_ev d 185) (ex_cd d) [.sipush 0, .istore 2, .sipush 0, .istore 3, .goto_w 1] ls st h := ex_ev_eq d 185 0 ls st h
set_option maxRecDepth 20000 in
theorem ev_185_1 (d : Nat) (ls st : List ex_V) (h : ex_H) : ex_ev d 185 1 ls st h = ex_xs 1 (ex_ev d 185) (ex_cd d) [.iload 3, .aload 0, .getfield 384, .sipush 46, .iload 1, .iadd, .iaload, .if_icmp .ge 6, .iload 3, .sipush 1, .iadd, .istore 4, .goto_w 2] ls st h := ex_ev_eq d 185 1 ls st h
set_option maxRecDepth 20000 in
theorem ev_185_2 (d : Nat) (ls st : List ex_V) (h : ex_H) : ex_ev d 185 2 ls st h = ex_xs 1 (ex_ev d 185) (ex_cd d) [.iload 4, .aload 0, .getfield 384, .sipush 46, .iload 1, .iadd, .iaload, .if_icmp .ge 5, .iload 2, .aload 0, .getfield 384, .sipush 115, .aload 0, .iload 1, .iload 4, .invokevirtual 152, .iadd, .iaload, .aload 0, .getfield 384, .sipush 115, .aload 0, .iload 1, .iload 3, .invokevirtual 152, .iadd, .iaload, .if_icmp .le 3, .sipush 2, .goto 4] ls st h := ex_ev_eq d 185 2 ls st h
set_option maxRecDepth 20000 in
theorem ev_185_3 (d : Nat) (ls st : List ex_V) (h : ex_H) : ex_ev d 185 3 ls st h = ex_xs 1 (ex_ev d 185) (ex_cd d) [.sipush 0, .goto_w 4] ls st h := ex_ev_eq d 185 3 ls st h
set_option maxRecDepth 20000 in
theorem ev_185_4 (d : Nat) (ls st : List ex_V) (h : ex_H) : ex_ev d 185 4 ls st h = ex_xs 1 (ex_ev d 185) (ex_cd d) [.iadd, .istore 2, .iinc 4 1, .goto 2] ls st h := ex_ev_eq d 185 4 ls st h
set_option maxRecDepth 20000 in
theorem ev_185_5 (d : Nat) (ls st : List ex_V) (h : ex_H) : ex_ev d 185 5 ls st h = ex_xs 1 (ex_ev d 185) (ex_cd d) [.iinc 3 1, .goto 1] ls st h := ex_ev_eq d 185 5 ls st h
set_option maxRecDepth 20000 in
theorem ev_185_6 (d : Nat) (ls st : List ex_V) (h : ex_H) : ex_ev d 185 6 ls st h = ex_xs 1 (ex_ev d 185) (ex_cd d) [.iload 2, .ireturn] ls st h := ex_ev_eq d 185 6 ls st h
set_option maxRecDepth 20000 in
theorem ev_186_0 (d : Nat) (ls st : List ex_V) (h : ex_H) : ex_ev d 186 0 ls st h = ex_xs 1 (ex_ev d 186) (ex_cd d) [.iload 1, .sipush (-1), .if_icmp .eq 1, .aload 0, .iload 1, .invokevirtual 144, .ifCond .ne 1, .aload 0, .sipush (-100001), .invokevirtual 142, .ireturn] ls st h := ex_ev_eq d 186 0 ls st h
set_option maxRecDepth 20000 in
theorem ev_186_1 (d : Nat) (ls st : List ex_V) (h : ex_H) : ex_ev d 186 1 ls st h = ex_xs 1 (ex_ev d 186) (ex_cd d) [.sipush 0, .istore 2, .sipush 0, .istore 3, .goto_w 2] ls st h := ex_ev_eq d 186 1 ls st h
set_option maxRecDepth 20000 in
theorem ev_186_2 (d : Nat) (ls st : List ex_V) (h : ex_H) : ex_ev d 186 2 ls st h = ex_xs 1 (ex_ev d 186) (ex_cd d) [.iload 3, .aload 0, .getfield 384, .sipush 0, .iaload, .if_icmp .ge 6, .iload 2, .iload 1, .sipush (-1), .if_icmp .eq 3, .iload 1, .iload 3, .if_icmp .ne 4, .goto_w 3] ls st h := ex_ev_eq d 186 2 ls st h
set_option maxRecDepth 20000 in
theorem ev_186_3 (d : Nat) (ls st : List ex_V) (h : ex_H) : ex_ev d 186 3 ls st h = ex_xs 1 (ex_ev d 186) (ex_cd d) [.aload 0, .iload 3, .invokevirtual 185, .goto 5] ls st h := ex_ev_eq d 186 3 ls st h
set_option maxRecDepth 20000 in
theorem ev_186_4 (d : Nat) (ls st : List ex_V) (h : ex_H) : ex_ev d 186 4 ls st h = ex_xs 1 (ex_ev d 186) (ex_cd d) [.sipush 0, .goto_w 5] ls st h := ex_ev_eq d 186 4 ls st h
set_option maxRecDepth 20000 in
theorem ev_186_5 (d : Nat) (ls st : List ex_V) (h : ex_H) : ex_ev d 186 5 ls st h = ex_xs 1 (ex_ev d 186) (ex_cd d) [.iadd, .istore 2, .iinc 3 1, .goto 2] ls st h := ex_ev_eq d 186 5 ls st h
set_option maxRecDepth 20000 in
theorem ev_186_6 (d : Nat) (ls st : List ex_V) (h : ex_H) : ex_ev d 186 6 ls st h = ex_xs 1 (ex_ev d 186) (ex_cd d) [.iload 2, .ireturn] ls st h := ex_ev_eq d 186 6 ls st h
set_option maxRecDepth 20000 in
theorem ev_187_0 (d : Nat) (ls st : List ex_V) (h : ex_H) : ex_ev d 187 0 ls st h = ex_xs 1 (ex_ev d 187) (ex_cd d) [.sipush 0, .istore 2, .goto_w 1] ls st h := ex_ev_eq d 187 0 ls st h
set_option maxRecDepth 20000 in
theorem ev_187_1 (d : Nat) (ls st : List ex_V) (h : ex_H) : ex_ev d 187 1 ls st h = ex_xs 1 (ex_ev d 187) (ex_cd d) [.iload 2, .aload 0, .getfield 384, .sipush 7, .iaload, .if_icmp .ge 3, .aload 0, .getfield 384, .sipush 139, .iload 2, .iadd, .iaload, .iload 1, .if_icmp .ne 2, .iload 2, .ireturn] ls st h := ex_ev_eq d 187 1 ls st h
set_option maxRecDepth 20000 in
theorem ev_187_2 (d : Nat) (ls st : List ex_V) (h : ex_H) : ex_ev d 187 2 ls st h = ex_xs 1 (ex_ev d 187) (ex_cd d) [.iinc 2 1, .goto 1] ls st h := ex_ev_eq d 187 2 ls st h
set_option maxRecDepth 20000 in
theorem ev_187_3 (d : Nat) (ls st : List ex_V) (h : ex_H) : ex_ev d 187 3 ls st h = ex_xs 1 (ex_ev d 187) (ex_cd d) [.sipush (-1), .ireturn] ls st h := ex_ev_eq d 187 3 ls st h
set_option maxRecDepth 20000 in
theorem ev_188_0 (d : Nat) (ls st : List ex_V) (h : ex_H) : ex_ev d 188 0 ls st h = ex_xs 1 (ex_ev d 188) (ex_cd d) [.aload 0, .iload 1, .invokevirtual 145, .ifCond .ne 1, .aload 0, .sipush (-100001), .invokevirtual 142, .ireturn] ls st h := ex_ev_eq d 188 0 ls st h
set_option maxRecDepth 20000 in
theorem ev_188_1 (d : Nat) (ls st : List ex_V) (h : ex_H) : ex_ev d 188 1 ls st h = ex_xs 1 (ex_ev d 188) (ex_cd d) [.aload 0, .iload 1, .invokevirtual 187, .ifCond .lt 2, .aload 0, .sipush (-100007), .invokevirtual 142, .ireturn] ls st h := ex_ev_eq d 188 1 ls st h
set_option maxRecDepth 20000 in
theorem ev_188_2 (d : Nat) (ls st : List ex_V) (h : ex_H) : ex_ev d 188 2 ls st h = ex_xs 1 (ex_ev d 188) (ex_cd d) [.aload 0, .getfield 384, .sipush 7, .iaload, .sipush 7, .if_icmp .ne 3, .aload 0, .sipush (-100005), .invokevirtual 142, .ireturn] ls st h := ex_ev_eq d 188 2 ls st h
set_option maxRecDepth 20000 in
theorem ev_188_3 (d : Nat) (ls st : List ex_V) (h : ex_H) : ex_ev d 188 3 ls st h = ex_xs 1 (ex_ev d 188) (ex_cd d) [.aload 0, .invokevirtual 147, .aload 0, .getfield 384, .sipush 139, .aload 0, .getfield 384, .sipush 7, .iaload, .iadd, .iload 1, .iastore, .aload 0, .getfield 384, .sipush 7, .dup2, .iaload, .sipush 1, .iadd, .iastore, .aload 0, .getfield 384, .sipush 7, .iaload, .ireturn] ls st h := ex_ev_eq d 188 3 ls st h
set_option maxRecDepth 20000 in
theorem ev_189_0 (d : Nat) (ls st : List ex_V) (h : ex_H) : ex_ev d 189 0 ls st h = ex_xs 1 (ex_ev d 189) (ex_cd d) [.aload 0, .invokevirtual 147, .aload 0, .getfield 384, .sipush 7, .iaload, .istore 1, .aload 0, .getfield 384, .sipush 7, .sipush 0, .iastore, .iload 1, .ireturn] ls st h := ex_ev_eq d 189 0 ls st h
set_option maxRecDepth 20000 in
theorem ev_190_0 (d : Nat) (ls st : List ex_V) (h : ex_H) : ex_ev d 190 0 ls st h = ex_xs 1 (ex_ev d 190) (ex_cd d) [.aload 0, .getfield 384, .sipush 139, .iload 1, .iadd, .iaload, .istore 3, .aload 0, .getfield 384, .sipush 16, .iload 2, .iadd, .iaload, .aload 0, .getfield 384, .sipush 91, .iload 3, .iadd, .iaload, .isub, .istore 4, .sipush 0, .istore 5, .sipush 0, .istore 6, .goto_w 1] ls st h := ex_ev_eq d 190 0 ls st h
set_option maxRecDepth 20000 in
theorem ev_190_1 (d : Nat) (ls st : List ex_V) (h : ex_H) : ex_ev d 190 1 ls st h = ex_xs 1 (ex_ev d 190) (ex_cd d) [.iload 6, .iload 1, .if_icmp .ge 5, .aload 0, .getfield 384, .sipush 139, .iload 6, .iadd, .iaload, .istore 7, .aload 0, .getfield 393, .iload 6, .iaload, .iload 2, .if_icmp .ne 4, .iload 4, .aload 0, .getfield 384, .sipush 91, .iload 7, .iadd, .iaload, .isub, .istore 4, .iload 5, .aload 0, .getfield 384, .sipush 115, .iload 3, .iadd, .iaload, .aload 0, .getfield 384, .sipush 115, .iload 7, .iadd, .iaload, .if_icmp .le 2, .sipush 2, .goto 3] ls st h := ex_ev_eq d 190 1 ls st h
set_option maxRecDepth 20000 in
theorem ev_190_2 (d : Nat) (ls st : List ex_V) (h : ex_H) : ex_ev d 190 2 ls st h = ex_xs 1 (ex_ev d 190) (ex_cd d) [.sipush 0, .goto_w 3] ls st h := ex_ev_eq d 190 2 ls st h
set_option maxRecDepth 20000 in
theorem ev_190_3 (d : Nat) (ls st : List ex_V) (h : ex_H) : ex_ev d 190 3 ls st h = ex_xs 1 (ex_ev d 190) (ex_cd d) [.iadd, .istore 5, .goto_w 4] ls st h := ex_ev_eq d 190 3 ls st h
set_option maxRecDepth 20000 in
theorem ev_190_4 (d : Nat) (ls st : List ex_V) (h : ex_H) : ex_ev d 190 4 ls st h = ex_xs 1 (ex_ev d 190) (ex_cd d) [.iinc 6 1, .goto 1] ls st h := ex_ev_eq d 190 4 ls st h
set_option maxRecDepth 20000 in
theorem ev_190_5 (d : Nat) (ls st : List ex_V) (h : ex_H) : ex_ev d 190 5 ls st h = ex_xs 1 (ex_ev d 190) (ex_cd d) [.aload 0, .iload 3, .iload 2, .invokevirtual 162, .ifCond .eq 6, .iload 4, .ifCond .lt 6, .iload 5, .goto 7] ls st h := ex_ev_eq d 190 5 ls st h
set_option maxRecDepth 20000 in
theorem ev_190_6 (d : Nat) (ls st : List ex_V) (h : ex_H) : ex_ev d 190 6 ls st h = ex_xs 1 (ex_ev d 190) (ex_cd d) [.sipush (-1), .goto_w 7] ls st h := ex_ev_eq d 190 6 ls st h
set_option maxRecDepth 20000 in
theorem ev_190_7 (d : Nat) (ls st : List ex_V) (h : ex_H) : ex_ev d 190 7 ls st h = ex_xs 1 (ex_ev d 190) (ex_cd d) [.ireturn] ls st h := ex_ev_eq d 190 7 ls st h
set_option maxRecDepth 20000 in
theorem ev_191_0 (d : Nat) (ls st : List ex_V) (h : ex_H) : ex_ev d 191 0 ls st h = ex_xs 0 (ex_ev d 191) (ex_cd d) [.iload 1, .aload 0, .getfield 384, .sipush 7, .iaload, .if_icmp .ne 3, .aload 0, .iload 2, .putfield 395, .sipush 0, .istore 3, .goto_w 1] ls st h := ex_ev_eq d 191 0 ls st h
set_option maxRecDepth 20000 in
theorem ev_191_1 (d : Nat) (ls st : List ex_V) (h : ex_H) : ex_ev d 191 1 ls st h = ex_xs 0 (ex_ev d 191) (ex_cd d) [.iload 3, .iload 1, .if_icmp .ge 2, .aload 0, .getfield 394, .iload 3, .aload 0, .getfield 393, .iload 3, .iaload, .iastore, .iinc 3 1, .goto 1] ls st h := ex_ev_eq d 191 1 ls st h
set_option maxRecDepth 20000 in
theorem ev_191_2 (d : Nat) (ls st : List ex_V) (h : ex_H) : ex_ev d 191 2 ls st h = ex_xs 0 (ex_ev d 191) (ex_cd d) [.return_] ls st h := ex_ev_eq d 191 2 ls st h
set_option maxRecDepth 20000 in
theorem ev_191_3 (d : Nat) (ls st : List ex_V) (h : ex_H) : ex_ev d 191 3 ls st h = ex_xs 0 (ex_ev d 191) (ex_cd d) [.sipush 0, .istore 3, .goto_w 4] ls st h := ex_ev_eq d 191 3 ls st h
set_option maxRecDepth 20000 in
theorem ev_191_4 (d : Nat) (ls st : List ex_V) (h : ex_H) : ex_ev d 191 4 ls st h = ex_xs 0 (ex_ev d 191) (ex_cd d) [.iload 3, .aload 0, .getfield 384, .sipush 0, .iaload, .if_icmp .ge 7, .aload 0, .iload 1, .iload 3, .invokevirtual 190, .istore 4, .iload 4, .ifCond .lt 6, .aload 0, .getfield 395, .ifCond .lt 5, .iload 2, .iload 4, .iadd, .aload 0, .getfield 395, .if_icmp .ge 6, .goto_w 5] ls st h := ex_ev_eq d 191 4 ls st h
set_option maxRecDepth 20000 in
theorem ev_191_5 (d : Nat) (ls st : List ex_V) (h : ex_H) : ex_ev d 191 5 ls st h = ex_xs 0 (ex_ev d 191) (ex_cd d) [.aload 0, .getfield 393, .iload 1, .iload 3, .iastore, .aload 0, .iload 1, .sipush 1, .iadd, .iload 2, .iload 4, .iadd, .invokevirtual 191, .goto_w 6] ls st h := ex_ev_eq d 191 5 ls st h
set_option maxRecDepth 20000 in
theorem ev_191_6 (d : Nat) (ls st : List ex_V) (h : ex_H) : ex_ev d 191 6 ls st h = ex_xs 0 (ex_ev d 191) (ex_cd d) [.iinc 3 1, .goto 4] ls st h := ex_ev_eq d 191 6 ls st h
set_option maxRecDepth 20000 in
theorem ev_191_7 (d : Nat) (ls st : List ex_V) (h : ex_H) : ex_ev d 191 7 ls st h = ex_xs 0 (ex_ev d 191) (ex_cd d) [.return_] ls st h := ex_ev_eq d 191 7 ls st h
set_option maxRecDepth 20000 in
theorem ev_192_0 (d : Nat) (ls st : List ex_V) (h : ex_H) : ex_ev d 192 0 ls st h = ex_xs 0 (ex_ev d 192) (ex_cd d) [.aload 0, .sipush (-1), .putfield 395, .aload 0, .sipush 0, .sipush 0, .invokevirtual 191, .return_] ls st h := ex_ev_eq d 192 0 ls st h
set_option maxRecDepth 20000 in
theorem ev_193_0 (d : Nat) (ls st : List ex_V) (h : ex_H) : ex_ev d 193 0 ls st h = ex_xs 1 (ex_ev d 193) (ex_cd d) [.aload 0, .invokevirtual 192, .aload 0, .getfield 395, .ifCond .ge 1, .aload 0, .sipush (-100006), .invokevirtual 142, .goto 2] ls st h := ex_ev_eq d 193 0 ls st h
set_option maxRecDepth 20000 in
theorem ev_193_1 (d : Nat) (ls st : List ex_V) (h : ex_H) : ex_ev d 193 1 ls st h = ex_xs 1 (ex_ev d 193) (ex_cd d) [.aload 0, .getfield 395, .goto_w 2] ls st h := ex_ev_eq d 193 1 ls st h
set_option maxRecDepth 20000 in
theorem ev_193_2 (d : Nat) (ls st : List ex_V) (h : ex_H) : ex_ev d 193 2 ls st h = ex_xs 1 (ex_ev d 193) (ex_cd d) [.ireturn] ls st h := ex_ev_eq d 193 2 ls st h
set_option maxRecDepth 20000 in
theorem ev_194_0 (d : Nat) (ls st : List ex_V) (h : ex_H) : ex_ev d 194 0 ls st h = ex_xs 1 (ex_ev d 194) (ex_cd d) [.aload 0, .iload 1, .invokevirtual 145, .ifCond .ne 1, .aload 0, .sipush (-100001), .invokevirtual 142, .ireturn] ls st h := ex_ev_eq d 194 0 ls st h
set_option maxRecDepth 20000 in
theorem ev_194_1 (d : Nat) (ls st : List ex_V) (h : ex_H) : ex_ev d 194 1 ls st h = ex_xs 1 (ex_ev d 194) (ex_cd d) [.aload 0, .invokevirtual 192, .aload 0, .iload 1, .invokevirtual 187, .istore 2, .aload 0, .getfield 395, .ifCond .lt 2, .iload 2, .ifCond .ge 3, .goto_w 2] ls st h := ex_ev_eq d 194 1 ls st h
set_option maxRecDepth 20000 in
theorem ev_194_2 (d : Nat) (ls st : List ex_V) (h : ex_H) : ex_ev d 194 2 ls st h = ex_xs 1 (ex_ev d 194) (ex_cd d) [.aload 0, .sipush (-100006), .invokevirtual 142, .goto 4] ls st h := ex_ev_eq d 194 2 ls st h
set_option maxRecDepth 20000 in
theorem ev_194_3 (d : Nat) (ls st : List ex_V) (h : ex_H) : ex_ev d 194 3 ls st h = ex_xs 1 (ex_ev d 194) (ex_cd d) [.aload 0, .getfield 394, .iload 2, .iaload, .goto_w 4] ls st h := ex_ev_eq d 194 3 ls st h
set_option maxRecDepth 20000 in
theorem ev_194_4 (d : Nat) (ls st : List ex_V) (h : ex_H) : ex_ev d 194 4 ls st h = ex_xs 1 (ex_ev d 194) (ex_cd d) [.ireturn] ls st h := ex_ev_eq d 194 4 ls st h
set_option maxRecDepth 20000 in
theorem ev_195_0 (d : Nat) (ls st : List ex_V) (h : ex_H) : ex_ev d 195 0 ls st h = ex_xs 1 (ex_ev d 195) (ex_cd d) [.iload 1, .sipush 0, .sipush 3, .invokestatic 143, .ifCond .ne 1, .aload 0, .sipush (-100001), .invokevirtual 142, .ireturn] ls st h := ex_ev_eq d 195 0 ls st h
set_option maxRecDepth 20000 in
theorem ev_195_1 (d : Nat) (ls st : List ex_V) (h : ex_H) : ex_ev d 195 1 ls st h = ex_xs 1 (ex_ev d 195) (ex_cd d) [.aload 0, .invokevirtual 147, .aload 0, .getfield 384, .sipush 3, .iaload, .istore 2, .aload 0, .getfield 384, .sipush 3, .iload 1, .iastore, .iload 2, .ireturn] ls st h := ex_ev_eq d 195 1 ls st h
set_option maxRecDepth 20000 in
theorem ev_196_0 (d : Nat) (ls st : List ex_V) (h : ex_H) : ex_ev d 196 0 ls st h = ex_xs 0 (ex_ev d 196) (ex_cd d) [.sipush 0, .istore 2, .goto_w 1] ls st h := ex_ev_eq d 196 0 ls st h
set_option maxRecDepth 20000 in
theorem ev_196_1 (d : Nat) (ls st : List ex_V) (h : ex_H) : ex_ev d 196 1 ls st h = ex_xs 0 (ex_ev d 196) (ex_cd d) [.iload 2, .sipush 8, .if_icmp .ge 4, .aload 0, .getfield 396, .iload 2, .iload 1, .iload 2, .ishr, .sipush 1, .iand, .sipush 1, .if_icmp .ne 2, .aload 0, .getfield 384, .sipush 123, .iload 2, .iadd, .iaload, .goto 3] ls st h := ex_ev_eq d 196 1 ls st h
set_option maxRecDepth 20000 in
theorem ev_196_2 (d : Nat) (ls st : List ex_V) (h : ex_H) : ex_ev d 196 2 ls st h = ex_xs 0 (ex_ev d 196) (ex_cd d) [.sipush 0, .goto_w 3] ls st h := ex_ev_eq d 196 2 ls st h
set_option maxRecDepth 20000 in
theorem ev_196_3 (d : Nat) (ls st : List ex_V) (h : ex_H) : ex_ev d 196 3 ls st h = ex_xs 0 (ex_ev d 196) (ex_cd d) [.iastore, .iinc 2 1, .goto 1] ls st h := ex_ev_eq d 196 3 ls st h
set_option maxRecDepth 20000 in
theorem ev_196_4 (d : Nat) (ls st : List ex_V) (h : ex_H) : ex_ev d 196 4 ls st h = ex_xs 0 (ex_ev d 196) (ex_cd d) [.return_] ls st h := ex_ev_eq d 196 4 ls st h
set_option maxRecDepth 20000 in
theorem ev_197_0 (d : Nat) (ls st : List ex_V) (h : ex_H) : ex_ev d 197 0 ls st h = ex_xs 1 (ex_ev d 197) (ex_cd d) [.sipush 0, .istore 2, .sipush 0, .istore 3, .goto_w 1] ls st h := ex_ev_eq d 197 0 ls st h
set_option maxRecDepth 20000 in
theorem ev_197_1 (d : Nat) (ls st : List ex_V) (h : ex_H) : ex_ev d 197 1 ls st h = ex_xs 1 (ex_ev d 197) (ex_cd d) [.iload 3, .aload 0, .getfield 384, .sipush 3, .iaload, .if_icmp .ge 15, .sipush (-1), .istore 4, .sipush 0, .istore 5, .goto_w 2] ls st h := ex_ev_eq d 197 1 ls st h
set_option maxRecDepth 20000 in
theorem ev_197_2 (d : Nat) (ls st : List ex_V) (h : ex_H) : ex_ev d 197 2 ls st h = ex_xs 1 (ex_ev d 197) (ex_cd d) [.iload 5, .sipush 8, .if_icmp .ge 8, .iload 2, .iload 5, .ishr, .sipush 1, .iand, .ifCond .ne 3, .aload 0, .getfield 396, .iload 5, .iaload, .ifCond .le 3, .aload 0, .getfield 384, .sipush 115, .iload 5, .iadd, .iaload, .iload 1, .if_icmp .le 3, .sipush 1, .goto 4] ls st h := ex_ev_eq d 197 2 ls st h
set_option maxRecDepth 20000 in
theorem ev_197_3 (d : Nat) (ls st : List ex_V) (h : ex_H) : ex_ev d 197 3 ls st h = ex_xs 1 (ex_ev d 197) (ex_cd d) [.sipush 0, .goto_w 4] ls st h := ex_ev_eq d 197 3 ls st h
set_option maxRecDepth 20000 in
theorem ev_197_4 (d : Nat) (ls st : List ex_V) (h : ex_H) : ex_ev d 197 4 ls st h = ex_xs 1 (ex_ev d 197) (ex_cd d) [.istore 6, .iload 6, .ifCond .eq 6, .iload 4, .ifCond .lt 5, .aload 0, .getfield 396, .iload 5, .iaload, .aload 0, .getfield 396, .iload 4, .iaload, .if_icmp .le 6, .goto_w 5] ls st h := ex_ev_eq d 197 4 ls st h
set_option maxRecDepth 20000 in
theorem ev_197_5 (d : Nat) (ls st : List ex_V) (h : ex_H) : ex_ev d 197 5 ls st h = ex_xs 1 (ex_ev d 197) (ex_cd d) [.iload 5, .goto 7] ls st h := ex_ev_eq d 197 5 ls st h
set_option maxRecDepth 20000 in
theorem ev_197_6 (d : Nat) (ls st : List ex_V) (h : ex_H) : ex_ev d 197 6 ls st h = ex_xs 1 (ex_ev d 197) (ex_cd d) [.iload 4, .goto_w 7] ls st h := ex_ev_eq d 197 6 ls st h
set_option maxRecDepth 20000 in
theorem ev_197_7 (d : Nat) (ls st : List ex_V) (h : ex_H) : ex_ev d 197 7 ls st h = ex_xs 1 (ex_ev d 197) (ex_cd d) [.istore 4, .iinc 5 1, .goto 2] ls st h := ex_ev_eq d 197 7 ls st h
set_option maxRecDepth 20000 in
theorem ev_197_8 (d : Nat) (ls st : List ex_V) (h : ex_H) : ex_ev d 197 8 ls st h = ex_xs 1 (ex_ev d 197) (ex_cd d) [.iload 2, .iload 4, .ifCond .lt 9, .sipush 1, .iload 4, .ishl, .goto 10] ls st h := ex_ev_eq d 197 8 ls st h
set_option maxRecDepth 20000 in
theorem ev_197_9 (d : Nat) (ls st : List ex_V) (h : ex_H) : ex_ev d 197 9 ls st h = ex_xs 1 (ex_ev d 197) (ex_cd d) [.sipush 0, .goto_w 10] ls st h := ex_ev_eq d 197 9 ls st h
set_option maxRecDepth 20000 in
theorem ev_197_10 (d : Nat) (ls st : List ex_V) (h : ex_H) : ex_ev d 197 10 ls st h = ex_xs 1 (ex_ev d 197) (ex_cd d) [.ior, .istore 2, .sipush 0, .istore 5, .goto_w 11] ls st h := ex_ev_eq d 197 10 ls st h
set_option maxRecDepth 20000 in
theorem ev_197_11 (d : Nat) (ls st : List ex_V) (h : ex_H) : ex_ev d 197 11 ls st h = ex_xs 1 (ex_ev d 197) (ex_cd d) [.iload 5, .sipush 8, .if_icmp .ge 14, .aload 0, .getfield 396, .iload 5, .dup2, .iaload, .iload 5, .iload 4, .if_icmp .ne 12, .sipush 1, .goto 13] ls st h := ex_ev_eq d 197 11 ls st h
set_option maxRecDepth 20000 in
theorem ev_197_12 (d : Nat) (ls st : List ex_V) (h : ex_H) : ex_ev d 197 12 ls st h = ex_xs 1 (ex_ev d 197) (ex_cd d) [.sipush 0, .goto_w 13] ls st h := ex_ev_eq d 197 12 ls st h
set_option maxRecDepth 20000 in
theorem ev_197_13 (d : Nat) (ls st : List ex_V) (h : ex_H) : ex_ev d 197 13 ls st h = ex_xs 1 (ex_ev d 197) (ex_cd d) [.isub, .iastore, .iinc 5 1, .goto 11] ls st h := ex_ev_eq d 197 13 ls st h
set_option maxRecDepth 20000 in
theorem ev_197_14 (d : Nat) (ls st : List ex_V) (h : ex_H) : ex_ev d 197 14 ls st h = ex_xs 1 (ex_ev d 197) (ex_cd d) [.iinc 3 1, .goto 1] ls st h := ex_ev_eq d 197 14 ls st h
set_option maxRecDepth 20000 in
theorem ev_197_15 (d : Nat) (ls st : List ex_V) (h : ex_H) : ex_ev d 197 15 ls st h = ex_xs 1 (ex_ev d 197) (ex_cd d) [.iload 2, .ireturn] ls st h := ex_ev_eq d 197 15 ls st h
set_option maxRecDepth 20000 in
theorem ev_198_0 (d : Nat) (ls st : List ex_V) (h : ex_H) : ex_ev d 198 0 ls st h = ex_xs 2 (ex_ev d 198) (ex_cd d) [.aload 0, .iload 1, .invokevirtual 196, .sipush 23, .istore 2, .goto_w 1] ls st h := ex_ev_eq d 198 0 ls st h
set_option maxRecDepth 20000 in
theorem ev_198_1 (d : Nat) (ls st : List ex_V) (h : ex_H) : ex_ev d 198 1 ls st h = ex_xs 2 (ex_ev d 198) (ex_cd d) [.iload 2, .ifCond .lt 2, .aload 0, .iload 2, .invokevirtual 197, .istore 3, .iinc 2 (-1), .goto 1] ls st h := ex_ev_eq d 198 1 ls st h
set_option maxRecDepth 20000 in
theorem ev_198_2 (d : Nat) (ls st : List ex_V) (h : ex_H) : ex_ev d 198 2 ls st h = ex_xs 2 (ex_ev d 198) (ex_cd d) [.sipush 0, .istore 2, .sipush 0, .istore 3, .goto_w 3] ls st h := ex_ev_eq d 198 2 ls st h
set_option maxRecDepth 20000 in
theorem ev_198_3 (d : Nat) (ls st : List ex_V) (h : ex_H) : ex_ev d 198 3 ls st h = ex_xs 2 (ex_ev d 198) (ex_cd d) [.iload 3, .sipush 8, .if_icmp .ge 4, .iload 2, .aload 0, .getfield 396, .iload 3, .iaload, .iadd, .istore 2, .iinc 3 1, .goto 3] ls st h := ex_ev_eq d 198 3 ls st h
set_option maxRecDepth 20000 in
theorem ev_198_4 (d : Nat) (ls st : List ex_V) (h : ex_H) : ex_ev d 198 4 ls st h = ex_xs 2 (ex_ev d 198) (ex_cd d) [.iload 2, .ifCond .ne 5, .sipush 1, .goto 6] ls st h := ex_ev_eq d 198 4 ls st h
set_option maxRecDepth 20000 in
theorem ev_198_5 (d : Nat) (ls st : List ex_V) (h : ex_H) : ex_ev d 198 5 ls st h = ex_xs 2 (ex_ev d 198) (ex_cd d) [.sipush 0, .goto_w 6] ls st h := ex_ev_eq d 198 5 ls st h
set_option maxRecDepth 20000 in
theorem ev_198_6 (d : Nat) (ls st : List ex_V) (h : ex_H) : ex_ev d 198 6 ls st h = ex_xs 2 (ex_ev d 198) (ex_cd d) [.ireturn] ls st h := ex_ev_eq d 198 6 ls st h
set_option maxRecDepth 20000 in
theorem ev_199_0 (d : Nat) (ls st : List ex_V) (h : ex_H) : ex_ev d 199 0 ls st h = ex_xs 1 (ex_ev d 199) (ex_cd d) [.sipush 0, .istore 1, .sipush 0, .istore 2, .goto_w 1] ls st h := ex_ev_eq d 199 0 ls st h
set_option maxRecDepth 20000 in
theorem ev_199_1 (d : Nat) (ls st : List ex_V) (h : ex_H) : ex_ev d 199 1 ls st h = ex_xs 1 (ex_ev d 199) (ex_cd d) [.iload 2, .sipush 8, .if_icmp .ge 2, .iload 1, .iload 0, .iload 2, .ishr, .sipush 1, .iand, .iadd, .istore 1, .iinc 2 1, .goto 1] ls st h := ex_ev_eq d 199 1 ls st h
set_option maxRecDepth 20000 in
theorem ev_199_2 (d : Nat) (ls st : List ex_V) (h : ex_H) : ex_ev d 199 2 ls st h = ex_xs 1 (ex_ev d 199) (ex_cd d) [.iload 1, .ireturn] ls st h := ex_ev_eq d 199 2 ls st h
set_option maxRecDepth 20000 in
theorem ev_200_0 (d : Nat) (ls st : List ex_V) (h : ex_H) : ex_ev d 200 0 ls st h = ex_xs 1 (ex_ev d 200) (ex_cd d) [.sipush 0, .istore 1, .sipush 0, .istore 2, .goto_w 1] ls st h := ex_ev_eq d 200 0 ls st h
set_option maxRecDepth 20000 in
theorem ev_200_1 (d : Nat) (ls st : List ex_V) (h : ex_H) : ex_ev d 200 1 ls st h = ex_xs 1 (ex_ev d 200) (ex_cd d) [.iload 2, .aload 0, .getfield 384, .sipush 1, .iaload, .if_icmp .ge 4, .iload 1, .aload 0, .getfield 384, .sipush 123, .iload 2, .iadd, .iaload, .ifCond .le 2, .aload 0, .iload 2, .invokevirtual 157, .ifCond .lt 2, .sipush 1, .iload 2, .ishl, .goto 3] ls st h := ex_ev_eq d 200 1 ls st h
set_option maxRecDepth 20000 in
theorem ev_200_2 (d : Nat) (ls st : List ex_V) (h : ex_H) : ex_ev d 200 2 ls st h = ex_xs 1 (ex_ev d 200) (ex_cd d) [.sipush 0, .goto_w 3] ls st h := ex_ev_eq d 200 2 ls st h
set_option maxRecDepth 20000 in
theorem ev_200_3 (d : Nat) (ls st : List ex_V) (h : ex_H) : ex_ev d 200 3 ls st h = ex_xs 1 (ex_ev d 200) (ex_cd d) [.ior, .istore 1, .iinc 2 1, .goto 1] ls st h := ex_ev_eq d 200 3 ls st h
set_option maxRecDepth 20000 in
theorem ev_200_4 (d : Nat) (ls st : List ex_V) (h : ex_H) : ex_ev d 200 4 ls st h = ex_xs 1 (ex_ev d 200) (ex_cd d) [.sipush 0, .istore 2, .sipush 1, .istore 3, .goto_w 5] ls st h := ex_ev_eq d 200 4 ls st h
set_option maxRecDepth 20000 in
theorem ev_200_5 (d : Nat) (ls st : List ex_V) (h : ex_H) : ex_ev d 200 5 ls st h = ex_xs 1 (ex_ev d 200) (ex_cd d) [.iload 3, .iload 1, .if_icmp .gt 7, .iload 3, .iload 1, .sipush (-1), .ixor, .iand, .ifCond .ne 6, .iload 3, .invokestatic 199, .iload 2, .invokestatic 199, .if_icmp .le 6, .aload 0, .iload 3, .invokevirtual 198, .ifCond .eq 6, .iload 3, .istore 2, .goto_w 6] ls st h := ex_ev_eq d 200 5 ls st h
set_option maxRecDepth 20000 in
theorem ev_200_6 (d : Nat) (ls st : List ex_V) (h : ex_H) : ex_ev d 200 6 ls st h = ex_xs 1 (ex_ev d 200) (ex_cd d) [.iinc 3 1, .goto 5] ls st h := ex_ev_eq d 200 6 ls st h
set_option maxRecDepth 20000 in
theorem ev_200_7 (d : Nat) (ls st : List ex_V) (h : ex_H) : ex_ev d 200 7 ls st h = ex_xs 1 (ex_ev d 200) (ex_cd d) [.iload 2, .ireturn] ls st h := ex_ev_eq d 200 7 ls st h
set_option maxRecDepth 20000 in
theorem ev_201_0 (d : Nat) (ls st : List ex_V) (h : ex_H) : ex_ev d 201 0 ls st h = ex_xs 1 (ex_ev d 201) (ex_cd d) [.aload 0, .invokevirtual 200, .ireturn] ls st h := ex_ev_eq d 201 0 ls st h
set_option maxRecDepth 20000 in
theorem ev_202_0 (d : Nat) (ls st : List ex_V) (h : ex_H) : ex_ev d 202 0 ls st h = ex_xs 1 (ex_ev d 202) (ex_cd d) [.iload 1, .invokestatic 146, .ifCond .ne 1, .aload 0, .sipush (-100001), .invokevirtual 142, .ireturn] ls st h := ex_ev_eq d 202 0 ls st h
set_option maxRecDepth 20000 in
theorem ev_202_1 (d : Nat) (ls st : List ex_V) (h : ex_H) : ex_ev d 202 1 ls st h = ex_xs 1 (ex_ev d 202) (ex_cd d) [.aload 0, .aload 0, .invokevirtual 200, .invokevirtual 196, .sipush 0, .istore 2, .sipush 23, .istore 3, .goto_w 2] ls st h := ex_ev_eq d 202 1 ls st h
set_option maxRecDepth 20000 in
theorem ev_202_2 (d : Nat) (ls st : List ex_V) (h : ex_H) : ex_ev d 202 2 ls st h = ex_xs 1 (ex_ev d 202) (ex_cd d) [.iload 3, .iload 1, .if_icmp .lt 3, .aload 0, .iload 3, .invokevirtual 197, .istore 2, .iinc 3 (-1), .goto 2] ls st h := ex_ev_eq d 202 2 ls st h
set_option maxRecDepth 20000 in
theorem ev_202_3 (d : Nat) (ls st : List ex_V) (h : ex_H) : ex_ev d 202 3 ls st h = ex_xs 1 (ex_ev d 202) (ex_cd d) [.iload 2, .ireturn] ls st h := ex_ev_eq d 202 3 ls st h
set_option maxRecDepth 20000 in
theorem ev_203_0 (d : Nat) (ls st : List ex_V) (h : ex_H) : ex_ev d 203 0 ls st h = ex_xs 1 (ex_ev d 203) (ex_cd d) [.iload 1, .sipush 0, .sipush 4, .invokestatic 143, .ifCond .eq 1, .iload 2, .sipush 0, .sipush 4, .invokestatic 143, .ifCond .eq 1, .iload 3, .sipush 0, .sipush 999, .invokestatic 143, .ifCond .ne 2, .goto_w 1] ls st h := ex_ev_eq d 203 0 ls st h
set_option maxRecDepth 20000 in
theorem ev_203_1 (d : Nat) (ls st : List ex_V) (h : ex_H) : ex_ev d 203 1 ls st h = ex_xs 1 (ex_ev d 203) (ex_cd d) [.aload 0, .sipush (-100001), .invokevirtual 142, .ireturn] ls st h := ex_ev_eq d 203 1 ls st h
set_option maxRecDepth 20000 in
theorem ev_203_2 (d : Nat) (ls st : List ex_V) (h : ex_H) : ex_ev d 203 2 ls st h = ex_xs 1 (ex_ev d 203) (ex_cd d) [.aload 0, .invokevirtual 147, .aload 0, .getfield 384, .sipush 146, .sipush 5, .iload 1, .imul, .iadd, .iload 2, .iadd, .iaload, .istore 4, .aload 0, .getfield 384, .sipush 146, .sipush 5, .iload 1, .imul, .iadd, .iload 2, .iadd, .iload 3, .iastore, .iload 4, .ireturn] ls st h := ex_ev_eq d 203 2 ls st h
set_option maxRecDepth 20000 in
theorem ev_204_0 (d : Nat) (ls st : List ex_V) (h : ex_H) : ex_ev d 204 0 ls st h = ex_xs 1 (ex_ev d 204) (ex_cd d) [.iload 1, .sipush 5, .if_icmp .ne 1, .sipush 0, .ireturn] ls st h := ex_ev_eq d 204 0 ls st h
set_option maxRecDepth 20000 in
theorem ev_204_1 (d : Nat) (ls st : List ex_V) (h : ex_H) : ex_ev d 204 1 ls st h = ex_xs 1 (ex_ev d 204) (ex_cd d) [.iload 1, .iload 3, .if_icmp .ne 2, .aload 0, .iload 1, .sipush 1, .iadd, .iload 2, .iload 3, .invokevirtual 204, .ireturn] ls st h := ex_ev_eq d 204 1 ls st h
set_option maxRecDepth 20000 in
theorem ev_204_2 (d : Nat) (ls st : List ex_V) (h : ex_H) : ex_ev d 204 2 ls st h = ex_xs 1 (ex_ev d 204) (ex_cd d) [.sipush (-1), .istore 4, .sipush 0, .istore 5, .goto_w 3] ls st h := ex_ev_eq d 204 2 ls st h
set_option maxRecDepth 20000 in
theorem ev_204_3 (d : Nat) (ls st : List ex_V) (h : ex_H) : ex_ev d 204 3 ls st h = ex_xs 1 (ex_ev d 204) (ex_cd d) [.iload 5, .sipush 5, .if_icmp .ge 5, .iload 2, .iload 5, .ishr, .sipush 1, .iand, .sipush 1, .if_icmp .ne 4, .iload 4, .aload 0, .getfield 384, .sipush 146, .sipush 5, .iload 1, .imul, .iadd, .iload 5, .iadd, .iaload, .aload 0, .iload 1, .sipush 1, .iadd, .iload 2, .sipush 1, .iload 5, .ishl, .sipush (-1), .ixor, .iand, .iload 3, .invokevirtual 204, .iadd, .invokestatic 236, .istore 4, .goto_w 4] ls st h := ex_ev_eq d 204 3 ls st h
set_option maxRecDepth 20000 in
theorem ev_204_4 (d : Nat) (ls st : List ex_V) (h : ex_H) : ex_ev d 204 4 ls st h = ex_xs 1 (ex_ev d 204) (ex_cd d) [.iinc 5 1, .goto 3] ls st h := ex_ev_eq d 204 4 ls st h
set_option maxRecDepth 20000 in
theorem ev_204_5 (d : Nat) (ls st : List ex_V) (h : ex_H) : ex_ev d 204 5 ls st h = ex_xs 1 (ex_ev d 204) (ex_cd d) [.iload 4, .ireturn] ls st h := ex_ev_eq d 204 5 ls st h
set_option maxRecDepth 20000 in
theorem ev_205_0 (d : Nat) (ls st : List ex_V) (h : ex_H) : ex_ev d 205 0 ls st h = ex_xs 1 (ex_ev d 205) (ex_cd d) [.sipush 31, .istore 1, .aload 0, .sipush 0, .iload 1, .sipush (-1), .invokevirtual 204, .istore 2, .iload 2, .istore 3, .sipush 0, .istore 4, .goto_w 1] ls st h := ex_ev_eq d 205 0 ls st h
set_option maxRecDepth 20000 in
theorem ev_205_1 (d : Nat) (ls st : List ex_V) (h : ex_H) : ex_ev d 205 1 ls st h = ex_xs 1 (ex_ev d 205) (ex_cd d) [.iload 4, .sipush 5, .if_icmp .ge 5, .sipush 0, .istore 5, .goto_w 2] ls st h := ex_ev_eq d 205 1 ls st h
set_option maxRecDepth 20000 in
theorem ev_205_2 (d : Nat) (ls st : List ex_V) (h : ex_H) : ex_ev d 205 2 ls st h = ex_xs 1 (ex_ev d 205) (ex_cd d) [.iload 1, .iload 5, .ishr, .sipush 1, .iand, .ifCond .eq 3, .aload 0, .getfield 384, .sipush 146, .sipush 5, .iload 4, .imul, .iadd, .iload 5, .iadd, .iaload, .aload 0, .iload 4, .sipush 1, .iadd, .iload 1, .sipush 1, .iload 5, .ishl, .sipush (-1), .ixor, .iand, .sipush (-1), .invokevirtual 204, .iadd, .iload 3, .if_icmp .eq 4, .goto_w 3] ls st h := ex_ev_eq d 205 2 ls st h
set_option maxRecDepth 20000 in
theorem ev_205_3 (d : Nat) (ls st : List ex_V) (h : ex_H) : ex_ev d 205 3 ls st h = ex_xs 1 (ex_ev d 205) (ex_cd d) [.iinc 5 1, .goto 2] ls st h := ex_ev_eq d 205 3 ls st h
set_option maxRecDepth 20000 in
theorem ev_205_4 (d : Nat) (ls st : List ex_V) (h : ex_H) : ex_ev d 205 4 ls st h = ex_xs 1 (ex_ev d 205) (ex_cd d) [.aload 0, .getfield 397, .iload 4, .iload 5, .iastore, .iload 1, .sipush 1, .iload 5, .ishl, .sipush (-1), .ixor, .iand, .istore 1, .iload 3, .aload 0, .getfield 384, .sipush 146, .sipush 5, .iload 4, .imul, .iadd, .iload 5, .iadd, .iaload, .isub, .istore 3, .iinc 4 1, .goto 1] ls st h := ex_ev_eq d 205 4 ls st h
set_option maxRecDepth 20000 in
theorem ev_205_5 (d : Nat) (ls st : List ex_V) (h : ex_H) : ex_ev d 205 5 ls st h = ex_xs 1 (ex_ev d 205) (ex_cd d) [.iload 2, .ireturn] ls st h := ex_ev_eq d 205 5 ls st h
set_option maxRecDepth 20000 in
theorem ev_206_0 (d : Nat) (ls st : List ex_V) (h : ex_H) : ex_ev d 206 0 ls st h = ex_xs 1 (ex_ev d 206) (ex_cd d) [.iload 1, .sipush 0, .sipush 4, .invokestatic 143, .ifCond .ne 1, .aload 0, .sipush (-100001), .invokevirtual 142, .ireturn] ls st h := ex_ev_eq d 206 0 ls st h
set_option maxRecDepth 20000 in
theorem ev_206_1 (d : Nat) (ls st : List ex_V) (h : ex_H) : ex_ev d 206 1 ls st h = ex_xs 1 (ex_ev d 206) (ex_cd d) [.aload 0, .invokevirtual 205, .istore 2, .aload 0, .getfield 397, .iload 1, .iaload, .ireturn] ls st h := ex_ev_eq d 206 1 ls st h
set_option maxRecDepth 20000 in
theorem ev_207_0 (d : Nat) (ls st : List ex_V) (h : ex_H) : ex_ev d 207 0 ls st h = ex_xs 1 (ex_ev d 207) (ex_cd d) [.iload 1, .sipush 0, .sipush 4, .invokestatic 143, .ifCond .ne 1, .aload 0, .sipush (-100001), .invokevirtual 142, .ireturn] ls st h := ex_ev_eq d 207 0 ls st h
set_option maxRecDepth 20000 in
theorem ev_207_1 (d : Nat) (ls st : List ex_V) (h : ex_H) : ex_ev d 207 1 ls st h = ex_xs 1 (ex_ev d 207) (ex_cd d) [.aload 0, .invokevirtual 205, .aload 0, .getfield 384, .sipush 146, .sipush 5, .iload 1, .imul, .iadd, .aload 0, .getfield 397, .iload 1, .iaload, .iadd, .iaload, .isub, .istore 2, .aload 0, .sipush 0, .sipush 31, .iload 1, .invokevirtual 204, .iload 2, .isub, .ireturn] ls st h := ex_ev_eq d 207 1 ls st h
set_option maxRecDepth 20000 in
theorem ev_208_0 (d : Nat) (ls st : List ex_V) (h : ex_H) : ex_ev d 208 0 ls st h = ex_xs 1 (ex_ev d 208) (ex_cd d) [.aload 0, .invokevirtual 205, .ireturn] ls st h := ex_ev_eq d 208 0 ls st h
set_option maxRecDepth 20000 in
theorem ev_209_0 (d : Nat) (ls st : List ex_V) (h : ex_H) : ex_ev d 209 0 ls st h = ex_xs 1 (ex_ev d 209) (ex_cd d) [.iload 1, .sipush 0, .sipush 3, .invokestatic 143, .ifCond .ne 1, .aload 0, .sipush (-100001), .invokevirtual 142, .ireturn] ls st h := ex_ev_eq d 209 0 ls st h
set_option maxRecDepth 20000 in
theorem ev_209_1 (d : Nat) (ls st : List ex_V) (h : ex_H) : ex_ev d 209 1 ls st h = ex_xs 1 (ex_ev d 209) (ex_cd d) [.aload 0, .invokevirtual 147, .aload 0, .getfield 384, .sipush 4, .iaload, .istore 2, .aload 0, .getfield 384, .sipush 4, .iload 1, .iastore, .iload 2, .ireturn] ls st h := ex_ev_eq d 209 1 ls st h
set_option maxRecDepth 20000 in
theorem ev_210_0 (d : Nat) (ls st : List ex_V) (h : ex_H) : ex_ev d 210 0 ls st h = ex_xs 1 (ex_ev d 210) (ex_cd d) [.aload 0, .iload 1, .invokevirtual 145, .ifCond .ne 1, .aload 0, .sipush (-100001), .invokevirtual 142, .ireturn] ls st h := ex_ev_eq d 210 0 ls st h
set_option maxRecDepth 20000 in
theorem ev_210_1 (d : Nat) (ls st : List ex_V) (h : ex_H) : ex_ev d 210 1 ls st h = ex_xs 1 (ex_ev d 210) (ex_cd d) [.aload 0, .invokevirtual 147, .aload 0, .sipush 64, .iload 1, .iadd, .iload 2, .ifCond .eq 2, .sipush 8, .goto 3] ls st h := ex_ev_eq d 210 1 ls st h
set_option maxRecDepth 20000 in
theorem ev_210_2 (d : Nat) (ls st : List ex_V) (h : ex_H) : ex_ev d 210 2 ls st h = ex_xs 1 (ex_ev d 210) (ex_cd d) [.sipush 0, .goto_w 3] ls st h := ex_ev_eq d 210 2 ls st h
set_option maxRecDepth 20000 in
theorem ev_210_3 (d : Nat) (ls st : List ex_V) (h : ex_H) : ex_ev d 210 3 ls st h = ex_xs 1 (ex_ev d 210) (ex_cd d) [.iadd, .invokevirtual 172, .aload 0, .getfield 384, .sipush 8, .iaload, .ireturn] ls st h := ex_ev_eq d 210 3 ls st h
set_option maxRecDepth 20000 in
theorem ev_211_0 (d : Nat) (ls st : List ex_V) (h : ex_H) : ex_ev d 211 0 ls st h = ex_xs 1 (ex_ev d 211) (ex_cd d) [.aload 0, .iload 1, .invokevirtual 145, .ifCond .eq 1, .iload 2, .sipush 0, .sipush 3, .invokestatic 143, .ifCond .eq 1, .iload 3, .sipush 0, .sipush 9999, .invokestatic 143, .ifCond .ne 2, .goto_w 1] ls st h := ex_ev_eq d 211 0 ls st h
set_option maxRecDepth 20000 in
theorem ev_211_1 (d : Nat) (ls st : List ex_V) (h : ex_H) : ex_ev d 211 1 ls st h = ex_xs 1 (ex_ev d 211) (ex_cd d) [.aload 0, .sipush (-100001), .invokevirtual 142, .ireturn] ls st h := ex_ev_eq d 211 1 ls st h
set_option maxRecDepth 20000 in
theorem ev_211_2 (d : Nat) (ls st : List ex_V) (h : ex_H) : ex_ev d 211 2 ls st h = ex_xs 1 (ex_ev d 211) (ex_cd d) [.sipush (-1), .istore 4, .sipush 0, .istore 5, .goto_w 3] ls st h := ex_ev_eq d 211 2 ls st h
set_option maxRecDepth 20000 in
theorem ev_211_3 (d : Nat) (ls st : List ex_V) (h : ex_H) : ex_ev d 211 3 ls st h = ex_xs 1 (ex_ev d 211) (ex_cd d) [.iload 5, .aload 0, .getfield 384, .sipush 8, .iaload, .if_icmp .ge 6, .aload 0, .getfield 384, .sipush 171, .iload 5, .iadd, .iaload, .sipush 64, .iload 1, .iadd, .if_icmp .ne 4, .iload 5, .goto 5] ls st h := ex_ev_eq d 211 3 ls st h
set_option maxRecDepth 20000 in
theorem ev_211_4 (d : Nat) (ls st : List ex_V) (h : ex_H) : ex_ev d 211 4 ls st h = ex_xs 1 (ex_ev d 211) (ex_cd d) [.iload 4, .goto_w 5] ls st h := ex_ev_eq d 211 4 ls st h
set_option maxRecDepth 20000 in
theorem ev_211_5 (d : Nat) (ls st : List ex_V) (h : ex_H) : ex_ev d 211 5 ls st h = ex_xs 1 (ex_ev d 211) (ex_cd d) [.istore 4, .iinc 5 1, .goto 3] ls st h := ex_ev_eq d 211 5 ls st h
set_option maxRecDepth 20000 in
theorem ev_211_6 (d : Nat) (ls st : List ex_V) (h : ex_H) : ex_ev d 211 6 ls st h = ex_xs 1 (ex_ev d 211) (ex_cd d) [.iload 4, .sipush 1, .iadd, .istore 5, .goto_w 7] ls st h := ex_ev_eq d 211 6 ls st h
set_option maxRecDepth 20000 in
theorem ev_211_7 (d : Nat) (ls st : List ex_V) (h : ex_H) : ex_ev d 211 7 ls st h = ex_xs 1 (ex_ev d 211) (ex_cd d) [.iload 4, .ifCond .lt 8, .iload 5, .aload 0, .getfield 384, .sipush 8, .iaload, .if_icmp .ge 8, .aload 0, .getfield 384, .sipush 171, .iload 5, .iadd, .iaload, .sipush 72, .iload 1, .iadd, .if_icmp .eq 8, .iinc 5 1, .goto 7] ls st h := ex_ev_eq d 211 7 ls st h
set_option maxRecDepth 20000 in
theorem ev_211_8 (d : Nat) (ls st : List ex_V) (h : ex_H) : ex_ev d 211 8 ls st h = ex_xs 1 (ex_ev d 211) (ex_cd d) [.iload 4, .ifCond .lt 9, .iload 5, .aload 0, .getfield 384, .sipush 8, .iaload, .if_icmp .ne 10, .goto_w 9] ls st h := ex_ev_eq d 211 8 ls st h
set_option maxRecDepth 20000 in
theorem ev_211_9 (d : Nat) (ls st : List ex_V) (h : ex_H) : ex_ev d 211 9 ls st h = ex_xs 1 (ex_ev d 211) (ex_cd d) [.aload 0, .sipush (-100006), .invokevirtual 142, .ireturn] ls st h := ex_ev_eq d 211 9 ls st h
set_option maxRecDepth 20000 in
theorem ev_211_10 (d : Nat) (ls st : List ex_V) (h : ex_H) : ex_ev d 211 10 ls st h = ex_xs 1 (ex_ev d 211) (ex_cd d) [.sipush 4, .newarray .int, .astore 6, .sipush 0, .istore 7, .iload 4, .istore 8, .goto_w 11] ls st h := ex_ev_eq d 211 10 ls st h
set_option maxRecDepth 20000 in
theorem ev_211_11 (d : Nat) (ls st : List ex_V) (h : ex_H) : ex_ev d 211 11 ls st h = ex_xs 1 (ex_ev d 211) (ex_cd d) [.iload 8, .iload 5, .if_icmp .ge 13, .aload 0, .getfield 384, .sipush 171, .iload 8, .iadd, .iaload, .istore 9, .iload 9, .sipush 64, .if_icmp .ge 12, .iload 9, .sipush 8, .irem, .iload 1, .if_icmp .ne 12, .aload 6, .iload 9, .sipush 8, .idiv, .dup2, .iaload, .sipush 1, .iadd, .iastore, .iinc 7 1, .goto_w 12] ls st h := ex_ev_eq d 211 11 ls st h
set_option maxRecDepth 20000 in
theorem ev_211_12 (d : Nat) (ls st : List ex_V) (h : ex_H) : ex_ev d 211 12 ls st h = ex_xs 1 (ex_ev d 211) (ex_cd d) [.iinc 8 1, .goto 11] ls st h := ex_ev_eq d 211 12 ls st h
set_option maxRecDepth 20000 in
theorem ev_211_13 (d : Nat) (ls st : List ex_V) (h : ex_H) : ex_ev d 211 13 ls st h = ex_xs 1 (ex_ev d 211) (ex_cd d) [.iload 7, .ifCond .ne 14, .aload 0, .sipush (-100006), .invokevirtual 142, .ireturn] ls st h := ex_ev_eq d 211 13 ls st h
set_option maxRecDepth 20000 in
theorem ev_211_14 (d : Nat) (ls st : List ex_V) (h : ex_H) : ex_ev d 211 14 ls st h = ex_xs 1 (ex_ev d 211) (ex_cd d) [.sipush 0, .istore 8, .sipush (-1), .istore 9, .sipush 3, .istore 10, .goto_w 15] ls st h := ex_ev_eq d 211 14 ls st h
set_option maxRecDepth 20000 in
theorem ev_211_15 (d : Nat) (ls st : List ex_V) (h : ex_H) : ex_ev d 211 15 ls st h = ex_xs 1 (ex_ev d 211) (ex_cd d) [.iload 10, .ifCond .lt 18, .iload 8, .iload 3, .aload 6, .iload 10, .iaload, .imul, .iload 7, .idiv, .iadd, .istore 8, .aload 6, .iload 10, .iaload, .ifCond .le 16, .iload 10, .goto 17] ls st h := ex_ev_eq d 211 15 ls st h
set_option maxRecDepth 20000 in
theorem ev_211_16 (d : Nat) (ls st : List ex_V) (h : ex_H) : ex_ev d 211 16 ls st h = ex_xs 1 (ex_ev d 211) (ex_cd d) [.iload 9, .goto_w 17] ls st h := ex_ev_eq d 211 16 ls st h
set_option maxRecDepth 20000 in
theorem ev_211_17 (d : Nat) (ls st : List ex_V) (h : ex_H) : ex_ev d 211 17 ls st h = ex_xs 1 (ex_ev d 211) (ex_cd d) [.istore 9, .iinc 10 (-1), .goto 15] ls st h := ex_ev_eq d 211 17 ls st h
set_option maxRecDepth 20000 in
theorem ev_211_18 (d : Nat) (ls st : List ex_V) (h : ex_H) : ex_ev d 211 18 ls st h = ex_xs 1 (ex_ev d 211) (ex_cd d) [.iload 3, .aload 6, .iload 2, .iaload, .imul, .iload 7, .idiv, .iload 2, .iload 9, .if_icmp .ne 19, .iload 3, .iload 8, .isub, .goto 20] ls st h := ex_ev_eq d 211 18 ls st h
set_option maxRecDepth 20000 in
theorem ev_211_19 (d : Nat) (ls st : List ex_V) (h : ex_H) : ex_ev d 211 19 ls st h = ex_xs 1 (ex_ev d 211) (ex_cd d) [.sipush 0, .goto_w 20] ls st h := ex_ev_eq d 211 19 ls st h
set_option maxRecDepth 20000 in
theorem ev_211_20 (d : Nat) (ls st : List ex_V) (h : ex_H) : ex_ev d 211 20 ls st h = ex_xs 1 (ex_ev d 211) (ex_cd d) [.iadd, .ireturn] ls st h := ex_ev_eq d 211 20 ls st h
set_option maxRecDepth 20000 in
theorem ev_212_0 (d : Nat) (ls st : List ex_V) (h : ex_H) : ex_ev d 212 0 ls st h = ex_xs 2 (ex_ev d 212) (ex_cd d) [.iload 0, .sipush 1, .sipush 6, .invokestatic 143, .ifCond .ne 1, .iload 0, .sipush 10, .sipush 33, .invokestatic 143, .ifCond .ne 1, .iload 0, .sipush 40, .sipush 44, .invokestatic 143, .ifCond .eq 2, .goto_w 1] ls st h := ex_ev_eq d 212 0 ls st h
set_option maxRecDepth 20000 in
theorem ev_212_1 (d : Nat) (ls st : List ex_V) (h : ex_H) : ex_ev d 212 1 ls st h = ex_xs 2 (ex_ev d 212) (ex_cd d) [.sipush 1, .goto 3] ls st h := ex_ev_eq d 212 1 ls st h
set_option maxRecDepth 20000 in
theorem ev_212_2 (d : Nat) (ls st : List ex_V) (h : ex_H) : ex_ev d 212 2 ls st h = ex_xs 2 (ex_ev d 212) (ex_cd d) [.sipush 0, .goto_w 3] ls st h := ex_ev_eq d 212 2 ls st h
set_option maxRecDepth 20000 in
theorem ev_212_3 (d : Nat) (ls st : List ex_V) (h : ex_H) : ex_ev d 212 3 ls st h = ex_xs 2 (ex_ev d 212) (ex_cd d) [.ireturn] ls st h := ex_ev_eq d 212 3 ls st h
set_option maxRecDepth 20000 in
theorem ev_213_0 (d : Nat) (ls st : List ex_V) (h : ex_H) : ex_ev d 213 0 ls st h = ex_xs 1 (ex_ev d 213) (ex_cd d) [.iload 1, .invokestatic 230, .ifCond .ne 1, .aload 0, .sipush (-100001), .invokevirtual 142, .ireturn] ls st h := ex_ev_eq d 213 0 ls st h
set_option maxRecDepth 20000 in
theorem ev_213_1 (d : Nat) (ls st : List ex_V) (h : ex_H) : ex_ev d 213 1 ls st h = ex_xs 1 (ex_ev d 213) (ex_cd d) [.aload 0, .getfield 388, .iload 1, .iaload, .ifCond .ne 2, .aload 0, .sipush (-100002), .invokevirtual 142, .ireturn] ls st h := ex_ev_eq d 213 1 ls st h
set_option maxRecDepth 20000 in
theorem ev_213_2 (d : Nat) (ls st : List ex_V) (h : ex_H) : ex_ev d 213 2 ls st h = ex_xs 1 (ex_ev d 213) (ex_cd d) [.aload 0, .getfield 389, .iload 1, .iaload, .sipush 16, .if_icmp .le 3, .aload 0, .sipush (-100003), .invokevirtual 142, .ireturn] ls st h := ex_ev_eq d 213 2 ls st h
set_option maxRecDepth 20000 in
theorem ev_213_3 (d : Nat) (ls st : List ex_V) (h : ex_H) : ex_ev d 213 3 ls st h = ex_xs 1 (ex_ev d 213) (ex_cd d) [.sipush 0, .istore 2, .goto_w 4] ls st h := ex_ev_eq d 213 3 ls st h
set_option maxRecDepth 20000 in
theorem ev_213_4 (d : Nat) (ls st : List ex_V) (h : ex_H) : ex_ev d 213 4 ls st h = ex_xs 1 (ex_ev d 213) (ex_cd d) [.iload 2, .aload 0, .getfield 389, .iload 1, .iaload, .if_icmp .ge 6, .aload 0, .getfield 390, .sipush 20, .iload 1, .imul, .iload 2, .iadd, .iaload, .invokestatic 212, .ifCond .ne 5, .aload 0, .sipush (-100001), .invokevirtual 142, .ireturn] ls st h := ex_ev_eq d 213 4 ls st h
set_option maxRecDepth 20000 in
theorem ev_213_5 (d : Nat) (ls st : List ex_V) (h : ex_H) : ex_ev d 213 5 ls st h = ex_xs 1 (ex_ev d 213) (ex_cd d) [.iinc 2 1, .goto 4] ls st h := ex_ev_eq d 213 5 ls st h
set_option maxRecDepth 20000 in
theorem ev_213_6 (d : Nat) (ls st : List ex_V) (h : ex_H) : ex_ev d 213 6 ls st h = ex_xs 1 (ex_ev d 213) (ex_cd d) [.aload 0, .invokevirtual 147, .aload 0, .getfield 384, .sipush 9, .aload 0, .getfield 389, .iload 1, .iaload, .iastore, .sipush 0, .istore 2, .goto_w 7] ls st h := ex_ev_eq d 213 6 ls st h
set_option maxRecDepth 20000 in
theorem ev_213_7 (d : Nat) (ls st : List ex_V) (h : ex_H) : ex_ev d 213 7 ls st h = ex_xs 1 (ex_ev d 213) (ex_cd d) [.iload 2, .aload 0, .getfield 389, .iload 1, .iaload, .if_icmp .ge 8, .aload 0, .getfield 384, .sipush 231, .iload 2, .iadd, .aload 0, .getfield 390, .sipush 20, .iload 1, .imul, .iload 2, .iadd, .iaload, .iastore, .iinc 2 1, .goto 7] ls st h := ex_ev_eq d 213 7 ls st h
set_option maxRecDepth 20000 in
theorem ev_213_8 (d : Nat) (ls st : List ex_V) (h : ex_H) : ex_ev d 213 8 ls st h = ex_xs 1 (ex_ev d 213) (ex_cd d) [.aload 0, .getfield 389, .iload 1, .iaload, .ireturn] ls st h := ex_ev_eq d 213 8 ls st h
set_option maxRecDepth 20000 in
theorem ev_214_0 (d : Nat) (ls st : List ex_V) (h : ex_H) : ex_ev d 214 0 ls st h = ex_xs 1 (ex_ev d 214) (ex_cd d) [.sipush 0, .istore 1, .sipush 0, .istore 2, .goto_w 1] ls st h := ex_ev_eq d 214 0 ls st h
set_option maxRecDepth 20000 in
theorem ev_214_1 (d : Nat) (ls st : List ex_V) (h : ex_H) : ex_ev d 214 1 ls st h = ex_xs 1 (ex_ev d 214) (ex_cd d) [.iload 2, .aload 0, .getfield 384, .sipush 9, .iaload, .if_icmp .ge 7, .aload 0, .getfield 384, .sipush 231, .iload 2, .iadd, .iaload, .istore 3, .iload 3, .sipush 40, .if_icmp .ge 2, .sipush 0, .goto 4] ls st h := ex_ev_eq d 214 1 ls st h
set_option maxRecDepth 20000 in
theorem ev_214_2 (d : Nat) (ls st : List ex_V) (h : ex_H) : ex_ev d 214 2 ls st h = ex_xs 1 (ex_ev d 214) (ex_cd d) [.iload 3, .sipush 42, .if_icmp .ne 3, .sipush 1, .goto 4] ls st h := ex_ev_eq d 214 2 ls st h
set_option maxRecDepth 20000 in
theorem ev_214_3 (d : Nat) (ls st : List ex_V) (h : ex_H) : ex_ev d 214 3 ls st h = ex_xs 1 (ex_ev d 214) (ex_cd d) [.sipush 2, .goto_w 4] ls st h := ex_ev_eq d 214 3 ls st h
set_option maxRecDepth 20000 in
theorem ev_214_4 (d : Nat) (ls st : List ex_V) (h : ex_H) : ex_ev d 214 4 ls st h = ex_xs 1 (ex_ev d 214) (ex_cd d) [.istore 4, .iload 1, .iload 4, .if_icmp .lt 5, .iload 3, .sipush 40, .if_icmp .ge 6, .iload 1, .sipush 5, .if_icmp .ne 6, .goto_w 5] ls st h := ex_ev_eq d 214 4 ls st h
set_option maxRecDepth 20000 in
theorem ev_214_5 (d : Nat) (ls st : List ex_V) (h : ex_H) : ex_ev d 214 5 ls st h = ex_xs 1 (ex_ev d 214) (ex_cd d) [.iload 2, .ireturn] ls st h := ex_ev_eq d 214 5 ls st h
set_option maxRecDepth 20000 in
theorem ev_214_6 (d : Nat) (ls st : List ex_V) (h : ex_H) : ex_ev d 214 6 ls st h = ex_xs 1 (ex_ev d 214) (ex_cd d) [.iload 1, .sipush 1, .iload 4, .isub, .iadd, .istore 1, .iinc 2 1, .goto 1] ls st h := ex_ev_eq d 214 6 ls st h
set_option maxRecDepth 20000 in
theorem ev_214_7 (d : Nat) (ls st : List ex_V) (h : ex_H) : ex_ev d 214 7 ls st h = ex_xs 1 (ex_ev d 214) (ex_cd d) [.iload 1, .sipush 1, .if_icmp .eq 8, .aload 0, .getfield 384, .sipush 9, .iaload, .ifCond .ne 9, .goto_w 8] ls st h := ex_ev_eq d 214 7 ls st h
set_option maxRecDepth 20000 in
theorem ev_214_8 (d : Nat) (ls st : List ex_V) (h : ex_H) : ex_ev d 214 8 ls st h = ex_xs 1 (ex_ev d 214) (ex_cd d) [.sipush (-1), .goto 10] ls st h := ex_ev_eq d 214 8 ls st h
set_option maxRecDepth 20000 in
theorem ev_214_9 (d : Nat) (ls st : List ex_V) (h : ex_H) : ex_ev d 214 9 ls st h = ex_xs 1 (ex_ev d 214) (ex_cd d) [.aload 0, .getfield 384, .sipush 9, .iaload, .goto_w 10] ls st h := ex_ev_eq d 214 9 ls st h
set_option maxRecDepth 20000 in
theorem ev_214_10 (d : Nat) (ls st : List ex_V) (h : ex_H) : ex_ev d 214 10 ls st h = ex_xs 1 (ex_ev d 214) (ex_cd d) [.ireturn] ls st h := ex_ev_eq d 214 10 ls st h
set_option maxRecDepth 20000 in
theorem ev_215_0 (d : Nat) (ls st : List ex_V) (h : ex_H) : ex_ev d 215 0 ls st h = ex_xs 1 (ex_ev d 215) (ex_cd d) [.aload 0, .invokevirtual 214, .ireturn] ls st h := ex_ev_eq d 215 0 ls st h
set_option maxRecDepth 20000 in
theorem ev_216_0 (d : Nat) (ls st : List ex_V) (h : ex_H) : ex_ev d 216 0 ls st h = ex_xs 1 (ex_ev d 216) (ex_cd d) [.iload 1, .tableswitch 7 1 6 #[1, 2, 3, 4, 5, 6]] ls st h := ex_ev_eq d 216 0 ls st h
set_option maxRecDepth 20000 in
theorem ev_216_1 (d : Nat) (ls st : List ex_V) (h : ex_H) : ex_ev d 216 1 ls st h = ex_xs 1 (ex_ev d 216) (ex_cd d) [.iload 4, .ireturn] ls st h := ex_ev_eq d 216 1 ls st h
set_option maxRecDepth 20000 in
theorem ev_216_2 (d : Nat) (ls st : List ex_V) (h : ex_H) : ex_ev d 216 2 ls st h = ex_xs 1 (ex_ev d 216) (ex_cd d) [.aload 0, .getfield 384, .sipush 91, .iload 2, .iadd, .iaload, .ireturn] ls st h := ex_ev_eq d 216 2 ls st h
set_option maxRecDepth 20000 in
theorem ev_216_3 (d : Nat) (ls st : List ex_V) (h : ex_H) : ex_ev d 216 3 ls st h = ex_xs 1 (ex_ev d 216) (ex_cd d) [.aload 0, .getfield 384, .sipush 107, .iload 2, .iadd, .iaload, .ireturn] ls st h := ex_ev_eq d 216 3 ls st h
set_option maxRecDepth 20000 in
theorem ev_216_4 (d : Nat) (ls st : List ex_V) (h : ex_H) : ex_ev d 216 4 ls st h = ex_xs 1 (ex_ev d 216) (ex_cd d) [.iload 3, .ireturn] ls st h := ex_ev_eq d 216 4 ls st h
set_option maxRecDepth 20000 in
theorem ev_216_5 (d : Nat) (ls st : List ex_V) (h : ex_H) : ex_ev d 216 5 ls st h = ex_xs 1 (ex_ev d 216) (ex_cd d) [.aload 0, .getfield 384, .sipush 11, .iload 3, .iadd, .iaload, .ireturn] ls st h := ex_ev_eq d 216 5 ls st h
set_option maxRecDepth 20000 in
theorem ev_216_6 (d : Nat) (ls st : List ex_V) (h : ex_H) : ex_ev d 216 6 ls st h = ex_xs 1 (ex_ev d 216) (ex_cd d) [.aload 0, .getfield 384, .sipush 4, .iaload, .ireturn] ls st h := ex_ev_eq d 216 6 ls st h
set_option maxRecDepth 20000 in
theorem ev_216_7 (d : Nat) (ls st : List ex_V) (h : ex_H) : ex_ev d 216 7 ls st h = ex_xs 1 (ex_ev d 216) (ex_cd d) [.iload 1, .sipush 10, .isub, .ireturn] ls st h := ex_ev_eq d 216 7 ls st h
set_option maxRecDepth 20000 in
theorem ev_217_0 (d : Nat) (ls st : List ex_V) (h : ex_H) : ex_ev d 217 0 ls st h = ex_xs 2 (ex_ev d 217) (ex_cd d) [.iload 0, .sipush 40, .if_icmp .ne 2, .iload 1, .iload 2, .if_icmp .ge 1, .sipush 1, .goto 9] ls st h := ex_ev_eq d 217 0 ls st h
set_option maxRecDepth 20000 in
theorem ev_217_1 (d : Nat) (ls st : List ex_V) (h : ex_H) : ex_ev d 217 1 ls st h = ex_xs 2 (ex_ev d 217) (ex_cd d) [.sipush 0, .goto 9] ls st h := ex_ev_eq d 217 1 ls st h
set_option maxRecDepth 20000 in
theorem ev_217_2 (d : Nat) (ls st : List ex_V) (h : ex_H) : ex_ev d 217 2 ls st h = ex_xs 2 (ex_ev d 217) (ex_cd d) [.iload 0, .sipush 41, .if_icmp .ne 4, .iload 1, .iload 2, .if_icmp .ne 3, .sipush 1, .goto 9] ls st h := ex_ev_eq d 217 2 ls st h
set_option maxRecDepth 20000 in
theorem ev_217_3 (d : Nat) (ls st : List ex_V) (h : ex_H) : ex_ev d 217 3 ls st h = ex_xs 2 (ex_ev d 217) (ex_cd d) [.sipush 0, .goto 9] ls st h := ex_ev_eq d 217 3 ls st h
set_option maxRecDepth 20000 in
theorem ev_217_4 (d : Nat) (ls st : List ex_V) (h : ex_H) : ex_ev d 217 4 ls st h = ex_xs 2 (ex_ev d 217) (ex_cd d) [.iload 0, .sipush 43, .if_icmp .ne 6, .iload 1, .ifCond .eq 5, .iload 2, .ifCond .eq 5, .sipush 1, .goto 9] ls st h := ex_ev_eq d 217 4 ls st h
set_option maxRecDepth 20000 in
theorem ev_217_5 (d : Nat) (ls st : List ex_V) (h : ex_H) : ex_ev d 217 5 ls st h = ex_xs 2 (ex_ev d 217) (ex_cd d) [.sipush 0, .goto 9] ls st h := ex_ev_eq d 217 5 ls st h
set_option maxRecDepth 20000 in
theorem ev_217_6 (d : Nat) (ls st : List ex_V) (h : ex_H) : ex_ev d 217 6 ls st h = ex_xs 2 (ex_ev d 217) (ex_cd d) [.iload 1, .ifCond .ne 7, .iload 2, .ifCond .eq 8, .goto_w 7] ls st h := ex_ev_eq d 217 6 ls st h
set_option maxRecDepth 20000 in
theorem ev_217_7 (d : Nat) (ls st : List ex_V) (h : ex_H) : ex_ev d 217 7 ls st h = ex_xs 2 (ex_ev d 217) (ex_cd d) [.sipush 1, .goto 9] ls st h := ex_ev_eq d 217 7 ls st h
set_option maxRecDepth 20000 in
theorem ev_217_8 (d : Nat) (ls st : List ex_V) (h : ex_H) : ex_ev d 217 8 ls st h = ex_xs 2 (ex_ev d 217) (ex_cd d) [.sipush 0, .goto_w 9] ls st h := ex_ev_eq d 217 8 ls st h
set_option maxRecDepth 20000 in
theorem ev_217_9 (d : Nat) (ls st : List ex_V) (h : ex_H) : ex_ev d 217 9 ls st h = ex_xs 2 (ex_ev d 217) (ex_cd d) [.ireturn] ls st h := ex_ev_eq d 217 9 ls st h
set_option maxRecDepth 20000 in
theorem ev_218_0 (d : Nat) (ls st : List ex_V) (h : ex_H) : ex_ev d 218 0 ls st h = ex_xs 2 (ex_ev d 218) (ex_cd d) [.aload 0, .getfield 384, .sipush 9, .iaload, .ifCond .ne 1, .sipush 1, .ireturn] ls st h := ex_ev_eq d 218 0 ls st h
set_option maxRecDepth 20000 in
theorem ev_218_1 (d : Nat) (ls st : List ex_V) (h : ex_H) : ex_ev d 218 1 ls st h = ex_xs 2 (ex_ev d 218) (ex_cd d) [.aload 0, .invokevirtual 214, .ifCond .lt 2, .sipush 0, .ireturn] ls st h := ex_ev_eq d 218 1 ls st h
set_option maxRecDepth 20000 in
theorem ev_218_2 (d : Nat) (ls st : List ex_V) (h : ex_H) : ex_ev d 218 2 ls st h = ex_xs 2 (ex_ev d 218) (ex_cd d) [.sipush 0, .istore 4, .sipush 0, .istore 5, .goto_w 3] ls st h := ex_ev_eq d 218 2 ls st h
set_option maxRecDepth 20000 in
theorem ev_218_3 (d : Nat) (ls st : List ex_V) (h : ex_H) : ex_ev d 218 3 ls st h = ex_xs 2 (ex_ev d 218) (ex_cd d) [.iload 5, .aload 0, .getfield 384, .sipush 9, .iaload, .if_icmp .ge 11, .aload 0, .getfield 384, .sipush 231, .iload 5, .iadd, .iaload, .istore 6, .iload 6, .sipush 40, .if_icmp .ge 4, .aload 0, .getfield 398, .iload 4, .aload 0, .iload 6, .iload 1, .iload 2, .iload 3, .invokevirtual 216, .iastore, .iinc 4 1, .goto 10] ls st h := ex_ev_eq d 218 3 ls st h
set_option maxRecDepth 20000 in
theorem ev_218_4 (d : Nat) (ls st : List ex_V) (h : ex_H) : ex_ev d 218 4 ls st h = ex_xs 2 (ex_ev d 218) (ex_cd d) [.iload 6, .sipush 42, .if_icmp .ne 7, .aload 0, .getfield 398, .iload 4, .sipush 1, .isub, .aload 0, .getfield 398, .iload 4, .sipush 1, .isub, .iaload, .ifCond .ne 5, .sipush 1, .goto 6] ls st h := ex_ev_eq d 218 4 ls st h
set_option maxRecDepth 20000 in
theorem ev_218_5 (d : Nat) (ls st : List ex_V) (h : ex_H) : ex_ev d 218 5 ls st h = ex_xs 2 (ex_ev d 218) (ex_cd d) [.sipush 0, .goto_w 6] ls st h := ex_ev_eq d 218 5 ls st h
set_option maxRecDepth 20000 in
theorem ev_218_6 (d : Nat) (ls st : List ex_V) (h : ex_H) : ex_ev d 218 6 ls st h = ex_xs 2 (ex_ev d 218) (ex_cd d) [.iastore, .goto 10] ls st h := ex_ev_eq d 218 6 ls st h
set_option maxRecDepth 20000 in
theorem ev_218_7 (d : Nat) (ls st : List ex_V) (h : ex_H) : ex_ev d 218 7 ls st h = ex_xs 2 (ex_ev d 218) (ex_cd d) [.iinc 4 (-1), .aload 0, .getfield 398, .iload 4, .sipush 1, .isub, .iload 6, .aload 0, .getfield 398, .iload 4, .sipush 1, .isub, .iaload, .aload 0, .getfield 398, .iload 4, .iaload, .invokestatic 217, .ifCond .eq 8, .sipush 1, .goto 9] ls st h := ex_ev_eq d 218 7 ls st h
set_option maxRecDepth 20000 in
theorem ev_218_8 (d : Nat) (ls st : List ex_V) (h : ex_H) : ex_ev d 218 8 ls st h = ex_xs 2 (ex_ev d 218) (ex_cd d) [.sipush 0, .goto_w 9] ls st h := ex_ev_eq d 218 8 ls st h
set_option maxRecDepth 20000 in
theorem ev_218_9 (d : Nat) (ls st : List ex_V) (h : ex_H) : ex_ev d 218 9 ls st h = ex_xs 2 (ex_ev d 218) (ex_cd d) [.iastore, .goto_w 10] ls st h := ex_ev_eq d 218 9 ls st h
set_option maxRecDepth 20000 in
theorem ev_218_10 (d : Nat) (ls st : List ex_V) (h : ex_H) : ex_ev d 218 10 ls st h = ex_xs 2 (ex_ev d 218) (ex_cd d) [.iinc 5 1, .goto 3] ls st h := ex_ev_eq d 218 10 ls st h
set_option maxRecDepth 20000 in
theorem ev_218_11 (d : Nat) (ls st : List ex_V) (h : ex_H) : ex_ev d 218 11 ls st h = ex_xs 2 (ex_ev d 218) (ex_cd d) [.aload 0, .getfield 398, .sipush 0, .iaload, .ifCond .eq 12, .sipush 1, .goto 13] ls st h := ex_ev_eq d 218 11 ls st h
set_option maxRecDepth 20000 in
theorem ev_218_12 (d : Nat) (ls st : List ex_V) (h : ex_H) : ex_ev d 218 12 ls st h = ex_xs 2 (ex_ev d 218) (ex_cd d) [.sipush 0, .goto_w 13] ls st h := ex_ev_eq d 218 12 ls st h
set_option maxRecDepth 20000 in
theorem ev_218_13 (d : Nat) (ls st : List ex_V) (h : ex_H) : ex_ev d 218 13 ls st h = ex_xs 2 (ex_ev d 218) (ex_cd d) [.ireturn] ls st h := ex_ev_eq d 218 13 ls st h
set_option maxRecDepth 20000 in
theorem ev_219_0 (d : Nat) (ls st : List ex_V) (h : ex_H) : ex_ev d 219 0 ls st h = ex_xs 1 (ex_ev d 219) (ex_cd d) [.aload 0, .iload 1, .invokevirtual 145, .ifCond .eq 1, .aload 0, .iload 2, .invokevirtual 144, .ifCond .eq 1, .iload 3, .invokestatic 146, .ifCond .ne 2, .goto_w 1] ls st h := ex_ev_eq d 219 0 ls st h
set_option maxRecDepth 20000 in
theorem ev_219_1 (d : Nat) (ls st : List ex_V) (h : ex_H) : ex_ev d 219 1 ls st h = ex_xs 1 (ex_ev d 219) (ex_cd d) [.aload 0, .sipush (-100001), .invokevirtual 142, .ireturn] ls st h := ex_ev_eq d 219 1 ls st h
set_option maxRecDepth 20000 in
theorem ev_219_2 (d : Nat) (ls st : List ex_V) (h : ex_H) : ex_ev d 219 2 ls st h = ex_xs 1 (ex_ev d 219) (ex_cd d) [.aload 0, .iload 1, .iload 2, .iload 3, .invokevirtual 218, .ifCond .eq 3, .sipush 1, .goto 4] ls st h := ex_ev_eq d 219 2 ls st h
set_option maxRecDepth 20000 in
theorem ev_219_3 (d : Nat) (ls st : List ex_V) (h : ex_H) : ex_ev d 219 3 ls st h = ex_xs 1 (ex_ev d 219) (ex_cd d) [.sipush 0, .goto_w 4] ls st h := ex_ev_eq d 219 3 ls st h
set_option maxRecDepth 20000 in
theorem ev_219_4 (d : Nat) (ls st : List ex_V) (h : ex_H) : ex_ev d 219 4 ls st h = ex_xs 1 (ex_ev d 219) (ex_cd d) [.ireturn] ls st h := ex_ev_eq d 219 4 ls st h
set_option maxRecDepth 20000 in
theorem ev_220_0 (d : Nat) (ls st : List ex_V) (h : ex_H) : ex_ev d 220 0 ls st h = ex_xs 1 (ex_ev d 220) (ex_cd d) [.aload 0, .iload 1, .invokevirtual 144, .ifCond .eq 1, .iload 2, .sipush 0, .sipush 200, .invokestatic 143, .ifCond .ne 2, .goto_w 1] ls st h := ex_ev_eq d 220 0 ls st h
set_option maxRecDepth 20000 in
theorem ev_220_1 (d : Nat) (ls st : List ex_V) (h : ex_H) : ex_ev d 220 1 ls st h = ex_xs 1 (ex_ev d 220) (ex_cd d) [.aload 0, .sipush (-100001), .invokevirtual 142, .ireturn] ls st h := ex_ev_eq d 220 1 ls st h
set_option maxRecDepth 20000 in
theorem ev_220_2 (d : Nat) (ls st : List ex_V) (h : ex_H) : ex_ev d 220 2 ls st h = ex_xs 1 (ex_ev d 220) (ex_cd d) [.aload 0, .invokevirtual 147, .aload 0, .getfield 384, .sipush 36, .iload 1, .iadd, .iaload, .istore 3, .aload 0, .getfield 384, .sipush 36, .iload 1, .iadd, .iload 2, .iastore, .iload 3, .ireturn] ls st h := ex_ev_eq d 220 2 ls st h
set_option maxRecDepth 20000 in
theorem ev_221_0 (d : Nat) (ls st : List ex_V) (h : ex_H) : ex_ev d 221 0 ls st h = ex_xs 1 (ex_ev d 221) (ex_cd d) [.iload 1, .sipush 1, .sipush 30, .invokestatic 143, .ifCond .ne 1, .aload 0, .sipush (-100001), .invokevirtual 142, .ireturn] ls st h := ex_ev_eq d 221 0 ls st h
set_option maxRecDepth 20000 in
theorem ev_221_1 (d : Nat) (ls st : List ex_V) (h : ex_H) : ex_ev d 221 1 ls st h = ex_xs 1 (ex_ev d 221) (ex_cd d) [.aload 0, .invokevirtual 147, .aload 0, .getfield 384, .sipush 5, .iaload, .istore 2, .aload 0, .getfield 384, .sipush 5, .iload 1, .iastore, .iload 2, .ireturn] ls st h := ex_ev_eq d 221 1 ls st h
set_option maxRecDepth 20000 in
theorem ev_222_0 (d : Nat) (ls st : List ex_V) (h : ex_H) : ex_ev d 222 0 ls st h = ex_xs 1 (ex_ev d 222) (ex_cd d) [.aload 0, .getfield 384, .sipush 36, .iload 1, .iadd, .iaload, .istore 2, .aload 0, .getfield 384, .sipush 11, .iload 1, .iadd, .iaload, .sipush 2, .if_icmp .ne 1, .sipush 0, .iload 2, .sipush 60, .isub, .invokestatic 236, .goto 2] ls st h := ex_ev_eq d 222 0 ls st h
set_option maxRecDepth 20000 in
theorem ev_222_1 (d : Nat) (ls st : List ex_V) (h : ex_H) : ex_ev d 222 1 ls st h = ex_xs 1 (ex_ev d 222) (ex_cd d) [.iload 2, .goto_w 2] ls st h := ex_ev_eq d 222 1 ls st h
set_option maxRecDepth 20000 in
theorem ev_222_2 (d : Nat) (ls st : List ex_V) (h : ex_H) : ex_ev d 222 2 ls st h = ex_xs 1 (ex_ev d 222) (ex_cd d) [.ireturn] ls st h := ex_ev_eq d 222 2 ls st h
set_option maxRecDepth 20000 in
theorem ev_223_0 (d : Nat) (ls st : List ex_V) (h : ex_H) : ex_ev d 223 0 ls st h = ex_xs 0 (ex_ev d 223) (ex_cd d) [.iload 2, .aload 0, .getfield 399, .if_icmp .gt 1, .iload 2, .aload 0, .getfield 399, .if_icmp .ne 3, .iload 1, .aload 0, .getfield 400, .if_icmp .ge 3, .goto_w 1] ls st h := ex_ev_eq d 223 0 ls st h
set_option maxRecDepth 20000 in
theorem ev_223_1 (d : Nat) (ls st : List ex_V) (h : ex_H) : ex_ev d 223 1 ls st h = ex_xs 0 (ex_ev d 223) (ex_cd d) [.aload 0, .iload 2, .putfield 399, .aload 0, .iload 1, .putfield 400, .sipush 0, .istore 3, .goto_w 2] ls st h := ex_ev_eq d 223 1 ls st h
set_option maxRecDepth 20000 in
theorem ev_223_2 (d : Nat) (ls st : List ex_V) (h : ex_H) : ex_ev d 223 2 ls st h = ex_xs 0 (ex_ev d 223) (ex_cd d) [.iload 3, .iload 1, .if_icmp .ge 3, .aload 0, .getfield 401, .iload 3, .aload 0, .getfield 402, .iload 3, .iaload, .iastore, .iinc 3 1, .goto 2] ls st h := ex_ev_eq d 223 2 ls st h
set_option maxRecDepth 20000 in
theorem ev_223_3 (d : Nat) (ls st : List ex_V) (h : ex_H) : ex_ev d 223 3 ls st h = ex_xs 0 (ex_ev d 223) (ex_cd d) [.sipush 0, .istore 3, .goto_w 4] ls st h := ex_ev_eq d 223 3 ls st h
set_option maxRecDepth 20000 in
theorem ev_223_4 (d : Nat) (ls st : List ex_V) (h : ex_H) : ex_ev d 223 4 ls st h = ex_xs 0 (ex_ev d 223) (ex_cd d) [.iload 3, .aload 0, .getfield 384, .sipush 0, .iaload, .if_icmp .ge 6, .aload 0, .getfield 384, .sipush 46, .iload 3, .iadd, .iaload, .aload 0, .getfield 403, .iload 3, .iaload, .isub, .istore 4, .iload 4, .ifCond .le 5, .aload 0, .getfield 384, .sipush 31, .iload 3, .iadd, .iaload, .ifCond .ne 5, .aload 0, .iload 3, .invokevirtual 222, .iload 1, .sipush 1, .iadd, .aload 0, .getfield 384, .sipush 5, .iaload, .imul, .if_icmp .lt 5, .aload 0, .getfield 402, .iload 1, .aload 0, .iload 3, .iload 4, .sipush 1, .isub, .invokevirtual 152, .iastore, .aload 0, .getfield 403, .iload 3, .dup2, .iaload, .sipush 1, .iadd, .iastore, .aload 0, .iload 1, .sipush 1, .iadd, .iload 2, .aload 0, .getfield 384, .sipush 131, .aload 0, .getfield 402, .iload 1, .iaload, .iadd, .iaload, .iadd, .invokevirtual 223, .aload 0, .getfield 403, .iload 3, .dup2, .iaload, .sipush 1, .isub, .iastore, .goto_w 5] ls st h := ex_ev_eq d 223 4 ls st h
set_option maxRecDepth 20000 in
theorem ev_223_5 (d : Nat) (ls st : List ex_V) (h : ex_H) : ex_ev d 223 5 ls st h = ex_xs 0 (ex_ev d 223) (ex_cd d) [.iinc 3 1, .goto 4] ls st h := ex_ev_eq d 223 5 ls st h
set_option maxRecDepth 20000 in
theorem ev_223_6 (d : Nat) (ls st : List ex_V) (h : ex_H) : ex_ev d 223 6 ls st h = ex_xs 0 (ex_ev d 223) (ex_cd d) [.return_] ls st h := ex_ev_eq d 223 6 ls st h
set_option maxRecDepth 20000 in
theorem ev_224_0 (d : Nat) (ls st : List ex_V) (h : ex_H) : ex_ev d 224 0 ls st h = ex_xs 0 (ex_ev d 224) (ex_cd d) [.aload 0, .sipush (-1), .putfield 399, .aload 0, .sipush 0, .putfield 400, .aload 0, .sipush 0, .sipush 0, .invokevirtual 223, .return_] ls st h := ex_ev_eq d 224 0 ls st h
set_option maxRecDepth 20000 in
theorem ev_225_0 (d : Nat) (ls st : List ex_V) (h : ex_H) : ex_ev d 225 0 ls st h = ex_xs 1 (ex_ev d 225) (ex_cd d) [.aload 0, .invokevirtual 224, .aload 0, .getfield 399, .ireturn] ls st h := ex_ev_eq d 225 0 ls st h
set_option maxRecDepth 20000 in
theorem ev_226_0 (d : Nat) (ls st : List ex_V) (h : ex_H) : ex_ev d 226 0 ls st h = ex_xs 1 (ex_ev d 226) (ex_cd d) [.iload 1, .ifCond .ge 1, .aload 0, .sipush (-100001), .invokevirtual 142, .ireturn] ls st h := ex_ev_eq d 226 0 ls st h
set_option maxRecDepth 20000 in
theorem ev_226_1 (d : Nat) (ls st : List ex_V) (h : ex_H) : ex_ev d 226 1 ls st h = ex_xs 1 (ex_ev d 226) (ex_cd d) [.aload 0, .invokevirtual 224, .iload 1, .aload 0, .getfield 400, .if_icmp .ge 2, .aload 0, .getfield 401, .iload 1, .iaload, .goto 3] ls st h := ex_ev_eq d 226 1 ls st h
set_option maxRecDepth 20000 in
theorem ev_226_2 (d : Nat) (ls st : List ex_V) (h : ex_H) : ex_ev d 226 2 ls st h = ex_xs 1 (ex_ev d 226) (ex_cd d) [.aload 0, .sipush (-100006), .invokevirtual 142, .goto_w 3] ls st h := ex_ev_eq d 226 2 ls st h
set_option maxRecDepth 20000 in
theorem ev_226_3 (d : Nat) (ls st : List ex_V) (h : ex_H) : ex_ev d 226 3 ls st h = ex_xs 1 (ex_ev d 226) (ex_cd d) [.ireturn] ls st h := ex_ev_eq d 226 3 ls st h
set_option maxRecDepth 20000 in
theorem ev_227_0 (d : Nat) (ls st : List ex_V) (h : ex_H) : ex_ev d 227 0 ls st h = ex_xs 1 (ex_ev d 227) (ex_cd d) [.aload 0, .iload 1, .invokevirtual 145, .ifCond .eq 1, .iload 2, .invokestatic 146, .ifCond .ne 2, .goto_w 1] ls st h := ex_ev_eq d 227 0 ls st h
set_option maxRecDepth 20000 in
theorem ev_227_1 (d : Nat) (ls st : List ex_V) (h : ex_H) : ex_ev d 227 1 ls st h = ex_xs 1 (ex_ev d 227) (ex_cd d) [.aload 0, .sipush (-100001), .invokevirtual 142, .ireturn] ls st h := ex_ev_eq d 227 1 ls st h
set_option maxRecDepth 20000 in
theorem ev_227_2 (d : Nat) (ls st : List ex_V) (h : ex_H) : ex_ev d 227 2 ls st h = ex_xs 1 (ex_ev d 227) (ex_cd d) [.aload 0, .getfield 384, .sipush 10, .iaload, .sipush 30, .if_icmp .ne 3, .aload 0, .sipush (-100005), .invokevirtual 142, .ireturn] ls st h := ex_ev_eq d 227 2 ls st h
set_option maxRecDepth 20000 in
theorem ev_227_3 (d : Nat) (ls st : List ex_V) (h : ex_H) : ex_ev d 227 3 ls st h = ex_xs 1 (ex_ev d 227) (ex_cd d) [.aload 0, .invokevirtual 147, .aload 0, .getfield 384, .sipush 247, .aload 0, .getfield 384, .sipush 10, .iaload, .iadd, .iload 1, .sipush 8, .iload 2, .imul, .iadd, .iload 3, .ifCond .eq 4, .sipush 256, .goto 5] ls st h := ex_ev_eq d 227 3 ls st h
set_option maxRecDepth 20000 in
theorem ev_227_4 (d : Nat) (ls st : List ex_V) (h : ex_H) : ex_ev d 227 4 ls st h = ex_xs 1 (ex_ev d 227) (ex_cd d) [.sipush 0, .goto_w 5] ls st h := ex_ev_eq d 227 4 ls st h
set_option maxRecDepth 20000 in
theorem ev_227_5 (d : Nat) (ls st : List ex_V) (h : ex_H) : ex_ev d 227 5 ls st h = ex_xs 1 (ex_ev d 227) (ex_cd d) [.iadd, .iastore, .aload 0, .getfield 384, .sipush 10, .dup2, .iaload, .sipush 1, .iadd, .iastore, .aload 0, .getfield 384, .sipush 10, .iaload, .ireturn] ls st h := ex_ev_eq d 227 5 ls st h
set_option maxRecDepth 20000 in
theorem ev_228_0 (d : Nat) (ls st : List ex_V) (h : ex_H) : ex_ev d 228 0 ls st h = ex_xs 2 (ex_ev d 228) (ex_cd d) [.sipush (-1), .istore 4, .sipush 0, .istore 5, .sipush 0, .istore 6, .goto_w 1] ls st h := ex_ev_eq d 228 0 ls st h
set_option maxRecDepth 20000 in
theorem ev_228_1 (d : Nat) (ls st : List ex_V) (h : ex_H) : ex_ev d 228 1 ls st h = ex_xs 2 (ex_ev d 228) (ex_cd d) [.iload 6, .iload 3, .if_icmp .ge 5, .aload 0, .getfield 384, .sipush 247, .iload 6, .iadd, .iaload, .istore 7, .iload 7, .sipush 8, .idiv, .sipush 32, .irem, .istore 8, .iload 7, .sipush 8, .irem, .iload 1, .if_icmp .ne 4, .iload 8, .iload 2, .if_icmp .gt 4, .iload 8, .iload 4, .if_icmp .lt 4, .iload 8, .istore 4, .iload 7, .sipush 256, .if_icmp .lt 2, .sipush 1, .goto 3] ls st h := ex_ev_eq d 228 1 ls st h
set_option maxRecDepth 20000 in
theorem ev_228_2 (d : Nat) (ls st : List ex_V) (h : ex_H) : ex_ev d 228 2 ls st h = ex_xs 2 (ex_ev d 228) (ex_cd d) [.sipush 0, .goto_w 3] ls st h := ex_ev_eq d 228 2 ls st h
set_option maxRecDepth 20000 in
theorem ev_228_3 (d : Nat) (ls st : List ex_V) (h : ex_H) : ex_ev d 228 3 ls st h = ex_xs 2 (ex_ev d 228) (ex_cd d) [.istore 5, .goto_w 4] ls st h := ex_ev_eq d 228 3 ls st h
set_option maxRecDepth 20000 in
theorem ev_228_4 (d : Nat) (ls st : List ex_V) (h : ex_H) : ex_ev d 228 4 ls st h = ex_xs 2 (ex_ev d 228) (ex_cd d) [.iinc 6 1, .goto 1] ls st h := ex_ev_eq d 228 4 ls st h
set_option maxRecDepth 20000 in
theorem ev_228_5 (d : Nat) (ls st : List ex_V) (h : ex_H) : ex_ev d 228 5 ls st h = ex_xs 2 (ex_ev d 228) (ex_cd d) [.iload 5, .ireturn] ls st h := ex_ev_eq d 228 5 ls st h
set_option maxRecDepth 20000 in
theorem ev_229_0 (d : Nat) (ls st : List ex_V) (h : ex_H) : ex_ev d 229 0 ls st h = ex_xs 1 (ex_ev d 229) (ex_cd d) [.aload 0, .iload 1, .invokevirtual 145, .ifCond .eq 1, .iload 2, .invokestatic 146, .ifCond .eq 1, .iload 3, .sipush 0, .aload 0, .getfield 384, .sipush 10, .iaload, .invokestatic 143, .ifCond .ne 2, .goto_w 1] ls st h := ex_ev_eq d 229 0 ls st h
set_option maxRecDepth 20000 in
theorem ev_229_1 (d : Nat) (ls st : List ex_V) (h : ex_H) : ex_ev d 229 1 ls st h = ex_xs 1 (ex_ev d 229) (ex_cd d) [.aload 0, .sipush (-100001), .invokevirtual 142, .ireturn] ls st h := ex_ev_eq d 229 1 ls st h
set_option maxRecDepth 20000 in
theorem ev_229_2 (d : Nat) (ls st : List ex_V) (h : ex_H) : ex_ev d 229 2 ls st h = ex_xs 1 (ex_ev d 229) (ex_cd d) [.aload 0, .iload 1, .iload 2, .iload 3, .invokevirtual 228, .ifCond .eq 3, .sipush 1, .goto 4] ls st h := ex_ev_eq d 229 2 ls st h
set_option maxRecDepth 20000 in
theorem ev_229_3 (d : Nat) (ls st : List ex_V) (h : ex_H) : ex_ev d 229 3 ls st h = ex_xs 1 (ex_ev d 229) (ex_cd d) [.sipush 0, .goto_w 4] ls st h := ex_ev_eq d 229 3 ls st h
set_option maxRecDepth 20000 in
theorem ev_229_4 (d : Nat) (ls st : List ex_V) (h : ex_H) : ex_ev d 229 4 ls st h = ex_xs 1 (ex_ev d 229) (ex_cd d) [.ireturn] ls st h := ex_ev_eq d 229 4 ls st h
set_option maxRecDepth 20000 in
theorem ev_230_0 (d : Nat) (ls st : List ex_V) (h : ex_H) : ex_ev d 230 0 ls st h = ex_xs 2 (ex_ev d 230) (ex_cd d) [.iload 0, .sipush 0, .sipush 3, .invokestatic 143, .ireturn] ls st h := ex_ev_eq d 230 0 ls st h
set_option maxRecDepth 20000 in
theorem ev_231_0 (d : Nat) (ls st : List ex_V) (h : ex_H) : ex_ev d 231 0 ls st h = ex_xs 1 (ex_ev d 231) (ex_cd d) [.iload 1, .invokestatic 230, .ifCond .eq 1, .iload 2, .ifCond .eq 2, .iload 2, .sipush 8, .if_icmp .eq 2, .iload 2, .sipush 16, .if_icmp .eq 2, .iload 2, .sipush 32, .if_icmp .eq 2, .goto_w 1] ls st h := ex_ev_eq d 231 0 ls st h
set_option maxRecDepth 20000 in
theorem ev_231_1 (d : Nat) (ls st : List ex_V) (h : ex_H) : ex_ev d 231 1 ls st h = ex_xs 1 (ex_ev d 231) (ex_cd d) [.aload 0, .sipush (-100001), .invokevirtual 142, .ireturn] ls st h := ex_ev_eq d 231 1 ls st h
set_option maxRecDepth 20000 in
theorem ev_231_2 (d : Nat) (ls st : List ex_V) (h : ex_H) : ex_ev d 231 2 ls st h = ex_xs 1 (ex_ev d 231) (ex_cd d) [.iload 3, .ifCond .ge 3, .aload 0, .sipush (-100003), .invokevirtual 142, .ireturn] ls st h := ex_ev_eq d 231 2 ls st h
set_option maxRecDepth 20000 in
theorem ev_231_3 (d : Nat) (ls st : List ex_V) (h : ex_H) : ex_ev d 231 3 ls st h = ex_xs 1 (ex_ev d 231) (ex_cd d) [.iload 3, .sipush 20, .if_icmp .le 4, .aload 0, .sipush (-100001), .invokevirtual 142, .ireturn] ls st h := ex_ev_eq d 231 3 ls st h
set_option maxRecDepth 20000 in
theorem ev_231_4 (d : Nat) (ls st : List ex_V) (h : ex_H) : ex_ev d 231 4 ls st h = ex_xs 1 (ex_ev d 231) (ex_cd d) [.aload 0, .getfield 388, .iload 1, .iload 2, .iastore, .aload 0, .getfield 389, .iload 1, .iload 2, .ifCond .ne 5, .sipush 0, .goto 6] ls st h := ex_ev_eq d 231 4 ls st h
set_option maxRecDepth 20000 in
theorem ev_231_5 (d : Nat) (ls st : List ex_V) (h : ex_H) : ex_ev d 231 5 ls st h = ex_xs 1 (ex_ev d 231) (ex_cd d) [.iload 3, .goto_w 6] ls st h := ex_ev_eq d 231 5 ls st h
set_option maxRecDepth 20000 in
theorem ev_231_6 (d : Nat) (ls st : List ex_V) (h : ex_H) : ex_ev d 231 6 ls st h = ex_xs 1 (ex_ev d 231) (ex_cd d) [.iastore, .sipush 0, .istore 4, .goto_w 7] ls st h := ex_ev_eq d 231 6 ls st h
set_option maxRecDepth 20000 in
theorem ev_231_7 (d : Nat) (ls st : List ex_V) (h : ex_H) : ex_ev d 231 7 ls st h = ex_xs 1 (ex_ev d 231) (ex_cd d) [.iload 4, .sipush 20, .if_icmp .ge 8, .aload 0, .getfield 390, .sipush 20, .iload 1, .imul, .iload 4, .iadd, .sipush 0, .iastore, .iinc 4 1, .goto 7] ls st h := ex_ev_eq d 231 7 ls st h
set_option maxRecDepth 20000 in
theorem ev_231_8 (d : Nat) (ls st : List ex_V) (h : ex_H) : ex_ev d 231 8 ls st h = ex_xs 1 (ex_ev d 231) (ex_cd d) [.aload 0, .getfield 389, .iload 1, .iaload, .ireturn] ls st h := ex_ev_eq d 231 8 ls st h
set_option maxRecDepth 20000 in
theorem ev_232_0 (d : Nat) (ls st : List ex_V) (h : ex_H) : ex_ev d 232 0 ls st h = ex_xs 1 (ex_ev d 232) (ex_cd d) [.iload 1, .invokestatic 230, .ifCond .ne 1, .aload 0, .sipush (-100001), .invokevirtual 142, .ireturn] ls st h := ex_ev_eq d 232 0 ls st h
set_option maxRecDepth 20000 in
theorem ev_232_1 (d : Nat) (ls st : List ex_V) (h : ex_H) : ex_ev d 232 1 ls st h = ex_xs 1 (ex_ev d 232) (ex_cd d) [.aload 0, .getfield 388, .iload 1, .iaload, .ifCond .ne 2, .aload 0, .sipush (-100002), .invokevirtual 142, .ireturn] ls st h := ex_ev_eq d 232 1 ls st h
set_option maxRecDepth 20000 in
theorem ev_232_2 (d : Nat) (ls st : List ex_V) (h : ex_H) : ex_ev d 232 2 ls st h = ex_xs 1 (ex_ev d 232) (ex_cd d) [.iload 2, .sipush 0, .aload 0, .getfield 389, .iload 1, .iaload, .sipush 1, .isub, .invokestatic 143, .ifCond .ne 3, .aload 0, .sipush (-100001), .invokevirtual 142, .ireturn] ls st h := ex_ev_eq d 232 2 ls st h
set_option maxRecDepth 20000 in
theorem ev_232_3 (d : Nat) (ls st : List ex_V) (h : ex_H) : ex_ev d 232 3 ls st h = ex_xs 1 (ex_ev d 232) (ex_cd d) [.sipush 32, .aload 0, .getfield 388, .iload 1, .iaload, .isub, .istore 4, .aload 0, .getfield 390, .sipush 20, .iload 1, .imul, .iload 2, .iadd, .iload 3, .iload 4, .ishl, .iload 4, .ishr, .iastore, .sipush 0, .ireturn] ls st h := ex_ev_eq d 232 3 ls st h
set_option maxRecDepth 20000 in
theorem ev_233_0 (d : Nat) (ls st : List ex_V) (h : ex_H) : ex_ev d 233 0 ls st h = ex_xs 1 (ex_ev d 233) (ex_cd d) [.iload 1, .invokestatic 230, .ifCond .eq 1, .iload 3, .invokestatic 230, .ifCond .ne 2, .goto_w 1] ls st h := ex_ev_eq d 233 0 ls st h
set_option maxRecDepth 20000 in
theorem ev_233_1 (d : Nat) (ls st : List ex_V) (h : ex_H) : ex_ev d 233 1 ls st h = ex_xs 1 (ex_ev d 233) (ex_cd d) [.aload 0, .sipush (-100001), .invokevirtual 142, .ireturn] ls st h := ex_ev_eq d 233 1 ls st h
set_option maxRecDepth 20000 in
theorem ev_233_2 (d : Nat) (ls st : List ex_V) (h : ex_H) : ex_ev d 233 2 ls st h = ex_xs 1 (ex_ev d 233) (ex_cd d) [.aload 0, .getfield 388, .iload 1, .iaload, .ifCond .eq 3, .aload 0, .getfield 388, .iload 3, .iaload, .ifCond .ne 4, .goto_w 3] ls st h := ex_ev_eq d 233 2 ls st h
set_option maxRecDepth 20000 in
theorem ev_233_3 (d : Nat) (ls st : List ex_V) (h : ex_H) : ex_ev d 233 3 ls st h = ex_xs 1 (ex_ev d 233) (ex_cd d) [.aload 0, .sipush (-100002), .invokevirtual 142, .ireturn] ls st h := ex_ev_eq d 233 3 ls st h
set_option maxRecDepth 20000 in
theorem ev_233_4 (d : Nat) (ls st : List ex_V) (h : ex_H) : ex_ev d 233 4 ls st h = ex_xs 1 (ex_ev d 233) (ex_cd d) [.aload 0, .getfield 388, .iload 1, .iaload, .aload 0, .getfield 388, .iload 3, .iaload, .if_icmp .eq 5, .aload 0, .sipush (-100004), .invokevirtual 142, .ireturn] ls st h := ex_ev_eq d 233 4 ls st h
set_option maxRecDepth 20000 in
theorem ev_233_5 (d : Nat) (ls st : List ex_V) (h : ex_H) : ex_ev d 233 5 ls st h = ex_xs 1 (ex_ev d 233) (ex_cd d) [.iload 2, .ifCond .lt 6, .iload 4, .ifCond .lt 6, .iload 5, .ifCond .lt 6, .iload 2, .i2l, .iload 5, .i2l, .ladd, .aload 0, .getfield 389, .iload 1, .iaload, .i2l, .lcmp, .ifCond .gt 6, .iload 4, .i2l, .iload 5, .i2l, .ladd, .aload 0, .getfield 389, .iload 3, .iaload, .i2l, .lcmp, .ifCond .le 7, .goto_w 6] ls st h := ex_ev_eq d 233 5 ls st h
set_option maxRecDepth 20000 in
theorem ev_233_6 (d : Nat) (ls st : List ex_V) (h : ex_H) : ex_ev d 233 6 ls st h = ex_xs 1 (ex_ev d 233) (ex_cd d) [.aload 0, .sipush (-100001), .invokevirtual 142, .ireturn] ls st h := ex_ev_eq d 233 6 ls st h
set_option maxRecDepth 20000 in
theorem ev_233_7 (d : Nat) (ls st : List ex_V) (h : ex_H) : ex_ev d 233 7 ls st h = ex_xs 1 (ex_ev d 233) (ex_cd d) [.sipush 0, .istore 6, .goto_w 8] ls st h := ex_ev_eq d 233 7 ls st h
set_option maxRecDepth 20000 in
theorem ev_233_8 (d : Nat) (ls st : List ex_V) (h : ex_H) : ex_ev d 233 8 ls st h = ex_xs 1 (ex_ev d 233) (ex_cd d) [.iload 6, .iload 5, .if_icmp .ge 9, .aload 0, .getfield 404, .iload 6, .aload 0, .getfield 390, .sipush 20, .iload 1, .imul, .iload 2, .iadd, .iload 6, .iadd, .iaload, .iastore, .iinc 6 1, .goto 8] ls st h := ex_ev_eq d 233 8 ls st h
set_option maxRecDepth 20000 in
theorem ev_233_9 (d : Nat) (ls st : List ex_V) (h : ex_H) : ex_ev d 233 9 ls st h = ex_xs 1 (ex_ev d 233) (ex_cd d) [.sipush 0, .istore 6, .goto_w 10] ls st h := ex_ev_eq d 233 9 ls st h
set_option maxRecDepth 20000 in
theorem ev_233_10 (d : Nat) (ls st : List ex_V) (h : ex_H) : ex_ev d 233 10 ls st h = ex_xs 1 (ex_ev d 233) (ex_cd d) [.iload 6, .iload 5, .if_icmp .ge 11, .aload 0, .getfield 390, .sipush 20, .iload 3, .imul, .iload 4, .iadd, .iload 6, .iadd, .aload 0, .getfield 404, .iload 6, .iaload, .iastore, .iinc 6 1, .goto 10] ls st h := ex_ev_eq d 233 10 ls st h
set_option maxRecDepth 20000 in
theorem ev_233_11 (d : Nat) (ls st : List ex_V) (h : ex_H) : ex_ev d 233 11 ls st h = ex_xs 1 (ex_ev d 233) (ex_cd d) [.iload 5, .ireturn] ls st h := ex_ev_eq d 233 11 ls st h
set_option maxRecDepth 20000 in
theorem ev_234_0 (d : Nat) (ls st : List ex_V) (h : ex_H) : ex_ev d 234 0 ls st h = ex_xs 1 (ex_ev d 234) (ex_cd d) [.iload 1, .sipush 0, .sipush 6, .invokestatic 143, .ifCond .ne 1, .aload 0, .sipush (-100001), .invokevirtual 142, .ireturn] ls st h := ex_ev_eq d 234 0 ls st h
set_option maxRecDepth 20000 in
theorem ev_234_1 (d : Nat) (ls st : List ex_V) (h : ex_H) : ex_ev d 234 1 ls st h = ex_xs 1 (ex_ev d 234) (ex_cd d) [.sipush 0, .istore 2, .sipush 0, .istore 3, .goto_w 2] ls st h := ex_ev_eq d 234 1 ls st h
set_option maxRecDepth 20000 in
theorem ev_234_2 (d : Nat) (ls st : List ex_V) (h : ex_H) : ex_ev d 234 2 ls st h = ex_xs 1 (ex_ev d 234) (ex_cd d) [.iload 3, .aload 0, .getfield 384, .sipush 0, .iaload, .if_icmp .ge 3, .iload 2, .aload 0, .getfield 384, .sipush 46, .iload 3, .iadd, .iaload, .iadd, .istore 2, .iinc 3 1, .goto 2] ls st h := ex_ev_eq d 234 2 ls st h
set_option maxRecDepth 20000 in
theorem ev_234_3 (d : Nat) (ls st : List ex_V) (h : ex_H) : ex_ev d 234 3 ls st h = ex_xs 1 (ex_ev d 234) (ex_cd d) [.iload 1, .tableswitch 10 0 5 #[4, 5, 6, 7, 8, 9]] ls st h := ex_ev_eq d 234 3 ls st h
set_option maxRecDepth 20000 in
theorem ev_234_4 (d : Nat) (ls st : List ex_V) (h : ex_H) : ex_ev d 234 4 ls st h = ex_xs 1 (ex_ev d 234) (ex_cd d) [.aload 0, .getfield 384, .sipush 0, .iaload, .ireturn] ls st h := ex_ev_eq d 234 4 ls st h
set_option maxRecDepth 20000 in
theorem ev_234_5 (d : Nat) (ls st : List ex_V) (h : ex_H) : ex_ev d 234 5 ls st h = ex_xs 1 (ex_ev d 234) (ex_cd d) [.aload 0, .getfield 384, .sipush 1, .iaload, .ireturn] ls st h := ex_ev_eq d 234 5 ls st h
set_option maxRecDepth 20000 in
theorem ev_234_6 (d : Nat) (ls st : List ex_V) (h : ex_H) : ex_ev d 234 6 ls st h = ex_xs 1 (ex_ev d 234) (ex_cd d) [.iload 2, .ireturn] ls st h := ex_ev_eq d 234 6 ls st h
set_option maxRecDepth 20000 in
theorem ev_234_7 (d : Nat) (ls st : List ex_V) (h : ex_H) : ex_ev d 234 7 ls st h = ex_xs 1 (ex_ev d 234) (ex_cd d) [.aload 0, .getfield 384, .sipush 6, .iaload, .ireturn] ls st h := ex_ev_eq d 234 7 ls st h
set_option maxRecDepth 20000 in
theorem ev_234_8 (d : Nat) (ls st : List ex_V) (h : ex_H) : ex_ev d 234 8 ls st h = ex_xs 1 (ex_ev d 234) (ex_cd d) [.aload 0, .getfield 384, .sipush 10, .iaload, .ireturn] ls st h := ex_ev_eq d 234 8 ls st h
set_option maxRecDepth 20000 in
theorem ev_234_9 (d : Nat) (ls st : List ex_V) (h : ex_H) : ex_ev d 234 9 ls st h = ex_xs 1 (ex_ev d 234) (ex_cd d) [.aload 0, .getfield 384, .sipush 8, .iaload, .ireturn] ls st h := ex_ev_eq d 234 9 ls st h
set_option maxRecDepth 20000 in
theorem ev_234_10 (d : Nat) (ls st : List ex_V) (h : ex_H) : ex_ev d 234 10 ls st h = ex_xs 1 (ex_ev d 234) (ex_cd d) [.aload 0, .getfield 387, .ireturn] ls st h := ex_ev_eq d 234 10 ls st h
set_option maxRecDepth 20000 in
theorem ev_235_0 (d : Nat) (ls st : List ex_V) (h : ex_H) : ex_ev d 235 0 ls st h = ex_xs 1 (ex_ev d 235) (ex_cd d) [.iload 0, .iload 0, .sipush 1, .iushr, .sipush 1431655765, .iand, .isub, .istore 0, .iload 0, .sipush 858993459, .iand, .iload 0, .sipush 2, .iushr, .sipush 858993459, .iand, .iadd, .istore 0, .iload 0, .iload 0, .sipush 4, .iushr, .iadd, .sipush 252645135, .iand, .istore 0, .iload 0, .iload 0, .sipush 8, .iushr, .iadd, .istore 0, .iload 0, .iload 0, .sipush 16, .iushr, .iadd, .istore 0, .iload 0, .sipush 63, .iand, .ireturn] ls st h := ex_ev_eq d 235 0 ls st h
set_option maxRecDepth 20000 in
theorem ev_236_0 (d : Nat) (ls st : List ex_V) (h : ex_H) : ex_ev d 236 0 ls st h = ex_xs 1 (ex_ev d 236) (ex_cd d) [.iload 0, .iload 1, .if_icmp .lt 1, .iload 0, .goto 2] ls st h := ex_ev_eq d 236 0 ls st h
set_option maxRecDepth 20000 in
theorem ev_236_1 (d : Nat) (ls st : List ex_V) (h : ex_H) : ex_ev d 236 1 ls st h = ex_xs 1 (ex_ev d 236) (ex_cd d) [.iload 1, .goto_w 2] ls st h := ex_ev_eq d 236 1 ls st h
set_option maxRecDepth 20000 in
theorem ev_236_2 (d : Nat) (ls st : List ex_V) (h : ex_H) : ex_ev d 236 2 ls st h = ex_xs 1 (ex_ev d 236) (ex_cd d) [.ireturn] ls st h := ex_ev_eq d 236 2 ls st h
set_option maxRecDepth 20000 in
theorem ev_237_0 (d : Nat) (ls st : List ex_V) (h : ex_H) : ex_ev d 237 0 ls st h = ex_xs 1 (ex_ev d 237) (ex_cd d) [.iload 0, .iload 1, .if_icmp .gt 1, .iload 0, .goto 2] ls st h := ex_ev_eq d 237 0 ls st h
set_option maxRecDepth 20000 in
theorem ev_237_1 (d : Nat) (ls st : List ex_V) (h : ex_H) : ex_ev d 237 1 ls st h = ex_xs 1 (ex_ev d 237) (ex_cd d) [.iload 1, .goto_w 2] ls st h := ex_ev_eq d 237 1 ls st h
set_option maxRecDepth 20000 in
theorem ev_237_2 (d : Nat) (ls st : List ex_V) (h : ex_H) : ex_ev d 237 2 ls st h = ex_xs 1 (ex_ev d 237) (ex_cd d) [.ireturn] ls st h := ex_ev_eq d 237 2 ls st h
set_option maxRecDepth 20000 in
theorem ev_238_0 (d : Nat) (ls st : List ex_V) (h : ex_H) : ex_ev d 238 0 ls st h = ex_xs 0 (ex_ev d 238) (ex_cd d) [.iload 1, .iload 2, .if_icmp .le 1] ls st h := ex_ev_eq d 238 0 ls st h
set_option maxRecDepth 20000 in
theorem ev_238_1 (d : Nat) (ls st : List ex_V) (h : ex_H) : ex_ev d 238 1 ls st h = ex_xs 0 (ex_ev d 238) (ex_cd d) [.iload 1, .ifCond .ge 2] ls st h := ex_ev_eq d 238 1 ls st h
set_option maxRecDepth 20000 in
theorem ev_238_2 (d : Nat) (ls st : List ex_V) (h : ex_H) : ex_ev d 238 2 ls st h = ex_xs 0 (ex_ev d 238) (ex_cd d) [.iload 2, .iload 0, .if_icmp .le 3] ls st h := ex_ev_eq d 238 2 ls st h
set_option maxRecDepth 20000 in
theorem ev_238_3 (d : Nat) (ls st : List ex_V) (h : ex_H) : ex_ev d 238 3 ls st h = ex_xs 0 (ex_ev d 238) (ex_cd d) [.return_] ls st h := ex_ev_eq d 238 3 ls st h
set_option maxRecDepth 20000 in
theorem ev_239_0 (d : Nat) (ls st : List ex_V) (h : ex_H) : ex_ev d 239 0 ls st h = ex_xs 0 (ex_ev d 239) (ex_cd d) [.sipush 0, .istore 2, .aload 0, .arraylength, .istore 3, .goto_w 1] ls st h := ex_ev_eq d 239 0 ls st h
set_option maxRecDepth 20000 in
theorem ev_239_1 (d : Nat) (ls st : List ex_V) (h : ex_H) : ex_ev d 239 1 ls st h = ex_xs 0 (ex_ev d 239) (ex_cd d) [.iload 2, .iload 3, .if_icmp .ge 2, .aload 0, .iload 2, .iload 1, .iastore, .iinc 2 1, .goto 1] ls st h := ex_ev_eq d 239 1 ls st h
set_option maxRecDepth 20000 in
theorem ev_239_2 (d : Nat) (ls st : List ex_V) (h : ex_H) : ex_ev d 239 2 ls st h = ex_xs 0 (ex_ev d 239) (ex_cd d) [.return_] ls st h := ex_ev_eq d 239 2 ls st h
set_option maxRecDepth 20000 in
theorem ev_240_0 (d : Nat) (ls st : List ex_V) (h : ex_H) : ex_ev d 240 0 ls st h = ex_xs 0 (ex_ev d 240) (ex_cd d) [.aload 0, .arraylength, .iload 1, .iload 2, .invokestatic 238, .iload 1, .istore 4, .goto_w 1] ls st h := ex_ev_eq d 240 0 ls st h
set_option maxRecDepth 20000 in
theorem ev_240_1 (d : Nat) (ls st : List ex_V) (h : ex_H) : ex_ev d 240 1 ls st h = ex_xs 0 (ex_ev d 240) (ex_cd d) [.iload 4, .iload 2, .if_icmp .ge 2, .aload 0, .iload 4, .iload 3, .iastore, .iinc 4 1, .goto 1] ls st h := ex_ev_eq d 240 1 ls st h
set_option maxRecDepth 20000 in
theorem ev_240_2 (d : Nat) (ls st : List ex_V) (h : ex_H) : ex_ev d 240 2 ls st h = ex_xs 0 (ex_ev d 240) (ex_cd d) [.return_] ls st h := ex_ev_eq d 240 2 ls st h
set_option maxRecDepth 20000 in
theorem ev_241_0 (d : Nat) (ls st : List ex_V) (h : ex_H) : ex_ev d 241 0 ls st h = ex_xs 2 (ex_ev d 241) (ex_cd d) [.new 11, .dup, .invokespecial 84, .astore 1, .new 12, .dup, .invokespecial 141, .astore 2, .sipush 0, .istore 3, .goto_w 1] ls st h := ex_ev_eq d 241 0 ls st h
set_option maxRecDepth 20000 in
theorem ev_241_1 (d : Nat) (ls st : List ex_V) (h : ex_H) : ex_ev d 241 1 ls st h = ex_xs 2 (ex_ev d 241) (ex_cd d) [.ret 1] ls st h := ex_ev_eq d 241 1 ls st h
set_option maxRecDepth 20000 in
theorem ev_241_2 (d : Nat) (ls st : List ex_V) (h : ex_H) : ex_ev d 241 2 ls st h = ex_xs 2 (ex_ev d 241) (ex_cd d) [.aload 1, .aload 0, .iload 3, .sipush 1, .iadd, .iaload, .aload 0, .iload 3, .sipush 2, .iadd, .iaload, .aload 0, .iload 3, .sipush 3, .iadd, .iaload, .aload 0, .iload 3, .sipush 4, .iadd, .iaload, .invokevirtual 85, .aload 2, .aload 0, .iload 3, .sipush 1, .iadd, .iaload, .aload 0, .iload 3, .sipush 2, .iadd, .iaload, .aload 0, .iload 3, .sipush 3, .iadd, .iaload, .aload 0, .iload 3, .sipush 4, .iadd, .iaload, .invokevirtual 149, .if_icmp .eq 61, .sipush 0, .ireturn] ls st h := ex_ev_eq d 241 2 ls st h
set_option maxRecDepth 20000 in
theorem ev_241_3 (d : Nat) (ls st : List ex_V) (h : ex_H) : ex_ev d 241 3 ls st h = ex_xs 2 (ex_ev d 241) (ex_cd d) [.aload 1, .aload 0, .iload 3, .sipush 1, .iadd, .iaload, .aload 0, .iload 3, .sipush 2, .iadd, .iaload, .invokevirtual 86, .aload 2, .aload 0, .iload 3, .sipush 1, .iadd, .iaload, .aload 0, .iload 3, .sipush 2, .iadd, .iaload, .invokevirtual 151, .if_icmp .eq 61, .sipush 0, .ireturn] ls st h := ex_ev_eq d 241 3 ls st h
set_option maxRecDepth 20000 in
theorem ev_241_4 (d : Nat) (ls st : List ex_V) (h : ex_H) : ex_ev d 241 4 ls st h = ex_xs 2 (ex_ev d 241) (ex_cd d) [.aload 1, .aload 0, .iload 3, .sipush 1, .iadd, .iaload, .aload 0, .iload 3, .sipush 2, .iadd, .iaload, .invokevirtual 87, .aload 2, .aload 0, .iload 3, .sipush 1, .iadd, .iaload, .aload 0, .iload 3, .sipush 2, .iadd, .iaload, .invokevirtual 154, .if_icmp .eq 61, .sipush 0, .ireturn] ls st h := ex_ev_eq d 241 4 ls st h
set_option maxRecDepth 20000 in
theorem ev_241_5 (d : Nat) (ls st : List ex_V) (h : ex_H) : ex_ev d 241 5 ls st h = ex_xs 2 (ex_ev d 241) (ex_cd d) [.aload 1, .aload 0, .iload 3, .sipush 1, .iadd, .iaload, .aload 0, .iload 3, .sipush 2, .iadd, .iaload, .ifCond .eq 6, .sipush 1, .goto 7] ls st h := ex_ev_eq d 241 5 ls st h
set_option maxRecDepth 20000 in
theorem ev_241_6 (d : Nat) (ls st : List ex_V) (h : ex_H) : ex_ev d 241 6 ls st h = ex_xs 2 (ex_ev d 241) (ex_cd d) [.sipush 0, .goto_w 7] ls st h := ex_ev_eq d 241 6 ls st h
set_option maxRecDepth 20000 in
theorem ev_241_7 (d : Nat) (ls st : List ex_V) (h : ex_H) : ex_ev d 241 7 ls st h = ex_xs 2 (ex_ev d 241) (ex_cd d) [.invokevirtual 88, .aload 2, .aload 0, .iload 3, .sipush 1, .iadd, .iaload, .aload 0, .iload 3, .sipush 2, .iadd, .iaload, .ifCond .eq 8, .sipush 1, .goto 9] ls st h := ex_ev_eq d 241 7 ls st h
set_option maxRecDepth 20000 in
theorem ev_241_8 (d : Nat) (ls st : List ex_V) (h : ex_H) : ex_ev d 241 8 ls st h = ex_xs 2 (ex_ev d 241) (ex_cd d) [.sipush 0, .goto_w 9] ls st h := ex_ev_eq d 241 8 ls st h
set_option maxRecDepth 20000 in
theorem ev_241_9 (d : Nat) (ls st : List ex_V) (h : ex_H) : ex_ev d 241 9 ls st h = ex_xs 2 (ex_ev d 241) (ex_cd d) [.invokevirtual 155, .if_icmp .eq 61, .sipush 0, .ireturn] ls st h := ex_ev_eq d 241 9 ls st h
set_option maxRecDepth 20000 in
theorem ev_241_10 (d : Nat) (ls st : List ex_V) (h : ex_H) : ex_ev d 241 10 ls st h = ex_xs 2 (ex_ev d 241) (ex_cd d) [.aload 1, .aload 0, .iload 3, .sipush 1, .iadd, .iaload, .aload 0, .iload 3, .sipush 2, .iadd, .iaload, .aload 0, .iload 3, .sipush 3, .iadd, .iaload, .aload 0, .iload 3, .sipush 4, .iadd, .iaload, .aload 0, .iload 3, .sipush 5, .iadd, .iaload, .aload 0, .iload 3, .sipush 6, .iadd, .iaload, .invokevirtual 89, .aload 2, .aload 0, .iload 3, .sipush 1, .iadd, .iaload, .aload 0, .iload 3, .sipush 2, .iadd, .iaload, .aload 0, .iload 3, .sipush 3, .iadd, .iaload, .aload 0, .iload 3, .sipush 4, .iadd, .iaload, .aload 0, .iload 3, .sipush 5, .iadd, .iaload, .aload 0, .iload 3, .sipush 6, .iadd, .iaload, .invokevirtual 156, .if_icmp .eq 61, .sipush 0, .ireturn] ls st h := ex_ev_eq d 241 10 ls st h
set_option maxRecDepth 20000 in
theorem ev_241_11 (d : Nat) (ls st : List ex_V) (h : ex_H) : ex_ev d 241 11 ls st h = ex_xs 2 (ex_ev d 241) (ex_cd d) [.aload 1, .aload 0, .iload 3, .sipush 1, .iadd, .iaload, .aload 0, .iload 3, .sipush 2, .iadd, .iaload, .invokevirtual 90, .aload 2, .aload 0, .iload 3, .sipush 1, .iadd, .iaload, .aload 0, .iload 3, .sipush 2, .iadd, .iaload, .invokevirtual 159, .if_icmp .eq 61, .sipush 0, .ireturn] ls st h := ex_ev_eq d 241 11 ls st h
set_option maxRecDepth 20000 in
theorem ev_241_12 (d : Nat) (ls st : List ex_V) (h : ex_H) : ex_ev d 241 12 ls st h = ex_xs 2 (ex_ev d 241) (ex_cd d) [.aload 1, .aload 0, .iload 3, .sipush 1, .iadd, .iaload, .aload 0, .iload 3, .sipush 2, .iadd, .iaload, .aload 0, .iload 3, .sipush 3, .iadd, .iaload, .invokevirtual 91, .aload 2, .aload 0, .iload 3, .sipush 1, .iadd, .iaload, .aload 0, .iload 3, .sipush 2, .iadd, .iaload, .aload 0, .iload 3, .sipush 3, .iadd, .iaload, .invokevirtual 160, .if_icmp .eq 61, .sipush 0, .ireturn] ls st h := ex_ev_eq d 241 12 ls st h
set_option maxRecDepth 20000 in
theorem ev_241_13 (d : Nat) (ls st : List ex_V) (h : ex_H) : ex_ev d 241 13 ls st h = ex_xs 2 (ex_ev d 241) (ex_cd d) [.aload 1, .aload 0, .iload 3, .sipush 1, .iadd, .iaload, .aload 0, .iload 3, .sipush 2, .iadd, .iaload, .invokevirtual 92, .aload 2, .aload 0, .iload 3, .sipush 1, .iadd, .iaload, .aload 0, .iload 3, .sipush 2, .iadd, .iaload, .invokevirtual 161, .if_icmp .eq 61, .sipush 0, .ireturn] ls st h := ex_ev_eq d 241 13 ls st h
set_option maxRecDepth 20000 in
theorem ev_241_14 (d : Nat) (ls st : List ex_V) (h : ex_H) : ex_ev d 241 14 ls st h = ex_xs 2 (ex_ev d 241) (ex_cd d) [.aload 1, .aload 0, .iload 3, .sipush 1, .iadd, .iaload, .aload 0, .iload 3, .sipush 2, .iadd, .iaload, .invokevirtual 93, .aload 2, .aload 0, .iload 3, .sipush 1, .iadd, .iaload, .aload 0, .iload 3, .sipush 2, .iadd, .iaload, .invokevirtual 163, .if_icmp .eq 61, .sipush 0, .ireturn] ls st h := ex_ev_eq d 241 14 ls st h
set_option maxRecDepth 20000 in
theorem ev_241_15 (d : Nat) (ls st : List ex_V) (h : ex_H) : ex_ev d 241 15 ls st h = ex_xs 2 (ex_ev d 241) (ex_cd d) [.aload 1, .aload 0, .iload 3, .sipush 1, .iadd, .iaload, .aload 0, .iload 3, .sipush 2, .iadd, .iaload, .invokevirtual 94, .aload 2, .aload 0, .iload 3, .sipush 1, .iadd, .iaload, .aload 0, .iload 3, .sipush 2, .iadd, .iaload, .invokevirtual 169, .if_icmp .eq 61, .sipush 0, .ireturn] ls st h := ex_ev_eq d 241 15 ls st h
set_option maxRecDepth 20000 in
theorem ev_241_16 (d : Nat) (ls st : List ex_V) (h : ex_H) : ex_ev d 241 16 ls st h = ex_xs 2 (ex_ev d 241) (ex_cd d) [.aload 1, .aload 0, .iload 3, .sipush 1, .iadd, .iaload, .aload 0, .iload 3, .sipush 2, .iadd, .iaload, .invokevirtual 95, .aload 2, .aload 0, .iload 3, .sipush 1, .iadd, .iaload, .aload 0, .iload 3, .sipush 2, .iadd, .iaload, .invokevirtual 173, .if_icmp .eq 61, .sipush 0, .ireturn] ls st h := ex_ev_eq d 241 16 ls st h
set_option maxRecDepth 20000 in
theorem ev_241_17 (d : Nat) (ls st : List ex_V) (h : ex_H) : ex_ev d 241 17 ls st h = ex_xs 2 (ex_ev d 241) (ex_cd d) [.aload 1, .aload 0, .iload 3, .sipush 1, .iadd, .iaload, .invokevirtual 96, .aload 2, .aload 0, .iload 3, .sipush 1, .iadd, .iaload, .invokevirtual 174, .if_icmp .eq 61, .sipush 0, .ireturn] ls st h := ex_ev_eq d 241 17 ls st h
set_option maxRecDepth 20000 in
theorem ev_241_18 (d : Nat) (ls st : List ex_V) (h : ex_H) : ex_ev d 241 18 ls st h = ex_xs 2 (ex_ev d 241) (ex_cd d) [.aload 1, .invokevirtual 97, .aload 2, .invokevirtual 175, .if_icmp .eq 61, .sipush 0, .ireturn] ls st h := ex_ev_eq d 241 18 ls st h
set_option maxRecDepth 20000 in
theorem ev_241_19 (d : Nat) (ls st : List ex_V) (h : ex_H) : ex_ev d 241 19 ls st h = ex_xs 2 (ex_ev d 241) (ex_cd d) [.aload 1, .aload 0, .iload 3, .sipush 1, .iadd, .iaload, .invokevirtual 98, .aload 2, .aload 0, .iload 3, .sipush 1, .iadd, .iaload, .invokevirtual 176, .if_icmp .eq 61, .sipush 0, .ireturn] ls st h := ex_ev_eq d 241 19 ls st h
set_option maxRecDepth 20000 in
theorem ev_241_20 (d : Nat) (ls st : List ex_V) (h : ex_H) : ex_ev d 241 20 ls st h = ex_xs 2 (ex_ev d 241) (ex_cd d) [.aload 1, .aload 0, .iload 3, .sipush 1, .iadd, .iaload, .invokevirtual 99, .aload 2, .aload 0, .iload 3, .sipush 1, .iadd, .iaload, .invokevirtual 177, .if_icmp .eq 61, .sipush 0, .ireturn] ls st h := ex_ev_eq d 241 20 ls st h
set_option maxRecDepth 20000 in
theorem ev_241_21 (d : Nat) (ls st : List ex_V) (h : ex_H) : ex_ev d 241 21 ls st h = ex_xs 2 (ex_ev d 241) (ex_cd d) [.aload 1, .aload 0, .iload 3, .sipush 1, .iadd, .iaload, .invokevirtual 100, .aload 2, .aload 0, .iload 3, .sipush 1, .iadd, .iaload, .invokevirtual 182, .if_icmp .eq 61, .sipush 0, .ireturn] ls st h := ex_ev_eq d 241 21 ls st h
set_option maxRecDepth 20000 in
theorem ev_241_22 (d : Nat) (ls st : List ex_V) (h : ex_H) : ex_ev d 241 22 ls st h = ex_xs 2 (ex_ev d 241) (ex_cd d) [.aload 1, .aload 0, .iload 3, .sipush 1, .iadd, .iaload, .aload 0, .iload 3, .sipush 2, .iadd, .iaload, .invokevirtual 101, .aload 2, .aload 0, .iload 3, .sipush 1, .iadd, .iaload, .aload 0, .iload 3, .sipush 2, .iadd, .iaload, .invokevirtual 183, .if_icmp .eq 61, .sipush 0, .ireturn] ls st h := ex_ev_eq d 241 22 ls st h
set_option maxRecDepth 20000 in
theorem ev_241_23 (d : Nat) (ls st : List ex_V) (h : ex_H) : ex_ev d 241 23 ls st h = ex_xs 2 (ex_ev d 241) (ex_cd d) [.aload 1, .aload 0, .iload 3, .sipush 1, .iadd, .iaload, .aload 0, .iload 3, .sipush 2, .iadd, .iaload, .invokevirtual 102, .aload 2, .aload 0, .iload 3, .sipush 1, .iadd, .iaload, .aload 0, .iload 3, .sipush 2, .iadd, .iaload, .invokevirtual 184, .if_icmp .eq 61, .sipush 0, .ireturn] ls st h := ex_ev_eq d 241 23 ls st h
set_option maxRecDepth 20000 in
theorem ev_241_24 (d : Nat) (ls st : List ex_V) (h : ex_H) : ex_ev d 241 24 ls st h = ex_xs 2 (ex_ev d 241) (ex_cd d) [.aload 1, .aload 0, .iload 3, .sipush 1, .iadd, .iaload, .invokevirtual 103, .aload 2, .aload 0, .iload 3, .sipush 1, .iadd, .iaload, .invokevirtual 186, .if_icmp .eq 61, .sipush 0, .ireturn] ls st h := ex_ev_eq d 241 24 ls st h
set_option maxRecDepth 20000 in
theorem ev_241_25 (d : Nat) (ls st : List ex_V) (h : ex_H) : ex_ev d 241 25 ls st h = ex_xs 2 (ex_ev d 241) (ex_cd d) [.aload 1, .aload 0, .iload 3, .sipush 1, .iadd, .iaload, .invokevirtual 104, .aload 2, .aload 0, .iload 3, .sipush 1, .iadd, .iaload, .invokevirtual 188, .if_icmp .eq 61, .sipush 0, .ireturn] ls st h := ex_ev_eq d 241 25 ls st h
set_option maxRecDepth 20000 in
theorem ev_241_26 (d : Nat) (ls st : List ex_V) (h : ex_H) : ex_ev d 241 26 ls st h = ex_xs 2 (ex_ev d 241) (ex_cd d) [.aload 1, .invokevirtual 105, .aload 2, .invokevirtual 189, .if_icmp .eq 61, .sipush 0, .ireturn] ls st h := ex_ev_eq d 241 26 ls st h
set_option maxRecDepth 20000 in
theorem ev_241_27 (d : Nat) (ls st : List ex_V) (h : ex_H) : ex_ev d 241 27 ls st h = ex_xs 2 (ex_ev d 241) (ex_cd d) [.aload 1, .invokevirtual 106, .aload 2, .invokevirtual 193, .if_icmp .eq 61, .sipush 0, .ireturn] ls st h := ex_ev_eq d 241 27 ls st h
set_option maxRecDepth 20000 in
theorem ev_241_28 (d : Nat) (ls st : List ex_V) (h : ex_H) : ex_ev d 241 28 ls st h = ex_xs 2 (ex_ev d 241) (ex_cd d) [.aload 1, .aload 0, .iload 3, .sipush 1, .iadd, .iaload, .invokevirtual 107, .aload 2, .aload 0, .iload 3, .sipush 1, .iadd, .iaload, .invokevirtual 194, .if_icmp .eq 61, .sipush 0, .ireturn] ls st h := ex_ev_eq d 241 28 ls st h
set_option maxRecDepth 20000 in
theorem ev_241_29 (d : Nat) (ls st : List ex_V) (h : ex_H) : ex_ev d 241 29 ls st h = ex_xs 2 (ex_ev d 241) (ex_cd d) [.aload 1, .aload 0, .iload 3, .sipush 1, .iadd, .iaload, .invokevirtual 108, .aload 2, .aload 0, .iload 3, .sipush 1, .iadd, .iaload, .invokevirtual 195, .if_icmp .eq 61, .sipush 0, .ireturn] ls st h := ex_ev_eq d 241 29 ls st h
set_option maxRecDepth 20000 in
theorem ev_241_30 (d : Nat) (ls st : List ex_V) (h : ex_H) : ex_ev d 241 30 ls st h = ex_xs 2 (ex_ev d 241) (ex_cd d) [.aload 1, .invokevirtual 109, .aload 2, .invokevirtual 201, .if_icmp .eq 61, .sipush 0, .ireturn] ls st h := ex_ev_eq d 241 30 ls st h
set_option maxRecDepth 20000 in
theorem ev_241_31 (d : Nat) (ls st : List ex_V) (h : ex_H) : ex_ev d 241 31 ls st h = ex_xs 2 (ex_ev d 241) (ex_cd d) [.aload 1, .aload 0, .iload 3, .sipush 1, .iadd, .iaload, .invokevirtual 110, .aload 2, .aload 0, .iload 3, .sipush 1, .iadd, .iaload, .invokevirtual 202, .if_icmp .eq 61, .sipush 0, .ireturn] ls st h := ex_ev_eq d 241 31 ls st h
set_option maxRecDepth 20000 in
theorem ev_241_32 (d : Nat) (ls st : List ex_V) (h : ex_H) : ex_ev d 241 32 ls st h = ex_xs 2 (ex_ev d 241) (ex_cd d) [.aload 1, .aload 0, .iload 3, .sipush 1, .iadd, .iaload, .aload 0, .iload 3, .sipush 2, .iadd, .iaload, .aload 0, .iload 3, .sipush 3, .iadd, .iaload, .invokevirtual 111, .aload 2, .aload 0, .iload 3, .sipush 1, .iadd, .iaload, .aload 0, .iload 3, .sipush 2, .iadd, .iaload, .aload 0, .iload 3, .sipush 3, .iadd, .iaload, .invokevirtual 203, .if_icmp .eq 61, .sipush 0, .ireturn] ls st h := ex_ev_eq d 241 32 ls st h
set_option maxRecDepth 20000 in
theorem ev_241_33 (d : Nat) (ls st : List ex_V) (h : ex_H) : ex_ev d 241 33 ls st h = ex_xs 2 (ex_ev d 241) (ex_cd d) [.aload 1, .aload 0, .iload 3, .sipush 1, .iadd, .iaload, .invokevirtual 112, .aload 2, .aload 0, .iload 3, .sipush 1, .iadd, .iaload, .invokevirtual 206, .if_icmp .eq 61, .sipush 0, .ireturn] ls st h := ex_ev_eq d 241 33 ls st h
set_option maxRecDepth 20000 in
theorem ev_241_34 (d : Nat) (ls st : List ex_V) (h : ex_H) : ex_ev d 241 34 ls st h = ex_xs 2 (ex_ev d 241) (ex_cd d) [.aload 1, .aload 0, .iload 3, .sipush 1, .iadd, .iaload, .invokevirtual 113, .aload 2, .aload 0, .iload 3, .sipush 1, .iadd, .iaload, .invokevirtual 207, .if_icmp .eq 61, .sipush 0, .ireturn] ls st h := ex_ev_eq d 241 34 ls st h
set_option maxRecDepth 20000 in
theorem ev_241_35 (d : Nat) (ls st : List ex_V) (h : ex_H) : ex_ev d 241 35 ls st h = ex_xs 2 (ex_ev d 241) (ex_cd d) [.aload 1, .invokevirtual 114, .aload 2, .invokevirtual 208, .if_icmp .eq 61, .sipush 0, .ireturn] ls st h := ex_ev_eq d 241 35 ls st h
set_option maxRecDepth 20000 in
theorem ev_241_36 (d : Nat) (ls st : List ex_V) (h : ex_H) : ex_ev d 241 36 ls st h = ex_xs 2 (ex_ev d 241) (ex_cd d) [.aload 1, .aload 0, .iload 3, .sipush 1, .iadd, .iaload, .invokevirtual 115, .aload 2, .aload 0, .iload 3, .sipush 1, .iadd, .iaload, .invokevirtual 209, .if_icmp .eq 61, .sipush 0, .ireturn] ls st h := ex_ev_eq d 241 36 ls st h
set_option maxRecDepth 20000 in
theorem ev_241_37 (d : Nat) (ls st : List ex_V) (h : ex_H) : ex_ev d 241 37 ls st h = ex_xs 2 (ex_ev d 241) (ex_cd d) [.aload 1, .aload 0, .iload 3, .sipush 1, .iadd, .iaload, .aload 0, .iload 3, .sipush 2, .iadd, .iaload, .ifCond .eq 38, .sipush 1, .goto 39] ls st h := ex_ev_eq d 241 37 ls st h
set_option maxRecDepth 20000 in
theorem ev_241_38 (d : Nat) (ls st : List ex_V) (h : ex_H) : ex_ev d 241 38 ls st h = ex_xs 2 (ex_ev d 241) (ex_cd d) [.sipush 0, .goto_w 39] ls st h := ex_ev_eq d 241 38 ls st h
set_option maxRecDepth 20000 in
theorem ev_241_39 (d : Nat) (ls st : List ex_V) (h : ex_H) : ex_ev d 241 39 ls st h = ex_xs 2 (ex_ev d 241) (ex_cd d) [.invokevirtual 116, .aload 2, .aload 0, .iload 3, .sipush 1, .iadd, .iaload, .aload 0, .iload 3, .sipush 2, .iadd, .iaload, .ifCond .eq 40, .sipush 1, .goto 41] ls st h := ex_ev_eq d 241 39 ls st h
set_option maxRecDepth 20000 in
theorem ev_241_40 (d : Nat) (ls st : List ex_V) (h : ex_H) : ex_ev d 241 40 ls st h = ex_xs 2 (ex_ev d 241) (ex_cd d) [.sipush 0, .goto_w 41] ls st h := ex_ev_eq d 241 40 ls st h
set_option maxRecDepth 20000 in
theorem ev_241_41 (d : Nat) (ls st : List ex_V) (h : ex_H) : ex_ev d 241 41 ls st h = ex_xs 2 (ex_ev d 241) (ex_cd d) [.invokevirtual 210, .if_icmp .eq 61, .sipush 0, .ireturn] ls st h := ex_ev_eq d 241 41 ls st h
set_option maxRecDepth 20000 in
theorem ev_241_42 (d : Nat) (ls st : List ex_V) (h : ex_H) : ex_ev d 241 42 ls st h = ex_xs 2 (ex_ev d 241) (ex_cd d) [.aload 1, .aload 0, .iload 3, .sipush 1, .iadd, .iaload, .aload 0, .iload 3, .sipush 2, .iadd, .iaload, .aload 0, .iload 3, .sipush 3, .iadd, .iaload, .invokevirtual 117, .aload 2, .aload 0, .iload 3, .sipush 1, .iadd, .iaload, .aload 0, .iload 3, .sipush 2, .iadd, .iaload, .aload 0, .iload 3, .sipush 3, .iadd, .iaload, .invokevirtual 211, .if_icmp .eq 61, .sipush 0, .ireturn] ls st h := ex_ev_eq d 241 42 ls st h
set_option maxRecDepth 20000 in
theorem ev_241_43 (d : Nat) (ls st : List ex_V) (h : ex_H) : ex_ev d 241 43 ls st h = ex_xs 2 (ex_ev d 241) (ex_cd d) [.aload 1, .aload 0, .iload 3, .sipush 1, .iadd, .iaload, .invokevirtual 118, .aload 2, .aload 0, .iload 3, .sipush 1, .iadd, .iaload, .invokevirtual 213, .if_icmp .eq 61, .sipush 0, .ireturn] ls st h := ex_ev_eq d 241 43 ls st h
set_option maxRecDepth 20000 in
theorem ev_241_44 (d : Nat) (ls st : List ex_V) (h : ex_H) : ex_ev d 241 44 ls st h = ex_xs 2 (ex_ev d 241) (ex_cd d) [.aload 1, .invokevirtual 119, .aload 2, .invokevirtual 215, .if_icmp .eq 61, .sipush 0, .ireturn] ls st h := ex_ev_eq d 241 44 ls st h
set_option maxRecDepth 20000 in
theorem ev_241_45 (d : Nat) (ls st : List ex_V) (h : ex_H) : ex_ev d 241 45 ls st h = ex_xs 2 (ex_ev d 241) (ex_cd d) [.aload 1, .aload 0, .iload 3, .sipush 1, .iadd, .iaload, .aload 0, .iload 3, .sipush 2, .iadd, .iaload, .aload 0, .iload 3, .sipush 3, .iadd, .iaload, .invokevirtual 120, .aload 2, .aload 0, .iload 3, .sipush 1, .iadd, .iaload, .aload 0, .iload 3, .sipush 2, .iadd, .iaload, .aload 0, .iload 3, .sipush 3, .iadd, .iaload, .invokevirtual 219, .if_icmp .eq 61, .sipush 0, .ireturn] ls st h := ex_ev_eq d 241 45 ls st h
set_option maxRecDepth 20000 in
theorem ev_241_46 (d : Nat) (ls st : List ex_V) (h : ex_H) : ex_ev d 241 46 ls st h = ex_xs 2 (ex_ev d 241) (ex_cd d) [.aload 1, .aload 0, .iload 3, .sipush 1, .iadd, .iaload, .aload 0, .iload 3, .sipush 2, .iadd, .iaload, .invokevirtual 121, .aload 2, .aload 0, .iload 3, .sipush 1, .iadd, .iaload, .aload 0, .iload 3, .sipush 2, .iadd, .iaload, .invokevirtual 220, .if_icmp .eq 61, .sipush 0, .ireturn] ls st h := ex_ev_eq d 241 46 ls st h
set_option maxRecDepth 20000 in
theorem ev_241_47 (d : Nat) (ls st : List ex_V) (h : ex_H) : ex_ev d 241 47 ls st h = ex_xs 2 (ex_ev d 241) (ex_cd d) [.aload 1, .aload 0, .iload 3, .sipush 1, .iadd, .iaload, .invokevirtual 122, .aload 2, .aload 0, .iload 3, .sipush 1, .iadd, .iaload, .invokevirtual 221, .if_icmp .eq 61, .sipush 0, .ireturn] ls st h := ex_ev_eq d 241 47 ls st h
set_option maxRecDepth 20000 in
theorem ev_241_48 (d : Nat) (ls st : List ex_V) (h : ex_H) : ex_ev d 241 48 ls st h = ex_xs 2 (ex_ev d 241) (ex_cd d) [.aload 1, .invokevirtual 123, .aload 2, .invokevirtual 225, .if_icmp .eq 61, .sipush 0, .ireturn] ls st h := ex_ev_eq d 241 48 ls st h
set_option maxRecDepth 20000 in
theorem ev_241_49 (d : Nat) (ls st : List ex_V) (h : ex_H) : ex_ev d 241 49 ls st h = ex_xs 2 (ex_ev d 241) (ex_cd d) [.aload 1, .aload 0, .iload 3, .sipush 1, .iadd, .iaload, .invokevirtual 124, .aload 2, .aload 0, .iload 3, .sipush 1, .iadd, .iaload, .invokevirtual 226, .if_icmp .eq 61, .sipush 0, .ireturn] ls st h := ex_ev_eq d 241 49 ls st h
set_option maxRecDepth 20000 in
theorem ev_241_50 (d : Nat) (ls st : List ex_V) (h : ex_H) : ex_ev d 241 50 ls st h = ex_xs 2 (ex_ev d 241) (ex_cd d) [.aload 1, .aload 0, .iload 3, .sipush 1, .iadd, .iaload, .aload 0, .iload 3, .sipush 2, .iadd, .iaload, .aload 0, .iload 3, .sipush 3, .iadd, .iaload, .ifCond .eq 51, .sipush 1, .goto 52] ls st h := ex_ev_eq d 241 50 ls st h
set_option maxRecDepth 20000 in
theorem ev_241_51 (d : Nat) (ls st : List ex_V) (h : ex_H) : ex_ev d 241 51 ls st h = ex_xs 2 (ex_ev d 241) (ex_cd d) [.sipush 0, .goto_w 52] ls st h := ex_ev_eq d 241 51 ls st h
set_option maxRecDepth 20000 in
theorem ev_241_52 (d : Nat) (ls st : List ex_V) (h : ex_H) : ex_ev d 241 52 ls st h = ex_xs 2 (ex_ev d 241) (ex_cd d) [.invokevirtual 125, .aload 2, .aload 0, .iload 3, .sipush 1, .iadd, .iaload, .aload 0, .iload 3, .sipush 2, .iadd, .iaload, .aload 0, .iload 3, .sipush 3, .iadd, .iaload, .ifCond .eq 53, .sipush 1, .goto 54] ls st h := ex_ev_eq d 241 52 ls st h
set_option maxRecDepth 20000 in
theorem ev_241_53 (d : Nat) (ls st : List ex_V) (h : ex_H) : ex_ev d 241 53 ls st h = ex_xs 2 (ex_ev d 241) (ex_cd d) [.sipush 0, .goto_w 54] ls st h := ex_ev_eq d 241 53 ls st h
set_option maxRecDepth 20000 in
theorem ev_241_54 (d : Nat) (ls st : List ex_V) (h : ex_H) : ex_ev d 241 54 ls st h = ex_xs 2 (ex_ev d 241) (ex_cd d) [.invokevirtual 227, .if_icmp .eq 61, .sipush 0, .ireturn] ls st h := ex_ev_eq d 241 54 ls st h
set_option maxRecDepth 20000 in
theorem ev_241_55 (d : Nat) (ls st : List ex_V) (h : ex_H) : ex_ev d 241 55 ls st h = ex_xs 2 (ex_ev d 241) (ex_cd d) [.aload 1, .aload 0, .iload 3, .sipush 1, .iadd, .iaload, .aload 0, .iload 3, .sipush 2, .iadd, .iaload, .aload 0, .iload 3, .sipush 3, .iadd, .iaload, .invokevirtual 126, .aload 2, .aload 0, .iload 3, .sipush 1, .iadd, .iaload, .aload 0, .iload 3, .sipush 2, .iadd, .iaload, .aload 0, .iload 3, .sipush 3, .iadd, .iaload, .invokevirtual 229, .if_icmp .eq 61, .sipush 0, .ireturn] ls st h := ex_ev_eq d 241 55 ls st h
set_option maxRecDepth 20000 in
theorem ev_241_56 (d : Nat) (ls st : List ex_V) (h : ex_H) : ex_ev d 241 56 ls st h = ex_xs 2 (ex_ev d 241) (ex_cd d) [.aload 1, .aload 0, .iload 3, .sipush 1, .iadd, .iaload, .aload 0, .iload 3, .sipush 2, .iadd, .iaload, .aload 0, .iload 3, .sipush 3, .iadd, .iaload, .invokevirtual 127, .aload 2, .aload 0, .iload 3, .sipush 1, .iadd, .iaload, .aload 0, .iload 3, .sipush 2, .iadd, .iaload, .aload 0, .iload 3, .sipush 3, .iadd, .iaload, .invokevirtual 231, .if_icmp .eq 61, .sipush 0, .ireturn] ls st h := ex_ev_eq d 241 56 ls st h
set_option maxRecDepth 20000 in
theorem ev_241_57 (d : Nat) (ls st : List ex_V) (h : ex_H) : ex_ev d 241 57 ls st h = ex_xs 2 (ex_ev d 241) (ex_cd d) [.aload 1, .aload 0, .iload 3, .sipush 1, .iadd, .iaload, .aload 0, .iload 3, .sipush 2, .iadd, .iaload, .aload 0, .iload 3, .sipush 3, .iadd, .iaload, .invokevirtual 128, .aload 2, .aload 0, .iload 3, .sipush 1, .iadd, .iaload, .aload 0, .iload 3, .sipush 2, .iadd, .iaload, .aload 0, .iload 3, .sipush 3, .iadd, .iaload, .invokevirtual 232, .if_icmp .eq 61, .sipush 0, .ireturn] ls st h := ex_ev_eq d 241 57 ls st h
set_option maxRecDepth 20000 in
theorem ev_241_58 (d : Nat) (ls st : List ex_V) (h : ex_H) : ex_ev d 241 58 ls st h = ex_xs 2 (ex_ev d 241) (ex_cd d) [.aload 1, .aload 0, .iload 3, .sipush 1, .iadd, .iaload, .aload 0, .iload 3, .sipush 2, .iadd, .iaload, .aload 0, .iload 3, .sipush 3, .iadd, .iaload, .aload 0, .iload 3, .sipush 4, .iadd, .iaload, .aload 0, .iload 3, .sipush 5, .iadd, .iaload, .invokevirtual 129, .aload 2, .aload 0, .iload 3, .sipush 1, .iadd, .iaload, .aload 0, .iload 3, .sipush 2, .iadd, .iaload, .aload 0, .iload 3, .sipush 3, .iadd, .iaload, .aload 0, .iload 3, .sipush 4, .iadd, .iaload, .aload 0, .iload 3, .sipush 5, .iadd, .iaload, .invokevirtual 233, .if_icmp .eq 61, .sipush 0, .ireturn] ls st h := ex_ev_eq d 241 58 ls st h
set_option maxRecDepth 20000 in
theorem ev_241_59 (d : Nat) (ls st : List ex_V) (h : ex_H) : ex_ev d 241 59 ls st h = ex_xs 2 (ex_ev d 241) (ex_cd d) [.aload 1, .invokevirtual 130, .aload 2, .invokevirtual 148, .if_icmp .eq 61, .sipush 0, .ireturn] ls st h := ex_ev_eq d 241 59 ls st h
set_option maxRecDepth 20000 in
theorem ev_241_60 (d : Nat) (ls st : List ex_V) (h : ex_H) : ex_ev d 241 60 ls st h = ex_xs 2 (ex_ev d 241) (ex_cd d) [.aload 1, .aload 0, .iload 3, .sipush 1, .iadd, .iaload, .invokevirtual 131, .aload 2, .aload 0, .iload 3, .sipush 1, .iadd, .iaload, .invokevirtual 234, .if_icmp .eq 61, .sipush 0, .ireturn] ls st h := ex_ev_eq d 241 60 ls st h
set_option maxRecDepth 20000 in
theorem ev_241_61 (d : Nat) (ls st : List ex_V) (h : ex_H) : ex_ev d 241 61 ls st h = ex_xs 2 (ex_ev d 241) (ex_cd d) [.iinc 3 7, .goto 1] ls st h := ex_ev_eq d 241 61 ls st h
set_option maxRecDepth 20000 in
theorem ev_241_62 (d : Nat) (ls st : List ex_V) (h : ex_H) : ex_ev d 241 62 ls st h = ex_xs 2 (ex_ev d 241) (ex_cd d) [.sipush 1, .ireturn] ls st h := ex_ev_eq d 241 62 ls st h
set_option maxRecDepth 20000 in
theorem ev_241_63 (d : Nat) (ls st : List ex_V) (h : ex_H) : ex_ev d 241 63 ls st h = ex_xs 2 (ex_ev d 241) (ex_cd d) [.iload 3, .aload 0, .arraylength, .sipush 7, .isub, .if_icmp .gt 62, .aload 0, .iload 3, .iaload, .sipush 63, .iand, .tableswitch 61 0 46 #[2, 3, 4, 5, 10, 11, 12, 13, 14, 15, 16, 17, 18, 19, 20, 21, 22, 23, 24, 25, 26, 27, 28, 29, 30, 31, 32, 33, 34, 35, 36, 37, 42, 43, 44, 45, 46, 47, 48, 49, 50, 55, 56, 57, 58, 59, 60]] ls st h := ex_ev_eq d 241 63 ls st h
end
section
/-! reads over writes; truth as a number; division; loops -/
theorem ex_ar_same (σ : ex_S) (a : Nat) (f : Int → Int) : ex_ar σ a f a = f := ex_ar_self σ a f
theorem ex_ar_diff (σ : ex_S) (a : Nat) (f : Int → Int) {b : Nat} (h : b ≠ a) : ex_ar σ a f b = σ b := ex_ar_ne σ f h
theorem ex_ar_ar (σ : ex_S) (a : Nat) (f g : Int → Int) : ex_ar (ex_ar σ a f) a g = ex_ar σ a g := by
  funext b
  by_cases h : b = a
  · rw [h, ex_ar_same, ex_ar_same]
  · rw [ex_ar_diff _ _ _ h, ex_ar_diff _ _ _ h, ex_ar_diff _ _ _ h]
theorem ex_ar_id (σ : ex_S) (a : Nat) : ex_ar σ a (σ a) = σ := by
  funext b
  by_cases h : b = a
  · rw [h, ex_ar_same]
  · rw [ex_ar_diff _ _ _ h]
theorem ex_ar_comm (σ : ex_S) {a b : Nat} (h : a ≠ b) (f g : Int → Int) : ex_ar (ex_ar σ a f) b g = ex_ar (ex_ar σ b g) a f := by
  funext c
  by_cases h1 : c = a
  · subst h1
    rw [ex_ar_diff _ _ _ h, ex_ar_same, ex_ar_same]
  · by_cases h2 : c = b
    · subst h2
      rw [ex_ar_same, ex_ar_diff _ _ _ h1, ex_ar_same]
    · rw [ex_ar_diff _ _ _ h2, ex_ar_diff _ _ _ h1, ex_ar_diff _ _ _ h1, ex_ar_diff _ _ _ h2]
theorem ex_u_same (f : Int → Int) (i z : Int) : ex_u f i z i = z := by unfold ex_u; rw [if_pos rfl]
theorem ex_u_diff (f : Int → Int) {i j : Int} (z : Int) (h : j ≠ i) : ex_u f i z j = f j := by unfold ex_u; rw [if_neg h]
def b2i (p : Prop) [Decidable p] : Int := if p then 1 else 0
theorem b2i_t {p : Prop} [Decidable p] (h : p) : b2i p = 1 := if_pos h
theorem b2i_f {p : Prop} [Decidable p] (h : ¬ p) : b2i p = 0 := if_neg h
theorem b2i_01 (p : Prop) [Decidable p] : b2i p = 0 ∨ b2i p = 1 := by unfold b2i; split; exact Or.inr rfl; exact Or.inl rfl
theorem ex_div_nn {a b : Int} (ha : 0 ≤ a) (ha2 : a ≤ 2147483647) (hb : 0 < b) (hb2 : b ≤ 2147483647) : ex_div a b = a / b := by
  unfold ex_div
  have h1 : (Int32.ofInt a).toInt = a := i_to ⟨by omega, ha2⟩
  have h2 : (Int32.ofInt b).toInt = b := i_to ⟨by omega, hb2⟩
  have h3 : 0 ≤ a / b := Int.ediv_nonneg ha (by omega)
  have h4 : a / b ≤ a := Int.ediv_le_self _ ha
  rw [Int32.toInt_div, h1, h2, Int.tdiv_eq_ediv_of_nonneg ha]
  exact Int.bmod_eq_of_le (by omega) (by omega)
theorem ex_rem_nn {a b : Int} (ha : 0 ≤ a) (ha2 : a ≤ 2147483647) (hb : 0 < b) (hb2 : b ≤ 2147483647) : ex_rem a b = a % b := by
  have hd := ex_div_nn ha ha2 hb hb2
  unfold ex_rem
  unfold ex_div at hd
  have e1 : Int32.ofInt a / Int32.ofInt b = Int32.ofInt (a / b) := by rw [← Int32.toInt_inj, hd]; exact (i_to ⟨by have := Int.ediv_nonneg ha (show 0 ≤ b by omega); omega, by have := Int.ediv_le_self b ha; omega⟩).symm
  rw [e1, ← Int32.ofInt_mul, ← Int32.ofInt_sub]
  have e2 : a - a / b * b = a % b := by rw [Int.emod_def, Int.mul_comm]
  rw [e2]
  have h5 := Int.emod_nonneg a (show b ≠ 0 by omega)
  have h6 := Int.emod_lt_of_pos a hb
  exact i_to ⟨by omega, by omega⟩
/-- a loop: f i for i, i + 1, .. (j times) -/
def itr {α : Type} (f : Nat → α → α) : Nat → Nat → α → α
  | _, 0, a => a
  | i, j + 1, a => itr f (i + 1) j (f i a)
theorem itr_congr {α : Type} {f g : Nat → α → α} : ∀ (j i : Nat) (a : α), (∀ k, i ≤ k → k < i + j → ∀ b, f k b = g k b) → itr f i j a = itr g i j a
  | 0, _, _, _ => rfl
  | j + 1, i, a, h => by
    show itr f (i + 1) j (f i a) = itr g (i + 1) j (g i a)
    rw [h i (by omega) (by omega), itr_congr j (i + 1) _ (fun k h1 h2 => h k (by omega) (by omega))]
theorem nat_cast_succ (i : Nat) : (i : Int) + 1 = ((i + 1 : Nat) : Int) := by omega
theorem b2i_iff {p q : Prop} [Decidable p] [Decidable q] (h : p ↔ q) : b2i p = b2i q := by
  by_cases hp : p
  · rw [b2i_t hp, b2i_t (h.mp hp)]
  · rw [b2i_f hp, b2i_f (fun hq => hp (h.mpr hq))]
theorem x_ret2b {J : Nat → List ex_V → List ex_V → ex_H → Option ex_R} {C : Nat → List ex_V → ex_H → Option ex_R} {is : List Instr} {ls : List ex_V} {h : ex_H} {p : Prop} [Decidable p] : ex_xs 2 J C (.ireturn :: is) ls [vI (b2i p)] h = some ([vI (b2i p)], h) := x_ret2 (b2i_01 p)
/-- a short stack below a call -/
def okN : Nat → List ex_V → Bool
  | _, [] => true
  | 0, _ :: _ => false
  | k + 1, v :: st => ex_sh v && okN k st
theorem ok_nil {k : Nat} : okN k [] = true := by cases k <;> rfl
theorem ok_I {k : Nat} {z : Int} {st : List ex_V} (h : okN k st = true) : okN (k + 1) (vI z :: st) = true := h
theorem ok_R {k : Nat} {z : Nat} {st : List ex_V} (h : okN k st = true) : okN (k + 1) (vR z :: st) = true := h
theorem okN_sh : ∀ (k : Nat) (st : List ex_V), okN k st = true → st.length ≤ k ∧ st.all ex_sh = true
  | _, [], _ => ⟨Nat.zero_le _, rfl⟩
  | 0, _ :: _, h => by cases h
  | k + 1, v :: st, h => by
    rw [okN, Bool.and_eq_true] at h
    obtain ⟨h1, h2⟩ := okN_sh k st h.2
    exact ⟨by rw [List.length_cons]; omega, by rw [List.all_cons, h.1, h2]; rfl⟩
theorem okN_ok {st : List ex_V} (h : okN 8 st = true) : ex_ok st = true := by
  obtain ⟨h1, h2⟩ := okN_sh 8 st h
  unfold ex_ok
  rw [h2, decide_eq_true h1]
  rfl
end
section
/-! the reference, method by method: what it answers and does, in words of its rows (now = σ 433) -/
theorem sp_143 {d : Nat} (hd : 0 < d) {h : ex_H} {v a b : Int} : ex_cd d 143 [vI v, vI a, vI b] (h) = some ([vI (b2i (a ≤ v ∧ v ≤ b))], (h)) := by
  rw [ex_cd_eq (by omega)]
  show ex_ev (d - 1) 143 0 [vI v, vI a, vI b] [] (h) = _
  by_cases h1 : v < a
  · simp (disch := first | assumption | omega | (repeat' first | exact ok_nil | apply ok_I | apply ok_R)) only [ev_143_0, ev_143_1, ev_143_2, x_fall, x_goto, x_push, x_ret2, x_ret2b, xl_i0, xl_i1, xl_i2, y_cmp_gt_f, y_cmp_gt_t, y_cmp_lt_f, y_cmp_lt_t, i_wr_id, Int.reduceToNat, ex_ar_same, ex_ar_diff, ex_u_same, ex_u_diff, b2i_t, b2i_f, ex_div_nn, ex_rem_nn, Int.toNat_zero, Int.toNat_one]
  · by_cases h2 : b < v
    · simp (disch := first | assumption | omega | (repeat' first | exact ok_nil | apply ok_I | apply ok_R)) only [ev_143_0, ev_143_1, ev_143_2, x_fall, x_goto, x_push, x_ret2, x_ret2b, xl_i0, xl_i1, xl_i2, y_cmp_gt_f, y_cmp_gt_t, y_cmp_lt_f, y_cmp_lt_t, i_wr_id, Int.reduceToNat, ex_ar_same, ex_ar_diff, ex_u_same, ex_u_diff, b2i_t, b2i_f, ex_div_nn, ex_rem_nn, Int.toNat_zero, Int.toNat_one]
    · simp (disch := first | assumption | omega | (repeat' first | exact ok_nil | apply ok_I | apply ok_R)) only [ev_143_0, ev_143_1, ev_143_2, x_fall, x_goto, x_push, x_ret2, x_ret2b, xl_i0, xl_i1, xl_i2, y_cmp_gt_f, y_cmp_gt_t, y_cmp_lt_f, y_cmp_lt_t, i_wr_id, Int.reduceToNat, ex_ar_same, ex_ar_diff, ex_u_same, ex_u_diff, b2i_t, b2i_f, ex_div_nn, ex_rem_nn, Int.toNat_zero, Int.toNat_one]
theorem xc_143 {rt d : Nat} {J : Nat → List ex_V → List ex_V → ex_H → Option ex_R} {is : List Instr} {ls st : List ex_V} {h : ex_H} {v a b : Int} (hd : 0 < d) (hok : okN 8 st = true) : ex_xs rt J (ex_cd d) (.invokestatic 143 :: is) ls (vI b :: vI a :: vI v :: st) (h) = ex_xs rt J (ex_cd d) is ls (vI (b2i (a ≤ v ∧ v ≤ b)) :: st) (h) := x_call0 (as := [vI v, vI a, vI b]) rfl rfl rfl (okN_ok hok) rfl (sp_143 hd )
def fndM (σ : ex_S) : ex_S := ex_ar σ 432 (ex_u (σ 432) 3 (ex_wr (σ 432 3 + 1)))
theorem sp_142 {d : Nat} (hd : 0 < d) {L : Nat} {σ : ex_S} {w : Int} : ex_cd d 142 [vR 432, vI w] (SH L, σ) = some ([vI w], (SH L, fndM σ)) := by
  rw [ex_cd_eq (by omega)]
  show ex_ev (d - 1) 142 0 [vR 432, vI w] [] (SH L, σ) = _
  simp (disch := first | assumption | omega | (repeat' first | exact ok_nil | apply ok_I | apply ok_R)) only [ev_142_0, gf_432_3, pf_432_3, x_dupI, x_dupR, x_iadd, x_push, x_ret1, xl_a0, xl_i1, Int.reduceToNat, ex_ar_same, ex_ar_diff, ex_u_same, ex_u_diff, b2i_t, b2i_f, ex_div_nn, ex_rem_nn, Int.toNat_zero, Int.toNat_one]
  rfl
theorem xc_142 {rt d : Nat} {J : Nat → List ex_V → List ex_V → ex_H → Option ex_R} {is : List Instr} {ls st : List ex_V} {L : Nat} {σ : ex_S} {w : Int} (hd : 0 < d) (hok : okN 8 st = true) : ex_xs rt J (ex_cd d) (.invokevirtual 142 :: is) ls (vI w :: vR 432 :: st) (SH L, σ) = ex_xs rt J (ex_cd d) is ls (vI w :: st) (SH L, fndM σ) := x_call1 (Or.inl rfl) rfl (sh_432 _) (Or.inl ⟨rfl, rfl⟩) (as := [vI w]) rfl rfl (okN_ok hok) rfl (sp_142 hd )
theorem sp_144 {d : Nat} (hd : 1 < d) {L : Nat} {σ : ex_S} {l : Int} (hn : 0 ≤ σ 433 0) (hn2 : σ 433 0 ≤ 5) : ex_cd d 144 [vR 432, vI l] (SH L, σ) = some ([vI (b2i (0 ≤ l ∧ l < σ 433 0))], (SH L, σ)) := by
  rw [ex_cd_eq (by omega)]
  show ex_ev (d - 1) 144 0 [vR 432, vI l] [] (SH L, σ) = _
  simp (disch := first | assumption | omega | (repeat' first | exact ok_nil | apply ok_I | apply ok_R)) only [ev_144_0, gf_432_0, ld_433, x_isub, x_push, x_ret2, x_ret2b, xc_143, xl_a0, xl_i1, i_wr_id, Int.reduceToNat, ex_ar_same, ex_ar_diff, ex_u_same, ex_u_diff, ex_div_nn, ex_rem_nn, Int.toNat_zero, Int.toNat_one]
  rw [b2i_iff (show (0 ≤ l ∧ l ≤ σ 433 0 - 1) ↔ (0 ≤ l ∧ l < σ 433 0) by omega)]
theorem xc_144 {rt d : Nat} {J : Nat → List ex_V → List ex_V → ex_H → Option ex_R} {is : List Instr} {ls st : List ex_V} {L : Nat} {σ : ex_S} {l : Int} (hn : 0 ≤ σ 433 0) (hn2 : σ 433 0 ≤ 5) (hd : 1 < d) (hok : okN 8 st = true) : ex_xs rt J (ex_cd d) (.invokevirtual 144 :: is) ls (vI l :: vR 432 :: st) (SH L, σ) = ex_xs rt J (ex_cd d) is ls (vI (b2i (0 ≤ l ∧ l < σ 433 0)) :: st) (SH L, σ) := x_call1 (Or.inl rfl) rfl (sh_432 _) (Or.inl ⟨rfl, rfl⟩) (as := [vI l]) rfl rfl (okN_ok hok) rfl (sp_144 hd hn hn2)
theorem sp_145 {d : Nat} (hd : 1 < d) {L : Nat} {σ : ex_S} {l : Int} (hn : 0 ≤ σ 433 1) (hn2 : σ 433 1 ≤ 8) : ex_cd d 145 [vR 432, vI l] (SH L, σ) = some ([vI (b2i (0 ≤ l ∧ l < σ 433 1))], (SH L, σ)) := by
  rw [ex_cd_eq (by omega)]
  show ex_ev (d - 1) 145 0 [vR 432, vI l] [] (SH L, σ) = _
  simp (disch := first | assumption | omega | (repeat' first | exact ok_nil | apply ok_I | apply ok_R)) only [ev_145_0, gf_432_0, ld_433, x_isub, x_push, x_ret2, x_ret2b, xc_143, xl_a0, xl_i1, i_wr_id, Int.reduceToNat, ex_ar_same, ex_ar_diff, ex_u_same, ex_u_diff, ex_div_nn, ex_rem_nn, Int.toNat_zero, Int.toNat_one]
  rw [b2i_iff (show (0 ≤ l ∧ l ≤ σ 433 1 - 1) ↔ (0 ≤ l ∧ l < σ 433 1) by omega)]
theorem xc_145 {rt d : Nat} {J : Nat → List ex_V → List ex_V → ex_H → Option ex_R} {is : List Instr} {ls st : List ex_V} {L : Nat} {σ : ex_S} {l : Int} (hn : 0 ≤ σ 433 1) (hn2 : σ 433 1 ≤ 8) (hd : 1 < d) (hok : okN 8 st = true) : ex_xs rt J (ex_cd d) (.invokevirtual 145 :: is) ls (vI l :: vR 432 :: st) (SH L, σ) = ex_xs rt J (ex_cd d) is ls (vI (b2i (0 ≤ l ∧ l < σ 433 1)) :: st) (SH L, σ) := x_call1 (Or.inl rfl) rfl (sh_432 _) (Or.inl ⟨rfl, rfl⟩) (as := [vI l]) rfl rfl (okN_ok hok) rfl (sp_145 hd hn hn2)
theorem sp_146 {d : Nat} (hd : 1 < d) {h : ex_H} {v : Int} : ex_cd d 146 [vI v] (h) = some ([vI (b2i (0 ≤ v ∧ v ≤ 23))], (h)) := by
  rw [ex_cd_eq (by omega)]
  show ex_ev (d - 1) 146 0 [vI v] [] (h) = _
  simp (disch := first | assumption | omega | (repeat' first | exact ok_nil | apply ok_I | apply ok_R)) only [ev_146_0, x_push, x_ret2, x_ret2b, xc_143, xl_i0, i_wr_id, Int.reduceToNat, ex_ar_same, ex_ar_diff, ex_u_same, ex_u_diff, ex_div_nn, ex_rem_nn, Int.toNat_zero, Int.toNat_one]
theorem xc_146 {rt d : Nat} {J : Nat → List ex_V → List ex_V → ex_H → Option ex_R} {is : List Instr} {ls st : List ex_V} {h : ex_H} {v : Int} (hd : 1 < d) (hok : okN 8 st = true) : ex_xs rt J (ex_cd d) (.invokestatic 146 :: is) ls (vI v :: st) (h) = ex_xs rt J (ex_cd d) is ls (vI (b2i (0 ≤ v ∧ v ≤ 23)) :: st) (h) := x_call0 (as := [vI v]) rfl rfl rfl (okN_ok hok) rfl (sp_146 hd )
theorem sp_230 {d : Nat} (hd : 1 < d) {h : ex_H} {v : Int} : ex_cd d 230 [vI v] (h) = some ([vI (b2i (0 ≤ v ∧ v ≤ 3))], (h)) := by
  rw [ex_cd_eq (by omega)]
  show ex_ev (d - 1) 230 0 [vI v] [] (h) = _
  simp (disch := first | assumption | omega | (repeat' first | exact ok_nil | apply ok_I | apply ok_R)) only [ev_230_0, x_push, x_ret2, x_ret2b, xc_143, xl_i0, i_wr_id, Int.reduceToNat, ex_ar_same, ex_ar_diff, ex_u_same, ex_u_diff, ex_div_nn, ex_rem_nn, Int.toNat_zero, Int.toNat_one]
theorem xc_230 {rt d : Nat} {J : Nat → List ex_V → List ex_V → ex_H → Option ex_R} {is : List Instr} {ls st : List ex_V} {h : ex_H} {v : Int} (hd : 1 < d) (hok : okN 8 st = true) : ex_xs rt J (ex_cd d) (.invokestatic 230 :: is) ls (vI v :: st) (h) = ex_xs rt J (ex_cd d) is ls (vI (b2i (0 ≤ v ∧ v ≤ 3)) :: st) (h) := x_call0 (as := [vI v]) rfl rfl rfl (okN_ok hok) rfl (sp_230 hd )
theorem sp_150 {d : Nat} (hd : 0 < d) {L : Nat} {σ : ex_S} {l : Int} (h1 : 0 ≤ l) (h2 : l < 5) : ex_cd d 150 [vR 432, vI l] (SH L, σ) = some ([vI (b2i (σ 433 (11 + l) = 1 ∨ σ 433 (11 + l) = 3))], (SH L, σ)) := by
  rw [ex_cd_eq (by omega)]
  show ex_ev (d - 1) 150 0 [vR 432, vI l] [] (SH L, σ) = _
  by_cases h3 : σ 433 (11 + l) = 1
  · simp (disch := first | assumption | omega | (repeat' first | exact ok_nil | apply ok_I | apply ok_R)) only [ev_150_0, ev_150_1, ev_150_2, ev_150_3, gf_432_0, ld_433, x_fall, x_goto, x_iadd, x_push, x_ret2, x_ret2b, xl_a0, xl_i1, y_cmp_eq_f, y_cmp_eq_t, y_cmp_ne_f, y_cmp_ne_t, i_wr_id, Int.reduceToNat, ex_ar_same, ex_ar_diff, ex_u_same, ex_u_diff, b2i_t, b2i_f, ex_div_nn, ex_rem_nn, Int.toNat_zero, Int.toNat_one]
  · by_cases h4 : σ 433 (11 + l) = 3
    · simp (disch := first | assumption | omega | (repeat' first | exact ok_nil | apply ok_I | apply ok_R)) only [ev_150_0, ev_150_1, ev_150_2, ev_150_3, gf_432_0, ld_433, x_fall, x_goto, x_iadd, x_push, x_ret2, x_ret2b, xl_a0, xl_i1, y_cmp_eq_f, y_cmp_eq_t, y_cmp_ne_f, y_cmp_ne_t, i_wr_id, Int.reduceToNat, ex_ar_same, ex_ar_diff, ex_u_same, ex_u_diff, b2i_t, b2i_f, ex_div_nn, ex_rem_nn, Int.toNat_zero, Int.toNat_one]
    · simp (disch := first | assumption | omega | (repeat' first | exact ok_nil | apply ok_I | apply ok_R)) only [ev_150_0, ev_150_1, ev_150_2, ev_150_3, gf_432_0, ld_433, x_fall, x_goto, x_iadd, x_push, x_ret2, x_ret2b, xl_a0, xl_i1, y_cmp_eq_f, y_cmp_eq_t, y_cmp_ne_f, y_cmp_ne_t, i_wr_id, Int.reduceToNat, ex_ar_same, ex_ar_diff, ex_u_same, ex_u_diff, b2i_t, b2i_f, ex_div_nn, ex_rem_nn, Int.toNat_zero, Int.toNat_one]
theorem xc_150 {rt d : Nat} {J : Nat → List ex_V → List ex_V → ex_H → Option ex_R} {is : List Instr} {ls st : List ex_V} {L : Nat} {σ : ex_S} {l : Int} (h1 : 0 ≤ l) (h2 : l < 5) (hd : 0 < d) (hok : okN 8 st = true) : ex_xs rt J (ex_cd d) (.invokevirtual 150 :: is) ls (vI l :: vR 432 :: st) (SH L, σ) = ex_xs rt J (ex_cd d) is ls (vI (b2i (σ 433 (11 + l) = 1 ∨ σ 433 (11 + l) = 3)) :: st) (SH L, σ) := x_call1 (Or.inl rfl) rfl (sh_432 _) (Or.inl ⟨rfl, rfl⟩) (as := [vI l]) rfl rfl (okN_ok hok) rfl (sp_150 hd h1 h2)
theorem sp_152 {d : Nat} (hd : 0 < d) {L : Nat} {σ : ex_S} {l i : Int} (h1 : 0 ≤ l) (h2 : l < 5) (h3 : 0 ≤ i) (h4 : i < 8) : ex_cd d 152 [vR 432, vI l, vI i] (SH L, σ) = some ([vI (σ 433 (51 + 8 * l + i))], (SH L, σ)) := by
  rw [ex_cd_eq (by omega)]
  show ex_ev (d - 1) 152 0 [vR 432, vI l, vI i] [] (SH L, σ) = _
  simp (disch := first | assumption | omega | (repeat' first | exact ok_nil | apply ok_I | apply ok_R)) only [ev_152_0, gf_432_0, ld_433, x_iadd, x_imul, x_push, x_ret1, xl_a0, xl_i1, xl_i2, i_wr_id, Int.reduceToNat, ex_ar_same, ex_ar_diff, ex_u_same, ex_u_diff, b2i_t, b2i_f, ex_div_nn, ex_rem_nn, Int.toNat_zero, Int.toNat_one]
theorem xc_152 {rt d : Nat} {J : Nat → List ex_V → List ex_V → ex_H → Option ex_R} {is : List Instr} {ls st : List ex_V} {L : Nat} {σ : ex_S} {l i : Int} (h1 : 0 ≤ l) (h2 : l < 5) (h3 : 0 ≤ i) (h4 : i < 8) (hd : 0 < d) (hok : okN 8 st = true) : ex_xs rt J (ex_cd d) (.invokevirtual 152 :: is) ls (vI i :: vI l :: vR 432 :: st) (SH L, σ) = ex_xs rt J (ex_cd d) is ls (vI (σ 433 (51 + 8 * l + i)) :: st) (SH L, σ) := x_call1 (Or.inl rfl) rfl (sh_432 _) (Or.inl ⟨rfl, rfl⟩) (as := [vI l, vI i]) rfl rfl (okN_ok hok) rfl (sp_152 hd h1 h2 h3 h4)
/-- the places hold cars -/
def okP (n : Int → Int) : Prop := ∀ l i : Int, 0 ≤ l → l < 5 → 0 ≤ i → i < n (46 + l) → 0 ≤ n (51 + 8 * l + i) ∧ n (51 + 8 * l + i) < 8
def okM (n : Int → Int) : Prop := ∀ l : Int, 0 ≤ l → l < 5 → 0 ≤ n (46 + l) ∧ n (46 + l) ≤ 8
def leftN (n : Int → Int) (l : Int) : Int := itr (fun i a => ex_wr (a - n (91 + n (51 + 8 * l + (i : Int))))) 0 (n (46 + l)).toNat (n (16 + l))
theorem lp_153 {d L : Nat} {σ : ex_S} {l : Int} (hd : 0 < d) (h1 : 0 ≤ l) (h2 : l < 5) (hM : okM (σ 433)) (hP : okP (σ 433)) : ∀ (j i : Nat) (a : Int), i + j = (σ 433 (46 + l)).toNat → ex_ev d 153 1 [vR 432, vI l, vI a, vI (i : Int)] [] (SH L, σ) = some ([vI (itr (fun i a => ex_wr (a - σ 433 (91 + σ 433 (51 + 8 * l + (i : Int))))) i j a)], (SH L, σ)) := by
  obtain ⟨m1, m2⟩ := hM l h1 h2
  intro j
  induction j with
  | zero =>
    intro i a hij
    rw [ev_153_1]
    simp (disch := first | assumption | omega | (repeat' first | exact ok_nil | apply ok_I | apply ok_R)) only [ev_153_0, ev_153_2, gf_432_0, ld_433, x_fall, x_goto, x_iadd, x_isub, x_push, x_ret1, xc_152, xl_a0, xl_i1, xl_i2, xl_i3, xn_3, xt_i2, xt_i3, y_cmp_ge_f, y_cmp_ge_t, i_wr_id, Int.reduceToNat, ex_ar_same, ex_ar_diff, ex_u_same, ex_u_diff, b2i_t, b2i_f, ex_div_nn, ex_rem_nn, Int.toNat_zero, Int.toNat_one]
    rfl
  | succ j ih =>
    intro i a hij
    obtain ⟨p1, p2⟩ := hP l i h1 h2 (by omega) (by omega)
    rw [ev_153_1]
    simp (disch := first | assumption | omega | (repeat' first | exact ok_nil | apply ok_I | apply ok_R)) only [ev_153_0, ev_153_2, gf_432_0, ld_433, x_fall, x_goto, x_iadd, x_isub, x_push, x_ret1, xc_152, xl_a0, xl_i1, xl_i2, xl_i3, xn_3, xt_i2, xt_i3, y_cmp_ge_f, y_cmp_ge_t, i_wr_id, Int.reduceToNat, ex_ar_same, ex_ar_diff, ex_u_same, ex_u_diff, b2i_t, b2i_f, ex_div_nn, ex_rem_nn, Int.toNat_zero, Int.toNat_one]
    rw [nat_cast_succ]
    exact ih (i + 1) _ (by omega)
theorem sp_153 {d : Nat} (hd : 1 < d) {L : Nat} {σ : ex_S} {l : Int} (h1 : 0 ≤ l) (h2 : l < 5) (hM : okM (σ 433)) (hP : okP (σ 433)) : ex_cd d 153 [vR 432, vI l] (SH L, σ) = some ([vI (leftN (σ 433) l)], (SH L, σ)) := by
  rw [ex_cd_eq (by omega)]
  show ex_ev (d - 1) 153 0 [vR 432, vI l, vL 0, vL 0] [] (SH L, σ) = _
  obtain ⟨m1, m2⟩ := hM l h1 h2
  simp (disch := first | assumption | omega | (repeat' first | exact ok_nil | apply ok_I | apply ok_R)) only [ev_153_0, ev_153_2, gf_432_0, ld_433, x_fall, x_goto, x_iadd, x_isub, x_push, x_ret1, xc_152, xl_a0, xl_i1, xl_i2, xl_i3, xn_3, xt_i2, xt_i3, y_cmp_ge_f, y_cmp_ge_t, i_wr_id, Int.reduceToNat, ex_ar_same, ex_ar_diff, ex_u_same, ex_u_diff, b2i_t, b2i_f, ex_div_nn, ex_rem_nn, Int.toNat_zero, Int.toNat_one]
  exact lp_153 (by omega) h1 h2 hM hP _ 0 _ (by omega)
theorem xc_153 {rt d : Nat} {J : Nat → List ex_V → List ex_V → ex_H → Option ex_R} {is : List Instr} {ls st : List ex_V} {L : Nat} {σ : ex_S} {l : Int} (h1 : 0 ≤ l) (h2 : l < 5) (hM : okM (σ 433)) (hP : okP (σ 433)) (hd : 1 < d) (hok : okN 8 st = true) : ex_xs rt J (ex_cd d) (.invokevirtual 153 :: is) ls (vI l :: vR 432 :: st) (SH L, σ) = ex_xs rt J (ex_cd d) is ls (vI (leftN (σ 433) l) :: st) (SH L, σ) := x_call1 (Or.inl rfl) rfl (sh_432 _) (Or.inl ⟨rfl, rfl⟩) (as := [vI l]) rfl rfl (okN_ok hok) rfl (sp_153 hd h1 h2 hM hP)
theorem sp_154 {d : Nat} (hd : 2 < d) {L : Nat} {σ : ex_S} {l w : Int} (hn : 0 ≤ σ 433 0) (hn2 : σ 433 0 ≤ 5) (hM : okM (σ 433)) (hP : okP (σ 433)) : ex_cd d 154 [vR 432, vI l, vI w] (SH L, σ) = some ([vI (if (0 ≤ l ∧ l < σ 433 0) ∧ 0 ≤ w ∧ w ≤ 7 then (if w = 4 then σ 433 (46 + l) else if w = 5 then leftN (σ 433) l else if w = 6 then σ 433 (41 + l) else if w = 7 then σ 433 (31 + l) else σ 433 (11 + 5 * w + l)) else -100001)], (SH L, if (0 ≤ l ∧ l < σ 433 0) ∧ 0 ≤ w ∧ w ≤ 7 then σ else fndM σ)) := by
  rw [ex_cd_eq (by omega)]
  show ex_ev (d - 1) 154 0 [vR 432, vI l, vI w] [] (SH L, σ) = _
  by_cases h1 : 0 ≤ l ∧ l < σ 433 0
  · by_cases h2 : 0 ≤ w ∧ w ≤ 7
    · simp only [if_pos (show (0 ≤ l ∧ l < σ 433 0) ∧ 0 ≤ w ∧ w ≤ 7 from ⟨h1, h2⟩)]
      by_cases h3 : w < 4
      · simp (disch := first | assumption | omega | (repeat' first | exact ok_nil | apply ok_I | apply ok_R)) only [ev_154_0, ev_154_1, ev_154_2, ev_154_3, ev_154_4, ev_154_5, ev_154_6, ev_154_7, gf_432_0, ld_433, x_fall, x_iadd, x_imul, x_push, x_ret1, x_tab, xc_142, xc_143, xc_144, xc_153, xl_a0, xl_i1, xl_i2, y_if_eq_f, y_if_eq_t, y_if_ne_f, y_if_ne_t, i_wr_id, Int.reduceToNat, ex_ar_same, ex_ar_diff, ex_u_same, ex_u_diff, b2i_t, b2i_f, ex_div_nn, ex_rem_nn, Int.toNat_zero, Int.toNat_one]
        rw [if_pos (Or.inl h3)]
        rw [if_neg (by omega), if_neg (by omega), if_neg (by omega), if_neg (by omega)]
      · rcases (show w = 4 ∨ w = 5 ∨ w = 6 ∨ w = 7 by omega) with rfl | rfl | rfl | rfl
        all_goals
          simp (disch := first | assumption | omega | (repeat' first | exact ok_nil | apply ok_I | apply ok_R)) only [ev_154_0, ev_154_1, ev_154_2, ev_154_3, ev_154_4, ev_154_5, ev_154_6, ev_154_7, gf_432_0, ld_433, x_fall, x_iadd, x_imul, x_push, x_ret1, x_tab, xc_142, xc_143, xc_144, xc_153, xl_a0, xl_i1, xl_i2, y_if_eq_f, y_if_eq_t, y_if_ne_f, y_if_ne_t, i_wr_id, Int.reduceToNat, ex_ar_same, ex_ar_diff, ex_u_same, ex_u_diff, b2i_t, b2i_f, ex_div_nn, ex_rem_nn, Int.toNat_zero, Int.toNat_one]
          simp
          simp (disch := first | assumption | omega | (repeat' first | exact ok_nil | apply ok_I | apply ok_R)) only [ev_154_0, ev_154_1, ev_154_2, ev_154_3, ev_154_4, ev_154_5, ev_154_6, ev_154_7, gf_432_0, ld_433, x_fall, x_iadd, x_imul, x_push, x_ret1, x_tab, xc_142, xc_143, xc_144, xc_153, xl_a0, xl_i1, xl_i2, y_if_eq_f, y_if_eq_t, y_if_ne_f, y_if_ne_t, i_wr_id, Int.reduceToNat, ex_ar_same, ex_ar_diff, ex_u_same, ex_u_diff, b2i_t, b2i_f, ex_div_nn, ex_rem_nn, Int.toNat_zero, Int.toNat_one]
    · simp only [if_neg (show ¬ ((0 ≤ l ∧ l < σ 433 0) ∧ 0 ≤ w ∧ w ≤ 7) by omega)]
      simp (disch := first | assumption | omega | (repeat' first | exact ok_nil | apply ok_I | apply ok_R)) only [ev_154_0, ev_154_1, ev_154_2, ev_154_3, ev_154_4, ev_154_5, ev_154_6, ev_154_7, gf_432_0, ld_433, x_fall, x_iadd, x_imul, x_push, x_ret1, x_tab, xc_142, xc_143, xc_144, xc_153, xl_a0, xl_i1, xl_i2, y_if_eq_f, y_if_eq_t, y_if_ne_f, y_if_ne_t, i_wr_id, Int.reduceToNat, ex_ar_same, ex_ar_diff, ex_u_same, ex_u_diff, b2i_t, b2i_f, ex_div_nn, ex_rem_nn, Int.toNat_zero, Int.toNat_one]
  · simp only [if_neg (show ¬ ((0 ≤ l ∧ l < σ 433 0) ∧ 0 ≤ w ∧ w ≤ 7) by omega)]
    simp (disch := first | assumption | omega | (repeat' first | exact ok_nil | apply ok_I | apply ok_R)) only [ev_154_0, ev_154_1, ev_154_2, ev_154_3, ev_154_4, ev_154_5, ev_154_6, ev_154_7, gf_432_0, ld_433, x_fall, x_iadd, x_imul, x_push, x_ret1, x_tab, xc_142, xc_143, xc_144, xc_153, xl_a0, xl_i1, xl_i2, y_if_eq_f, y_if_eq_t, y_if_ne_f, y_if_ne_t, i_wr_id, Int.reduceToNat, ex_ar_same, ex_ar_diff, ex_u_same, ex_u_diff, b2i_t, b2i_f, ex_div_nn, ex_rem_nn, Int.toNat_zero, Int.toNat_one]
theorem xc_154 {rt d : Nat} {J : Nat → List ex_V → List ex_V → ex_H → Option ex_R} {is : List Instr} {ls st : List ex_V} {L : Nat} {σ : ex_S} {l w : Int} (hn : 0 ≤ σ 433 0) (hn2 : σ 433 0 ≤ 5) (hM : okM (σ 433)) (hP : okP (σ 433)) (hd : 2 < d) (hok : okN 8 st = true) : ex_xs rt J (ex_cd d) (.invokevirtual 154 :: is) ls (vI w :: vI l :: vR 432 :: st) (SH L, σ) = ex_xs rt J (ex_cd d) is ls (vI (if (0 ≤ l ∧ l < σ 433 0) ∧ 0 ≤ w ∧ w ≤ 7 then (if w = 4 then σ 433 (46 + l) else if w = 5 then leftN (σ 433) l else if w = 6 then σ 433 (41 + l) else if w = 7 then σ 433 (31 + l) else σ 433 (11 + 5 * w + l)) else -100001) :: st) (SH L, if (0 ≤ l ∧ l < σ 433 0) ∧ 0 ≤ w ∧ w ≤ 7 then σ else fndM σ) := x_call1 (Or.inl rfl) rfl (sh_432 _) (Or.inl ⟨rfl, rfl⟩) (as := [vI l, vI w]) rfl rfl (okN_ok hok) rfl (sp_154 hd hn hn2 hM hP)

def isLn (n : Int → Int) (l : Int) : Prop := 0 ≤ l ∧ l < n 0
/-- where a car stands: 8 times the lane, and the place; -1: out -/
def sI (n : Int → Int) (c l : Int) : Nat → Nat → Int
  | _, 0 => -1
  | i, j + 1 => if n (51 + 8 * l + (i : Int)) = c then 8 * l + (i : Int) else sI n c l (i + 1) j
def sO (n : Int → Int) (c : Int) : Nat → Nat → Int
  | _, 0 => -1
  | l, j + 1 => if sI n c (l : Int) 0 (n (46 + (l : Int))).toNat < 0 then sO n c (l + 1) j else sI n c (l : Int) 0 (n (46 + (l : Int))).toNat
def standN (n : Int → Int) (c : Int) : Int := sO n c 0 (n 0).toNat
theorem sI_lo (n : Int → Int) (c l : Int) (hl : 0 ≤ l) : ∀ (j i : Nat), sI n c l i j = -1 ∨ (∃ k : Nat, i ≤ k ∧ k < i + j ∧ n (51 + 8 * l + (k : Int)) = c ∧ sI n c l i j = 8 * l + (k : Int))
  | 0, i => Or.inl rfl
  | j + 1, i => by
    rw [sI]
    by_cases h : n (51 + 8 * l + (i : Int)) = c
    · rw [if_pos h]
      exact Or.inr ⟨i, by omega, by omega, h, rfl⟩
    · rw [if_neg h]
      rcases sI_lo n c l hl j (i + 1) with h1 | ⟨k, h1, h2, h3, h4⟩
      · exact Or.inl h1
      · exact Or.inr ⟨k, by omega, by omega, h3, h4⟩
theorem li_157 {d L : Nat} {σ : ex_S} {c : Int} (hd : 0 < d) (l : Nat) (hl : l < 5) (hM : okM (σ 433)) : ∀ (j i : Nat), i + j = (σ 433 (46 + (l : Int))).toNat → ∃ w : ex_V, ex_ev d 157 2 [vR 432, vI c, vI (l : Int), vI (i : Int)] [] (SH L, σ) = if sI (σ 433) c (l : Int) i j < 0 then ex_ev d 157 1 [vR 432, vI c, vI ((l + 1 : Nat) : Int), w] [] (SH L, σ) else some ([vI (sI (σ 433) c (l : Int) i j)], (SH L, σ)) := by
  obtain ⟨m1, m2⟩ := hM l (by omega) (by omega)
  intro j
  induction j with
  | zero =>
    intro i hij
    refine ⟨vI (i : Int), ?_⟩
    rw [ev_157_2]
    simp (disch := first | assumption | omega | (repeat' first | exact ok_nil | apply ok_I | apply ok_R)) only [ev_157_0, ev_157_3, ev_157_4, ev_157_5, gf_432_0, ld_433, x_fall, x_goto, x_iadd, x_imul, x_push, x_ret1, xc_152, xl_a0, xl_i1, xl_i2, xl_i3, xn_2, xn_3, xt_i2, xt_i3, y_cmp_ge_f, y_cmp_ge_t, y_cmp_ne_f, y_cmp_ne_t, i_wr_id, Int.reduceToNat, ex_ar_same, ex_ar_diff, ex_u_same, ex_u_diff, b2i_t, b2i_f, ex_div_nn, ex_rem_nn, Int.toNat_zero, Int.toNat_one]
    rfl
  | succ j ih =>
    intro i hij
    rw [ev_157_2, sI]
    by_cases hc : σ 433 (51 + 8 * (l : Int) + (i : Int)) = c
    · refine ⟨vI (i : Int), ?_⟩
      simp (disch := first | assumption | omega | (repeat' first | exact ok_nil | apply ok_I | apply ok_R)) only [ev_157_0, ev_157_3, ev_157_4, ev_157_5, gf_432_0, ld_433, x_fall, x_goto, x_iadd, x_imul, x_push, x_ret1, xc_152, xl_a0, xl_i1, xl_i2, xl_i3, xn_2, xn_3, xt_i2, xt_i3, y_cmp_ge_f, y_cmp_ge_t, y_cmp_ne_f, y_cmp_ne_t, i_wr_id, Int.reduceToNat, ex_ar_same, ex_ar_diff, ex_u_same, ex_u_diff, b2i_t, b2i_f, ex_div_nn, ex_rem_nn, Int.toNat_zero, Int.toNat_one]
      rw [if_pos hc, if_neg (by omega)]
    · obtain ⟨w, hw⟩ := ih (i + 1) (by omega)
      refine ⟨w, ?_⟩
      simp (disch := first | assumption | omega | (repeat' first | exact ok_nil | apply ok_I | apply ok_R)) only [ev_157_0, ev_157_3, ev_157_4, ev_157_5, gf_432_0, ld_433, x_fall, x_goto, x_iadd, x_imul, x_push, x_ret1, xc_152, xl_a0, xl_i1, xl_i2, xl_i3, xn_2, xn_3, xt_i2, xt_i3, y_cmp_ge_f, y_cmp_ge_t, y_cmp_ne_f, y_cmp_ne_t, i_wr_id, Int.reduceToNat, ex_ar_same, ex_ar_diff, ex_u_same, ex_u_diff, b2i_t, b2i_f, ex_div_nn, ex_rem_nn, Int.toNat_zero, Int.toNat_one]
      rw [if_neg hc, nat_cast_succ, hw]
theorem lo_157 {d L : Nat} {σ : ex_S} {c : Int} (hd : 0 < d) (hn2 : σ 433 0 ≤ 5) (hM : okM (σ 433)) : ∀ (j l : Nat) (w : ex_V), l + j = (σ 433 0).toNat → ex_ev d 157 1 [vR 432, vI c, vI (l : Int), w] [] (SH L, σ) = some ([vI (sO (σ 433) c l j)], (SH L, σ)) := by
  intro j
  induction j with
  | zero =>
    intro l w hlj
    rw [ev_157_1]
    simp (disch := first | assumption | omega | (repeat' first | exact ok_nil | apply ok_I | apply ok_R)) only [ev_157_0, ev_157_3, ev_157_4, ev_157_5, gf_432_0, ld_433, x_fall, x_goto, x_iadd, x_imul, x_push, x_ret1, xc_152, xl_a0, xl_i1, xl_i2, xl_i3, xn_2, xn_3, xt_i2, xt_i3, y_cmp_ge_f, y_cmp_ge_t, y_cmp_ne_f, y_cmp_ne_t, i_wr_id, Int.reduceToNat, ex_ar_same, ex_ar_diff, ex_u_same, ex_u_diff, b2i_t, b2i_f, ex_div_nn, ex_rem_nn, Int.toNat_zero, Int.toNat_one]
    rfl
  | succ j ih =>
    intro l w hlj
    rw [ev_157_1]
    simp (disch := first | assumption | omega | (repeat' first | exact ok_nil | apply ok_I | apply ok_R)) only [ev_157_0, ev_157_3, ev_157_4, ev_157_5, gf_432_0, ld_433, x_fall, x_goto, x_iadd, x_imul, x_push, x_ret1, xc_152, xl_a0, xl_i1, xl_i2, xl_i3, xn_2, xn_3, xt_i2, xt_i3, y_cmp_ge_f, y_cmp_ge_t, y_cmp_ne_f, y_cmp_ne_t, i_wr_id, Int.reduceToNat, ex_ar_same, ex_ar_diff, ex_u_same, ex_u_diff, b2i_t, b2i_f, ex_div_nn, ex_rem_nn, Int.toNat_zero, Int.toNat_one]
    obtain ⟨w', hw⟩ := li_157 (L := L) (c := c) hd l (by omega) hM (σ 433 (46 + (l : Int))).toNat 0 (by omega)
    have hw0 : ex_ev d 157 2 [vR 432, vI c, vI (l : Int), vI 0] [] (SH L, σ) = _ := hw
    rw [hw0, sO]
    by_cases hs : sI (σ 433) c (l : Int) 0 (σ 433 (46 + (l : Int))).toNat < 0
    · rw [if_pos hs, if_pos hs]
      exact ih (l + 1) w' (by omega)
    · rw [if_neg hs, if_neg hs]
theorem sp_157 {d : Nat} (hd : 1 < d) {L : Nat} {σ : ex_S} {c : Int} (hn : 0 ≤ σ 433 0) (hn2 : σ 433 0 ≤ 5) (hM : okM (σ 433)) : ex_cd d 157 [vR 432, vI c] (SH L, σ) = some ([vI (standN (σ 433) c)], (SH L, σ)) := by
  rw [ex_cd_eq (by omega)]
  show ex_ev (d - 1) 157 0 [vR 432, vI c, vL 0, vL 0] [] (SH L, σ) = _
  simp (disch := first | assumption | omega | (repeat' first | exact ok_nil | apply ok_I | apply ok_R)) only [ev_157_0, ev_157_3, ev_157_4, ev_157_5, gf_432_0, ld_433, x_fall, x_goto, x_iadd, x_imul, x_push, x_ret1, xc_152, xl_a0, xl_i1, xl_i2, xl_i3, xn_2, xn_3, xt_i2, xt_i3, y_cmp_ge_f, y_cmp_ge_t, y_cmp_ne_f, y_cmp_ne_t, i_wr_id, Int.reduceToNat, ex_ar_same, ex_ar_diff, ex_u_same, ex_u_diff, b2i_t, b2i_f, ex_div_nn, ex_rem_nn, Int.toNat_zero, Int.toNat_one]
  exact lo_157 (by omega) hn2 hM _ 0 _ (by omega)
theorem xc_157 {rt d : Nat} {J : Nat → List ex_V → List ex_V → ex_H → Option ex_R} {is : List Instr} {ls st : List ex_V} {L : Nat} {σ : ex_S} {c : Int} (hn : 0 ≤ σ 433 0) (hn2 : σ 433 0 ≤ 5) (hM : okM (σ 433)) (hd : 1 < d) (hok : okN 8 st = true) : ex_xs rt J (ex_cd d) (.invokevirtual 157 :: is) ls (vI c :: vR 432 :: st) (SH L, σ) = ex_xs rt J (ex_cd d) is ls (vI (standN (σ 433) c) :: st) (SH L, σ) := x_call1 (Or.inl rfl) rfl (sh_432 _) (Or.inl ⟨rfl, rfl⟩) (as := [vI c]) rfl rfl (okN_ok hok) rfl (sp_157 hd hn hn2 hM)
theorem sO_lo (n : Int → Int) (c : Int) : ∀ (j l : Nat), sO n c l j = -1 ∨ (∃ k i : Nat, l ≤ k ∧ k < l + j ∧ (i : Int) < n (46 + (k : Int)) ∧ n (51 + 8 * (k : Int) + (i : Int)) = c ∧ sO n c l j = 8 * (k : Int) + (i : Int))
  | 0, l => Or.inl rfl
  | j + 1, l => by
    rw [sO]
    rcases sI_lo n c (l : Int) (by omega) (n (46 + (l : Int))).toNat 0 with h1 | ⟨k, h1, h2, h3, h4⟩
    · rw [if_pos (by omega)]
      rcases sO_lo n c j (l + 1) with h5 | ⟨k, i, h5, h6, h7, h8, h9⟩
      · exact Or.inl h5
      · exact Or.inr ⟨k, i, by omega, by omega, h7, h8, h9⟩
    · rw [if_neg (by omega)]
      exact Or.inr ⟨l, k, by omega, by omega, by omega, h3, h4⟩
theorem stand_lo (n : Int → Int) (c : Int) (hn2 : n 0 ≤ 5) (hM : okM n) : standN n c = -1 ∨ (0 ≤ standN n c ∧ standN n c < 40 ∧ standN n c / 8 < n 0 ∧ standN n c % 8 < n (46 + standN n c / 8) ∧ n (51 + standN n c) = c) := by
  rcases sO_lo n c (n 0).toNat 0 with h | ⟨k, i, h1, h2, h3, h4, h5⟩
  · exact Or.inl h
  · have hm := hM k (by omega) (by omega)
    have e : standN n c = 8 * (k : Int) + (i : Int) := h5
    have e1 : standN n c / 8 = k := by omega
    have e2 : standN n c % 8 = i := by omega
    rw [e1, e2, e]
    exact Or.inr ⟨by omega, by omega, by omega, h3, by rw [← h4]; congr 1; omega⟩
def aheadN (n : Int → Int) (s : Int) : Int := n (46 + s / 8) - 1 - s % 8
theorem sp_158 {d : Nat} (hd : 0 < d) {L : Nat} {σ : ex_S} {s : Int} (h1 : 0 ≤ s) (h2 : s < 40) (hM : okM (σ 433)) : ex_cd d 158 [vR 432, vI s] (SH L, σ) = some ([vI (aheadN (σ 433) s)], (SH L, σ)) := by
  rw [ex_cd_eq (by omega)]
  show ex_ev (d - 1) 158 0 [vR 432, vI s] [] (SH L, σ) = _
  obtain ⟨m1, m2⟩ := hM (s / 8) (by omega) (by omega)
  simp (disch := first | assumption | omega | (repeat' first | exact ok_nil | apply ok_I | apply ok_R)) only [ev_158_0, gf_432_0, ld_433, x_iadd, x_idiv, x_irem, x_isub, x_push, x_ret1, xl_a0, xl_i1, i_wr_id, Int.reduceToNat, ex_ar_same, ex_ar_diff, ex_u_same, ex_u_diff, b2i_t, b2i_f, ex_div_nn, ex_rem_nn, Int.toNat_zero, Int.toNat_one]
  rfl
theorem xc_158 {rt d : Nat} {J : Nat → List ex_V → List ex_V → ex_H → Option ex_R} {is : List Instr} {ls st : List ex_V} {L : Nat} {σ : ex_S} {s : Int} (h1 : 0 ≤ s) (h2 : s < 40) (hM : okM (σ 433)) (hd : 0 < d) (hok : okN 8 st = true) : ex_xs rt J (ex_cd d) (.invokevirtual 158 :: is) ls (vI s :: vR 432 :: st) (SH L, σ) = ex_xs rt J (ex_cd d) is ls (vI (aheadN (σ 433) s) :: st) (SH L, σ) := x_call1 (Or.inl rfl) rfl (sh_432 _) (Or.inl ⟨rfl, rfl⟩) (as := [vI s]) rfl rfl (okN_ok hok) rfl (sp_158 hd h1 h2 hM)
def fitN (n : Int → Int) (c l : Int) : Prop := n (99 + c) ≤ n (21 + l) ∧ n (107 + c) ≤ n (26 + l)
noncomputable def fitI (n : Int → Int) (c l : Int) : Int := by classical exact b2i (fitN n c l)
theorem sp_162 {d : Nat} (hd : 0 < d) {L : Nat} {σ : ex_S} {c l : Int} (h1 : 0 ≤ c) (h2 : c < 8) (h3 : 0 ≤ l) (h4 : l < 5) : ex_cd d 162 [vR 432, vI c, vI l] (SH L, σ) = some ([vI (b2i (σ 433 (99 + c) ≤ σ 433 (21 + l) ∧ σ 433 (107 + c) ≤ σ 433 (26 + l)))], (SH L, σ)) := by
  rw [ex_cd_eq (by omega)]
  show ex_ev (d - 1) 162 0 [vR 432, vI c, vI l] [] (SH L, σ) = _
  by_cases h5 : σ 433 (99 + c) ≤ σ 433 (21 + l)
  · by_cases h6 : σ 433 (107 + c) ≤ σ 433 (26 + l)
    · simp (disch := first | assumption | omega | (repeat' first | exact ok_nil | apply ok_I | apply ok_R)) only [ev_162_0, ev_162_1, ev_162_2, gf_432_0, ld_433, x_fall, x_goto, x_iadd, x_push, x_ret2, x_ret2b, xl_a0, xl_i1, xl_i2, y_cmp_gt_f, y_cmp_gt_t, i_wr_id, Int.reduceToNat, ex_ar_same, ex_ar_diff, ex_u_same, ex_u_diff, b2i_t, b2i_f, ex_div_nn, ex_rem_nn, Int.toNat_zero, Int.toNat_one]
    · simp (disch := first | assumption | omega | (repeat' first | exact ok_nil | apply ok_I | apply ok_R)) only [ev_162_0, ev_162_1, ev_162_2, gf_432_0, ld_433, x_fall, x_goto, x_iadd, x_push, x_ret2, x_ret2b, xl_a0, xl_i1, xl_i2, y_cmp_gt_f, y_cmp_gt_t, i_wr_id, Int.reduceToNat, ex_ar_same, ex_ar_diff, ex_u_same, ex_u_diff, b2i_t, b2i_f, ex_div_nn, ex_rem_nn, Int.toNat_zero, Int.toNat_one]
  · simp (disch := first | assumption | omega | (repeat' first | exact ok_nil | apply ok_I | apply ok_R)) only [ev_162_0, ev_162_1, ev_162_2, gf_432_0, ld_433, x_fall, x_goto, x_iadd, x_push, x_ret2, x_ret2b, xl_a0, xl_i1, xl_i2, y_cmp_gt_f, y_cmp_gt_t, i_wr_id, Int.reduceToNat, ex_ar_same, ex_ar_diff, ex_u_same, ex_u_diff, b2i_t, b2i_f, ex_div_nn, ex_rem_nn, Int.toNat_zero, Int.toNat_one]
theorem xc_162 {rt d : Nat} {J : Nat → List ex_V → List ex_V → ex_H → Option ex_R} {is : List Instr} {ls st : List ex_V} {L : Nat} {σ : ex_S} {c l : Int} (h1 : 0 ≤ c) (h2 : c < 8) (h3 : 0 ≤ l) (h4 : l < 5) (hd : 0 < d) (hok : okN 8 st = true) : ex_xs rt J (ex_cd d) (.invokevirtual 162 :: is) ls (vI l :: vI c :: vR 432 :: st) (SH L, σ) = ex_xs rt J (ex_cd d) is ls (vI (b2i (σ 433 (99 + c) ≤ σ 433 (21 + l) ∧ σ 433 (107 + c) ≤ σ 433 (26 + l))) :: st) (SH L, σ) := x_call1 (Or.inl rfl) rfl (sh_432 _) (Or.inl ⟨rfl, rfl⟩) (as := [vI c, vI l]) rfl rfl (okN_ok hok) rfl (sp_162 hd h1 h2 h3 h4)
theorem sp_164 {d : Nat} (hd : 0 < d) {L : Nat} {σ : ex_S} {l : Int} (h3 : 0 ≤ l) (h4 : l < 5) : ex_cd d 164 [vR 432, vI l] (SH L, σ) = some ([vI (b2i (σ 433 (31 + l) = 1 ∨ σ 433 (41 + l) = 12))], (SH L, σ)) := by
  rw [ex_cd_eq (by omega)]
  show ex_ev (d - 1) 164 0 [vR 432, vI l] [] (SH L, σ) = _
  by_cases h5 : σ 433 (31 + l) = 1
  · simp (disch := first | assumption | omega | (repeat' first | exact ok_nil | apply ok_I | apply ok_R)) only [ev_164_0, ev_164_1, ev_164_2, ev_164_3, gf_432_0, ld_433, x_fall, x_goto, x_iadd, x_push, x_ret2, x_ret2b, xl_a0, xl_i1, y_cmp_eq_f, y_cmp_eq_t, y_cmp_ne_f, y_cmp_ne_t, i_wr_id, Int.reduceToNat, ex_ar_same, ex_ar_diff, ex_u_same, ex_u_diff, b2i_t, b2i_f, ex_div_nn, ex_rem_nn, Int.toNat_zero, Int.toNat_one]
  · by_cases h6 : σ 433 (41 + l) = 12
    · simp (disch := first | assumption | omega | (repeat' first | exact ok_nil | apply ok_I | apply ok_R)) only [ev_164_0, ev_164_1, ev_164_2, ev_164_3, gf_432_0, ld_433, x_fall, x_goto, x_iadd, x_push, x_ret2, x_ret2b, xl_a0, xl_i1, y_cmp_eq_f, y_cmp_eq_t, y_cmp_ne_f, y_cmp_ne_t, i_wr_id, Int.reduceToNat, ex_ar_same, ex_ar_diff, ex_u_same, ex_u_diff, b2i_t, b2i_f, ex_div_nn, ex_rem_nn, Int.toNat_zero, Int.toNat_one]
    · simp (disch := first | assumption | omega | (repeat' first | exact ok_nil | apply ok_I | apply ok_R)) only [ev_164_0, ev_164_1, ev_164_2, ev_164_3, gf_432_0, ld_433, x_fall, x_goto, x_iadd, x_push, x_ret2, x_ret2b, xl_a0, xl_i1, y_cmp_eq_f, y_cmp_eq_t, y_cmp_ne_f, y_cmp_ne_t, i_wr_id, Int.reduceToNat, ex_ar_same, ex_ar_diff, ex_u_same, ex_u_diff, b2i_t, b2i_f, ex_div_nn, ex_rem_nn, Int.toNat_zero, Int.toNat_one]
theorem xc_164 {rt d : Nat} {J : Nat → List ex_V → List ex_V → ex_H → Option ex_R} {is : List Instr} {ls st : List ex_V} {L : Nat} {σ : ex_S} {l : Int} (h3 : 0 ≤ l) (h4 : l < 5) (hd : 0 < d) (hok : okN 8 st = true) : ex_xs rt J (ex_cd d) (.invokevirtual 164 :: is) ls (vI l :: vR 432 :: st) (SH L, σ) = ex_xs rt J (ex_cd d) is ls (vI (b2i (σ 433 (31 + l) = 1 ∨ σ 433 (41 + l) = 12)) :: st) (SH L, σ) := x_call1 (Or.inl rfl) rfl (sh_432 _) (Or.inl ⟨rfl, rfl⟩) (as := [vI l]) rfl rfl (okN_ok hok) rfl (sp_164 hd h3 h4)
theorem sp_165 {d : Nat} (hd : 2 < d) {L : Nat} {σ : ex_S} {c : Int} (hn : 0 ≤ σ 433 0) (hn2 : σ 433 0 ≤ 5) (hM : okM (σ 433)) : ex_cd d 165 [vR 432, vI c] (SH L, σ) = some ([vI (b2i (0 ≤ standN (σ 433) c ∧ aheadN (σ 433) (standN (σ 433) c) = 0 ∧ ¬ (σ 433 (31 + standN (σ 433) c / 8) = 1 ∨ σ 433 (41 + standN (σ 433) c / 8) = 12)))], (SH L, σ)) := by
  rw [ex_cd_eq (by omega)]
  show ex_ev (d - 1) 165 0 [vR 432, vI c, vL 0] [] (SH L, σ) = _
  rcases stand_lo (σ 433) c hn2 hM with h | ⟨q1, q2, q3, q4, q5⟩
  · simp (disch := first | assumption | omega | (repeat' first | exact ok_nil | apply ok_I | apply ok_R)) only [ev_165_0, ev_165_1, ev_165_2, x_fall, x_goto, x_idiv, x_push, x_ret2, x_ret2b, xc_157, xc_158, xc_164, xl_a0, xl_i1, xl_i2, xt_i2, y_if_lt_f, y_if_lt_t, y_if_ne_f, y_if_ne_t, i_wr_id, Int.reduceToNat, ex_ar_same, ex_ar_diff, ex_u_same, ex_u_diff, b2i_t, b2i_f, ex_div_nn, ex_rem_nn, Int.toNat_zero, Int.toNat_one]
  · by_cases h2 : aheadN (σ 433) (standN (σ 433) c) = 0
    · by_cases h3 : σ 433 (31 + standN (σ 433) c / 8) = 1 ∨ σ 433 (41 + standN (σ 433) c / 8) = 12
      · simp (disch := first | assumption | omega | (repeat' first | exact ok_nil | apply ok_I | apply ok_R)) only [ev_165_0, ev_165_1, ev_165_2, x_fall, x_goto, x_idiv, x_push, x_ret2, x_ret2b, xc_157, xc_158, xc_164, xl_a0, xl_i1, xl_i2, xt_i2, y_if_lt_f, y_if_lt_t, y_if_ne_f, y_if_ne_t, i_wr_id, Int.reduceToNat, ex_ar_same, ex_ar_diff, ex_u_same, ex_u_diff, b2i_t, b2i_f, ex_div_nn, ex_rem_nn, Int.toNat_zero, Int.toNat_one]
      · simp (disch := first | assumption | omega | (repeat' first | exact ok_nil | apply ok_I | apply ok_R)) only [ev_165_0, ev_165_1, ev_165_2, x_fall, x_goto, x_idiv, x_push, x_ret2, x_ret2b, xc_157, xc_158, xc_164, xl_a0, xl_i1, xl_i2, xt_i2, y_if_lt_f, y_if_lt_t, y_if_ne_f, y_if_ne_t, i_wr_id, Int.reduceToNat, ex_ar_same, ex_ar_diff, ex_u_same, ex_u_diff, b2i_t, b2i_f, ex_div_nn, ex_rem_nn, Int.toNat_zero, Int.toNat_one]
    · simp (disch := first | assumption | omega | (repeat' first | exact ok_nil | apply ok_I | apply ok_R)) only [ev_165_0, ev_165_1, ev_165_2, x_fall, x_goto, x_idiv, x_push, x_ret2, x_ret2b, xc_157, xc_158, xc_164, xl_a0, xl_i1, xl_i2, xt_i2, y_if_lt_f, y_if_lt_t, y_if_ne_f, y_if_ne_t, i_wr_id, Int.reduceToNat, ex_ar_same, ex_ar_diff, ex_u_same, ex_u_diff, b2i_t, b2i_f, ex_div_nn, ex_rem_nn, Int.toNat_zero, Int.toNat_one]
theorem xc_165 {rt d : Nat} {J : Nat → List ex_V → List ex_V → ex_H → Option ex_R} {is : List Instr} {ls st : List ex_V} {L : Nat} {σ : ex_S} {c : Int} (hn : 0 ≤ σ 433 0) (hn2 : σ 433 0 ≤ 5) (hM : okM (σ 433)) (hd : 2 < d) (hok : okN 8 st = true) : ex_xs rt J (ex_cd d) (.invokevirtual 165 :: is) ls (vI c :: vR 432 :: st) (SH L, σ) = ex_xs rt J (ex_cd d) is ls (vI (b2i (0 ≤ standN (σ 433) c ∧ aheadN (σ 433) (standN (σ 433) c) = 0 ∧ ¬ (σ 433 (31 + standN (σ 433) c / 8) = 1 ∨ σ 433 (41 + standN (σ 433) c / 8) = 12))) :: st) (SH L, σ) := x_call1 (Or.inl rfl) rfl (sh_432 _) (Or.inl ⟨rfl, rfl⟩) (as := [vI c]) rfl rfl (okN_ok hok) rfl (sp_165 hd hn hn2 hM)
end
section
/-! the reference: what is kept, lanes, cars, coming and going -/
def kpS (i : Nat) (σ : ex_S) : ex_S := ex_ar σ 434 (ex_u (σ 434) (i : Int) (σ 434 ((i : Int) + 277)))
def kpC (i : Nat) (σ : ex_S) : ex_S := ex_ar σ 434 (ex_u (σ 434) (σ 432 2 * 277 + (i : Int)) (σ 433 (i : Int)))
theorem itr_keeps {f : Nat → ex_S → ex_S} {a : Nat} (h : ∀ i σ, f i σ a = σ a) : ∀ (j i : Nat) (σ : ex_S), itr f i j σ a = σ a
  | 0, _, _ => rfl
  | j + 1, i, σ => by
    show itr f (i + 1) j (f i σ) a = σ a
    rw [itr_keeps h j (i + 1) (f i σ), h]
theorem kpS_ne {a : Nat} (h : a ≠ 434) (i : Nat) (σ : ex_S) : kpS i σ a = σ a := ex_ar_diff _ _ _ h
theorem kpC_ne {a : Nat} (h : a ≠ 434) (i : Nat) (σ : ex_S) : kpC i σ a = σ a := ex_ar_diff _ _ _ h
theorem kpS_at : ∀ (j i : Nat) (σ : ex_S) (k : Int), itr kpS i j σ 434 k = if (i : Int) ≤ k ∧ k < (i : Int) + (j : Int) then σ 434 (k + 277) else σ 434 k
  | 0, i, σ, k => by rw [if_neg (by omega)]; rfl
  | j + 1, i, σ, k => by
    show itr kpS (i + 1) j (kpS i σ) 434 k = _
    rw [kpS_at j (i + 1) (kpS i σ) k]
    unfold kpS
    rw [ex_ar_same]
    by_cases h1 : ((i + 1 : Nat) : Int) ≤ k ∧ k < ((i + 1 : Nat) : Int) + (j : Int)
    · rw [if_pos h1, if_pos (by omega), ex_u_diff _ _ (by omega)]
    · rw [if_neg h1]
      by_cases h2 : k = (i : Int)
      · rw [h2, ex_u_same, if_pos (by omega)]
      · rw [ex_u_diff _ _ h2, if_neg (by omega)]
theorem kpC_at : ∀ (j i : Nat) (σ : ex_S) (k : Int), itr kpC i j σ 434 k = if σ 432 2 * 277 + (i : Int) ≤ k ∧ k < σ 432 2 * 277 + (i : Int) + (j : Int) then σ 433 (k - σ 432 2 * 277) else σ 434 k
  | 0, i, σ, k => by rw [if_neg (by omega)]; rfl
  | j + 1, i, σ, k => by
    show itr kpC (i + 1) j (kpC i σ) 434 k = _
    rw [kpC_at j (i + 1) (kpC i σ) k, kpC_ne (by decide), kpC_ne (by decide)]
    unfold kpC
    rw [ex_ar_same]
    by_cases h1 : σ 432 2 * 277 + ((i + 1 : Nat) : Int) ≤ k ∧ k < σ 432 2 * 277 + ((i + 1 : Nat) : Int) + (j : Int)
    · rw [if_pos h1, if_pos (by omega)]
    · rw [if_neg h1]
      by_cases h2 : k = σ 432 2 * 277 + (i : Int)
      · rw [h2, ex_u_same, if_pos (by omega)]
        congr 1
        omega
      · rw [ex_u_diff _ _ h2, if_neg (by omega)]
def kp1 (σ : ex_S) : ex_S := ex_ar (itr kpS 0 4155 σ) 432 (ex_u (σ 432) 2 (σ 432 2 - 1))
def kp2 (σ : ex_S) : ex_S := ex_ar (itr kpC 0 277 σ) 432 (ex_u (σ 432) 2 (σ 432 2 + 1))
def keepM (σ : ex_S) : ex_S := if σ 432 2 = 16 then kp2 (kp1 σ) else kp2 σ
theorem lc_147 {d L : Nat} : ∀ (j i : Nat) (σ : ex_S), 0 ≤ σ 432 2 → σ 432 2 < 16 → i + j = 277 → ex_ev d 147 4 [vR 432, vI (i : Int)] [] (SH L, σ) = some ([], (SH L, ex_ar (itr kpC i j σ) 432 (ex_u (σ 432) 2 (σ 432 2 + 1)))) := by
  intro j
  induction j with
  | zero =>
    intro i σ h1 h2 hij
    rw [ev_147_4]
    simp (disch := first | assumption | omega | (repeat' first | exact ok_nil | apply ok_I | apply ok_R)) only [ev_147_0, ev_147_2, ev_147_3, ev_147_5, gf_432_0, gf_432_1, gf_432_2, ld_433, ld_434, pf_432_2, sd_433, sd_434, x_dupI, x_dupR, x_fall, x_goto, x_iadd, x_imul, x_isub, x_push, x_ret0, xl_a0, xl_i1, xn_1, xt_i1, y_cmp_ge_f, y_cmp_ge_t, y_cmp_ne_f, y_cmp_ne_t, i_wr_id, Int.reduceToNat, ex_ar_same, ex_ar_diff, ex_u_same, ex_u_diff, b2i_t, b2i_f, ex_div_nn, ex_rem_nn, Int.toNat_zero, Int.toNat_one]
    rfl
  | succ j ih =>
    intro i σ h1 h2 hij
    rw [ev_147_4]
    simp (disch := first | assumption | omega | (repeat' first | exact ok_nil | apply ok_I | apply ok_R)) only [ev_147_0, ev_147_2, ev_147_3, ev_147_5, gf_432_0, gf_432_1, gf_432_2, ld_433, ld_434, pf_432_2, sd_433, sd_434, x_dupI, x_dupR, x_fall, x_goto, x_iadd, x_imul, x_isub, x_push, x_ret0, xl_a0, xl_i1, xn_1, xt_i1, y_cmp_ge_f, y_cmp_ge_t, y_cmp_ne_f, y_cmp_ne_t, i_wr_id, Int.reduceToNat, ex_ar_same, ex_ar_diff, ex_u_same, ex_u_diff, b2i_t, b2i_f, ex_div_nn, ex_rem_nn, Int.toNat_zero, Int.toNat_one]
    rw [nat_cast_succ]
    have := ih (i + 1) (kpC i σ) (by rw [kpC_ne (by decide)]; exact h1) (by rw [kpC_ne (by decide)]; exact h2) (by omega)
    rw [kpC_ne (by decide)] at this
    exact this
theorem ls_147 {d L : Nat} : ∀ (j i : Nat) (σ : ex_S), σ 432 2 = 16 → i + j = 4155 → ex_ev d 147 1 [vR 432, vI (i : Int)] [] (SH L, σ) = ex_ev d 147 4 [vR 432, vI 0] [] (SH L, ex_ar (itr kpS i j σ) 432 (ex_u (σ 432) 2 (σ 432 2 - 1))) := by
  intro j
  induction j with
  | zero =>
    intro i σ h1 hij
    rw [ev_147_1]
    simp (disch := first | assumption | omega | (repeat' first | exact ok_nil | apply ok_I | apply ok_R)) only [ev_147_0, ev_147_2, ev_147_3, ev_147_5, gf_432_0, gf_432_1, gf_432_2, ld_433, ld_434, pf_432_2, sd_433, sd_434, x_dupI, x_dupR, x_fall, x_goto, x_iadd, x_imul, x_isub, x_push, x_ret0, xl_a0, xl_i1, xn_1, xt_i1, y_cmp_ge_f, y_cmp_ge_t, y_cmp_ne_f, y_cmp_ne_t, i_wr_id, Int.reduceToNat, ex_ar_same, ex_ar_diff, ex_u_same, ex_u_diff, b2i_t, b2i_f, ex_div_nn, ex_rem_nn, Int.toNat_zero, Int.toNat_one]
    rfl
  | succ j ih =>
    intro i σ h1 hij
    rw [ev_147_1]
    simp (disch := first | assumption | omega | (repeat' first | exact ok_nil | apply ok_I | apply ok_R)) only [ev_147_0, ev_147_2, ev_147_3, ev_147_5, gf_432_0, gf_432_1, gf_432_2, ld_433, ld_434, pf_432_2, sd_433, sd_434, x_dupI, x_dupR, x_fall, x_goto, x_iadd, x_imul, x_isub, x_push, x_ret0, xl_a0, xl_i1, xn_1, xt_i1, y_cmp_ge_f, y_cmp_ge_t, y_cmp_ne_f, y_cmp_ne_t, i_wr_id, Int.reduceToNat, ex_ar_same, ex_ar_diff, ex_u_same, ex_u_diff, b2i_t, b2i_f, ex_div_nn, ex_rem_nn, Int.toNat_zero, Int.toNat_one]
    rw [nat_cast_succ]
    have := ih (i + 1) (kpS i σ) (by rw [kpS_ne (by decide)]; exact h1) (by omega)
    rw [kpS_ne (by decide)] at this
    exact this
theorem sp_147 {d : Nat} (hd : 0 < d) {L : Nat} {σ : ex_S} (hk : 0 ≤ σ 432 2) (hk2 : σ 432 2 ≤ 16) : ex_cd d 147 [vR 432] (SH L, σ) = some ([], (SH L, keepM σ)) := by
  rw [ex_cd_eq (by omega)]
  show ex_ev (d - 1) 147 0 [vR 432, vL 0] [] (SH L, σ) = _
  unfold keepM
  by_cases h : σ 432 2 = 16
  · rw [if_pos h]
    simp (disch := first | assumption | omega | (repeat' first | exact ok_nil | apply ok_I | apply ok_R)) only [ev_147_0, ev_147_2, ev_147_3, ev_147_5, gf_432_0, gf_432_1, gf_432_2, ld_433, ld_434, pf_432_2, sd_433, sd_434, x_dupI, x_dupR, x_fall, x_goto, x_iadd, x_imul, x_isub, x_push, x_ret0, xl_a0, xl_i1, xn_1, xt_i1, y_cmp_ge_f, y_cmp_ge_t, y_cmp_ne_f, y_cmp_ne_t, i_wr_id, Int.reduceToNat, ex_ar_same, ex_ar_diff, ex_u_same, ex_u_diff, b2i_t, b2i_f, ex_div_nn, ex_rem_nn, Int.toNat_zero, Int.toNat_one]
    have e := ls_147 (d := d - 1) (L := L) 4155 0 σ h (by omega)
    have e2 := lc_147 (d := d - 1) (L := L) 277 0 (kp1 σ) (by unfold kp1; rw [ex_ar_same, ex_u_same]; omega) (by unfold kp1; rw [ex_ar_same, ex_u_same]; omega) (by omega)
    exact e.trans e2
  · rw [if_neg h]
    simp (disch := first | assumption | omega | (repeat' first | exact ok_nil | apply ok_I | apply ok_R)) only [ev_147_0, ev_147_2, ev_147_3, ev_147_5, gf_432_0, gf_432_1, gf_432_2, ld_433, ld_434, pf_432_2, sd_433, sd_434, x_dupI, x_dupR, x_fall, x_goto, x_iadd, x_imul, x_isub, x_push, x_ret0, xl_a0, xl_i1, xn_1, xt_i1, y_cmp_ge_f, y_cmp_ge_t, y_cmp_ne_f, y_cmp_ne_t, i_wr_id, Int.reduceToNat, ex_ar_same, ex_ar_diff, ex_u_same, ex_u_diff, b2i_t, b2i_f, ex_div_nn, ex_rem_nn, Int.toNat_zero, Int.toNat_one]
    exact lc_147 277 0 σ hk (by omega) (by omega)
theorem xc_147 {rt d : Nat} {J : Nat → List ex_V → List ex_V → ex_H → Option ex_R} {is : List Instr} {ls st : List ex_V} {L : Nat} {σ : ex_S} (hk : 0 ≤ σ 432 2) (hk2 : σ 432 2 ≤ 16) (hd : 0 < d) (hok : okN 8 st = true) : ex_xs rt J (ex_cd d) (.invokevirtual 147 :: is) ls (vR 432 :: st) (SH L, σ) = ex_xs rt J (ex_cd d) is ls (st) (SH L, keepM σ) := x_call1 (Or.inl rfl) rfl (sh_432 _) (Or.inl ⟨rfl, rfl⟩) (as := []) rfl rfl (okN_ok hok) rfl (sp_147 hd hk hk2)
theorem kp1_ne {a : Nat} (h : a ≠ 432) (h2 : a ≠ 434) (σ : ex_S) : kp1 σ a = σ a := by unfold kp1; rw [ex_ar_diff _ _ _ h, itr_keeps (fun i σ => kpS_ne h2 i σ)]
theorem kp2_ne {a : Nat} (h : a ≠ 432) (h2 : a ≠ 434) (σ : ex_S) : kp2 σ a = σ a := by unfold kp2; rw [ex_ar_diff _ _ _ h, itr_keeps (fun i σ => kpC_ne h2 i σ)]
theorem kM_diff (σ : ex_S) {a : Nat} (h : a ≠ 432) (h2 : a ≠ 434) : keepM σ a = σ a := by
  unfold keepM
  split
  · rw [kp2_ne h h2, kp1_ne h h2]
  · rw [kp2_ne h h2]
theorem kM_432 (σ : ex_S) : keepM σ 432 = ex_u (σ 432) 2 (if σ 432 2 = 16 then 16 else σ 432 2 + 1) := by
  unfold keepM
  by_cases h : σ 432 2 = 16
  · rw [if_pos h, if_pos h]
    unfold kp2 kp1
    rw [ex_ar_same, ex_ar_same]
    funext k
    by_cases hk : k = 2
    · subst hk
      rw [ex_u_same, ex_u_same, ex_u_same]
      omega
    · rw [ex_u_diff _ _ hk, ex_u_diff _ _ hk, ex_u_diff _ _ hk]
  · rw [if_neg h, if_neg h]
    unfold kp2
    rw [ex_ar_same]
theorem kM_434 (σ : ex_S) (hk : 0 ≤ σ 432 2) (hk2 : σ 432 2 ≤ 16) (k : Int) : keepM σ 434 k = if σ 432 2 = 16 then (if 4155 ≤ k ∧ k < 4432 then σ 433 (k - 4155) else if 0 ≤ k ∧ k < 4155 then σ 434 (k + 277) else σ 434 k) else (if σ 432 2 * 277 ≤ k ∧ k < σ 432 2 * 277 + 277 then σ 433 (k - σ 432 2 * 277) else σ 434 k) := by
  unfold keepM
  by_cases h : σ 432 2 = 16
  · rw [if_pos h, if_pos h]
    unfold kp2
    rw [ex_ar_diff _ _ _ (by decide), kpC_at]
    have e1 : kp1 σ 432 2 = 15 := by unfold kp1; rw [ex_ar_same, ex_u_same]; omega
    rw [e1, kp1_ne (by decide) (by decide)]
    by_cases h1 : 4155 ≤ k ∧ k < 4432
    · rw [if_pos (by omega), if_pos h1]
      congr 1
    · rw [if_neg (by omega), if_neg h1]
      unfold kp1
      rw [ex_ar_diff _ _ _ (by decide), kpS_at]
      by_cases h2 : 0 ≤ k ∧ k < 4155
      · rw [if_pos (by omega), if_pos h2]
      · rw [if_neg (by omega), if_neg h2]
  · rw [if_neg h, if_neg h]
    unfold kp2
    rw [ex_ar_diff _ _ _ (by decide), kpC_at]
    by_cases h1 : σ 432 2 * 277 ≤ k ∧ k < σ 432 2 * 277 + 277
    · rw [if_pos (by omega), if_pos h1]
    · rw [if_neg (by omega), if_neg h1]
/-! undo -/
def unS (i : Nat) (σ : ex_S) : ex_S := ex_ar σ 433 (ex_u (σ 433) (i : Int) (σ 434 (σ 432 2 * 277 + (i : Int))))
theorem unS_ne {a : Nat} (h : a ≠ 433) (i : Nat) (σ : ex_S) : unS i σ a = σ a := ex_ar_diff _ _ _ h
theorem unS_at : ∀ (j i : Nat) (σ : ex_S) (k : Int), itr unS i j σ 433 k = if (i : Int) ≤ k ∧ k < (i : Int) + (j : Int) then σ 434 (σ 432 2 * 277 + k) else σ 433 k
  | 0, i, σ, k => by rw [if_neg (by omega)]; rfl
  | j + 1, i, σ, k => by
    show itr unS (i + 1) j (unS i σ) 433 k = _
    rw [unS_at j (i + 1) (unS i σ) k, unS_ne (by decide), unS_ne (by decide)]
    unfold unS
    rw [ex_ar_same]
    by_cases h1 : ((i + 1 : Nat) : Int) ≤ k ∧ k < ((i + 1 : Nat) : Int) + (j : Int)
    · rw [if_pos h1, if_pos (by omega)]
    · rw [if_neg h1]
      by_cases h2 : k = (i : Int)
      · rw [h2, ex_u_same, if_pos (by omega)]
      · rw [ex_u_diff _ _ h2, if_neg (by omega)]
theorem lu_148 {d L : Nat} : ∀ (j i : Nat) (σ : ex_S), 0 ≤ σ 432 2 → σ 432 2 < 16 → i + j = 277 → ex_ev d 148 2 [vR 432, vI (i : Int)] [] (SH L, σ) = some ([vI (σ 432 2)], (SH L, itr unS i j σ)) := by
  intro j
  induction j with
  | zero =>
    intro i σ h1 h2 hij
    rw [ev_148_2]
    simp (disch := first | assumption | omega | (repeat' first | exact ok_nil | apply ok_I | apply ok_R)) only [ev_148_0, ev_148_1, ev_148_3, gf_432_0, gf_432_1, gf_432_2, ld_433, ld_434, pf_432_2, sd_433, sd_434, x_dupI, x_dupR, x_fall, x_goto, x_iadd, x_imul, x_isub, x_push, x_ret1, xc_142, xl_a0, xl_i1, xn_1, xt_i1, y_cmp_ge_f, y_cmp_ge_t, y_if_ne_f, y_if_ne_t, i_wr_id, Int.reduceToNat, ex_ar_same, ex_ar_diff, ex_u_same, ex_u_diff, b2i_t, b2i_f, ex_div_nn, ex_rem_nn, Int.toNat_zero, Int.toNat_one]
    rfl
  | succ j ih =>
    intro i σ h1 h2 hij
    rw [ev_148_2]
    simp (disch := first | assumption | omega | (repeat' first | exact ok_nil | apply ok_I | apply ok_R)) only [ev_148_0, ev_148_1, ev_148_3, gf_432_0, gf_432_1, gf_432_2, ld_433, ld_434, pf_432_2, sd_433, sd_434, x_dupI, x_dupR, x_fall, x_goto, x_iadd, x_imul, x_isub, x_push, x_ret1, xc_142, xl_a0, xl_i1, xn_1, xt_i1, y_cmp_ge_f, y_cmp_ge_t, y_if_ne_f, y_if_ne_t, i_wr_id, Int.reduceToNat, ex_ar_same, ex_ar_diff, ex_u_same, ex_u_diff, b2i_t, b2i_f, ex_div_nn, ex_rem_nn, Int.toNat_zero, Int.toNat_one]
    rw [nat_cast_succ]
    have := ih (i + 1) (unS i σ) (by rw [unS_ne (by decide)]; exact h1) (by rw [unS_ne (by decide)]; exact h2) (by omega)
    rw [unS_ne (by decide)] at this
    exact this
def undoM (σ : ex_S) : Int × ex_S := if σ 432 2 = 0 then (-100006, fndM σ) else (σ 432 2 - 1, itr unS 0 277 (ex_ar σ 432 (ex_u (σ 432) 2 (σ 432 2 - 1))))
theorem sp_148 {d : Nat} (hd : 1 < d) {L : Nat} {σ : ex_S} (hk : 0 ≤ σ 432 2) (hk2 : σ 432 2 ≤ 16) : ex_cd d 148 [vR 432] (SH L, σ) = some ([vI (undoM σ).1], (SH L, (undoM σ).2)) := by
  rw [ex_cd_eq (by omega)]
  show ex_ev (d - 1) 148 0 [vR 432, vL 0] [] (SH L, σ) = _
  unfold undoM
  by_cases h : σ 432 2 = 0
  · rw [if_pos h]
    simp (disch := first | assumption | omega | (repeat' first | exact ok_nil | apply ok_I | apply ok_R)) only [ev_148_0, ev_148_1, ev_148_3, gf_432_0, gf_432_1, gf_432_2, ld_433, ld_434, pf_432_2, sd_433, sd_434, x_dupI, x_dupR, x_fall, x_goto, x_iadd, x_imul, x_isub, x_push, x_ret1, xc_142, xl_a0, xl_i1, xn_1, xt_i1, y_cmp_ge_f, y_cmp_ge_t, y_if_ne_f, y_if_ne_t, i_wr_id, Int.reduceToNat, ex_ar_same, ex_ar_diff, ex_u_same, ex_u_diff, b2i_t, b2i_f, ex_div_nn, ex_rem_nn, Int.toNat_zero, Int.toNat_one]
  · rw [if_neg h]
    simp (disch := first | assumption | omega | (repeat' first | exact ok_nil | apply ok_I | apply ok_R)) only [ev_148_0, ev_148_1, ev_148_3, gf_432_0, gf_432_1, gf_432_2, ld_433, ld_434, pf_432_2, sd_433, sd_434, x_dupI, x_dupR, x_fall, x_goto, x_iadd, x_imul, x_isub, x_push, x_ret1, xc_142, xl_a0, xl_i1, xn_1, xt_i1, y_cmp_ge_f, y_cmp_ge_t, y_if_ne_f, y_if_ne_t, i_wr_id, Int.reduceToNat, ex_ar_same, ex_ar_diff, ex_u_same, ex_u_diff, b2i_t, b2i_f, ex_div_nn, ex_rem_nn, Int.toNat_zero, Int.toNat_one]
    have := lu_148 (d := d - 1) (L := L) 277 0 (ex_ar σ 432 (ex_u (σ 432) 2 (σ 432 2 - 1))) (by rw [ex_ar_same, ex_u_same]; omega) (by rw [ex_ar_same, ex_u_same]; omega) (by omega)
    rw [ex_ar_same, ex_u_same] at this
    exact this
theorem xc_148 {rt d : Nat} {J : Nat → List ex_V → List ex_V → ex_H → Option ex_R} {is : List Instr} {ls st : List ex_V} {L : Nat} {σ : ex_S} (hk : 0 ≤ σ 432 2) (hk2 : σ 432 2 ≤ 16) (hd : 1 < d) (hok : okN 8 st = true) : ex_xs rt J (ex_cd d) (.invokevirtual 148 :: is) ls (vR 432 :: st) (SH L, σ) = ex_xs rt J (ex_cd d) is ls (vI (undoM σ).1 :: st) (SH L, (undoM σ).2) := x_call1 (Or.inl rfl) rfl (sh_432 _) (Or.inl ⟨rfl, rfl⟩) (as := []) rfl rfl (okN_ok hok) rfl (sp_148 hd hk hk2)
end
