section
-- ===== PART A: goes FIRST, ahead of the names: the tables' words, and 'selects' of the private methods out of them =====
/-- a private method of a class that the tables say can be made, by its rows of tables_1 -/
def lw_okq (q : MethodName × Nat) : Prop := (q.1.cls ≠ "java/lang/invoke/MethodHandle" ∧ q.1.cls ≠ "java/lang/invoke/VarHandle") ∧ Cond.instantiable q.1.cls q.2 ∈ tables_1 ∧ Cond.privateMethod q.1 ∈ tables_1 ∧ Cond.instanceMethod q.1 ∈ tables_1
theorem lw_p0 : lw_okq (⟨"EndsInFive", "refuse", "(I)I"⟩, 8) := ⟨⟨by decide +kernel, by decide +kernel⟩, List.mem_of_getElem? (i := 16) (by decide +kernel), List.mem_of_getElem? (i := 226) (by decide +kernel), List.mem_of_getElem? (i := 227) (by decide +kernel)⟩
theorem lw_p1 : lw_okq (⟨"EndsInFive", "wordOf", "(II)I"⟩, 8) := ⟨⟨by decide +kernel, by decide +kernel⟩, List.mem_of_getElem? (i := 16) (by decide +kernel), List.mem_of_getElem? (i := 297) (by decide +kernel), List.mem_of_getElem? (i := 298) (by decide +kernel)⟩
theorem lw_p2 : lw_okq (⟨"EndsInFive", "meanOfGoes", "(II)I"⟩, 8) := ⟨⟨by decide +kernel, by decide +kernel⟩, List.mem_of_getElem? (i := 16) (by decide +kernel), List.mem_of_getElem? (i := 701) (by decide +kernel), List.mem_of_getElem? (i := 702) (by decide +kernel)⟩
theorem lw_p3 : lw_okq (⟨"EndsInFive", "lackOfBook", "(II)I"⟩, 8) := ⟨⟨by decide +kernel, by decide +kernel⟩, List.mem_of_getElem? (i := 16) (by decide +kernel), List.mem_of_getElem? (i := 764) (by decide +kernel), List.mem_of_getElem? (i := 765) (by decide +kernel)⟩
theorem lw_p4 : lw_okq (⟨"EndsInFive", "firstWrong", "(III)I"⟩, 8) := ⟨⟨by decide +kernel, by decide +kernel⟩, List.mem_of_getElem? (i := 16) (by decide +kernel), List.mem_of_getElem? (i := 768) (by decide +kernel), List.mem_of_getElem? (i := 769) (by decide +kernel)⟩
theorem lw_p5 : lw_okq (⟨"EndsInFive", "countShelvesInUse", "()I"⟩, 8) := ⟨⟨by decide +kernel, by decide +kernel⟩, List.mem_of_getElem? (i := 16) (by decide +kernel), List.mem_of_getElem? (i := 875) (by decide +kernel), List.mem_of_getElem? (i := 876) (by decide +kernel)⟩
theorem lw_p6 : lw_okq (⟨"EndsInFiveModel", "refuse", "(I)I"⟩, 41) := ⟨⟨by decide +kernel, by decide +kernel⟩, List.mem_of_getElem? (i := 879) (by decide +kernel), List.mem_of_getElem? (i := 1023) (by decide +kernel), List.mem_of_getElem? (i := 1024) (by decide +kernel)⟩
theorem lw_p7 : lw_okq (⟨"EndsInFiveModel", "noRow", "(I)I"⟩, 41) := ⟨⟨by decide +kernel, by decide +kernel⟩, List.mem_of_getElem? (i := 879) (by decide +kernel), List.mem_of_getElem? (i := 1031) (by decide +kernel), List.mem_of_getElem? (i := 1032) (by decide +kernel)⟩
theorem lw_p8 : lw_okq (⟨"EndsInFiveModel", "isThing", "(I)Z"⟩, 41) := ⟨⟨by decide +kernel, by decide +kernel⟩, List.mem_of_getElem? (i := 879) (by decide +kernel), List.mem_of_getElem? (i := 1054) (by decide +kernel), List.mem_of_getElem? (i := 1055) (by decide +kernel)⟩
theorem lw_p9 : lw_okq (⟨"EndsInFiveModel", "standing", "()I"⟩, 41) := ⟨⟨by decide +kernel, by decide +kernel⟩, List.mem_of_getElem? (i := 879) (by decide +kernel), List.mem_of_getElem? (i := 1066) (by decide +kernel), List.mem_of_getElem? (i := 1067) (by decide +kernel)⟩
theorem lw_p10 : lw_okq (⟨"EndsInFiveModel", "brought", "(II)I"⟩, 41) := ⟨⟨by decide +kernel, by decide +kernel⟩, List.mem_of_getElem? (i := 879) (by decide +kernel), List.mem_of_getElem? (i := 1070) (by decide +kernel), List.mem_of_getElem? (i := 1071) (by decide +kernel)⟩
theorem lw_p11 : lw_okq (⟨"EndsInFiveModel", "inside", "()I"⟩, 41) := ⟨⟨by decide +kernel, by decide +kernel⟩, List.mem_of_getElem? (i := 879) (by decide +kernel), List.mem_of_getElem? (i := 1074) (by decide +kernel), List.mem_of_getElem? (i := 1075) (by decide +kernel)⟩
theorem lw_p12 : lw_okq (⟨"EndsInFiveModel", "becomeSlips", "(I)V"⟩, 41) := ⟨⟨by decide +kernel, by decide +kernel⟩, List.mem_of_getElem? (i := 879) (by decide +kernel), List.mem_of_getElem? (i := 1083) (by decide +kernel), List.mem_of_getElem? (i := 1084) (by decide +kernel)⟩
theorem lw_p13 : lw_okq (⟨"EndsInFiveModel", "isWinner", "(I)Z"⟩, 41) := ⟨⟨by decide +kernel, by decide +kernel⟩, List.mem_of_getElem? (i := 879) (by decide +kernel), List.mem_of_getElem? (i := 1103) (by decide +kernel), List.mem_of_getElem? (i := 1104) (by decide +kernel)⟩
theorem lw_p14 : lw_okq (⟨"EndsInFiveModel", "thingOn", "(I)I"⟩, 41) := ⟨⟨by decide +kernel, by decide +kernel⟩, List.mem_of_getElem? (i := 879) (by decide +kernel), List.mem_of_getElem? (i := 1108) (by decide +kernel), List.mem_of_getElem? (i := 1109) (by decide +kernel)⟩
theorem lw_p15 : lw_okq (⟨"EndsInFiveModel", "addThing", "(III)V"⟩, 41) := ⟨⟨by decide +kernel, by decide +kernel⟩, List.mem_of_getElem? (i := 879) (by decide +kernel), List.mem_of_getElem? (i := 1112) (by decide +kernel), List.mem_of_getElem? (i := 1113) (by decide +kernel)⟩
def lw_privs_1 : List (MethodName × Nat) := [(⟨"EndsInFive", "refuse", "(I)I"⟩, 8), (⟨"EndsInFive", "wordOf", "(II)I"⟩, 8), (⟨"EndsInFive", "meanOfGoes", "(II)I"⟩, 8), (⟨"EndsInFive", "lackOfBook", "(II)I"⟩, 8), (⟨"EndsInFive", "firstWrong", "(III)I"⟩, 8), (⟨"EndsInFive", "countShelvesInUse", "()I"⟩, 8), (⟨"EndsInFiveModel", "refuse", "(I)I"⟩, 41), (⟨"EndsInFiveModel", "noRow", "(I)I"⟩, 41), (⟨"EndsInFiveModel", "isThing", "(I)Z"⟩, 41), (⟨"EndsInFiveModel", "standing", "()I"⟩, 41), (⟨"EndsInFiveModel", "brought", "(II)I"⟩, 41), (⟨"EndsInFiveModel", "inside", "()I"⟩, 41), (⟨"EndsInFiveModel", "becomeSlips", "(I)V"⟩, 41), (⟨"EndsInFiveModel", "isWinner", "(I)Z"⟩, 41), (⟨"EndsInFiveModel", "thingOn", "(I)I"⟩, 41), (⟨"EndsInFiveModel", "addThing", "(III)V"⟩, 41)]
theorem lw_r1 : ∀ q ∈ lw_privs_1, lw_okq q := List.forall_mem_cons.mpr ⟨lw_p0, List.forall_mem_cons.mpr ⟨lw_p1, List.forall_mem_cons.mpr ⟨lw_p2, List.forall_mem_cons.mpr ⟨lw_p3, List.forall_mem_cons.mpr ⟨lw_p4, List.forall_mem_cons.mpr ⟨lw_p5, List.forall_mem_cons.mpr ⟨lw_p6, List.forall_mem_cons.mpr ⟨lw_p7, List.forall_mem_cons.mpr ⟨lw_p8, List.forall_mem_cons.mpr ⟨lw_p9, List.forall_mem_cons.mpr ⟨lw_p10, List.forall_mem_cons.mpr ⟨lw_p11, List.forall_mem_cons.mpr ⟨lw_p12, List.forall_mem_cons.mpr ⟨lw_p13, List.forall_mem_cons.mpr ⟨lw_p14, List.forall_mem_cons.mpr ⟨lw_p15, fun _ h => absurd h List.not_mem_nil⟩⟩⟩⟩⟩⟩⟩⟩⟩⟩⟩⟩⟩⟩⟩⟩
theorem lw_p16 : lw_okq (⟨"EndsInFiveModel", "addBuyer", "(I)V"⟩, 41) := ⟨⟨by decide +kernel, by decide +kernel⟩, List.mem_of_getElem? (i := 879) (by decide +kernel), List.mem_of_getElem? (i := 1121) (by decide +kernel), List.mem_of_getElem? (i := 1122) (by decide +kernel)⟩
theorem lw_p17 : lw_okq (⟨"EndsInFiveModel", "isBuyer", "(I)Z"⟩, 41) := ⟨⟨by decide +kernel, by decide +kernel⟩, List.mem_of_getElem? (i := 879) (by decide +kernel), List.mem_of_getElem? (i := 1129) (by decide +kernel), List.mem_of_getElem? (i := 1130) (by decide +kernel)⟩
theorem lw_p18 : lw_okq (⟨"EndsInFiveModel", "fresh", "()LEndsInFiveModel;"⟩, 41) := ⟨⟨by decide +kernel, by decide +kernel⟩, List.mem_of_getElem? (i := 879) (by decide +kernel), List.mem_of_getElem? (i := 1151) (by decide +kernel), List.mem_of_getElem? (i := 1152) (by decide +kernel)⟩
theorem lw_p19 : lw_okq (⟨"EndsInFiveModel", "takeFrom", "(LEndsInFiveModel;)V"⟩, 41) := ⟨⟨by decide +kernel, by decide +kernel⟩, List.mem_of_getElem? (i := 879) (by decide +kernel), List.mem_of_getElem? (i := 1157) (by decide +kernel), List.mem_of_getElem? (i := 1158) (by decide +kernel)⟩
theorem lw_p20 : lw_okq (⟨"EndsInFiveModel", "readAll", "()Z"⟩, 41) := ⟨⟨by decide +kernel, by decide +kernel⟩, List.mem_of_getElem? (i := 879) (by decide +kernel), List.mem_of_getElem? (i := 1164) (by decide +kernel), List.mem_of_getElem? (i := 1165) (by decide +kernel)⟩
theorem lw_p21 : lw_okq (⟨"EndsInFiveModel", "look", "()V"⟩, 41) := ⟨⟨by decide +kernel, by decide +kernel⟩, List.mem_of_getElem? (i := 879) (by decide +kernel), List.mem_of_getElem? (i := 1168) (by decide +kernel), List.mem_of_getElem? (i := 1169) (by decide +kernel)⟩
theorem lw_p22 : lw_okq (⟨"EndsInFiveModel", "statement", "()Z"⟩, 41) := ⟨⟨by decide +kernel, by decide +kernel⟩, List.mem_of_getElem? (i := 879) (by decide +kernel), List.mem_of_getElem? (i := 1179) (by decide +kernel), List.mem_of_getElem? (i := 1180) (by decide +kernel)⟩
theorem lw_p23 : lw_okq (⟨"EndsInFiveModel", "isWord", "(Ljava/lang/String;)Z"⟩, 41) := ⟨⟨by decide +kernel, by decide +kernel⟩, List.mem_of_getElem? (i := 879) (by decide +kernel), List.mem_of_getElem? (i := 1184) (by decide +kernel), List.mem_of_getElem? (i := 1185) (by decide +kernel)⟩
theorem lw_p24 : lw_okq (⟨"EndsInFiveModel", "tells", "(II)Z"⟩, 41) := ⟨⟨by decide +kernel, by decide +kernel⟩, List.mem_of_getElem? (i := 879) (by decide +kernel), List.mem_of_getElem? (i := 1190) (by decide +kernel), List.mem_of_getElem? (i := 1191) (by decide +kernel)⟩
theorem lw_p25 : lw_okq (⟨"EndsInFiveModel", "number", "(III)Z"⟩, 41) := ⟨⟨by decide +kernel, by decide +kernel⟩, List.mem_of_getElem? (i := 879) (by decide +kernel), List.mem_of_getElem? (i := 1194) (by decide +kernel), List.mem_of_getElem? (i := 1195) (by decide +kernel)⟩
theorem lw_p26 : lw_okq (⟨"EndsInFiveModel", "wrong", "()Z"⟩, 41) := ⟨⟨by decide +kernel, by decide +kernel⟩, List.mem_of_getElem? (i := 879) (by decide +kernel), List.mem_of_getElem? (i := 1198) (by decide +kernel), List.mem_of_getElem? (i := 1199) (by decide +kernel)⟩
theorem lw_p27 : lw_okq (⟨"EndsInFiveModel", "priceTold", "()Z"⟩, 41) := ⟨⟨by decide +kernel, by decide +kernel⟩, List.mem_of_getElem? (i := 879) (by decide +kernel), List.mem_of_getElem? (i := 1204) (by decide +kernel), List.mem_of_getElem? (i := 1205) (by decide +kernel)⟩
theorem lw_p28 : lw_okq (⟨"EndsInFiveModel", "thingTold", "()Z"⟩, 41) := ⟨⟨by decide +kernel, by decide +kernel⟩, List.mem_of_getElem? (i := 879) (by decide +kernel), List.mem_of_getElem? (i := 1210) (by decide +kernel), List.mem_of_getElem? (i := 1211) (by decide +kernel)⟩
theorem lw_p29 : lw_okq (⟨"EndsInFiveModel", "outTold", "()Z"⟩, 41) := ⟨⟨by decide +kernel, by decide +kernel⟩, List.mem_of_getElem? (i := 879) (by decide +kernel), List.mem_of_getElem? (i := 1217) (by decide +kernel), List.mem_of_getElem? (i := 1218) (by decide +kernel)⟩
theorem lw_p30 : lw_okq (⟨"EndsInFiveModel", "owned", "(I)I"⟩, 41) := ⟨⟨by decide +kernel, by decide +kernel⟩, List.mem_of_getElem? (i := 879) (by decide +kernel), List.mem_of_getElem? (i := 1229) (by decide +kernel), List.mem_of_getElem? (i := 1230) (by decide +kernel)⟩
theorem lw_p31 : lw_okq (⟨"EndsInFiveModel", "liked", "(II)I"⟩, 41) := ⟨⟨by decide +kernel, by decide +kernel⟩, List.mem_of_getElem? (i := 879) (by decide +kernel), List.mem_of_getElem? (i := 1233) (by decide +kernel), List.mem_of_getElem? (i := 1234) (by decide +kernel)⟩
def lw_privs_2 : List (MethodName × Nat) := [(⟨"EndsInFiveModel", "addBuyer", "(I)V"⟩, 41), (⟨"EndsInFiveModel", "isBuyer", "(I)Z"⟩, 41), (⟨"EndsInFiveModel", "fresh", "()LEndsInFiveModel;"⟩, 41), (⟨"EndsInFiveModel", "takeFrom", "(LEndsInFiveModel;)V"⟩, 41), (⟨"EndsInFiveModel", "readAll", "()Z"⟩, 41), (⟨"EndsInFiveModel", "look", "()V"⟩, 41), (⟨"EndsInFiveModel", "statement", "()Z"⟩, 41), (⟨"EndsInFiveModel", "isWord", "(Ljava/lang/String;)Z"⟩, 41), (⟨"EndsInFiveModel", "tells", "(II)Z"⟩, 41), (⟨"EndsInFiveModel", "number", "(III)Z"⟩, 41), (⟨"EndsInFiveModel", "wrong", "()Z"⟩, 41), (⟨"EndsInFiveModel", "priceTold", "()Z"⟩, 41), (⟨"EndsInFiveModel", "thingTold", "()Z"⟩, 41), (⟨"EndsInFiveModel", "outTold", "()Z"⟩, 41), (⟨"EndsInFiveModel", "owned", "(I)I"⟩, 41), (⟨"EndsInFiveModel", "liked", "(II)I"⟩, 41)]
theorem lw_r2 : ∀ q ∈ lw_privs_2, lw_okq q := List.forall_mem_cons.mpr ⟨lw_p16, List.forall_mem_cons.mpr ⟨lw_p17, List.forall_mem_cons.mpr ⟨lw_p18, List.forall_mem_cons.mpr ⟨lw_p19, List.forall_mem_cons.mpr ⟨lw_p20, List.forall_mem_cons.mpr ⟨lw_p21, List.forall_mem_cons.mpr ⟨lw_p22, List.forall_mem_cons.mpr ⟨lw_p23, List.forall_mem_cons.mpr ⟨lw_p24, List.forall_mem_cons.mpr ⟨lw_p25, List.forall_mem_cons.mpr ⟨lw_p26, List.forall_mem_cons.mpr ⟨lw_p27, List.forall_mem_cons.mpr ⟨lw_p28, List.forall_mem_cons.mpr ⟨lw_p29, List.forall_mem_cons.mpr ⟨lw_p30, List.forall_mem_cons.mpr ⟨lw_p31, fun _ h => absurd h List.not_mem_nil⟩⟩⟩⟩⟩⟩⟩⟩⟩⟩⟩⟩⟩⟩⟩⟩
theorem lw_p32 : lw_okq (⟨"EndsInFiveModel", "drawableMany", "()I"⟩, 41) := ⟨⟨by decide +kernel, by decide +kernel⟩, List.mem_of_getElem? (i := 879) (by decide +kernel), List.mem_of_getElem? (i := 1241) (by decide +kernel), List.mem_of_getElem? (i := 1242) (by decide +kernel)⟩
theorem lw_p33 : lw_okq (⟨"EndsInFiveModel", "canDraw", "(I)Z"⟩, 41) := ⟨⟨by decide +kernel, by decide +kernel⟩, List.mem_of_getElem? (i := 879) (by decide +kernel), List.mem_of_getElem? (i := 1245) (by decide +kernel), List.mem_of_getElem? (i := 1246) (by decide +kernel)⟩
theorem lw_p34 : lw_okq (⟨"EndsInFiveModel", "isFree", "(III)Z"⟩, 41) := ⟨⟨by decide +kernel, by decide +kernel⟩, List.mem_of_getElem? (i := 879) (by decide +kernel), List.mem_of_getElem? (i := 1249) (by decide +kernel), List.mem_of_getElem? (i := 1250) (by decide +kernel)⟩
theorem lw_p35 : lw_okq (⟨"EndsInFiveModel", "winsBy", "(I)I"⟩, 41) := ⟨⟨by decide +kernel, by decide +kernel⟩, List.mem_of_getElem? (i := 879) (by decide +kernel), List.mem_of_getElem? (i := 1261) (by decide +kernel), List.mem_of_getElem? (i := 1262) (by decide +kernel)⟩
theorem lw_p36 : lw_okq (⟨"EndsInFiveModel", "wonBy", "(II)I"⟩, 41) := ⟨⟨by decide +kernel, by decide +kernel⟩, List.mem_of_getElem? (i := 879) (by decide +kernel), List.mem_of_getElem? (i := 1265) (by decide +kernel), List.mem_of_getElem? (i := 1266) (by decide +kernel)⟩
theorem lw_p37 : lw_okq (⟨"EndsInFiveModel", "worthTo", "(I)I"⟩, 41) := ⟨⟨by decide +kernel, by decide +kernel⟩, List.mem_of_getElem? (i := 879) (by decide +kernel), List.mem_of_getElem? (i := 1273) (by decide +kernel), List.mem_of_getElem? (i := 1274) (by decide +kernel)⟩
theorem lw_p38 : lw_okq (⟨"EndsInFiveModel", "planOf", "(I)I"⟩, 41) := ⟨⟨by decide +kernel, by decide +kernel⟩, List.mem_of_getElem? (i := 879) (by decide +kernel), List.mem_of_getElem? (i := 1281) (by decide +kernel), List.mem_of_getElem? (i := 1282) (by decide +kernel)⟩
theorem lw_p39 : lw_okq (⟨"EndsInFiveModel", "beginValues", "(II)V"⟩, 41) := ⟨⟨by decide +kernel, by decide +kernel⟩, List.mem_of_getElem? (i := 879) (by decide +kernel), List.mem_of_getElem? (i := 1285) (by decide +kernel), List.mem_of_getElem? (i := 1286) (by decide +kernel)⟩
theorem lw_p40 : lw_okq (⟨"EndsInFiveModel", "valueAt", "(II)J"⟩, 41) := ⟨⟨by decide +kernel, by decide +kernel⟩, List.mem_of_getElem? (i := 879) (by decide +kernel), List.mem_of_getElem? (i := 1290) (by decide +kernel), List.mem_of_getElem? (i := 1291) (by decide +kernel)⟩
theorem lw_p41 : lw_okq (⟨"EndsInFiveModel", "foundAt", "(II)J"⟩, 41) := ⟨⟨by decide +kernel, by decide +kernel⟩, List.mem_of_getElem? (i := 879) (by decide +kernel), List.mem_of_getElem? (i := 1294) (by decide +kernel), List.mem_of_getElem? (i := 1295) (by decide +kernel)⟩
theorem lw_p42 : lw_okq (⟨"EndsInFiveModel", "meanOf", "(II)J"⟩, 41) := ⟨⟨by decide +kernel, by decide +kernel⟩, List.mem_of_getElem? (i := 879) (by decide +kernel), List.mem_of_getElem? (i := 1311) (by decide +kernel), List.mem_of_getElem? (i := 1312) (by decide +kernel)⟩
theorem lw_p43 : lw_okq (⟨"EndsInFiveModel", "takingsAt", "(I)I"⟩, 41) := ⟨⟨by decide +kernel, by decide +kernel⟩, List.mem_of_getElem? (i := 879) (by decide +kernel), List.mem_of_getElem? (i := 1328) (by decide +kernel), List.mem_of_getElem? (i := 1329) (by decide +kernel)⟩
theorem lw_p44 : lw_okq (⟨"EndsInFiveModel", "fullWith", "(I)I"⟩, 41) := ⟨⟨by decide +kernel, by decide +kernel⟩, List.mem_of_getElem? (i := 879) (by decide +kernel), List.mem_of_getElem? (i := 1340) (by decide +kernel), List.mem_of_getElem? (i := 1341) (by decide +kernel)⟩
theorem lw_p45 : lw_okq (⟨"EndsInFiveModel", "noBook", "(II)I"⟩, 41) := ⟨⟨by decide +kernel, by decide +kernel⟩, List.mem_of_getElem? (i := 879) (by decide +kernel), List.mem_of_getElem? (i := 1369) (by decide +kernel), List.mem_of_getElem? (i := 1370) (by decide +kernel)⟩
theorem lw_p46 : lw_okq (⟨"EndsInFiveModel", "wrongIn", "([JI)I"⟩, 41) := ⟨⟨by decide +kernel, by decide +kernel⟩, List.mem_of_getElem? (i := 879) (by decide +kernel), List.mem_of_getElem? (i := 1373) (by decide +kernel), List.mem_of_getElem? (i := 1374) (by decide +kernel)⟩
theorem lw_p47 : lw_okq (⟨"EndsInFiveModel", "comesOut", "(II)I"⟩, 41) := ⟨⟨by decide +kernel, by decide +kernel⟩, List.mem_of_getElem? (i := 879) (by decide +kernel), List.mem_of_getElem? (i := 1377) (by decide +kernel), List.mem_of_getElem? (i := 1378) (by decide +kernel)⟩
def lw_privs_3 : List (MethodName × Nat) := [(⟨"EndsInFiveModel", "drawableMany", "()I"⟩, 41), (⟨"EndsInFiveModel", "canDraw", "(I)Z"⟩, 41), (⟨"EndsInFiveModel", "isFree", "(III)Z"⟩, 41), (⟨"EndsInFiveModel", "winsBy", "(I)I"⟩, 41), (⟨"EndsInFiveModel", "wonBy", "(II)I"⟩, 41), (⟨"EndsInFiveModel", "worthTo", "(I)I"⟩, 41), (⟨"EndsInFiveModel", "planOf", "(I)I"⟩, 41), (⟨"EndsInFiveModel", "beginValues", "(II)V"⟩, 41), (⟨"EndsInFiveModel", "valueAt", "(II)J"⟩, 41), (⟨"EndsInFiveModel", "foundAt", "(II)J"⟩, 41), (⟨"EndsInFiveModel", "meanOf", "(II)J"⟩, 41), (⟨"EndsInFiveModel", "takingsAt", "(I)I"⟩, 41), (⟨"EndsInFiveModel", "fullWith", "(I)I"⟩, 41), (⟨"EndsInFiveModel", "noBook", "(II)I"⟩, 41), (⟨"EndsInFiveModel", "wrongIn", "([JI)I"⟩, 41), (⟨"EndsInFiveModel", "comesOut", "(II)I"⟩, 41)]
theorem lw_r3 : ∀ q ∈ lw_privs_3, lw_okq q := List.forall_mem_cons.mpr ⟨lw_p32, List.forall_mem_cons.mpr ⟨lw_p33, List.forall_mem_cons.mpr ⟨lw_p34, List.forall_mem_cons.mpr ⟨lw_p35, List.forall_mem_cons.mpr ⟨lw_p36, List.forall_mem_cons.mpr ⟨lw_p37, List.forall_mem_cons.mpr ⟨lw_p38, List.forall_mem_cons.mpr ⟨lw_p39, List.forall_mem_cons.mpr ⟨lw_p40, List.forall_mem_cons.mpr ⟨lw_p41, List.forall_mem_cons.mpr ⟨lw_p42, List.forall_mem_cons.mpr ⟨lw_p43, List.forall_mem_cons.mpr ⟨lw_p44, List.forall_mem_cons.mpr ⟨lw_p45, List.forall_mem_cons.mpr ⟨lw_p46, List.forall_mem_cons.mpr ⟨lw_p47, fun _ h => absurd h List.not_mem_nil⟩⟩⟩⟩⟩⟩⟩⟩⟩⟩⟩⟩⟩⟩⟩⟩
theorem lw_p48 : lw_okq (⟨"EndsInFiveModel", "comesOn", "(III[Z)V"⟩, 41) := ⟨⟨by decide +kernel, by decide +kernel⟩, List.mem_of_getElem? (i := 879) (by decide +kernel), List.mem_of_getElem? (i := 1393) (by decide +kernel), List.mem_of_getElem? (i := 1394) (by decide +kernel)⟩
theorem lw_p49 : lw_okq (⟨"EndsInFiveModel", "goesOne", "(I)I"⟩, 41) := ⟨⟨by decide +kernel, by decide +kernel⟩, List.mem_of_getElem? (i := 879) (by decide +kernel), List.mem_of_getElem? (i := 1422) (by decide +kernel), List.mem_of_getElem? (i := 1423) (by decide +kernel)⟩
theorem lw_p50 : lw_okq (⟨"EndsInFiveModel", "drawn", "()I"⟩, 41) := ⟨⟨by decide +kernel, by decide +kernel⟩, List.mem_of_getElem? (i := 879) (by decide +kernel), List.mem_of_getElem? (i := 1426) (by decide +kernel), List.mem_of_getElem? (i := 1427) (by decide +kernel)⟩
theorem lw_p51 : lw_okq (⟨"EndsInFiveModel", "below", "(I)I"⟩, 41) := ⟨⟨by decide +kernel, by decide +kernel⟩, List.mem_of_getElem? (i := 879) (by decide +kernel), List.mem_of_getElem? (i := 1430) (by decide +kernel), List.mem_of_getElem? (i := 1431) (by decide +kernel)⟩
def lw_privs_4 : List (MethodName × Nat) := [(⟨"EndsInFiveModel", "comesOn", "(III[Z)V"⟩, 41), (⟨"EndsInFiveModel", "goesOne", "(I)I"⟩, 41), (⟨"EndsInFiveModel", "drawn", "()I"⟩, 41), (⟨"EndsInFiveModel", "below", "(I)I"⟩, 41)]
theorem lw_r4 : ∀ q ∈ lw_privs_4, lw_okq q := List.forall_mem_cons.mpr ⟨lw_p48, List.forall_mem_cons.mpr ⟨lw_p49, List.forall_mem_cons.mpr ⟨lw_p50, List.forall_mem_cons.mpr ⟨lw_p51, fun _ h => absurd h List.not_mem_nil⟩⟩⟩⟩
def lw_privs : List (MethodName × Nat) := lw_privs_1 ++ (lw_privs_2 ++ (lw_privs_3 ++ (lw_privs_4)))
def lw_tbl : List Cond := k2_sels lw_privs ++ tables_1
theorem lw_privs_ok : ∀ q ∈ lw_privs, lw_okq q := by
  show ∀ q ∈ lw_privs_1 ++ (lw_privs_2 ++ (lw_privs_3 ++ (lw_privs_4))), lw_okq q
  exact List.forall_mem_append.mpr ⟨lw_r1, List.forall_mem_append.mpr ⟨lw_r2, List.forall_mem_append.mpr ⟨lw_r3, lw_r4⟩⟩⟩
end
section
def va_AOA (ty : FieldType) (U : State) : Prop := (Cond.arrayOver (.array ty)).before #[] U = true
theorem z_idx_bare (vm : Vm) (comp : ClassId) : (vm.bare.classes.findIdx? fun (x : Class) => match x.kind with | .array component _ => component == comp | _ => false) = (vm.classes.findIdx? fun (x : Class) => match x.kind with | .array component _ => component == comp | _ => false) := by
  simp only [Vm.bare, Array.findIdx?_map]
  rfl
theorem va_AOA.use {ty : FieldType} {A : Array Value} {U : State} (h : va_AOA ty U) : (Cond.arrayOver (.array ty)).before A U = true := h
theorem va_AOA.spec {ty : FieldType} {s : State} (h : va_AOA ty s) : ∃ comp c k, s.vm.findClass (FieldType.array ty).toString = some comp ∧ (s.vm.classes.findIdx? fun (x : Class) => match x.kind with | .array component _ => component == comp | _ => false) = some c ∧ s.vm.classes[c]? = some k ∧ k.kind = .array comp (.array ty) ∧ s.vm.findClass ("[" ++ (FieldType.array ty).toString) = some c := by
  unfold va_AOA at h
  simp only [Cond.before, Cond.holds, Cond.value, beq_iff_eq] at h
  cases hc : s.vm.findClass (FieldType.array ty).toString with
  | none => simp [hc] at h
  | some comp =>
    simp only [hc, Option.bind_some, Option.bind_eq_some_iff, Option.map_eq_some_iff] at h
    obtain ⟨c, hi, k, hk, hb⟩ := h
    obtain ⟨hlt, hp, -⟩ := Array.findIdx?_eq_some_iff_getElem.mp hi
    have hkk : s.vm.classes[c] = k := (Array.getElem?_eq_some_iff.mp hk).2
    rw [hkk] at hp
    cases hkind : k.kind with
    | array component ty2 =>
      rw [hkind] at hb hp
      simp at hb hp
      exact ⟨comp, c, k, rfl, hi, hk, by rw [hkind, hp, hb.1], hb.2⟩
    | _ => rw [hkind] at hb; simp at hb
theorem va_AOA.moved {ty : FieldType} {u U : State} (hvm : u.vm.Alike U.vm) (h : va_AOA ty u) : va_AOA ty U := by
  obtain ⟨comp, c, k, h1, h2, h3, h4, h5⟩ := va_AOA.spec h
  obtain ⟨k', hk', he⟩ := hvm.2.2 _ _ h3
  have hi : (U.vm.classes.findIdx? fun (x : Class) => match x.kind with | .array component _ => component == comp | _ => false) = some c := by
    rw [← z_idx_bare]
    first | rw [hvm.bare_eq] | rw [← hvm.bare_eq]
    rw [z_idx_bare]
    exact h2
  have hkind : k'.kind = .array comp (.array ty) := by rw [he]; exact h4
  have f1 : U.vm.findClass (FieldType.array ty).toString = some comp := by rw [hvm.findClass]; exact h1
  have f2 : U.vm.findClass ("[" ++ (FieldType.array ty).toString) = some c := by rw [hvm.findClass]; exact h5
  unfold va_AOA Cond.before Cond.holds
  simp only [Cond.value]
  rw [f1, Option.bind_some]
  refine (congrArg (fun o : Option Nat => (o.bind (fun c => (U.vm.classes[c]?).map fun (k : Class) => match k.kind with | .array _ ty2 => decide (ty2 = FieldType.array ty) && decide (U.vm.findClass ("[" ++ (FieldType.array ty).toString) = some c) | _ => false) == some true)) hi).trans ?_
  simp [hk', hkind, f2]

/-! ===== BEGIN words of one list among another's, by their places ===== -/
theorem goodIn_r {big : List Cond} (ws : List Cond) (ps : List Nat) (hp : ws = ps.filterMap (fun i => big[i]?)) (h : ws.all goodWord = true) : GoodIn big ws := by
  intro w hw
  have h1 := List.all_eq_true.mp h w hw
  rw [hp] at hw
  obtain ⟨i, -, hi⟩ := List.mem_filterMap.mp hw
  have hm : w ∈ big := by first | exact List.mem_of_getElem? hi | exact List.getElem?_mem hi
  exact ⟨hm, good_of_word h1⟩
theorem goodIn_app {big a b : List Cond} (ha : GoodIn big a) (hb : GoodIn big b) : GoodIn big (a ++ b) := fun w h => (List.mem_append.mp h).elim (ha w) (hb w)
theorem goodIn_ca {big a b : List Cond} {c : Cond} (ha : GoodIn big (c :: a)) (hb : GoodIn big b) : GoodIn big (c :: (a ++ b)) := fun w h => (List.mem_cons.mp h).elim (fun e => ha w (List.mem_cons.mpr (Or.inl e))) (fun h => (List.mem_append.mp h).elim (fun h => ha w (List.mem_cons.mpr (Or.inr h))) (hb w))
theorem goodIn_sub {big ws : List Cond} (hm : ∀ w ∈ ws, w ∈ big) (h : ws.all goodWord = true) : GoodIn big ws := fun w hw => ⟨hm w hw, good_of_word (List.all_eq_true.mp h w hw)⟩
/-! ===== END ===== -/

/-! ===== BEGIN new T[n][m]: the outer array a place, the inner ones among the pooled ===== -/
/-- f, but v at every address of l -/
def vr_up {α : Type} (f : Nat → α) (l : List Nat) (v : α) : Nat → α := fun a => if a ∈ l then v else f a
theorem vr_up_in {α : Type} {f : Nat → α} {l : List Nat} {v : α} {a : Nat} (h : a ∈ l) : vr_up f l v a = v := if_pos h
theorem vr_up_ne {α : Type} {f : Nat → α} {l : List Nat} {v : α} {a : Nat} (h : a ∉ l) : vr_up f l v a = f a := if_neg h
theorem vr_rows {L l : List Nat} {f : Nat → va_E} {e : va_E} (h : ∀ a, a ∈ l → a ∉ L) : va_pl L f ++ l.map (fun a => (a, e)) = va_pl (L ++ l) (vr_up f l e) := by
  unfold va_pl
  rw [List.map_append]
  congr 1
  · apply List.map_congr_left
    intro a ha
    rw [vr_up_ne (fun q => h a q ha)]
  · apply List.map_congr_left
    intro a ha
    rw [vr_up_in ha]
theorem vr_lay {X rows : va_W} {x : Nat × va_E} {pl : va_W} {D : va_G} {cl : List vw_C} {H : Heap} (hP : va_P D cl (((X ++ pl) ++ [x]) ++ rows) H) : va_P D cl ((X ++ [x]) ++ (pl ++ rows)) H := by
  rw [List.append_assoc (X ++ pl)] at hP
  have h := va_P.swap hP
  rw [← List.append_assoc X] at h
  have h2 := va_P.swap h
  rw [List.append_assoc (X ++ [x])] at h2
  exact h2
theorem vr_layD {X rows : va_W} {x : Nat × va_E} {pl : va_W} {A : Nat → Prop} (hD : va_D A (((X ++ pl) ++ [x]) ++ rows)) : va_D A ((X ++ [x]) ++ (pl ++ rows)) := by
  rw [List.append_assoc (X ++ pl)] at hD
  have h := va_D.swap hD
  rw [← List.append_assoc X] at h
  have h2 := va_D.swap h
  rw [List.append_assoc (X ++ [x])] at h2
  exact h2
theorem vr_outer (c : ClassId) (N h0 : Nat) : ∀ i : Nat, Jvm.Free.Multi.outerC c N h0 i = arrV c N (fun j => va_rf (if j < i then some (h0 + 1 + j) else none))
  | 0 => by
    show ({ cls := c, slots := Array.replicate N .null, vm := .none } : Cell) = _
    rw [arrV_new]
    refine congrArg (arrV c N) (funext fun j => ?_)
    simp [va_rf]
  | i + 1 => by
    show (Jvm.Free.Multi.outerC c N h0 i).setSlot i (.ref (h0 + 1 + i)) = _
    rw [vr_outer c N h0 i, arrV_store]
    refine congrArg (arrV c N) (funext fun j => ?_)
    by_cases e : j = i
    · subst e
      simp [updV, va_rf]
    · by_cases h : j < i
      · simp [updV, e, h, Nat.lt_succ_of_lt h]
      · simp [updV, e, h, show ¬ j < i + 1 by omega]
section VGM
variable {p : Program} {l : Launch} {e : Env} {R : Room} {s : State} {m : MethodId} {args : Array Value} {below : List Frame} {meth : Method} {c : Code} {H : Heap} {locs : List Loc} {cells slots : Nat} {Q : State → Prop}
variable {cc : ByteArray} {pc : Nat} {ls : Array Slot} {rest : List Value} {D : va_G} {cl : List vw_C} {A : Nat → Prop} {a : Nat} {tys : List (ClassId × FieldType)} {ws : va_W} {H0 : Heap}
theorem va_mna {X : va_W} {L : List Nat} {f : Nat → va_E} {cc : ByteArray} (hexec : p.tables.exec = Jvm.exec) (hb : c.code = cc) {own : String} {index : Nat} {ty : FieldType} {cy : ClassId} (hown : s.vm.findClass own = some m.cls) (hclink : (Cond.classLink own index ("[" ++ (FieldType.array ty).toString)).before args s = true) (hover : va_AOA ty s) (harr : (Cond.arrayClass ty).before args s = true) (hcy : s.vm.findClass (FieldType.array ty).toString = some cy)
    (hK : va_K D cl tys s) (hP : va_P D cl (X ++ va_pl L f) H) (hD : va_D A (X ++ va_pl L f)) (hS : va_S A H0 H locs) (hA : ∀ q, H0.size ≤ q → A q) {n k : Int32} {N' K' : Nat} {z : vp_A} (hn : ¬ n < 0) (hk : ¬ k < 0) (hN : n.toNatClampNeg = N') (hM : k.toNatClampNeg = K')
    (hb1 : N' * 4 ≤ 536870912) (hb2 : K' * componentBytes ty ≤ 536870912) (hb3 : K' ≤ 536870912) (hdf : fits ty (defaultValue ty) = true) (hdd : (defaultValue ty).isDefault = true) (hcells : cells + (1 + N') ≤ R.cells) (hslots : slots + (N' + N' * K') ≤ R.slots) (hz : ∀ c : ClassId, Jvm.Free.Multi.innerC c K' (defaultValue ty) = vp_cell c z) (hdg : decode cc pc = .ok (.multianewarray index 2, 4))
    (kk : ∀ (q : Nat) (r : Nat → Nat) (cA : ClassId) (H1 : Heap), (∀ i j : Nat, i < N' → j < N' → r i = r j → i = j) → (∀ i : Nat, i < N' → r i ∉ L) → va_K D cl (tys ++ [(cA, .array ty)]) s →
      va_P D cl ((X ++ [(q, .inl (cA, N', .inr (.inr (.inr (.inr (fun i => if i < N' then some (r i) else none))))))]) ++ va_pl (L ++ (List.range N').map r) (vr_up f ((List.range N').map r) (.inl (cy, z)))) H1 → va_D A ((X ++ [(q, .inl (cA, N', .inr (.inr (.inr (.inr (fun i => if i < N' then some (r i) else none))))))]) ++ va_pl (L ++ (List.range N').map r) (vr_up f ((List.range N').map r) (.inl (cy, z)))) → va_S A H0 H1 locs →
      W p l e R s m args below meth c H1 locs (cells + 1 + N') (slots + N' + N' * K') Q (F0 m (pc + 4) ls (.ref q :: rest))) : W p l e R s m args below meth c H locs cells slots Q (F0 m pc ls (.int k :: .int n :: rest)) := by
  subst hN
  subst hM
  intro T hT Xs
  obtain ⟨vm₁, cA, comp, -, fA, fC, hO, -, X', step⟩ := Xs.multianewarray2F hexec hown hclink (va_AOA.use hover) harr (g := F0 m pc ls (.int k :: .int n :: rest)) rfl (by rw [hb]; exact hdg) rfl hn hk hb1 hb2 hb3 hdf hdd hcells hslots
  have ec : some cy = some comp := hcy.symm.trans fC
  cases ec
  generalize hF : Jvm.Free.Multi.fill (T.setVm vm₁) cA cy n.toNatClampNeg k.toNatClampNeg (defaultValue ty) n.toNatClampNeg = F at X' step
  have hTh : (T.setVm vm₁).heap = H := hT
  obtain ⟨f1, f2, -, -⟩ := Jvm.Free.Multi.fill_facts (T.setVm vm₁) cA cy n.toNatClampNeg k.toNatClampNeg (defaultValue ty) n.toNatClampNeg
  rw [hF, hTh] at f1 f2
  have hold : ∀ x : Nat, x < H.size → F.heap[x]? = H[x]? := fun x hx => by
    have := Jvm.Free.Multi.fill_old (T.setVm vm₁) cA cy n.toNatClampNeg k.toNatClampNeg (defaultValue ty) (a := x) (by rw [hTh]; exact hx) n.toNatClampNeg
    rw [hF, hTh] at this
    exact this
  have hrow : ∀ j : Nat, j < n.toNatClampNeg → F.heap[H.size + 1 + j]? = some (vp_cell cy z) := fun j hj => by
    have := Jvm.Free.Multi.fill_inner (T.setVm vm₁) cA cy n.toNatClampNeg k.toNatClampNeg (defaultValue ty) n.toNatClampNeg j hj
    rw [hF, hTh, hz] at this
    exact this
  have hout : Jvm.Free.Multi.outerC cA n.toNatClampNeg H.size n.toNatClampNeg = vp_cell cA (n.toNatClampNeg, .inr (.inr (.inr (.inr (fun i => if i < n.toNatClampNeg then some (H.size + 1 + i) else none))))) := by
    rw [vp_cell_q]
    exact vr_outer cA n.toNatClampNeg H.size n.toNatClampNeg
  rw [hout] at f2
  have hlt : ∀ a, a ∈ L → a < H.size := fun a ha => by
    obtain ⟨k9, hk9⟩ := va_pl_get (X := X) (f := f) ha
    exact (hP k9 _ hk9).lt
  have hnl : ∀ i : Nat, i < n.toNatClampNeg → H.size + 1 + i ∉ L := fun i _ h => by
    have := hlt _ h
    omega
  have hnm : ∀ a, a ∈ (List.range n.toNatClampNeg).map (fun i => H.size + 1 + i) → a ∉ L := fun a ha h => by
    obtain ⟨i, -, rfl⟩ := List.mem_map.mp ha
    have := hlt _ h
    omega
  have hP0 : va_P D cl (X ++ va_pl L f) F.heap := hP.kept (fun k9 x hx => hold x.1 ((hP k9 x hx).lt))
  have hP1 : va_P D cl ((X ++ va_pl L f) ++ [(H.size, .inl (cA, n.toNatClampNeg, .inr (.inr (.inr (.inr (fun i => if i < n.toNatClampNeg then some (H.size + 1 + i) else none))))))]) F.heap := hP0.app (fun k9 x hx => by
    have h0 : k9 < 1 := (List.getElem?_eq_some_iff.mp hx).1
    rw [show k9 = 0 by omega] at hx
    cases hx
    exact f2)
  have hP2 : va_P D cl (((X ++ va_pl L f) ++ [(H.size, .inl (cA, n.toNatClampNeg, .inr (.inr (.inr (.inr (fun i => if i < n.toNatClampNeg then some (H.size + 1 + i) else none))))))]) ++ ((List.range n.toNatClampNeg).map (fun i => H.size + 1 + i)).map (fun a => (a, .inl (cy, z)))) F.heap := hP1.app (fun k9 x hx => by
    obtain ⟨a, ha, rfl⟩ := List.mem_map.mp (List.mem_of_getElem? hx)
    obtain ⟨i, hi, rfl⟩ := List.mem_map.mp ha
    exact hrow i (List.mem_range.mp hi))
  have hD2 : va_D A (((X ++ va_pl L f) ++ [(H.size, .inl (cA, n.toNatClampNeg, .inr (.inr (.inr (.inr (fun i => if i < n.toNatClampNeg then some (H.size + 1 + i) else none))))))]) ++ ((List.range n.toNatClampNeg).map (fun i => H.size + 1 + i)).map (fun a => (a, .inl (cy, z)))) := by
    have hD1 := hD.push (e := .inl (cA, n.toNatClampNeg, .inr (.inr (.inr (.inr (fun i => if i < n.toNatClampNeg then some (H.size + 1 + i) else none)))))) hP rfl (hA _ hS.1)
    generalize hW1 : (X ++ va_pl L f) ++ [(H.size, .inl (cA, n.toNatClampNeg, .inr (.inr (.inr (.inr (fun i => if i < n.toNatClampNeg then some (H.size + 1 + i) else none))))))] = W1 at hD1 hP1 ⊢
    have hle : ∀ (k9 : Nat) (x : Nat × va_E), W1[k9]? = some x → x.1 ≤ H.size := fun k9 x hx => by
      rw [← hW1] at hx
      by_cases hl : k9 < (X ++ va_pl L f).length
      · rw [List.getElem?_append_left hl] at hx
        exact Nat.le_of_lt ((hP k9 x hx).lt)
      · rw [List.getElem?_append_right (by omega)] at hx
        have h0 : k9 - (X ++ va_pl L f).length < 1 := (List.getElem?_eq_some_iff.mp hx).1
        rw [show k9 - (X ++ va_pl L f).length = 0 by omega] at hx
        cases hx
        exact Nat.le_refl _
    have hr : ∀ (k9 : Nat) (x : Nat × va_E), (((List.range n.toNatClampNeg).map (fun i => H.size + 1 + i)).map (fun a => ((a, .inl (cy, z)) : Nat × va_E)))[k9]? = some x → x.1 = H.size + 1 + k9 := fun k9 x hx => by
      rw [List.getElem?_map, List.getElem?_map] at hx
      by_cases h9 : k9 < n.toNatClampNeg
      · rw [List.getElem?_range h9] at hx
        cases hx
        rfl
      · have hn0 : (List.range n.toNatClampNeg)[k9]? = none := List.getElem?_eq_none (by rw [List.length_range]; omega)
        rw [hn0] at hx
        cases hx
    refine ⟨fun i j x y hi hj hxy => ?_, fun k9 x hx => ?_⟩
    · by_cases h1 : i < W1.length <;> by_cases h2 : j < W1.length
      · rw [List.getElem?_append_left h1] at hi
        rw [List.getElem?_append_left h2] at hj
        exact hD1.1 i j x y hi hj hxy
      · rw [List.getElem?_append_left h1] at hi
        rw [List.getElem?_append_right (by omega)] at hj
        have := hle _ _ hi
        have := hr _ _ hj
        omega
      · rw [List.getElem?_append_right (by omega)] at hi
        rw [List.getElem?_append_left h2] at hj
        have := hle _ _ hj
        have := hr _ _ hi
        omega
      · rw [List.getElem?_append_right (by omega)] at hi hj
        have := hr _ _ hi
        have := hr _ _ hj
        omega
    · by_cases h1 : k9 < W1.length
      · rw [List.getElem?_append_left h1] at hx
        exact hD1.2 k9 x hx
      · rw [List.getElem?_append_right (by omega)] at hx
        have := hr _ _ hx
        exact hA _ (by have := hS.1; omega)
  have hAr : ArrOfT s cA (.array ty) := fun N9 z9 => by
    obtain ⟨-, k9, hk9, cm9, hkk9⟩ := (hO 0 0 0).1
    exact ⟨(fun q hq => by cases hq), k9, hk9, cm9, hkk9⟩
  have hK2 : va_K D cl (tys ++ [(cA, .array ty)]) s := ⟨hK.1, fun k9 x hx => by
    by_cases hl : k9 < tys.length
    · rw [List.getElem?_append_left hl] at hx
      exact hK.2 k9 x hx
    · rw [List.getElem?_append_right (by omega)] at hx
      have h0 : k9 - tys.length < 1 := (List.getElem?_eq_some_iff.mp hx).1
      rw [show k9 - tys.length = 0 by omega] at hx
      cases hx
      exact ⟨hAr, fA⟩⟩
  obtain ⟨t, a1, b1⟩ := kk H.size (fun i => H.size + 1 + i) cA F.heap (fun i j _ _ h => by have h9 : H.size + 1 + i = H.size + 1 + j := h; omega) hnl hK2 (by rw [← vr_rows hnm]; exact vr_lay hP2) (by rw [← vr_rows hnm]; exact vr_layD hD2) ⟨by rw [f1]; have := hS.1; omega, fun x h1 h2 => (hold x (Nat.lt_of_lt_of_le h1 hS.1)).trans (hS.2.1 x h1 h2), hS.2.2⟩ F rfl X'
  refine ⟨t, step t ?_, b1⟩
  have e : T.heap.size = H.size := by rw [hT]
  rw [e]
  exact a1
end VGM
/-! ===== END ===== -/

def RX0 : String := "EndsInFive$Shelf"
def TX0 : u_T := fun k => match k with
  | 0 => ("EndsInFive$Shelf", "content", "I", false)
  | 1 => ("EndsInFive$Shelf", "size", "I", false)
  | _ => ("EndsInFive$Shelf", "elements", "[J", true)
def tyX0 : Nat → FieldType := fun k => match k with
  | 0 => .int
  | 1 => .int
  | _ => .array .long
abbrev wsX00 : List Cond := u_ws RX0 TX0 3
theorem nmX0 : ∀ a, a < 3 → ∀ b, b < 3 → a ≠ b → (TX0 a).2.1 ≠ (TX0 b).2.1 := by decide +kernel
theorem tyX0_ok : ∀ k, k < 3 → parseFieldDescriptor (TX0 k).2.2.1 = some (tyX0 k) := by decide +kernel
abbrev cX0_init : ByteArray := prog_2_method_1_code
def yX0_init : MethodName := ⟨RX0, "<init>", "()V"⟩
abbrev cX0_putRow : ByteArray := prog_2_method_2_code
def yX0_putRow : MethodName := ⟨RX0, "putRow", "(II)V"⟩
abbrev cX0_holdsRow : ByteArray := prog_2_method_3_code
def yX0_holdsRow : MethodName := ⟨RX0, "holdsRow", "()Z"⟩
abbrev cX0_lackOfRow : ByteArray := prog_2_method_4_code
def yX0_lackOfRow : MethodName := ⟨RX0, "lackOfRow", "()I"⟩
abbrev cX0_hasElement : ByteArray := prog_2_method_5_code
def yX0_hasElement : MethodName := ⟨RX0, "hasElement", "(I)Z"⟩
def RX1 : String := "EndsInFive$Stall"
def TX1 : u_T := fun k => match k with
  | 0 => ("EndsInFive$Stall", "slips", "I", false)
  | 1 => ("EndsInFive$Stall", "rule", "I", false)
  | 2 => ("EndsInFive$Stall", "price", "I", false)
  | 3 => ("EndsInFive$Stall", "five", "I", false)
  | 4 => ("EndsInFive$Stall", "goes", "I", false)
  | 5 => ("EndsInFive$Stall", "taken", "I", false)
  | 6 => ("EndsInFive$Stall", "seed", "I", false)
  | 7 => ("EndsInFive$Stall", "in", "J", false)
  | 8 => ("EndsInFive$Stall", "things", "I", false)
  | 9 => ("EndsInFive$Stall", "kinds", "[I", true)
  | 10 => ("EndsInFive$Stall", "places", "[I", true)
  | 11 => ("EndsInFive$Stall", "waits", "[I", true)
  | 12 => ("EndsInFive$Stall", "ages", "[I", true)
  | 13 => ("EndsInFive$Stall", "owners", "[I", true)
  | 14 => ("EndsInFive$Stall", "buyers", "I", false)
  | 15 => ("EndsInFive$Stall", "purses", "[I", true)
  | _ => ("EndsInFive$Stall", "likings", "[I", true)
def tyX1 : Nat → FieldType := fun k => match k with
  | 0 => .int
  | 1 => .int
  | 2 => .int
  | 3 => .int
  | 4 => .int
  | 5 => .int
  | 6 => .int
  | 7 => .long
  | 8 => .int
  | 9 => .array .int
  | 10 => .array .int
  | 11 => .array .int
  | 12 => .array .int
  | 13 => .array .int
  | 14 => .int
  | 15 => .array .int
  | _ => .array .int
abbrev wsX10 : List Cond := u_ws RX1 TX1 17
theorem nmX1 : ∀ a, a < 17 → ∀ b, b < 17 → a ≠ b → (TX1 a).2.1 ≠ (TX1 b).2.1 := by decide +kernel
theorem tyX1_ok : ∀ k, k < 17 → parseFieldDescriptor (TX1 k).2.2.1 = some (tyX1 k) := by decide +kernel
abbrev cX1_init : ByteArray := prog_3_method_1_code
def yX1_init : MethodName := ⟨RX1, "<init>", "()V"⟩
abbrev cX1_become : ByteArray := prog_3_method_2_code
def yX1_become : MethodName := ⟨RX1, "become", "(LEndsInFive$Stall;)V"⟩
abbrev cX1_isSlip : ByteArray := prog_3_method_3_code
def yX1_isSlip : MethodName := ⟨RX1, "isSlip", "(I)Z"⟩
abbrev cX1_isThing : ByteArray := prog_3_method_4_code
def yX1_isThing : MethodName := ⟨RX1, "isThing", "(I)Z"⟩
abbrev cX1_isBuyer : ByteArray := prog_3_method_5_code
def yX1_isBuyer : MethodName := ⟨RX1, "isBuyer", "(I)Z"⟩
abbrev cX1_putSlips : ByteArray := prog_3_method_6_code
def yX1_putSlips : MethodName := ⟨RX1, "putSlips", "(I)V"⟩
abbrev cX1_putAllIn : ByteArray := prog_3_method_7_code
def yX1_putAllIn : MethodName := ⟨RX1, "putAllIn", "()V"⟩
abbrev cX1_isIn : ByteArray := prog_3_method_9_code
def yX1_isIn : MethodName := ⟨RX1, "isIn", "(I)Z"⟩
abbrev cX1_isWinner : ByteArray := prog_3_method_10_code
def yX1_isWinner : MethodName := ⟨RX1, "isWinner", "(I)Z"⟩
abbrev cX1_countIn : ByteArray := prog_3_method_11_code
def yX1_countIn : MethodName := ⟨RX1, "countIn", "()I"⟩
abbrev cX1_thingOn : ByteArray := prog_3_method_12_code
def yX1_thingOn : MethodName := ⟨RX1, "thingOn", "(I)I"⟩
abbrev cX1_isFreeForThing : ByteArray := prog_3_method_13_code
def yX1_isFreeForThing : MethodName := ⟨RX1, "isFreeForThing", "(I)Z"⟩
abbrev cX1_quartersOf : ByteArray := prog_3_method_14_code
def yX1_quartersOf : MethodName := ⟨RX1, "quartersOf", "(I)I"⟩
abbrev cX1_addThing : ByteArray := prog_3_method_15_code
def yX1_addThing : MethodName := ⟨RX1, "addThing", "(III)I"⟩
abbrev cX1_stands : ByteArray := prog_3_method_16_code
def yX1_stands : MethodName := ⟨RX1, "stands", "(I)Z"⟩
abbrev cX1_thingsOwnedBy : ByteArray := prog_3_method_17_code
def yX1_thingsOwnedBy : MethodName := ⟨RX1, "thingsOwnedBy", "(I)I"⟩
abbrev cX1_standing : ByteArray := prog_3_method_18_code
def yX1_standing : MethodName := ⟨RX1, "standing", "()I"⟩
abbrev cX1_thingsUnder : ByteArray := prog_3_method_19_code
def yX1_thingsUnder : MethodName := ⟨RX1, "thingsUnder", "(I)I"⟩
abbrev cX1_thingsReady : ByteArray := prog_3_method_23_code
def yX1_thingsReady : MethodName := ⟨RX1, "thingsReady", "(II)I"⟩
abbrev cX1_canBeDrawn : ByteArray := prog_3_method_24_code
def yX1_canBeDrawn : MethodName := ⟨RX1, "canBeDrawn", "(I)Z"⟩
abbrev cX1_countDrawable : ByteArray := prog_3_method_25_code
def yX1_countDrawable : MethodName := ⟨RX1, "countDrawable", "()I"⟩
abbrev cX1_wonBySlip : ByteArray := prog_3_method_26_code
def yX1_wonBySlip : MethodName := ⟨RX1, "wonBySlip", "(I)I"⟩
abbrev cX1_beginFete : ByteArray := prog_3_method_30_code
def yX1_beginFete : MethodName := ⟨RX1, "beginFete", "(I)I"⟩
abbrev cX1_addBuyer : ByteArray := prog_3_method_31_code
def yX1_addBuyer : MethodName := ⟨RX1, "addBuyer", "(I)I"⟩
abbrev cX1_takingsAt : ByteArray := prog_3_method_38_code
def yX1_takingsAt : MethodName := ⟨RX1, "takingsAt", "(I)I"⟩
def RX2 : String := "EndsInFive$Tape"
def TX2 : u_T := fun k => match k with
  | 0 => ("EndsInFive$Tape", "bytes", "[I", true)
  | 1 => ("EndsInFive$Tape", "size", "I", false)
  | 2 => ("EndsInFive$Tape", "token", "I", false)
  | 3 => ("EndsInFive$Tape", "start", "I", false)
  | 4 => ("EndsInFive$Tape", "end", "I", false)
  | _ => ("EndsInFive$Tape", "value", "I", false)
def tyX2 : Nat → FieldType := fun k => match k with
  | 0 => .array .int
  | 1 => .int
  | 2 => .int
  | 3 => .int
  | 4 => .int
  | _ => .int
abbrev wsX20 : List Cond := u_ws RX2 TX2 6
theorem nmX2 : ∀ a, a < 6 → ∀ b, b < 6 → a ≠ b → (TX2 a).2.1 ≠ (TX2 b).2.1 := by decide +kernel
theorem tyX2_ok : ∀ k, k < 6 → parseFieldDescriptor (TX2 k).2.2.1 = some (tyX2 k) := by decide +kernel
abbrev cX2_init : ByteArray := prog_4_method_1_code
def yX2_init : MethodName := ⟨RX2, "<init>", "()V"⟩
abbrev cX2_readInto : ByteArray := prog_4_method_2_code
def yX2_readInto : MethodName := ⟨RX2, "readInto", "(LEndsInFive$Stall;)I"⟩
abbrev cX2_readStatement : ByteArray := prog_4_method_3_code
def yX2_readStatement : MethodName := ⟨RX2, "readStatement", "(LEndsInFive$Stall;)Z"⟩
abbrev cX2_isWord : ByteArray := prog_4_method_12_code
def yX2_isWord : MethodName := ⟨RX2, "isWord", "(Ljava/lang/String;)Z"⟩
abbrev cX2_step : ByteArray := prog_4_method_13_code
def yX2_step : MethodName := ⟨RX2, "step", "()V"⟩
def RX3 : String := "EndsInFive$Thought"
def TX3 : u_T := fun k => match k with
  | 0 => ("EndsInFive$Thought", "values", "[I", true)
  | 1 => ("EndsInFive$Thought", "marks", "[I", true)
  | 2 => ("EndsInFive$Thought", "joys", "[I", true)
  | 3 => ("EndsInFive$Thought", "things", "I", false)
  | 4 => ("EndsInFive$Thought", "standing", "I", false)
  | 5 => ("EndsInFive$Thought", "whiskies", "I", false)
  | _ => ("EndsInFive$Thought", "bottles", "I", false)
def tyX3 : Nat → FieldType := fun k => match k with
  | 0 => .array .int
  | 1 => .array .int
  | 2 => .array .int
  | 3 => .int
  | 4 => .int
  | 5 => .int
  | _ => .int
abbrev wsX30 : List Cond := u_ws RX3 TX3 7
theorem nmX3 : ∀ a, a < 7 → ∀ b, b < 7 → a ≠ b → (TX3 a).2.1 ≠ (TX3 b).2.1 := by decide +kernel
theorem tyX3_ok : ∀ k, k < 7 → parseFieldDescriptor (TX3 k).2.2.1 = some (tyX3 k) := by decide +kernel
abbrev cX3_init : ByteArray := prog_5_method_1_code
def yX3_init : MethodName := ⟨RX3, "<init>", "()V"⟩
def RX4 : String := "EndsInFive"
def TX4 : u_T := fun k => match k with
  | 0 => ("EndsInFive", "now", "LEndsInFive$Stall;", true)
  | 1 => ("EndsInFive", "kept", "LEndsInFive$Stall;", true)
  | 2 => ("EndsInFive", "trial", "LEndsInFive$Stall;", true)
  | 3 => ("EndsInFive", "thought", "LEndsInFive$Thought;", true)
  | 4 => ("EndsInFive", "tape", "LEndsInFive$Tape;", true)
  | 5 => ("EndsInFive", "shelves", "[LEndsInFive$Shelf;", true)
  | 6 => ("EndsInFive", "refusals", "[I", true)
  | _ => ("EndsInFive", "isKept", "Z", false)
def tyX4 : Nat → FieldType := fun k => match k with
  | 0 => .object "EndsInFive$Stall"
  | 1 => .object "EndsInFive$Stall"
  | 2 => .object "EndsInFive$Stall"
  | 3 => .object "EndsInFive$Thought"
  | 4 => .object "EndsInFive$Tape"
  | 5 => .array (.object "EndsInFive$Shelf")
  | 6 => .array .int
  | _ => .boolean
abbrev wsX40 : List Cond := u_ws RX4 TX4 8
theorem nmX4 : ∀ a, a < 8 → ∀ b, b < 8 → a ≠ b → (TX4 a).2.1 ≠ (TX4 b).2.1 := by decide +kernel
theorem tyX4_ok : ∀ k, k < 8 → parseFieldDescriptor (TX4 k).2.2.1 = some (tyX4 k) := by decide +kernel
abbrev cX4_init : ByteArray := prog_1_method_1_code
def yX4_init : MethodName := ⟨RX4, "<init>", "()V"⟩
abbrev cX4_row : ByteArray := prog_1_method_2_code
def yX4_row : MethodName := ⟨RX4, "row", "(III)I"⟩
abbrev cX4_set : ByteArray := prog_1_method_3_code
def yX4_set : MethodName := ⟨RX4, "set", "(IIJ)I"⟩
abbrev cX4_copy : ByteArray := prog_1_method_4_code
def yX4_copy : MethodName := ⟨RX4, "copy", "(IIIII)I"⟩
abbrev cX4_element : ByteArray := prog_1_method_5_code
def yX4_element : MethodName := ⟨RX4, "element", "(II)J"⟩
abbrev cX4_holds : ByteArray := prog_1_method_6_code
def yX4_holds : MethodName := ⟨RX4, "holds", "(I)I"⟩
abbrev cX4_show : ByteArray := prog_1_method_7_code
def yX4_show : MethodName := ⟨RX4, "show", "(II)I"⟩
abbrev cX4_says : ByteArray := prog_1_method_8_code
def yX4_says : MethodName := ⟨RX4, "says", "(II)I"⟩
abbrev cX4_slips : ByteArray := prog_1_method_9_code
def yX4_slips : MethodName := ⟨RX4, "slips", "(I)I"⟩
abbrev cX4_rule : ByteArray := prog_1_method_10_code
def yX4_rule : MethodName := ⟨RX4, "rule", "(I)I"⟩
abbrev cX4_price : ByteArray := prog_1_method_11_code
def yX4_price : MethodName := ⟨RX4, "price", "(II)I"⟩
abbrev cX4_thing : ByteArray := prog_1_method_12_code
def yX4_thing : MethodName := ⟨RX4, "thing", "(III)I"⟩
abbrev cX4_buyer : ByteArray := prog_1_method_13_code
def yX4_buyer : MethodName := ⟨RX4, "buyer", "(I)I"⟩
abbrev cX4_likes : ByteArray := prog_1_method_14_code
def yX4_likes : MethodName := ⟨RX4, "likes", "(III)I"⟩
abbrev cX4_purse : ByteArray := prog_1_method_15_code
def yX4_purse : MethodName := ⟨RX4, "purse", "(II)I"⟩
abbrev cX4_feed : ByteArray := prog_1_method_16_code
def yX4_feed : MethodName := ⟨RX4, "feed", "(I)I"⟩
abbrev cX4_wipe : ByteArray := prog_1_method_17_code
def yX4_wipe : MethodName := ⟨RX4, "wipe", "()I"⟩
abbrev cX4_stall : ByteArray := prog_1_method_18_code
def yX4_stall : MethodName := ⟨RX4, "stall", "()I"⟩
abbrev cX4_thingOf : ByteArray := prog_1_method_19_code
def yX4_thingOf : MethodName := ⟨RX4, "thingOf", "(II)I"⟩
abbrev cX4_buyerOf : ByteArray := prog_1_method_20_code
def yX4_buyerOf : MethodName := ⟨RX4, "buyerOf", "(II)I"⟩
abbrev cX4_slipOf : ByteArray := prog_1_method_21_code
def yX4_slipOf : MethodName := ⟨RX4, "slipOf", "(II)I"⟩
abbrev cX4_drawable : ByteArray := prog_1_method_22_code
def yX4_drawable : MethodName := ⟨RX4, "drawable", "()I"⟩
abbrev cX4_wins : ByteArray := prog_1_method_23_code
def yX4_wins : MethodName := ⟨RX4, "wins", "(I)I"⟩
abbrev cX4_worth : ByteArray := prog_1_method_24_code
def yX4_worth : MethodName := ⟨RX4, "worth", "(I)I"⟩
abbrev cX4_plan : ByteArray := prog_1_method_25_code
def yX4_plan : MethodName := ⟨RX4, "plan", "(I)I"⟩
abbrev cX4_till : ByteArray := prog_1_method_26_code
def yX4_till : MethodName := ⟨RX4, "till", "(I)I"⟩
abbrev cX4_atOnce : ByteArray := prog_1_method_27_code
def yX4_atOnce : MethodName := ⟨RX4, "atOnce", "(I)I"⟩
abbrev cX4_mean : ByteArray := prog_1_method_28_code
def yX4_mean : MethodName := ⟨RX4, "mean", "(II)I"⟩
abbrev cX4_all : ByteArray := prog_1_method_29_code
def yX4_all : MethodName := ⟨RX4, "all", "(I)I"⟩
abbrev cX4_takings : ByteArray := prog_1_method_30_code
def yX4_takings : MethodName := ⟨RX4, "takings", "(I)I"⟩
abbrev cX4_bestPrice : ByteArray := prog_1_method_31_code
def yX4_bestPrice : MethodName := ⟨RX4, "bestPrice", "()I"⟩
abbrev cX4_full : ByteArray := prog_1_method_32_code
def yX4_full : MethodName := ⟨RX4, "full", "()I"⟩
abbrev cX4_guess : ByteArray := prog_1_method_33_code
def yX4_guess : MethodName := ⟨RX4, "guess", "(II)I"⟩
abbrev cX4_suspect : ByteArray := prog_1_method_34_code
def yX4_suspect : MethodName := ⟨RX4, "suspect", "(II)I"⟩
abbrev cX4_sure : ByteArray := prog_1_method_35_code
def yX4_sure : MethodName := ⟨RX4, "sure", "(II)I"⟩
abbrev cX4_left : ByteArray := prog_1_method_36_code
def yX4_left : MethodName := ⟨RX4, "left", "(I)I"⟩
abbrev cX4_judge : ByteArray := prog_1_method_37_code
def yX4_judge : MethodName := ⟨RX4, "judge", "(II)I"⟩
abbrev cX4_won : ByteArray := prog_1_method_38_code
def yX4_won : MethodName := ⟨RX4, "won", "(II)I"⟩
abbrev cX4_booked : ByteArray := prog_1_method_39_code
def yX4_booked : MethodName := ⟨RX4, "booked", "(III)I"⟩
abbrev cX4_chain : ByteArray := prog_1_method_40_code
def yX4_chain : MethodName := ⟨RX4, "chain", "(I)I"⟩
abbrev cX4_dearest : ByteArray := prog_1_method_41_code
def yX4_dearest : MethodName := ⟨RX4, "dearest", "(I)I"⟩
abbrev cX4_fondest : ByteArray := prog_1_method_42_code
def yX4_fondest : MethodName := ⟨RX4, "fondest", "(I)I"⟩
abbrev cX4_envy : ByteArray := prog_1_method_43_code
def yX4_envy : MethodName := ⟨RX4, "envy", "()I"⟩
abbrev cX4_poorest : ByteArray := prog_1_method_44_code
def yX4_poorest : MethodName := ⟨RX4, "poorest", "()I"⟩
abbrev cX4_oldest : ByteArray := prog_1_method_45_code
def yX4_oldest : MethodName := ⟨RX4, "oldest", "()I"⟩
abbrev cX4_go : ByteArray := prog_1_method_46_code
def yX4_go : MethodName := ⟨RX4, "go", "(I)I"⟩
abbrev cX4_five : ByteArray := prog_1_method_47_code
def yX4_five : MethodName := ⟨RX4, "five", "(I)I"⟩
abbrev cX4_plays : ByteArray := prog_1_method_48_code
def yX4_plays : MethodName := ⟨RX4, "plays", "(I)I"⟩
abbrev cX4_fete : ByteArray := prog_1_method_49_code
def yX4_fete : MethodName := ⟨RX4, "fete", "(I)I"⟩
abbrev cX4_seed : ByteArray := prog_1_method_50_code
def yX4_seed : MethodName := ⟨RX4, "seed", "(I)I"⟩
abbrev cX4_image : ByteArray := prog_1_method_51_code
def yX4_image : MethodName := ⟨RX4, "image", "()I"⟩
abbrev cX4_back : ByteArray := prog_1_method_52_code
def yX4_back : MethodName := ⟨RX4, "back", "()I"⟩
abbrev cX4_status : ByteArray := prog_1_method_53_code
def yX4_status : MethodName := ⟨RX4, "status", "(I)I"⟩
abbrev cX4_refuse : ByteArray := prog_1_method_54_code
def yX4_refuse : MethodName := ⟨RX4, "refuse", "(I)I"⟩
abbrev cX4_isWithin : ByteArray := prog_1_method_55_code
def yX4_isWithin : MethodName := ⟨RX4, "isWithin", "(III)Z"⟩
abbrev cX4_asNumber : ByteArray := prog_1_method_56_code
def yX4_asNumber : MethodName := ⟨RX4, "asNumber", "(Z)I"⟩
abbrev cX4_isShelf : ByteArray := prog_1_method_57_code
def yX4_isShelf : MethodName := ⟨RX4, "isShelf", "(I)Z"⟩
abbrev cX4_lackOfRows : ByteArray := prog_1_method_59_code
def yX4_lackOfRows : MethodName := ⟨RX4, "lackOfRows", "(LEndsInFive$Shelf;LEndsInFive$Shelf;)I"⟩
abbrev cX4_lackOfBook : ByteArray := prog_1_method_60_code
def yX4_lackOfBook : MethodName := ⟨RX4, "lackOfBook", "(II)I"⟩
abbrev cX4_sureness : ByteArray := prog_1_method_64_code
def yX4_sureness : MethodName := ⟨RX4, "sureness", "(II)I"⟩
abbrev cX4_countShelvesInUse : ByteArray := prog_1_method_65_code
def yX4_countShelvesInUse : MethodName := ⟨RX4, "countShelvesInUse", "()I"⟩
def RX5 : String := "EndsInFiveModel"
def TX5 : u_T := fun k => match k with
  | 0 => ("EndsInFiveModel", "shelf", "[I", true)
  | 1 => ("EndsInFiveModel", "rowSort", "[I", true)
  | 2 => ("EndsInFiveModel", "rowSize", "[I", true)
  | 3 => ("EndsInFiveModel", "rows", "[[J", true)
  | 4 => ("EndsInFiveModel", "moved", "[J", true)
  | 5 => ("EndsInFiveModel", "shown", "[I", true)
  | 6 => ("EndsInFiveModel", "tape", "[I", true)
  | 7 => ("EndsInFiveModel", "tapeSize", "I", false)
  | 8 => ("EndsInFiveModel", "refused", "[I", true)
  | 9 => ("EndsInFiveModel", "slips", "I", false)
  | 10 => ("EndsInFiveModel", "rule", "I", false)
  | 11 => ("EndsInFiveModel", "price", "I", false)
  | 12 => ("EndsInFiveModel", "five", "I", false)
  | 13 => ("EndsInFiveModel", "goes", "I", false)
  | 14 => ("EndsInFiveModel", "taken", "I", false)
  | 15 => ("EndsInFiveModel", "seed", "I", false)
  | 16 => ("EndsInFiveModel", "out", "[I", true)
  | 17 => ("EndsInFiveModel", "things", "I", false)
  | 18 => ("EndsInFiveModel", "kind", "[I", true)
  | 19 => ("EndsInFiveModel", "slip", "[I", true)
  | 20 => ("EndsInFiveModel", "by", "[I", true)
  | 21 => ("EndsInFiveModel", "age", "[I", true)
  | 22 => ("EndsInFiveModel", "has", "[I", true)
  | 23 => ("EndsInFiveModel", "buyers", "I", false)
  | 24 => ("EndsInFiveModel", "purse", "[I", true)
  | 25 => ("EndsInFiveModel", "likes", "[[I", true)
  | 26 => ("EndsInFiveModel", "kept", "LEndsInFiveModel;", false)
  | 27 => ("EndsInFiveModel", "tried", "LEndsInFiveModel;", false)
  | 28 => ("EndsInFiveModel", "at", "I", false)
  | 29 => ("EndsInFiveModel", "token", "I", false)
  | 30 => ("EndsInFiveModel", "from", "I", false)
  | 31 => ("EndsInFiveModel", "figures", "I", false)
  | 32 => ("EndsInFiveModel", "fault", "I", false)
  | 33 => ("EndsInFiveModel", "told", "[I", true)
  | 34 => ("EndsInFiveModel", "statements", "I", false)
  | 35 => ("EndsInFiveModel", "values", "[[J", false)
  | 36 => ("EndsInFiveModel", "valueOf", "I", false)
  | 37 => ("EndsInFiveModel", "valueFrom", "I", false)
  | 38 => ("EndsInFiveModel", "valueInside", "I", false)
  | 39 => ("EndsInFiveModel", "valueGoes", "I", false)
  | _ => ("EndsInFiveModel", "wonAll", "I", false)
def tyX5 : Nat → FieldType := fun k => match k with
  | 0 => .array .int
  | 1 => .array .int
  | 2 => .array .int
  | 3 => .array (.array .long)
  | 4 => .array .long
  | 5 => .array .int
  | 6 => .array .int
  | 7 => .int
  | 8 => .array .int
  | 9 => .int
  | 10 => .int
  | 11 => .int
  | 12 => .int
  | 13 => .int
  | 14 => .int
  | 15 => .int
  | 16 => .array .int
  | 17 => .int
  | 18 => .array .int
  | 19 => .array .int
  | 20 => .array .int
  | 21 => .array .int
  | 22 => .array .int
  | 23 => .int
  | 24 => .array .int
  | 25 => .array (.array .int)
  | 26 => .object "EndsInFiveModel"
  | 27 => .object "EndsInFiveModel"
  | 28 => .int
  | 29 => .int
  | 30 => .int
  | 31 => .int
  | 32 => .int
  | 33 => .array .int
  | 34 => .int
  | 35 => .array (.array .long)
  | 36 => .int
  | 37 => .int
  | 38 => .int
  | 39 => .int
  | _ => .int
abbrev wsX50 : List Cond := u_ws RX5 TX5 41
theorem nmX5 : ∀ a, a < 41 → ∀ b, b < 41 → a ≠ b → (TX5 a).2.1 ≠ (TX5 b).2.1 := by decide +kernel
theorem tyX5_ok : ∀ k, k < 41 → parseFieldDescriptor (TX5 k).2.2.1 = some (tyX5 k) := by decide +kernel
abbrev cX5_init : ByteArray := prog_7_method_1_code
def yX5_init : MethodName := ⟨RX5, "<init>", "()V"⟩
abbrev cX5_refuse : ByteArray := prog_7_method_2_code
def yX5_refuse : MethodName := ⟨RX5, "refuse", "(I)I"⟩
abbrev cX5_in : ByteArray := prog_7_method_3_code
def yX5_in : MethodName := ⟨RX5, "in", "(JJJ)Z"⟩
abbrev cX5_isThing : ByteArray := prog_7_method_4_code
def yX5_isThing : MethodName := ⟨RX5, "isThing", "(I)Z"⟩
abbrev cX5_isBuyer : ByteArray := prog_7_method_5_code
def yX5_isBuyer : MethodName := ⟨RX5, "isBuyer", "(I)Z"⟩
abbrev cX5_inside : ByteArray := prog_7_method_6_code
def yX5_inside : MethodName := ⟨RX5, "inside", "()I"⟩
abbrev cX5_standing : ByteArray := prog_7_method_8_code
def yX5_standing : MethodName := ⟨RX5, "standing", "()I"⟩
abbrev cX5_thingOn : ByteArray := prog_7_method_9_code
def yX5_thingOn : MethodName := ⟨RX5, "thingOn", "(I)I"⟩
abbrev cX5_row : ByteArray := prog_7_method_10_code
def yX5_row : MethodName := ⟨RX5, "row", "(III)I"⟩
abbrev cX5_noRow : ByteArray := prog_7_method_12_code
def yX5_noRow : MethodName := ⟨RX5, "noRow", "(I)I"⟩
abbrev cX5_set : ByteArray := prog_7_method_13_code
def yX5_set : MethodName := ⟨RX5, "set", "(IIJ)I"⟩
abbrev cX5_copy : ByteArray := prog_7_method_14_code
def yX5_copy : MethodName := ⟨RX5, "copy", "(IIIII)I"⟩
abbrev cX5_element : ByteArray := prog_7_method_15_code
def yX5_element : MethodName := ⟨RX5, "element", "(II)J"⟩
abbrev cX5_holds : ByteArray := prog_7_method_16_code
def yX5_holds : MethodName := ⟨RX5, "holds", "(I)I"⟩
abbrev cX5_show : ByteArray := prog_7_method_17_code
def yX5_show : MethodName := ⟨RX5, "show", "(II)I"⟩
abbrev cX5_says : ByteArray := prog_7_method_19_code
def yX5_says : MethodName := ⟨RX5, "says", "(II)I"⟩
abbrev cX5_becomeSlips : ByteArray := prog_7_method_20_code
def yX5_becomeSlips : MethodName := ⟨RX5, "becomeSlips", "(I)V"⟩
abbrev cX5_slips : ByteArray := prog_7_method_21_code
def yX5_slips : MethodName := ⟨RX5, "slips", "(I)I"⟩
abbrev cX5_rule : ByteArray := prog_7_method_22_code
def yX5_rule : MethodName := ⟨RX5, "rule", "(I)I"⟩
abbrev cX5_price : ByteArray := prog_7_method_23_code
def yX5_price : MethodName := ⟨RX5, "price", "(II)I"⟩
abbrev cX5_isWinner : ByteArray := prog_7_method_24_code
def yX5_isWinner : MethodName := ⟨RX5, "isWinner", "(I)Z"⟩
abbrev cX5_addThing : ByteArray := prog_7_method_25_code
def yX5_addThing : MethodName := ⟨RX5, "addThing", "(III)V"⟩
abbrev cX5_thing : ByteArray := prog_7_method_26_code
def yX5_thing : MethodName := ⟨RX5, "thing", "(III)I"⟩
abbrev cX5_addBuyer : ByteArray := prog_7_method_27_code
def yX5_addBuyer : MethodName := ⟨RX5, "addBuyer", "(I)V"⟩
abbrev cX5_buyer : ByteArray := prog_7_method_28_code
def yX5_buyer : MethodName := ⟨RX5, "buyer", "(I)I"⟩
abbrev cX5_likes : ByteArray := prog_7_method_29_code
def yX5_likes : MethodName := ⟨RX5, "likes", "(III)I"⟩
abbrev cX5_purse : ByteArray := prog_7_method_30_code
def yX5_purse : MethodName := ⟨RX5, "purse", "(II)I"⟩
abbrev cX5_feed : ByteArray := prog_7_method_31_code
def yX5_feed : MethodName := ⟨RX5, "feed", "(I)I"⟩
abbrev cX5_wipe : ByteArray := prog_7_method_32_code
def yX5_wipe : MethodName := ⟨RX5, "wipe", "()I"⟩
abbrev cX5_look : ByteArray := prog_7_method_35_code
def yX5_look : MethodName := ⟨RX5, "look", "()V"⟩
abbrev cX5_wrong : ByteArray := prog_7_method_36_code
def yX5_wrong : MethodName := ⟨RX5, "wrong", "()Z"⟩
abbrev cX5_isWord : ByteArray := prog_7_method_37_code
def yX5_isWord : MethodName := ⟨RX5, "isWord", "(Ljava/lang/String;)Z"⟩
abbrev cX5_statement : ByteArray := prog_7_method_43_code
def yX5_statement : MethodName := ⟨RX5, "statement", "()Z"⟩
abbrev cX5_readAll : ByteArray := prog_7_method_44_code
def yX5_readAll : MethodName := ⟨RX5, "readAll", "()Z"⟩
abbrev cX5_stall : ByteArray := prog_7_method_45_code
def yX5_stall : MethodName := ⟨RX5, "stall", "()I"⟩
abbrev cX5_thingOf : ByteArray := prog_7_method_46_code
def yX5_thingOf : MethodName := ⟨RX5, "thingOf", "(II)I"⟩
abbrev cX5_buyerOf : ByteArray := prog_7_method_49_code
def yX5_buyerOf : MethodName := ⟨RX5, "buyerOf", "(II)I"⟩
abbrev cX5_canDraw : ByteArray := prog_7_method_53_code
def yX5_canDraw : MethodName := ⟨RX5, "canDraw", "(I)Z"⟩
abbrev cX5_drawableMany : ByteArray := prog_7_method_54_code
def yX5_drawableMany : MethodName := ⟨RX5, "drawableMany", "()I"⟩
abbrev cX5_drawable : ByteArray := prog_7_method_55_code
def yX5_drawable : MethodName := ⟨RX5, "drawable", "()I"⟩
abbrev cX5_slipOf : ByteArray := prog_7_method_56_code
def yX5_slipOf : MethodName := ⟨RX5, "slipOf", "(II)I"⟩
abbrev cX5_winsBy : ByteArray := prog_7_method_57_code
def yX5_winsBy : MethodName := ⟨RX5, "winsBy", "(I)I"⟩
abbrev cX5_wins : ByteArray := prog_7_method_58_code
def yX5_wins : MethodName := ⟨RX5, "wins", "(I)I"⟩
abbrev cX5_worth : ByteArray := prog_7_method_60_code
def yX5_worth : MethodName := ⟨RX5, "worth", "(I)I"⟩
abbrev cX5_plan : ByteArray := prog_7_method_65_code
def yX5_plan : MethodName := ⟨RX5, "plan", "(I)I"⟩
abbrev cX5_till : ByteArray := prog_7_method_66_code
def yX5_till : MethodName := ⟨RX5, "till", "(I)I"⟩
abbrev cX5_mean : ByteArray := prog_7_method_68_code
def yX5_mean : MethodName := ⟨RX5, "mean", "(II)I"⟩
abbrev cX5_atOnce : ByteArray := prog_7_method_69_code
def yX5_atOnce : MethodName := ⟨RX5, "atOnce", "(I)I"⟩
abbrev cX5_all : ByteArray := prog_7_method_70_code
def yX5_all : MethodName := ⟨RX5, "all", "(I)I"⟩
abbrev cX5_takingsAt : ByteArray := prog_7_method_71_code
def yX5_takingsAt : MethodName := ⟨RX5, "takingsAt", "(I)I"⟩
abbrev cX5_takings : ByteArray := prog_7_method_72_code
def yX5_takings : MethodName := ⟨RX5, "takings", "(I)I"⟩
abbrev cX5_bestPrice : ByteArray := prog_7_method_73_code
def yX5_bestPrice : MethodName := ⟨RX5, "bestPrice", "()I"⟩
abbrev cX5_fullWith : ByteArray := prog_7_method_74_code
def yX5_fullWith : MethodName := ⟨RX5, "fullWith", "(I)I"⟩
abbrev cX5_full : ByteArray := prog_7_method_75_code
def yX5_full : MethodName := ⟨RX5, "full", "()I"⟩
abbrev cX5_guess : ByteArray := prog_7_method_76_code
def yX5_guess : MethodName := ⟨RX5, "guess", "(II)I"⟩
abbrev cX5_suspected : ByteArray := prog_7_method_77_code
def yX5_suspected : MethodName := ⟨RX5, "suspected", "(II)I"⟩
abbrev cX5_suspect : ByteArray := prog_7_method_78_code
def yX5_suspect : MethodName := ⟨RX5, "suspect", "(II)I"⟩
abbrev cX5_sure : ByteArray := prog_7_method_79_code
def yX5_sure : MethodName := ⟨RX5, "sure", "(II)I"⟩
abbrev cX5_left : ByteArray := prog_7_method_80_code
def yX5_left : MethodName := ⟨RX5, "left", "(I)I"⟩
abbrev cX5_noBook : ByteArray := prog_7_method_81_code
def yX5_noBook : MethodName := ⟨RX5, "noBook", "(II)I"⟩
abbrev cX5_judge : ByteArray := prog_7_method_84_code
def yX5_judge : MethodName := ⟨RX5, "judge", "(II)I"⟩
abbrev cX5_won : ByteArray := prog_7_method_85_code
def yX5_won : MethodName := ⟨RX5, "won", "(II)I"⟩
abbrev cX5_booked : ByteArray := prog_7_method_86_code
def yX5_booked : MethodName := ⟨RX5, "booked", "(III)I"⟩
abbrev cX5_chain : ByteArray := prog_7_method_87_code
def yX5_chain : MethodName := ⟨RX5, "chain", "(I)I"⟩
abbrev cX5_dearest : ByteArray := prog_7_method_89_code
def yX5_dearest : MethodName := ⟨RX5, "dearest", "(I)I"⟩
abbrev cX5_fondest : ByteArray := prog_7_method_90_code
def yX5_fondest : MethodName := ⟨RX5, "fondest", "(I)I"⟩
abbrev cX5_envy : ByteArray := prog_7_method_91_code
def yX5_envy : MethodName := ⟨RX5, "envy", "()I"⟩
abbrev cX5_poorest : ByteArray := prog_7_method_92_code
def yX5_poorest : MethodName := ⟨RX5, "poorest", "()I"⟩
abbrev cX5_oldest : ByteArray := prog_7_method_93_code
def yX5_oldest : MethodName := ⟨RX5, "oldest", "()I"⟩
abbrev cX5_go : ByteArray := prog_7_method_97_code
def yX5_go : MethodName := ⟨RX5, "go", "(I)I"⟩
abbrev cX5_five : ByteArray := prog_7_method_98_code
def yX5_five : MethodName := ⟨RX5, "five", "(I)I"⟩
abbrev cX5_plays : ByteArray := prog_7_method_99_code
def yX5_plays : MethodName := ⟨RX5, "plays", "(I)I"⟩
abbrev cX5_fete : ByteArray := prog_7_method_100_code
def yX5_fete : MethodName := ⟨RX5, "fete", "(I)I"⟩
abbrev cX5_seed : ByteArray := prog_7_method_101_code
def yX5_seed : MethodName := ⟨RX5, "seed", "(I)I"⟩
abbrev cX5_fresh : ByteArray := prog_7_method_102_code
def yX5_fresh : MethodName := ⟨RX5, "fresh", "()LEndsInFiveModel;"⟩
abbrev cX5_over : ByteArray := prog_7_method_103_code
def yX5_over : MethodName := ⟨RX5, "over", "([I[I)V"⟩
abbrev cX5_takeFrom : ByteArray := prog_7_method_104_code
def yX5_takeFrom : MethodName := ⟨RX5, "takeFrom", "(LEndsInFiveModel;)V"⟩
abbrev cX5_image : ByteArray := prog_7_method_105_code
def yX5_image : MethodName := ⟨RX5, "image", "()I"⟩
abbrev cX5_back : ByteArray := prog_7_method_106_code
def yX5_back : MethodName := ⟨RX5, "back", "()I"⟩
abbrev cX5_status : ByteArray := prog_7_method_107_code
def yX5_status : MethodName := ⟨RX5, "status", "(I)I"⟩
def RJ6 : String := "java/lang/Integer"
def TJ6 : u_T := fun k => match k with
  | _ => ("", "", "", false)
def tyJ6 : Nat → FieldType := fun k => match k with
  | _ => .int
abbrev wsJ60 : List Cond := u_ws RJ6 TJ6 0
theorem nmJ6 : ∀ a, a < 0 → ∀ b, b < 0 → a ≠ b → (TJ6 a).2.1 ≠ (TJ6 b).2.1 := by decide +kernel
theorem tyJ6_ok : ∀ k, k < 0 → parseFieldDescriptor (TJ6 k).2.2.1 = some (tyJ6 k) := by decide +kernel
abbrev cJ6_bitCount_0f7a4 : ByteArray := prog_8_method_49_code
def yJ6_bitCount_0f7a4 : MethodName := ⟨RJ6, "bitCount", "(I)I"⟩
def RJ13 : String := "java/lang/Long"
def TJ13 : u_T := fun k => match k with
  | _ => ("", "", "", false)
def tyJ13 : Nat → FieldType := fun k => match k with
  | _ => .int
abbrev wsJ130 : List Cond := u_ws RJ13 TJ13 0
theorem nmJ13 : ∀ a, a < 0 → ∀ b, b < 0 → a ≠ b → (TJ13 a).2.1 ≠ (TJ13 b).2.1 := by decide +kernel
theorem tyJ13_ok : ∀ k, k < 0 → parseFieldDescriptor (TJ13 k).2.2.1 = some (tyJ13 k) := by decide +kernel
abbrev cJ13_bitCount_95d88 : ByteArray := prog_9_method_50_code
def yJ13_bitCount_95d88 : MethodName := ⟨RJ13, "bitCount", "(J)I"⟩
def RJ9 : String := "java/lang/Math"
def TJ9 : u_T := fun k => match k with
  | _ => ("", "", "", false)
def tyJ9 : Nat → FieldType := fun k => match k with
  | _ => .int
abbrev wsJ90 : List Cond := u_ws RJ9 TJ9 0
theorem nmJ9 : ∀ a, a < 0 → ∀ b, b < 0 → a ≠ b → (TJ9 a).2.1 ≠ (TJ9 b).2.1 := by decide +kernel
theorem tyJ9_ok : ∀ k, k < 0 → parseFieldDescriptor (TJ9 k).2.2.1 = some (tyJ9 k) := by decide +kernel
def RJ0 : String := "java/lang/String"
def TJ0 : u_T := fun k => match k with
  | _ => ("", "", "", false)
def tyJ0 : Nat → FieldType := fun k => match k with
  | _ => .int
abbrev wsJ00 : List Cond := u_ws RJ0 TJ0 0
theorem nmJ0 : ∀ a, a < 0 → ∀ b, b < 0 → a ≠ b → (TJ0 a).2.1 ≠ (TJ0 b).2.1 := by decide +kernel
theorem tyJ0_ok : ∀ k, k < 0 → parseFieldDescriptor (TJ0 k).2.2.1 = some (tyJ0 k) := by decide +kernel
abbrev cJ0_length_8abf5 : ByteArray := prog_11_method_54_code
def yJ0_length_8abf5 : MethodName := ⟨RJ0, "length", "()I"⟩
abbrev cJ0_coder_7d493 : ByteArray := prog_11_method_152_code
def yJ0_coder_7d493 : MethodName := ⟨RJ0, "coder", "()B"⟩
def RJ1 : String := "java/lang/StringLatin1"
def TJ1 : u_T := fun k => match k with
  | _ => ("", "", "", false)
def tyJ1 : Nat → FieldType := fun k => match k with
  | _ => .int
abbrev wsJ10 : List Cond := u_ws RJ1 TJ1 0
theorem nmJ1 : ∀ a, a < 0 → ∀ b, b < 0 → a ≠ b → (TJ1 a).2.1 ≠ (TJ1 b).2.1 := by decide +kernel
theorem tyJ1_ok : ∀ k, k < 0 → parseFieldDescriptor (TJ1 k).2.2.1 = some (tyJ1 k) := by decide +kernel
def RJ2 : String := "java/lang/StringUTF16"
def TJ2 : u_T := fun k => match k with
  | _ => ("", "", "", false)
def tyJ2 : Nat → FieldType := fun k => match k with
  | _ => .int
abbrev wsJ20 : List Cond := u_ws RJ2 TJ2 0
theorem nmJ2 : ∀ a, a < 0 → ∀ b, b < 0 → a ≠ b → (TJ2 a).2.1 ≠ (TJ2 b).2.1 := by decide +kernel
theorem tyJ2_ok : ∀ k, k < 0 → parseFieldDescriptor (TJ2 k).2.2.1 = some (tyJ2 k) := by decide +kernel
def RJ10 : String := "java/lang/System"
def TJ10 : u_T := fun k => match k with
  | _ => ("", "", "", false)
def tyJ10 : Nat → FieldType := fun k => match k with
  | _ => .int
abbrev wsJ100 : List Cond := u_ws RJ10 TJ10 0
theorem nmJ10 : ∀ a, a < 0 → ∀ b, b < 0 → a ≠ b → (TJ10 a).2.1 ≠ (TJ10 b).2.1 := by decide +kernel
theorem tyJ10_ok : ∀ k, k < 0 → parseFieldDescriptor (TJ10 k).2.2.1 = some (tyJ10 k) := by decide +kernel
def RJ3 : String := "jdk/internal/util/Preconditions"
def TJ3 : u_T := fun k => match k with
  | _ => ("", "", "", false)
def tyJ3 : Nat → FieldType := fun k => match k with
  | _ => .int
abbrev wsJ30 : List Cond := u_ws RJ3 TJ3 0
theorem nmJ3 : ∀ a, a < 0 → ∀ b, b < 0 → a ≠ b → (TJ3 a).2.1 ≠ (TJ3 b).2.1 := by decide +kernel
theorem tyJ3_ok : ∀ k, k < 0 → parseFieldDescriptor (TJ3 k).2.2.1 = some (tyJ3 k) := by decide +kernel
def RL : String := "EndsInFiveLaw"
abbrev cL_law : ByteArray := code
def yL_law : MethodName := ⟨RL, "law", "([I)Z"⟩
abbrev vwCl : List vw_C := [(RX0, TX0, 3), (RX1, TX1, 17), (RX2, TX2, 6), (RX3, TX3, 7), (RX4, TX4, 8), (RX5, TX5, 41)]
end
section
abbrev zV : Type := Value ⊕ (Bool × Int × Int)
abbrev zC : Type := Nat × List zV
abbrev zH : Type := List zC
abbrev zL : Type := List (Nat × zV)
abbrev zS : Type := Nat × zL × List zV × zH × Nat × Nat
abbrev zI : Type := Instr × zV × Nat × Nat × Nat × Nat
abbrev zCd : Type := List (Nat × List (Nat × zI))
abbrev zE : Type := MethodName × ByteArray × Nat × Option FieldType × Nat × Nat × Nat × Nat × zCd
def zEm (E : zE) : Nat := E.2.2.1
def zEp (E : zE) : Nat := E.2.2.2.2.1
def zEk (E : zE) : Nat := E.2.2.2.2.2.1
def zEc (E : zE) : Nat := E.2.2.2.2.2.2.1
def zEs (E : zE) : Nat := E.2.2.2.2.2.2.2.1
def zEd (E : zE) : zCd := E.2.2.2.2.2.2.2.2
def zft (cd : zCd) (pc : Nat) : Option zI := match cd.find? (fun q => Nat.blt pc q.1) with
  | some q => (match q.2.find? (fun r => Nat.beq r.1 pc) with
    | some r => some r.2
    | none => none)
  | none => none
def zI0 : zV := .inr (false, -2147483648, 2147483647)
def zL0 : zV := .inr (true, -9223372036854775808, 9223372036854775807)
def zisI : zV → Bool
  | .inl (.int _) => true
  | .inr (false, _) => true
  | _ => false
def zisL : zV → Bool
  | .inl (.long _) => true
  | .inr (true, _) => true
  | _ => false
def zisR : zV → Bool
  | .inl .null => true
  | .inl (.ref _) => true
  | _ => false
def zcat : zV → Nat
  | .inl v => v.category
  | .inr (true, _) => 2
  | .inr (false, _) => 1
def zlo : zV → Int
  | .inl (.int x) => x.toInt
  | .inl (.long x) => x.toInt
  | .inr (_, lo, _) => lo
  | _ => 0
def zhi : zV → Int
  | .inl (.int x) => x.toInt
  | .inl (.long x) => x.toInt
  | .inr (_, _, hi) => hi
  | _ => 0
def zmk (lo hi : Int) : zV := if lo = hi then .inl (.int (Int32.ofInt lo)) else .inr (false, lo, hi)
def zlt (a b : zV) : Option Bool := if zhi a < zlo b then some true else if zhi b ≤ zlo a then some false else none
def zeq (a b : zV) : Option Bool := if zhi a < zlo b ∨ zhi b < zlo a then some false else if zhi a ≤ zlo b ∧ zhi b ≤ zlo a then some true else none
def znot : Option Bool → Option Bool
  | some b => some (!b)
  | none => none
def zcond : ClassFile.Cond → zV → zV → Option Bool
  | .eq, a, b => zeq a b
  | .ne, a, b => znot (zeq a b)
  | .lt, a, b => zlt a b
  | .ge, a, b => znot (zlt a b)
  | .gt, a, b => zlt b a
  | .le, a, b => znot (zlt b a)
def zbr (o : Option Bool) (kt kf : Bool) : Bool := match o with
  | some true => kt
  | some false => kf
  | none => kt && kf
def zget (L : zL) (i : Nat) : Option zV := match L.find? (fun q => Nat.beq q.1 i) with
  | some q => some q.2
  | none => none
def zst1 (L : zL) (i : Nat) (v : zV) : zL := (i, v) :: L.filter (fun q => !(Nat.beq q.1 i) && !(Nat.beq (q.1 + 1) i && Nat.beq (zcat q.2) 2))
def zst2 (L : zL) (i : Nat) (v : zV) : zL := (i, v) :: L.filter (fun q => !(Nat.beq q.1 i) && (!(Nat.beq q.1 (i + 1)) && !(Nat.beq (q.1 + 1) i && Nat.beq (zcat q.2) 2)))
def zld (P : zV → Bool) (L : zL) (i : Nat) (k : zV → Bool) : Bool := match zget L i with
  | some v => P v && k v
  | none => false
def zs1 (P : zV → Bool) (L : zL) (nL i : Nat) (st : List zV) (k : zL → List zV → Bool) : Bool := match st with
  | v :: r => P v && (Nat.blt i nL && k (zst1 L i v) r)
  | [] => false
def zs2 (L : zL) (nL i : Nat) (st : List zV) (k : zL → List zV → Bool) : Bool := match st with
  | v :: r => zisL v && (Nat.blt (i + 1) nL && k (zst2 L i v) r)
  | [] => false
def zb2 (f : Int32 → Int32 → Int32) (st : List zV) (k : List zV → Bool) : Bool := match st with
  | .inl (.int b) :: .inl (.int a) :: r => k (.inl (.int (f a b)) :: r)
  | b :: a :: r => zisI a && (zisI b && k (zI0 :: r))
  | _ => false
def zml (st : List zV) (k : List zV → Bool) : Bool := match st with
  | .inl (.int b) :: .inl (.int a) :: r => k (.inl (.int (a * b)) :: r)
  | b :: .inl (.int a) :: r => zisI b && k ((if a = 0 then .inl (.int 0) else zI0) :: r)
  | b :: a :: r => zisI a && (zisI b && k (zI0 :: r))
  | _ => false
def zdv (f : Int32 → Int32 → Int32) (st : List zV) (k : List zV → Bool) : Bool := match st with
  | .inl (.int b) :: .inl (.int a) :: r => !(b == 0) && k (.inl (.int (f a b)) :: r)
  | _ => false
def zb2l (f : Int64 → Int64 → Int64) (st : List zV) (k : List zV → Bool) : Bool := match st with
  | .inl (.long b) :: .inl (.long a) :: r => k (.inl (.long (f a b)) :: r)
  | b :: a :: r => zisL a && (zisL b && k (zL0 :: r))
  | _ => false
def zshl (f : Int64 → Int32 → Int64) (st : List zV) (k : List zV → Bool) : Bool := match st with
  | .inl (.int b) :: .inl (.long a) :: r => k (.inl (.long (f a b)) :: r)
  | b :: a :: r => zisL a && (zisI b && k (zL0 :: r))
  | _ => false
def zcmpL (a b : zV) : zV := zmk (if zhi b < zlo a then 1 else if zhi b ≤ zlo a then 0 else -1) (if zhi a < zlo b then -1 else if zhi a ≤ zlo b then 0 else 1)
def zof (pc : Nat) (off : Int) (k : Nat → Bool) : Bool := match (pc : Int) + off with
  | .ofNat t => k t
  | .negSucc _ => false
def zdef : FieldType → zV
  | .long => .inl (.long 0)
  | .object _ => .inl .null
  | .array _ => .inl .null
  | _ => .inl (.int 0)
def zfit : Nat → zV → Bool
  | 0, v => zisI v
  | 1, v => zisL v
  | 2, v => zisR v
  | _, v => match v with
    | .inl (.int x) => x == 0 || x == 1
    | _ => false
def zcpy (f g : List zV) (sp dp n : Nat) : List zV := g.take dp ++ ((f.drop sp).take n ++ g.drop (dp + n))
def zrow (h : zH) (q : Nat) (t : Nat) (k : List zV → Bool) : Bool := match h[q]? with
  | some c => Nat.blt q 1000000 && (Nat.beq c.1 t && k c.2)
  | none => false
def zel (vs : List zV) (i : Int32) (k : zV → Bool) : Bool := if i < 0 then false else match vs[i.toNatClampNeg]? with
  | some v => k v
  | none => false
def zix (vs : List zV) (i : Int32) : Bool := if i < 0 then false else Nat.blt i.toNatClampNeg vs.length
def zsum : List zV → Nat
  | [] => 0
  | v :: l => zcat v + zsum l
def zpush : Option zV → List zV → List zV
  | some v, l => v :: l
  | none, l => l
abbrev zK : Type := Nat → List zV → zH → (Option zV → zH → Bool) → Bool
def zcall (prog : Nat → Option zE) (cc : zK) (j : Nat) (st : List zV) (h : zH) (nc ns rc rs : Nat) (k : List zV → zH → Nat → Nat → Bool) : Bool := match prog j with
  | some E => Nat.ble (zEp E) st.length && (Nat.ble (nc + zEc E) rc && (Nat.ble (ns + zEs E) rs && (Nat.ble (zsum (st.drop (zEp E))) 8 && cc j (st.take (zEp E)).reverse h (fun r h' => k (zpush r (st.drop (zEp E))) h' (nc + zEc E) (ns + zEs E)))))
  | none => false
def zcalv (prog : Nat → Option zE) (cc : zK) (j : Nat) (st : List zV) (h : zH) (nc ns rc rs : Nat) (k : List zV → zH → Nat → Nat → Bool) : Bool := match prog j with
  | some E => Nat.ble (zEp E) st.length && (Nat.ble (nc + zEc E) rc && (Nat.ble (ns + zEs E) rs && (match st.drop (zEp E) with
    | .inl (.ref q) :: r => zrow h q (zEk E) (fun _ => Nat.ble (zsum r) 8 && cc j (.inl (.ref q) :: (st.take (zEp E)).reverse) h (fun v h' => k (zpush v r) h' (nc + zEc E) (ns + zEs E)))
    | _ => false)))
  | none => false
def zstep (zN : Nat → Nat) (zdf : Nat → List zV) (slen : Nat → Option Int32) (prog : Nat → Option zE) (nL rc rs : Nat) (scr : List zV) (cc : zK) (K : zS → Bool) (ins : Instr) (cv : zV) (a b c : Nat) (pc : Nat) (L : zL) (st : List zV) (h : zH) (nc ns : Nat) : Bool :=
  match ins with
  | .iconst n => K (pc + 1, L, .inl (.int (Int32.ofInt n)) :: st, h, nc, ns)
  | .bipush n => K (pc + 2, L, .inl (.int (Int8.ofInt n).toInt32) :: st, h, nc, ns)
  | .sipush n => K (pc + 3, L, .inl (.int (Int16.ofInt n).toInt32) :: st, h, nc, ns)
  | .lconst n => K (pc + 1, L, .inl (.long (Int64.ofNat (n : Nat))) :: st, h, nc, ns)
  | .iload_n k => zld zisI L k.val (fun v => K (pc + 1, L, v :: st, h, nc, ns))
  | .iload k => zld zisI L k (fun v => K (pc + 2, L, v :: st, h, nc, ns))
  | .lload_n k => zld zisL L k.val (fun v => K (pc + 1, L, v :: st, h, nc, ns))
  | .lload k => zld zisL L k (fun v => K (pc + 2, L, v :: st, h, nc, ns))
  | .aload_n k => zld zisR L k.val (fun v => K (pc + 1, L, v :: st, h, nc, ns))
  | .aload k => zld zisR L k (fun v => K (pc + 2, L, v :: st, h, nc, ns))
  | .istore_n k => zs1 zisI L nL k.val st (fun L' r => K (pc + 1, L', r, h, nc, ns))
  | .istore k => zs1 zisI L nL k st (fun L' r => K (pc + 2, L', r, h, nc, ns))
  | .astore_n k => zs1 zisR L nL k.val st (fun L' r => K (pc + 1, L', r, h, nc, ns))
  | .astore k => zs1 zisR L nL k st (fun L' r => K (pc + 2, L', r, h, nc, ns))
  | .lstore_n k => zs2 L nL k.val st (fun L' r => K (pc + 1, L', r, h, nc, ns))
  | .lstore k => zs2 L nL k st (fun L' r => K (pc + 2, L', r, h, nc, ns))
  | .iinc k n => (match zget L k with
    | some (.inl (.int x)) => Nat.blt k nL && K (pc + 3, zst1 L k (.inl (.int (x + Int32.ofInt n))), st, h, nc, ns)
    | _ => false)
  | .iadd => zb2 (fun x y => x + y) st (fun st' => K (pc + 1, L, st', h, nc, ns))
  | .isub => zb2 (fun x y => x - y) st (fun st' => K (pc + 1, L, st', h, nc, ns))
  | .imul => zml st (fun st' => K (pc + 1, L, st', h, nc, ns))
  | .iand => zb2 (fun x y => x &&& y) st (fun st' => K (pc + 1, L, st', h, nc, ns))
  | .ior => zb2 (fun x y => x ||| y) st (fun st' => K (pc + 1, L, st', h, nc, ns))
  | .ixor => zb2 (fun x y => x ^^^ y) st (fun st' => K (pc + 1, L, st', h, nc, ns))
  | .ishl => zb2 (fun x y => x <<< (y &&& 31)) st (fun st' => K (pc + 1, L, st', h, nc, ns))
  | .ishr => zb2 (fun x y => x >>> (y &&& 31)) st (fun st' => K (pc + 1, L, st', h, nc, ns))
  | .iushr => zb2 (fun x y => (x.toUInt32 >>> (y.toUInt32 &&& Int32.toUInt32 31)).toInt32) st (fun st' => K (pc + 1, L, st', h, nc, ns))
  | .idiv => zdv (fun x y => x / y) st (fun st' => K (pc + 1, L, st', h, nc, ns))
  | .irem => zdv (fun x y => x - x / y * y) st (fun st' => K (pc + 1, L, st', h, nc, ns))
  | .ineg => (match st with
    | .inl (.int x) :: r => K (pc + 1, L, .inl (.int (-x)) :: r, h, nc, ns)
    | _ => false)
  | .ladd => zb2l (fun x y => x + y) st (fun st' => K (pc + 1, L, st', h, nc, ns))
  | .lsub => zb2l (fun x y => x - y) st (fun st' => K (pc + 1, L, st', h, nc, ns))
  | .lmul => zb2l (fun x y => x * y) st (fun st' => K (pc + 1, L, st', h, nc, ns))
  | .land => zb2l (fun x y => x &&& y) st (fun st' => K (pc + 1, L, st', h, nc, ns))
  | .lor => zb2l (fun x y => x ||| y) st (fun st' => K (pc + 1, L, st', h, nc, ns))
  | .lxor => zb2l (fun x y => x ^^^ y) st (fun st' => K (pc + 1, L, st', h, nc, ns))
  | .lshl => zshl (fun x y => x <<< (y.toInt64 &&& 63)) st (fun st' => K (pc + 1, L, st', h, nc, ns))
  | .lushr => zshl (fun x y => (x.toUInt64 >>> (y.toInt64.toUInt64 &&& Int64.toUInt64 63)).toInt64) st (fun st' => K (pc + 1, L, st', h, nc, ns))
  | .i2l => (match st with
    | .inl (.int x) :: r => K (pc + 1, L, .inl (.long x.toInt64) :: r, h, nc, ns)
    | .inr (false, lo, hi) :: r => K (pc + 1, L, .inr (true, lo, hi) :: r, h, nc, ns)
    | _ => false)
  | .l2i => (match st with
    | .inl (.long x) :: r => K (pc + 1, L, .inl (.int x.toInt32) :: r, h, nc, ns)
    | v :: r => zisL v && K (pc + 1, L, zI0 :: r, h, nc, ns)
    | _ => false)
  | .lcmp => (match st with
    | y :: x :: r => zisL x && (zisL y && K (pc + 1, L, zcmpL x y :: r, h, nc, ns))
    | _ => false)
  | .dup => (match st with
    | v :: r => Nat.beq (zcat v) 1 && K (pc + 1, L, v :: v :: r, h, nc, ns)
    | _ => false)
  | .dup2 => (match st with
    | v :: w :: r => Nat.beq (zcat v) 1 && (Nat.beq (zcat w) 1 && K (pc + 1, L, v :: w :: v :: w :: r, h, nc, ns))
    | _ => false)
  | .dup_x1 => (match st with
    | v :: w :: r => Nat.beq (zcat v) 1 && (Nat.beq (zcat w) 1 && K (pc + 1, L, v :: w :: v :: r, h, nc, ns))
    | _ => false)
  | .pop => (match st with
    | v :: r => Nat.beq (zcat v) 1 && K (pc + 1, L, r, h, nc, ns)
    | _ => false)
  | .ifCond cd off => (match st with
    | x :: r => zisI x && zof pc off (fun t => zbr (zcond cd x (.inl (.int 0))) (K (t, L, r, h, nc, ns)) (K (pc + 3, L, r, h, nc, ns)))
    | _ => false)
  | .if_icmp cd off => (match st with
    | y :: x :: r => zisI x && (zisI y && zof pc off (fun t => zbr (zcond cd x y) (K (t, L, r, h, nc, ns)) (K (pc + 3, L, r, h, nc, ns))))
    | _ => false)
  | .goto off => zof pc off (fun t => K (t, L, st, h, nc, ns))
  | .ifnull off => (match st with
    | .inl .null :: r => zof pc off (fun t => K (t, L, r, h, nc, ns))
    | .inl (.ref _) :: r => K (pc + 3, L, r, h, nc, ns)
    | _ => false)
  | .ifnonnull off => (match st with
    | .inl (.ref _) :: r => zof pc off (fun t => K (t, L, r, h, nc, ns))
    | .inl .null :: r => K (pc + 3, L, r, h, nc, ns)
    | _ => false)
  | .tableswitch d lo hi offs => (match st with
    | x :: r => zisI x && (if zhi x < lo ∨ hi < zlo x then zof pc d (fun t => K (t, L, r, h, nc, ns)) else match x with
      | .inl (.int z) => !(decide (z.toInt < lo)) && (!(decide (hi < z.toInt)) && (match offs[(z.toInt - lo).toNat]? with
        | some off => zof pc off (fun t => K (t, L, r, h, nc, ns))
        | none => false))
      | _ => false)
    | _ => false)
  | .getfield _ => (match st with
    | .inl (.ref q) :: r => zrow h q a (fun fs => match fs[b]? with
      | some v => K (pc + 3, L, v :: r, h, nc, ns)
      | none => false)
    | _ => false)
  | .putfield _ => (match st with
    | v :: .inl (.ref q) :: r => zrow h q a (fun fs => Nat.blt b fs.length && (zfit c v && K (pc + 3, L, r, h.set q (a, fs.set b v), nc, ns)))
    | _ => false)
  | .new _ => Nat.ble (nc + 1) rc && (Nat.ble (ns + zN a) rs && (Nat.blt h.length 1000000 && K (pc + 3, L, .inl (.ref h.length) :: st, h ++ [(a, zdf a)], nc + 1, ns + zN a)))
  | .newarray ty => (match st with
    | .inl (.int n) :: r => if n < 0 then false else Nat.ble n.toNatClampNeg 65536 && (Nat.ble (nc + 1) rc && (Nat.ble (ns + n.toNatClampNeg) rs && (Nat.blt h.length 1000000 && (match ty with
      | .int => K (pc + 2, L, .inl (.ref h.length) :: r, h ++ [(10, List.replicate n.toNatClampNeg (.inl (.int 0)))], nc + 1, ns + n.toNatClampNeg)
      | .long => K (pc + 2, L, .inl (.ref h.length) :: r, h ++ [(11, List.replicate n.toNatClampNeg (.inl (.long 0)))], nc + 1, ns + n.toNatClampNeg)
      | _ => false))))
    | _ => false)
  | .anewarray _ => (match st with
    | .inl (.int n) :: r => if n < 0 then false else Nat.ble n.toNatClampNeg 65536 && (Nat.ble (nc + 1) rc && (Nat.ble (ns + n.toNatClampNeg) rs && (Nat.blt h.length 1000000 && K (pc + 3, L, .inl (.ref h.length) :: r, h ++ [(12, List.replicate n.toNatClampNeg (.inl .null))], nc + 1, ns + n.toNatClampNeg))))
    | _ => false)
  | .multianewarray _ _ => (match st with
    | .inl (.int k) :: .inl (.int n) :: r => if n < 0 then false else if k < 0 then false else Nat.ble n.toNatClampNeg 1000 && (Nat.ble k.toNatClampNeg 1000 && (Nat.ble (nc + 1 + n.toNatClampNeg) rc && (Nat.ble (ns + n.toNatClampNeg + n.toNatClampNeg * k.toNatClampNeg) rs && (Nat.blt (h.length + n.toNatClampNeg) 1000000 && (match a with
      | 1 => K (pc + 4, L, .inl (.ref h.length) :: r, h ++ ((13, (List.range n.toNatClampNeg).map (fun i => .inl (.ref (h.length + 1 + i)))) :: List.replicate n.toNatClampNeg (11, List.replicate k.toNatClampNeg (.inl (.long 0)))), nc + 1 + n.toNatClampNeg, ns + n.toNatClampNeg + n.toNatClampNeg * k.toNatClampNeg)
      | 0 => K (pc + 4, L, .inl (.ref h.length) :: r, h ++ ((14, (List.range n.toNatClampNeg).map (fun i => .inl (.ref (h.length + 1 + i)))) :: List.replicate n.toNatClampNeg (10, List.replicate k.toNatClampNeg (.inl (.int 0)))), nc + 1 + n.toNatClampNeg, ns + n.toNatClampNeg + n.toNatClampNeg * k.toNatClampNeg)
      | _ => false)))))
    | _ => false)
  | .iaload => (match st with
    | .inl (.int i) :: .inl (.ref q) :: r => if q = 10000000 then zel scr i (fun v => K (pc + 1, L, v :: r, h, nc, ns)) else zrow h q 10 (fun vs => zel vs i (fun v => K (pc + 1, L, v :: r, h, nc, ns)))
    | _ => false)
  | .laload => (match st with
    | .inl (.int i) :: .inl (.ref q) :: r => zrow h q 11 (fun vs => zel vs i (fun v => K (pc + 1, L, v :: r, h, nc, ns)))
    | _ => false)
  | .aaload => (match st with
    | .inl (.int i) :: .inl (.ref q) :: r => (match h[q]? with
      | some x => Nat.blt q 1000000 && (Nat.ble 12 x.1 && zel x.2 i (fun v => K (pc + 1, L, v :: r, h, nc, ns)))
      | none => false)
    | _ => false)
  | .iastore => (match st with
    | v :: .inl (.int i) :: .inl (.ref q) :: r => zisI v && zrow h q 10 (fun vs => zix vs i && K (pc + 1, L, r, h.set q (10, vs.set i.toNatClampNeg v), nc, ns))
    | _ => false)
  | .lastore => (match st with
    | v :: .inl (.int i) :: .inl (.ref q) :: r => zisL v && zrow h q 11 (fun vs => zix vs i && K (pc + 1, L, r, h.set q (11, vs.set i.toNatClampNeg v), nc, ns))
    | _ => false)
  | .aastore => (match st with
    | .inl (.ref o) :: .inl (.int i) :: .inl (.ref q) :: r => zrow h o 0 (fun _ => zrow h q 12 (fun vs => zix vs i && K (pc + 1, L, r, h.set q (12, vs.set i.toNatClampNeg (.inl (.ref o))), nc, ns)))
    | _ => false)
  | .arraylength => (match st with
    | .inl (.ref q) :: r => if q = 10000000 then K (pc + 1, L, .inl (.int (Int32.ofNat scr.length)) :: r, h, nc, ns) else (match h[q]? with
      | some x => Nat.blt q 1000000 && (Nat.ble 10 x.1 && K (pc + 1, L, .inl (.int (Int32.ofNat x.2.length)) :: r, h, nc, ns))
      | none => false)
    | _ => false)
  | .ldc _ => K (pc + 2, L, cv :: st, h, nc, ns)
  | .ldc_w _ => K (pc + 3, L, cv :: st, h, nc, ns)
  | .ldc2_w _ => K (pc + 3, L, cv :: st, h, nc, ns)
  | .invokevirtual _ => (match b with
    | 0 => zcalv prog cc a st h nc ns rc rs (fun st' h' nc' ns' => K (pc + 3, L, st', h', nc', ns'))
    | 8 => (match st with
      | .inl (.ref q) :: r => (match slen q with
        | some x => Nat.ble (zsum r) 8 && K (pc + 3, L, .inl (.int x) :: r, h, nc, ns)
        | none => false)
      | _ => false)
    | _ => false)
  | .invokespecial _ => (match b with
    | 6 => (match st with
      | .inl (.ref _) :: r => Nat.ble (zsum r) 8 && K (pc + 3, L, r, h, nc, ns)
      | _ => false)
    | _ => zcalv prog cc a st h nc ns rc rs (fun st' h' nc' ns' => K (pc + 3, L, st', h', nc', ns')))
  | .invokestatic _ => (match b with
    | 7 => (match st with
      | .inl (.int n) :: .inl (.int dp) :: .inl (.ref q1) :: .inl (.int sp) :: .inl (.ref q0) :: [] => if n < 0 then false else if dp < 0 then false else if sp < 0 then false else zrow h q0 10 (fun f => zrow h q1 10 (fun g => Nat.ble (sp.toNatClampNeg + n.toNatClampNeg) f.length && (Nat.ble (dp.toNatClampNeg + n.toNatClampNeg) g.length && K (pc + 3, L, [], h.set q1 (10, zcpy f g sp.toNatClampNeg dp.toNatClampNeg n.toNatClampNeg), nc, ns))))
      | _ => false)
    | 9 => (match st with
      | .inl (.int y) :: .inl (.int x) :: r => Nat.ble (zsum r) 8 && K (pc + 3, L, .inl (.int (if y < x then y else x)) :: r, h, nc, ns)
      | _ => false)
    | _ => zcall prog cc a st h nc ns rc rs (fun st' h' nc' ns' => K (pc + 3, L, st', h', nc', ns')))
  | _ => false
def zret (ret : Option FieldType) (ins : Instr) (st : List zV) (h : zH) (post : Option zV → zH → Bool) : Bool := match ins, st with
  | .ireturn, [v] => (match ret with
    | some .int => zisI v && post (some v) h
    | some .boolean => zfit 3 v && post (some v) h
    | _ => false)
  | .lreturn, [v] => decide (ret = some .long) && (zisL v && post (some v) h)
  | .areturn, [v] => (match ret with
    | some (.object _) => zisR v && post (some v) h
    | _ => false)
  | .return_, [] => decide (ret = none) && post none h
  | _, _ => false
def zisRet : Instr → Bool
  | .ireturn => true
  | .lreturn => true
  | .areturn => true
  | .return_ => true
  | _ => false
noncomputable def zrun (zN : Nat → Nat) (zdf : Nat → List zV) (slen : Nat → Option Int32) (prog : Nat → Option zE) (E : zE) (scr : List zV) (rc rs : Nat) (cc : zK) (fin : Nat → zS → Bool) (post : Option zV → zH → Bool) (n : Nat) : zS → Bool :=
  Nat.rec (fun _ => false) (fun _ ih x => if fin x.1 x then true else match zft (zEd E) x.1 with
    | some i => if zisRet i.1 then zret E.2.2.2.1 i.1 x.2.2.1 x.2.2.2.1 post else zstep zN zdf slen prog (zEm E) rc rs scr cc ih i.1 i.2.1 i.2.2.1 i.2.2.2.1 i.2.2.2.2.1 x.1 x.2.1 x.2.2.1 x.2.2.2.1 x.2.2.2.2.1 x.2.2.2.2.2
    | none => false) n
def zarg : Nat → List zV → zL
  | _, [] => []
  | i, v :: vs => (i, v) :: zarg (if zcat v = 2 then i + 2 else i + 1) vs
noncomputable def zdeep (zN : Nat → Nat) (zdf : Nat → List zV) (slen : Nat → Option Int32) (prog : Nat → Option zE) (scr : List zV) (d : Nat) : zK :=
  Nat.rec (fun _ _ _ _ => false) (fun _ ih j vs h post => match prog j with
    | some E => Nat.ble (zsum vs) (zEm E) && zrun zN zdf slen prog E scr (zEc E) (zEs E) ih (fun _ _ => false) post 20000 (0, zarg 0 vs, [], h, 0, 0)
    | none => false) d
end
section
def zg (ρ : Nat → Option Nat) : zV → Value → Prop
  | .inl (.int x), v => v = .int x
  | .inl (.long x), v => v = .long x
  | .inl .null, v => v = .null
  | .inl (.ref k), v => ∃ a : Nat, ρ k = some a ∧ v = .ref a
  | .inl (.float _), _ => False
  | .inl (.double _), _ => False
  | .inl (.retAddr _), _ => False
  | .inr (false, lo, hi), v => ∃ x : Int32, v = .int x ∧ lo ≤ x.toInt ∧ x.toInt ≤ hi
  | .inr (true, lo, hi), v => ∃ x : Int64, v = .long x ∧ lo ≤ x.toInt ∧ x.toInt ≤ hi
theorem zg_I {ρ : Nat → Option Nat} {v : zV} {w : Value} (h : zg ρ v w) (hi : zisI v = true) : ∃ x : Int32, w = .int x ∧ zlo v ≤ x.toInt ∧ x.toInt ≤ zhi v := by
  rcases v with (x | x | x | x | _ | x | x) | ⟨_ | _, lo, hi2⟩ <;> simp only [zisI, Bool.false_eq_true] at hi
  · exact ⟨x, h, Int.le_refl _, Int.le_refl _⟩
  · exact h
theorem zg_L {ρ : Nat → Option Nat} {v : zV} {w : Value} (h : zg ρ v w) (hi : zisL v = true) : ∃ x : Int64, w = .long x ∧ zlo v ≤ x.toInt ∧ x.toInt ≤ zhi v := by
  rcases v with (x | x | x | x | _ | x | x) | ⟨_ | _, lo, hi2⟩ <;> simp only [zisL, Bool.false_eq_true] at hi
  · exact ⟨x, h, Int.le_refl _, Int.le_refl _⟩
  · exact h
theorem zg_R {ρ : Nat → Option Nat} {v : zV} {w : Value} (h : zg ρ v w) (hi : zisR v = true) : (v = .inl .null ∧ w = .null) ∨ ∃ k a : Nat, v = .inl (.ref k) ∧ ρ k = some a ∧ w = .ref a := by
  rcases v with (x | x | x | x | _ | x | x) | ⟨_ | _, lo, hi2⟩ <;> simp only [zisR, Bool.false_eq_true] at hi
  · exact Or.inl ⟨rfl, h⟩
  · obtain ⟨a, h1, h2⟩ := h
    exact Or.inr ⟨x, a, rfl, h1, h2⟩
theorem zg_cat {ρ : Nat → Option Nat} {v : zV} {w : Value} (h : zg ρ v w) : w.category = zcat v := by
  rcases v with (x | x | x | x | _ | x | x) | ⟨_ | _, lo, hi2⟩
  · rw [show w = .int x from h]; rfl
  · rw [show w = .long x from h]; rfl
  · exact h.elim
  · exact h.elim
  · rw [show w = .null from h]; rfl
  · obtain ⟨a, -, h2⟩ := h
    rw [h2]; rfl
  · exact h.elim
  · obtain ⟨x, h2, -⟩ := h
    rw [h2]; rfl
  · obtain ⟨x, h2, -⟩ := h
    rw [h2]; rfl
theorem zg_mono {ρ ρ' : Nat → Option Nat} (hm : ∀ k a : Nat, ρ k = some a → ρ' k = some a) {v : zV} {w : Value} (h : zg ρ v w) : zg ρ' v w := by
  rcases v with (x | x | x | x | _ | x | x) | ⟨_ | _, lo, hi2⟩ <;> first | exact h | (obtain ⟨a, h1, h2⟩ := h; exact ⟨a, hm _ _ h1, h2⟩)
theorem zg_I0 (ρ : Nat → Option Nat) (x : Int32) : zg ρ zI0 (.int x) := by
  refine ⟨x, rfl, ?_, ?_⟩
  · have := x.le_toInt
    simpa using this
  · have := x.toInt_lt
    have h2 : x.toInt < 2147483648 := by simpa using this
    omega
theorem zg_L0 (ρ : Nat → Option Nat) (x : Int64) : zg ρ zL0 (.long x) := by
  refine ⟨x, rfl, ?_, ?_⟩
  · have := x.le_toInt
    simpa using this
  · have := x.toInt_lt
    have h2 : x.toInt < 9223372036854775808 := by simpa using this
    omega
theorem zmk_g {ρ : Nat → Option Nat} {lo hi : Int} {x : Int32} (h1 : lo ≤ x.toInt) (h2 : x.toInt ≤ hi) : zg ρ (zmk lo hi) (.int x) := by
  unfold zmk
  split
  · next h =>
    have e : x.toInt = lo := by omega
    show Value.int x = Value.int (Int32.ofInt lo)
    rw [← e, Int32.ofInt_toInt]
  · exact ⟨x, rfl, h1, h2⟩
def zL2 (ρ : Nat → Option Nat) : List zV → List Value → Prop
  | [], [] => True
  | a :: l, v :: vs => zg ρ a v ∧ zL2 ρ l vs
  | _, _ => False
theorem zL2_len {ρ : Nat → Option Nat} : ∀ {l : List zV} {vs : List Value}, zL2 ρ l vs → l.length = vs.length
  | [], [], _ => rfl
  | _ :: _, _ :: _, h => by simp only [List.length_cons]; rw [zL2_len h.2]
  | [], _ :: _, h => h.elim
  | _ :: _, [], h => h.elim
theorem zL2_mono {ρ ρ' : Nat → Option Nat} (hm : ∀ k a : Nat, ρ k = some a → ρ' k = some a) : ∀ {l : List zV} {vs : List Value}, zL2 ρ l vs → zL2 ρ' l vs
  | [], [], _ => trivial
  | _ :: _, _ :: _, h => ⟨zg_mono hm h.1, zL2_mono hm h.2⟩
  | [], _ :: _, h => h.elim
  | _ :: _, [], h => h.elim
theorem zL2_cons {ρ : Nat → Option Nat} {a : zV} {l : List zV} {vs : List Value} (h : zL2 ρ (a :: l) vs) : ∃ v vs', vs = v :: vs' ∧ zg ρ a v ∧ zL2 ρ l vs' := by
  cases vs with
  | nil => exact h.elim
  | cons v vs' => exact ⟨v, vs', rfl, h.1, h.2⟩
theorem zL2_nil {ρ : Nat → Option Nat} {vs : List Value} (h : zL2 ρ [] vs) : vs = [] := by
  cases vs with
  | nil => rfl
  | cons v vs' => exact h.elim
theorem zL2_take {ρ : Nat → Option Nat} : ∀ (n : Nat) {l : List zV} {vs : List Value}, zL2 ρ l vs → zL2 ρ (l.take n) (vs.take n)
  | 0, _, _, _ => by simp only [List.take_zero]; trivial
  | n + 1, [], [], _ => trivial
  | n + 1, _ :: _, _ :: _, h => ⟨h.1, zL2_take n h.2⟩
  | n + 1, [], _ :: _, h => h.elim
  | n + 1, _ :: _, [], h => h.elim
theorem zL2_drop {ρ : Nat → Option Nat} : ∀ (n : Nat) {l : List zV} {vs : List Value}, zL2 ρ l vs → zL2 ρ (l.drop n) (vs.drop n)
  | 0, _, _, h => h
  | n + 1, [], [], _ => trivial
  | n + 1, _ :: _, _ :: _, h => zL2_drop n h.2
  | n + 1, [], _ :: _, h => h.elim
  | n + 1, _ :: _, [], h => h.elim
theorem zL2_app {ρ : Nat → Option Nat} : ∀ {l l2 : List zV} {vs vs2 : List Value}, zL2 ρ l vs → zL2 ρ l2 vs2 → zL2 ρ (l ++ l2) (vs ++ vs2)
  | [], _, [], _, _, h2 => h2
  | _ :: _, _, _ :: _, _, h, h2 => ⟨h.1, zL2_app h.2 h2⟩
  | [], _, _ :: _, _, h, _ => h.elim
  | _ :: _, _, [], _, h, _ => h.elim
theorem zL2_rev {ρ : Nat → Option Nat} : ∀ {l : List zV} {vs : List Value}, zL2 ρ l vs → zL2 ρ l.reverse vs.reverse
  | [], [], _ => trivial
  | a :: l, v :: vs, h => by
    rw [List.reverse_cons, List.reverse_cons]
    exact zL2_app (zL2_rev h.2) ⟨h.1, trivial⟩
  | [], _ :: _, h => h.elim
  | _ :: _, [], h => h.elim
theorem zL2_get {ρ : Nat → Option Nat} : ∀ (n : Nat) {l : List zV} {vs : List Value} {a : zV}, zL2 ρ l vs → l[n]? = some a → ∃ v, vs[n]? = some v ∧ zg ρ a v
  | _, [], _, _, _, h => by simp at h
  | 0, _ :: _, _ :: _, _, h, h2 => by
    simp only [List.getElem?_cons_zero, Option.some.injEq] at h2
    subst h2
    exact ⟨_, rfl, h.1⟩
  | n + 1, _ :: _, _ :: _, _, h, h2 => by
    simp only [List.getElem?_cons_succ] at h2 ⊢
    exact zL2_get n h.2 h2
  | _, _ :: _, [], _, h, _ => h.elim
theorem zL2_set {ρ : Nat → Option Nat} {a : zV} {v : Value} (hg : zg ρ a v) : ∀ (n : Nat) {l : List zV} {vs : List Value}, zL2 ρ l vs → zL2 ρ (l.set n a) (vs.set n v)
  | _, [], [], _ => trivial
  | 0, _ :: _, _ :: _, h => ⟨hg, h.2⟩
  | n + 1, _ :: _, _ :: _, h => ⟨h.1, zL2_set hg n h.2⟩
  | _, [], _ :: _, h => h.elim
  | _, _ :: _, [], h => h.elim
theorem zL2_sum {ρ : Nat → Option Nat} : ∀ {l : List zV} {vs : List Value}, zL2 ρ l vs → (vs.map fun v => v.category).sum = zsum l
  | [], [], _ => rfl
  | _ :: _, _ :: _, h => by
    simp only [List.map_cons, List.sum_cons, zsum]
    rw [zg_cat h.1, zL2_sum h.2]
  | [], _ :: _, h => h.elim
  | _ :: _, [], h => h.elim
def zLo (ρ : Nat → Option Nat) (L : zL) (ls : Array Slot) : Prop := ∀ q ∈ L, ∃ v : Value, ls[q.1]? = some (.val v) ∧ zg ρ q.2 v
theorem zLo_mono {ρ ρ' : Nat → Option Nat} (hm : ∀ k a : Nat, ρ k = some a → ρ' k = some a) {L : zL} {ls : Array Slot} (h : zLo ρ L ls) : zLo ρ' L ls := fun q hq => by
  obtain ⟨v, h1, h2⟩ := h q hq
  exact ⟨v, h1, zg_mono hm h2⟩
theorem zLo_get {ρ : Nat → Option Nat} {L : zL} {ls : Array Slot} (h : zLo ρ L ls) {i : Nat} {a : zV} (hg : zget L i = some a) : ∃ v : Value, ls[i]? = some (.val v) ∧ zg ρ a v := by
  unfold zget at hg
  split at hg
  · next q hq =>
    cases hg
    have h1 := List.mem_of_find?_eq_some hq
    have h0 := List.find?_some hq
    have h2 : q.1 = i := Nat.eq_of_beq_eq_true h0
    obtain ⟨v, h3, h4⟩ := h q h1
    exact ⟨v, by rw [← h2]; exact h3, h4⟩
  · cases hg
theorem z_beq (a b : Nat) : Nat.beq a b = (a == b) := by
  rw [Bool.eq_iff_iff]
  simp [Nat.beq_eq]
def zslv : Option Slot → Value
  | some (Slot.val v) => v
  | _ => .null
def zconc (L : zL) (ls : Array Slot) : List (Nat × Value) := L.map (fun q => (q.1, zslv ls[q.1]?))
theorem zconc_has {ρ : Nat → Option Nat} {L : zL} {ls : Array Slot} {nL : Nat} (hl : lv_has ls nL []) (h : zLo ρ L ls) : lv_has ls nL (zconc L ls) := by
  refine ⟨hl.1, hl.2.1, fun q hq => ?_⟩
  obtain ⟨r, hr, rfl⟩ := List.mem_map.mp hq
  obtain ⟨v, h1, -⟩ := h r hr
  show ls[r.1]? = some (.val (zslv ls[r.1]?))
  rw [h1]
  rfl
theorem zconc_mem {ρ : Nat → Option Nat} {L : zL} {ls : Array Slot} (h : zLo ρ L ls) {q : Nat × zV} (hq : q ∈ L) : ∃ v : Value, (q.1, v) ∈ zconc L ls ∧ zg ρ q.2 v := by
  obtain ⟨v, h1, h2⟩ := h q hq
  refine ⟨v, List.mem_map.mpr ⟨q, hq, ?_⟩, h2⟩
  rw [h1]
  rfl
theorem zLo_st1 {ρ : Nat → Option Nat} {L : zL} {ls ls' : Array Slot} {nL i : Nat} {a : zV} {v : Value} (h : zLo ρ L ls) (hg : zg ρ a v)
    (hl : lv_has ls' nL ((i, v) :: (zconc L ls).filter (fun q => !(q.1 == i) && !(q.1 + 1 == i && q.2.category == 2)))) : zLo ρ (zst1 L i a) ls' := by
  intro q hq
  rcases List.mem_cons.mp hq with rfl | hq
  · exact ⟨v, hl.2.2 (i, v) List.mem_cons_self, hg⟩
  · obtain ⟨h1, h2⟩ := List.mem_filter.mp hq
    obtain ⟨w, h3, h4⟩ := zconc_mem h h1
    refine ⟨w, hl.2.2 (q.1, w) (List.mem_cons_of_mem _ (List.mem_filter.mpr ⟨h3, ?_⟩)), h4⟩
    have hc := zg_cat h4
    rw [hc]
    simp only [z_beq] at h2
    exact h2
theorem zLo_st2 {ρ : Nat → Option Nat} {L : zL} {ls ls' : Array Slot} {nL i : Nat} {a : zV} {v : Value} (h : zLo ρ L ls) (hg : zg ρ a v)
    (hl : lv_has ls' nL ((i, v) :: (zconc L ls).filter (fun q => !(q.1 == i) && (!(q.1 == i + 1) && !(q.1 + 1 == i && q.2.category == 2))))) : zLo ρ (zst2 L i a) ls' := by
  intro q hq
  rcases List.mem_cons.mp hq with rfl | hq
  · exact ⟨v, hl.2.2 (i, v) List.mem_cons_self, hg⟩
  · obtain ⟨h1, h2⟩ := List.mem_filter.mp hq
    obtain ⟨w, h3, h4⟩ := zconc_mem h h1
    refine ⟨w, hl.2.2 (q.1, w) (List.mem_cons_of_mem _ (List.mem_filter.mpr ⟨h3, ?_⟩)), h4⟩
    have hc := zg_cat h4
    rw [hc]
    simp only [z_beq] at h2
    exact h2
theorem zLo_arg {ρ : Nat → Option Nat} {ls : Array Slot} {nL : Nat} : ∀ (i : Nat) {l : List zV} {vs : List Value}, zL2 ρ l vs → (∀ q ∈ lv_args i vs, ls[q.1]? = some (.val q.2)) → zLo ρ (zarg i l) ls
  | _, [], [], _, _ => fun q hq => by cases hq
  | i, a :: l, v :: vs, h, hl => by
    intro q hq
    rcases List.mem_cons.mp hq with rfl | hq
    · exact ⟨v, hl (i, v) List.mem_cons_self, h.1⟩
    · refine zLo_arg (nL := nL) (if zcat a = 2 then i + 2 else i + 1) h.2 (fun r hr => hl r (List.mem_cons_of_mem _ ?_)) q hq
      rw [← zg_cat h.1] at hr
      exact hr
  | _, [], _ :: _, h, _ => h.elim
  | _, _ :: _, [], h, _ => h.elim
def zrho (ws : va_W) (ext : Nat → Option Nat) (k : Nat) : Option Nat := if k < 1000000 then (ws[k]?).map (fun q => q.1) else ext k
theorem zrho_set {ws : va_W} {ext : Nat → Option Nat} {p a : Nat} {e0 e : va_E} (h : ws[p]? = some (a, e0)) : zrho (ws.set p (a, e)) ext = zrho ws ext := by
  funext k
  unfold zrho
  split
  · by_cases hk : k = p
    · subst hk
      rw [List.getElem?_set_self (List.getElem?_eq_some_iff.mp h).1, h]
      rfl
    · rw [List.getElem?_set_ne (Ne.symm hk)]
  · rfl
theorem zrho_app {ws w2 : va_W} {ext : Nat → Option Nat} {k a : Nat} (h : zrho ws ext k = some a) : zrho (ws ++ w2) ext k = some a := by
  unfold zrho at h ⊢
  split
  · next hk =>
    rw [if_pos hk] at h
    obtain ⟨q, h1, h2⟩ := Option.map_eq_some_iff.mp h
    rw [List.getElem?_append_left (List.getElem?_eq_some_iff.mp h1).1, h1]
    exact congrArg some h2
  · next hk =>
    rw [if_neg hk] at h
    exact h
theorem zrho_at {ws : va_W} {ext : Nat → Option Nat} {k a : Nat} {e : va_E} (hk : k < 1000000) (h : ws[k]? = some (a, e)) : zrho ws ext k = some a := by
  unfold zrho
  rw [if_pos hk, h]
  rfl
def zPre (ws0 ws : va_W) : Prop := ∀ (k : Nat) (q : Nat × va_E), ws0[k]? = some q → ∃ e : va_E, ws[k]? = some (q.1, e)
theorem zPre_rf (ws : va_W) : zPre ws ws := fun _ q h => ⟨q.2, h⟩
theorem zPre_tr {a b c : va_W} (h1 : zPre a b) (h2 : zPre b c) : zPre a c := fun k q h => by
  obtain ⟨e, h3⟩ := h1 k q h
  obtain ⟨e2, h4⟩ := h2 k _ h3
  exact ⟨e2, h4⟩
theorem zPre_app (ws w2 : va_W) : zPre ws (ws ++ w2) := fun k q h => ⟨q.2, by rw [List.getElem?_append_left (List.getElem?_eq_some_iff.mp h).1]; exact h⟩
theorem zPre_set {ws : va_W} {p a : Nat} {e0 e : va_E} (h : ws[p]? = some (a, e0)) : zPre ws (ws.set p (a, e)) := fun k q hk => by
  by_cases hkp : k = p
  · subst hkp
    rw [h] at hk
    cases hk
    exact ⟨e, by rw [List.getElem?_set_self (List.getElem?_eq_some_iff.mp h).1]⟩
  · exact ⟨q.2, by rw [List.getElem?_set_ne (Ne.symm hkp)]; exact hk⟩
theorem zPre_rho {ws ws' : va_W} {ext : Nat → Option Nat} (h : zPre ws ws') : ∀ k a : Nat, zrho ws ext k = some a → zrho ws' ext k = some a := by
  intro k a hk
  unfold zrho at hk ⊢
  split
  · next hlt =>
    rw [if_pos hlt] at hk
    obtain ⟨q, h1, h2⟩ := Option.map_eq_some_iff.mp hk
    obtain ⟨e, h3⟩ := h k q h1
    rw [h3]
    exact congrArg some h2
  · next hlt =>
    rw [if_neg hlt] at hk
    exact hk
def zval (a : (Nat → Int32) ⊕ (Nat → Int64) ⊕ (Nat → UInt32) ⊕ (Nat → UInt64) ⊕ (Nat → Option Nat)) (j : Nat) : Value := match a with
  | .inl f => .int (f j)
  | .inr (.inl f) => .long (f j)
  | .inr (.inr (.inl f)) => .float (f j)
  | .inr (.inr (.inr (.inl f))) => .double (f j)
  | .inr (.inr (.inr (.inr f))) => va_rf (f j)
def zkd (t : Nat) (a : (Nat → Int32) ⊕ (Nat → Int64) ⊕ (Nat → UInt32) ⊕ (Nat → UInt64) ⊕ (Nat → Option Nat)) : Prop := match t with
  | 0 => ∃ f, a = .inl f
  | 1 => ∃ f, a = .inr (.inl f)
  | _ => ∃ f, a = .inr (.inr (.inr (.inr f)))
def zCell (ρ : Nat → Option Nat) (ct : Nat → ClassId) (c : zC) (e : va_E) : Prop := match e with
  | .inr o => c.1 = o.1 ∧ o.1 < 10 ∧ zL2 ρ c.2 o.2
  | .inl o => ∃ t : Nat, c.1 = 10 + t ∧ t < 5 ∧ o.1 = ct t ∧ c.2.length = o.2.1 ∧ zkd t o.2.2 ∧ ∀ (j : Nat) (a : zV), c.2[j]? = some a → zg ρ a (zval o.2.2 j)
theorem zCell_mono {ρ ρ' : Nat → Option Nat} (hm : ∀ k a : Nat, ρ k = some a → ρ' k = some a) {ct : Nat → ClassId} {c : zC} {e : va_E} (h : zCell ρ ct c e) : zCell ρ' ct c e := by
  cases e with
  | inr o => exact ⟨h.1, h.2.1, zL2_mono hm h.2.2⟩
  | inl o =>
    obtain ⟨t, h1, h2, h3, h4, h5, h6⟩ := h
    exact ⟨t, h1, h2, h3, h4, h5, fun j a hj => zg_mono hm (h6 j a hj)⟩
def zHp (ρ : Nat → Option Nat) (ct : Nat → ClassId) (h : zH) (ws : va_W) : Prop := h.length = ws.length ∧ ∀ (i : Nat) (c : zC) (q : Nat × va_E), h[i]? = some c → ws[i]? = some q → zCell ρ ct c q.2
theorem zHp_mono {ρ ρ' : Nat → Option Nat} (hm : ∀ k a : Nat, ρ k = some a → ρ' k = some a) {ct : Nat → ClassId} {h : zH} {ws : va_W} (hh : zHp ρ ct h ws) : zHp ρ' ct h ws := ⟨hh.1, fun i c q h1 h2 => zCell_mono hm (hh.2 i c q h1 h2)⟩
theorem zHp_get {ρ : Nat → Option Nat} {ct : Nat → ClassId} {h : zH} {ws : va_W} (hh : zHp ρ ct h ws) {i : Nat} {c : zC} (hi : h[i]? = some c) : ∃ (a : Nat) (e : va_E), ws[i]? = some (a, e) ∧ zCell ρ ct c e := by
  have h1 : i < h.length := (List.getElem?_eq_some_iff.mp hi).1
  have h2 : i < ws.length := by rw [← hh.1]; exact h1
  have h3 : ws[i]? = some ws[i] := List.getElem?_eq_getElem h2
  exact ⟨ws[i].1, ws[i].2, h3, hh.2 i c _ hi h3⟩
theorem zHp_set {ρ : Nat → Option Nat} {ct : Nat → ClassId} {h : zH} {ws : va_W} (hh : zHp ρ ct h ws) {i a : Nat} {c : zC} {e : va_E} (he : zCell ρ ct c e) : zHp ρ ct (h.set i c) (ws.set i (a, e)) := by
  refine ⟨by simp only [List.length_set]; exact hh.1, fun j c' q h1 h2 => ?_⟩
  by_cases hj : j = i
  · subst hj
    have l1 : j < h.length := by
      have := (List.getElem?_eq_some_iff.mp h1).1
      simpa using this
    have l2 : j < ws.length := by rw [← hh.1]; exact l1
    rw [List.getElem?_set_self l1] at h1
    rw [List.getElem?_set_self l2] at h2
    cases h1
    cases h2
    exact he
  · rw [List.getElem?_set_ne (Ne.symm hj)] at h1 h2
    exact hh.2 j c' q h1 h2
theorem zHp_app {ρ : Nat → Option Nat} {ct : Nat → ClassId} {h h2 : zH} {ws w2 : va_W} (hh : zHp ρ ct h ws) (hh2 : zHp ρ ct h2 w2) : zHp ρ ct (h ++ h2) (ws ++ w2) := by
  refine ⟨by simp only [List.length_append]; rw [hh.1, hh2.1], fun j c q h3 h4 => ?_⟩
  by_cases hj : j < h.length
  · rw [List.getElem?_append_left hj] at h3
    rw [List.getElem?_append_left (by rw [← hh.1]; exact hj)] at h4
    exact hh.2 j c q h3 h4
  · rw [List.getElem?_append_right (by omega)] at h3
    rw [List.getElem?_append_right (by rw [← hh.1]; omega), ← hh.1] at h4
    exact hh2.2 _ c q h3 h4
theorem zHp_one {ρ : Nat → Option Nat} {ct : Nat → ClassId} {c : zC} {a : Nat} {e : va_E} (he : zCell ρ ct c e) : zHp ρ ct [c] [(a, e)] := by
  refine ⟨rfl, fun j c' q h1 h2 => ?_⟩
  have h0 : j < 1 := (List.getElem?_eq_some_iff.mp h1).1
  rw [show j = 0 by omega] at h1 h2
  cases h1
  cases h2
  exact he
end
section
def zNf : Nat → Nat
  | 0 => 3
  | 1 => 17
  | 2 => 6
  | 3 => 7
  | 4 => 8
  | _ => 41
def zTf : Nat → u_T
  | 0 => TX0
  | 1 => TX1
  | 2 => TX2
  | 3 => TX3
  | 4 => TX4
  | _ => TX5
def zRf : Nat → String
  | 0 => RX0
  | 1 => RX1
  | 2 => RX2
  | 3 => RX3
  | 4 => RX4
  | _ => RX5
def zTy : Nat → Nat → FieldType
  | 0 => tyX0
  | 1 => tyX1
  | 2 => tyX2
  | 3 => tyX3
  | 4 => tyX4
  | _ => tyX5
def zdfl (a : Nat) : List zV := (List.range (zNf a)).map (fun k => zdef (zTy a k))
theorem z_cl {a : Nat} (h : a < 6) : vwCl[a]? = some (zRf a, zTf a, zNf a) := by
  match a, h with
  | 0, _ => rfl
  | 1, _ => rfl
  | 2, _ => rfl
  | 3, _ => rfl
  | 4, _ => rfl
  | 5, _ => rfl
theorem z_nm {a : Nat} (h : a < 6) : ∀ i, i < zNf a → ∀ j, j < zNf a → i ≠ j → (zTf a i).2.1 ≠ (zTf a j).2.1 := by
  match a, h with
  | 0, _ => exact nmX0
  | 1, _ => exact nmX1
  | 2, _ => exact nmX2
  | 3, _ => exact nmX3
  | 4, _ => exact nmX4
  | 5, _ => exact nmX5
theorem z_ty {a : Nat} (h : a < 6) : ∀ k, k < zNf a → parseFieldDescriptor (zTf a k).2.2.1 = some (zTy a k) := by
  match a, h with
  | 0, _ => exact tyX0_ok
  | 1, _ => exact tyX1_ok
  | 2, _ => exact tyX2_ok
  | 3, _ => exact tyX3_ok
  | 4, _ => exact tyX4_ok
  | 5, _ => exact tyX5_ok
def zuws : List Cond := u_ws RX0 TX0 3 ++ (u_ws RX1 TX1 17 ++ (u_ws RX2 TX2 6 ++ (u_ws RX3 TX3 7 ++ (u_ws RX4 TX4 8 ++ u_ws RX5 TX5 41))))
theorem z_uws {a : Nat} (h : a < 6) : ∀ w ∈ u_ws (zRf a) (zTf a) (zNf a), w ∈ zuws := by
  intro w hw
  unfold zuws
  match a, h with
  | 0, _ => exact List.mem_append_left _ hw
  | 1, _ => exact List.mem_append_right _ (List.mem_append_left _ hw)
  | 2, _ => exact List.mem_append_right _ (List.mem_append_right _ (List.mem_append_left _ hw))
  | 3, _ => exact List.mem_append_right _ (List.mem_append_right _ (List.mem_append_right _ (List.mem_append_left _ hw)))
  | 4, _ => exact List.mem_append_right _ (List.mem_append_right _ (List.mem_append_right _ (List.mem_append_right _ (List.mem_append_left _ hw))))
  | 5, _ => exact List.mem_append_right _ (List.mem_append_right _ (List.mem_append_right _ (List.mem_append_right _ (List.mem_append_right _ hw))))
def ztyA : Nat → FieldType
  | 0 => .int
  | 1 => .long
  | 2 => .object RX0
  | 3 => .array .long
  | _ => .array .int
def ztys (ct : Nat → ClassId) : List (ClassId × FieldType) := [(ct 0, .int), (ct 1, .long), (ct 2, .object RX0), (ct 3, .array .long), (ct 4, .array .int)]
theorem z_tys (ct : Nat → ClassId) {t : Nat} (h : t < 5) : (ztys ct)[t]? = some (ct t, ztyA t) := by
  match t, h with
  | 0, _ => rfl
  | 1, _ => rfl
  | 2, _ => rfl
  | 3, _ => rfl
  | 4, _ => rfl
def zlen : Instr → Nat
  | .bipush _ => 2
  | .sipush _ => 3
  | .iload _ => 2
  | .lload _ => 2
  | .aload _ => 2
  | .istore _ => 2
  | .lstore _ => 2
  | .astore _ => 2
  | .iinc _ _ => 3
  | .ifCond _ _ => 3
  | .if_icmp _ _ => 3
  | .goto _ => 3
  | .ifnull _ => 3
  | .ifnonnull _ => 3
  | .getfield _ => 3
  | .putfield _ => 3
  | .new _ => 3
  | .newarray _ => 2
  | .anewarray _ => 3
  | .multianewarray _ _ => 4
  | .ldc _ => 2
  | .ldc_w _ => 3
  | .ldc2_w _ => 3
  | .invokevirtual _ => 3
  | .invokespecial _ => 3
  | .invokestatic _ => 3
  | _ => 1
def zdec (bs : ByteArray) (pc : Nat) (ins : Instr) : Bool := match ins with
  | .tableswitch _ _ _ _ => (match decode bs pc with
    | .ok q => decide (q.1 = ins)
    | .error _ => false)
  | _ => decide (decode bs pc = .ok (ins, zlen ins))
abbrev zySL : MethodName := ⟨"java/lang/String", "length", "()I"⟩
abbrev zyOI : MethodName := objectInit
def zarrT : Nat → FieldType
  | 1 => .long
  | _ => .int
def zwords (prog : Nat → Option zE) (own : String) (ins : Instr) (cv : zV) (a b : Nat) : List Cond := match ins with
  | .getfield ix => [.fieldLink own ix (zRf a) (zTf a b).2.1 (zTf a b).2.2.1]
  | .putfield ix => [.fieldLink own ix (zRf a) (zTf a b).2.1 (zTf a b).2.2.1]
  | .new ix => [.classLink own ix (zRf a), .instantiable (zRf a) (zNf a), .initialized (zRf a)]
  | .ldc ix => (match cv with
    | .inl (.int x) => [.constant own ix x]
    | _ => [])
  | .ldc_w ix => (match cv with
    | .inl (.int x) => [.constant own ix x]
    | _ => [])
  | .ldc2_w ix => (match cv with
    | .inl (.long x) => [.constantLong own ix x]
    | _ => [])
  | .newarray t => [.arrayClass (newarray.typeOf t)]
  | .anewarray ix => [.classLink own ix RX0]
  | .multianewarray ix _ => [.classLink own ix ("[" ++ (FieldType.array (zarrT a)).toString), .arrayClass (zarrT a)]
  | .invokevirtual ix => (match b with
    | 8 => [.methodLink own ix zySL]
    | _ => (match prog a with
      | some E => [.methodLink own ix E.1]
      | none => []))
  | .invokespecial ix => (match b with
    | 6 => [.methodLink own ix zyOI]
    | 1 => []
    | _ => (match prog a with
      | some E => [.methodLink own ix E.1]
      | none => []))
  | .invokestatic ix => (match b with
    | 7 => [.methodLink own ix arraycopyName]
    | 9 => [.methodLink own ix Lib.Math.min.name]
    | 1 => []
    | _ => (match prog a with
      | some E => [.methodLink own ix E.1]
      | none => []))
  | _ => []
def zhost : String := "EndsInFive"
def zwordsN (prog : Nat → Option zE) (own : String) (ins : Instr) (a b : Nat) : List Cond := match ins, b with
  | .invokespecial ix, 1 => (match prog a with
    | some E => [.methodLinkNest own ix E.1 zhost]
    | none => [])
  | .invokestatic ix, 1 => (match prog a with
    | some E => [.methodLinkNest own ix E.1 zhost]
    | none => [])
  | _, _ => []
def zmwords (E : zE) : List Cond := if zEk E = 99 then [.code E.1 E.2.1 E.2.2.1 E.2.2.2.1, .static E.1, .initialized E.1.cls] else if E.1.name = "<init>" then [.code E.1 E.2.1 E.2.2.1 E.2.2.2.1, .instanceMethod E.1, .initialized E.1.cls] else [.code E.1 E.2.1 E.2.2.1 E.2.2.2.1, .instanceMethod E.1, .selects E.1.cls E.1 E.1, .initialized E.1.cls]
def zkt : Nat → FieldType → Bool
  | 0, .int => true
  | 1, .long => true
  | 2, .object _ => true
  | 2, .array _ => true
  | 3, .boolean => true
  | _, _ => false
def zside (prog : Nat → Option zE) (y : MethodName) (zst : List (String × Nat × String × Nat)) (ins : Instr) (cv : zV) (a b c : Nat) : Bool := match ins with
  | .getfield _ => Nat.blt a 6 && (Nat.blt b (zNf a) && decide ((zTf a b).1 = zRf a))
  | .putfield _ => Nat.blt a 6 && (Nat.blt b (zNf a) && (decide ((zTf a b).1 = zRf a) && (zkt c (zTy a b) && (!(zTf a b).2.2.2 || (decide (y.name = "<init>") && decide (zRf a = y.cls))))))
  | .new _ => Nat.blt a 6
  | .ldc ix => (match cv with
    | .inl (.int _) => true
    | .inl (.ref k) => Nat.ble 1000000 k && zst.any (fun q => decide (q.1 = y.cls) && (Nat.beq q.2.1 ix && Nat.beq q.2.2.2 (k - 1000000)))
    | _ => false)
  | .ldc_w _ => (match cv with
    | .inl (.int _) => true
    | _ => false)
  | .ldc2_w _ => (match cv with
    | .inl (.long _) => true
    | _ => false)
  | .multianewarray _ d => Nat.beq d 2 && Nat.ble a 1
  | .invokevirtual _ => Nat.beq b 8 || (Nat.beq b 0 && (match prog a with
    | some E => Nat.blt (zEk E) 6 && (decide (E.1.name ≠ "<init>"))
    | none => false))
  | .invokespecial _ => Nat.beq b 6 || (Nat.ble b 1 && (match prog a with
    | some E => Nat.blt (zEk E) 6 && (decide (E.1.name = "<init>"))
    | none => false))
  | .invokestatic _ => Nat.beq b 7 || Nat.beq b 9 || (Nat.ble b 1 && (match prog a with
    | some E => Nat.beq (zEk E) 99
    | none => false))
  | _ => true
def zmside (E : zE) : Bool := plainName E.1.cls && (decide ((parseMethodDescriptor E.1.desc).map (fun d => d.parameters.length) = some (zEp E)) && (decide (E.1.cls ≠ "java/lang/invoke/MethodHandle") && (decide (E.1.cls ≠ "java/lang/invoke/VarHandle") && (Nat.ble (zEm E) 40 && (if zEk E = 99 then true else Nat.blt (zEk E) 6 && (decide (E.1.cls = zRf (zEk E)) && (if E.1.name = "<init>" then decide (E.2.2.2.1 = none) else true)))))))
def zOkC (prog : Nat → Option zE) (zst : List (String × Nat × String × Nat)) (TG TN : List Cond) (E : zE) : Prop := ∀ (pc : Nat) (i : zI), zft (zEd E) pc = some i → zdec E.2.1 pc i.1 = true ∧ zside prog E.1 zst i.1 i.2.1 i.2.2.1 i.2.2.2.1 i.2.2.2.2.1 = true ∧ (∀ w ∈ zwords prog E.1.cls i.1 i.2.1 i.2.2.1 i.2.2.2.1, w ∈ TG) ∧ (∀ w ∈ zwordsN prog E.1.cls i.1 i.2.2.1 i.2.2.2.1, w ∈ TN)
def zOkP (prog : Nat → Option zE) (zst : List (String × Nat × String × Nat)) (TG TN : List Cond) : Prop := ∀ (j : Nat) (E : zE), prog j = some E → zOkC prog zst TG TN E ∧ zmside E = true ∧ ∀ w ∈ zmwords E, w ∈ TG
end
section
theorem z_blt {a b : Nat} (h : Nat.blt a b = true) : a < b := by simpa [Nat.blt_eq] using h
theorem z_ble {a b : Nat} (h : Nat.ble a b = true) : a ≤ b := Nat.le_of_ble_eq_true h
theorem z_and {a b : Bool} (h : (a && b) = true) : a = true ∧ b = true := by simpa using h
theorem zg_int (ρ : Nat → Option Nat) (x : Int32) : zg ρ (.inl (.int x)) (.int x) := rfl
theorem zg_long (ρ : Nat → Option Nat) (x : Int64) : zg ρ (.inl (.long x)) (.long x) := rfl
theorem zg_null (ρ : Nat → Option Nat) : zg ρ (.inl .null) .null := rfl
theorem zld_sp {P : zV → Bool} {L : zL} {i : Nat} {k : zV → Bool} (h : zld P L i k = true) : ∃ v, zget L i = some v ∧ P v = true ∧ k v = true := by
  unfold zld at h
  split at h
  · next v hv => exact ⟨v, hv, (z_and h).1, (z_and h).2⟩
  · cases h
theorem zs1_sp {P : zV → Bool} {L : zL} {nL i : Nat} {st : List zV} {k : zL → List zV → Bool} (h : zs1 P L nL i st k = true) : ∃ v r, st = v :: r ∧ P v = true ∧ i < nL ∧ k (zst1 L i v) r = true := by
  unfold zs1 at h
  split at h
  · next v r => exact ⟨v, r, rfl, (z_and h).1, z_blt (z_and (z_and h).2).1, (z_and (z_and h).2).2⟩
  · cases h
theorem zs2_sp {L : zL} {nL i : Nat} {st : List zV} {k : zL → List zV → Bool} (h : zs2 L nL i st k = true) : ∃ v r, st = v :: r ∧ zisL v = true ∧ i + 1 < nL ∧ k (zst2 L i v) r = true := by
  unfold zs2 at h
  split at h
  · next v r => exact ⟨v, r, rfl, (z_and h).1, z_blt (z_and (z_and h).2).1, (z_and (z_and h).2).2⟩
  · cases h
theorem zL2_2 {ρ : Nat → Option Nat} {a b : zV} {r : List zV} {vs : List Value} (h : zL2 ρ (b :: a :: r) vs) : ∃ y x rc, vs = y :: x :: rc ∧ zg ρ b y ∧ zg ρ a x ∧ zL2 ρ r rc := by
  obtain ⟨y, vs', rfl, h1, h2⟩ := zL2_cons h
  obtain ⟨x, rc, rfl, h3, h4⟩ := zL2_cons h2
  exact ⟨y, x, rc, rfl, h1, h3, h4⟩
theorem zb2_sp {ρ : Nat → Option Nat} {f : Int32 → Int32 → Int32} {st : List zV} {stc : List Value} {k : List zV → Bool} (h : zb2 f st k = true) (hst : zL2 ρ st stc) : ∃ (x y : Int32) (rc : List Value) (v : zV) (r : List zV), stc = .int y :: .int x :: rc ∧ zg ρ v (.int (f x y)) ∧ zL2 ρ r rc ∧ k (v :: r) = true := by
  unfold zb2 at h
  split at h
  · obtain ⟨y, x, rc, rfl, h1, h2, h3⟩ := zL2_2 hst
    cases h1
    cases h2
    exact ⟨_, _, rc, _, _, rfl, zg_int ρ _, h3, h⟩
  · obtain ⟨y, x, rc, rfl, h1, h2, h3⟩ := zL2_2 hst
    obtain ⟨y', rfl, -⟩ := zg_I h1 (z_and (z_and h).2).1
    obtain ⟨x', rfl, -⟩ := zg_I h2 (z_and h).1
    exact ⟨_, _, rc, _, _, rfl, zg_I0 ρ _, h3, (z_and (z_and h).2).2⟩
  · cases h
theorem zml_sp {ρ : Nat → Option Nat} {st : List zV} {stc : List Value} {k : List zV → Bool} (h : zml st k = true) (hst : zL2 ρ st stc) : ∃ (x y : Int32) (rc : List Value) (v : zV) (r : List zV), stc = .int y :: .int x :: rc ∧ zg ρ v (.int (x * y)) ∧ zL2 ρ r rc ∧ k (v :: r) = true := by
  unfold zml at h
  split at h
  · obtain ⟨y, x, rc, rfl, h1, h2, h3⟩ := zL2_2 hst
    cases h1
    cases h2
    exact ⟨_, _, rc, _, _, rfl, zg_int ρ _, h3, h⟩
  · obtain ⟨y, x, rc, rfl, h1, h2, h3⟩ := zL2_2 hst
    obtain ⟨y', rfl, -⟩ := zg_I h1 (z_and h).1
    cases h2
    refine ⟨_, _, rc, _, _, rfl, ?_, h3, (z_and h).2⟩
    split
    · next a0 =>
      rw [a0, Int32.zero_mul]
      exact rfl
    · exact zg_I0 ρ _
  · obtain ⟨y, x, rc, rfl, h1, h2, h3⟩ := zL2_2 hst
    obtain ⟨y', rfl, -⟩ := zg_I h1 (z_and (z_and h).2).1
    obtain ⟨x', rfl, -⟩ := zg_I h2 (z_and h).1
    exact ⟨_, _, rc, _, _, rfl, zg_I0 ρ _, h3, (z_and (z_and h).2).2⟩
  · cases h
theorem zdv_sp {ρ : Nat → Option Nat} {f : Int32 → Int32 → Int32} {st : List zV} {stc : List Value} {k : List zV → Bool} (h : zdv f st k = true) (hst : zL2 ρ st stc) : ∃ (x y : Int32) (rc : List Value) (v : zV) (r : List zV), stc = .int y :: .int x :: rc ∧ ¬ y = 0 ∧ zg ρ v (.int (f x y)) ∧ zL2 ρ r rc ∧ k (v :: r) = true := by
  unfold zdv at h
  split at h
  · obtain ⟨y, x, rc, rfl, h1, h2, h3⟩ := zL2_2 hst
    cases h1
    cases h2
    refine ⟨_, _, rc, _, _, rfl, ?_, zg_int ρ _, h3, (z_and h).2⟩
    have := (z_and h).1
    simpa using this
  · cases h
theorem zb2l_sp {ρ : Nat → Option Nat} {f : Int64 → Int64 → Int64} {st : List zV} {stc : List Value} {k : List zV → Bool} (h : zb2l f st k = true) (hst : zL2 ρ st stc) : ∃ (x y : Int64) (rc : List Value) (v : zV) (r : List zV), stc = .long y :: .long x :: rc ∧ zg ρ v (.long (f x y)) ∧ zL2 ρ r rc ∧ k (v :: r) = true := by
  unfold zb2l at h
  split at h
  · obtain ⟨y, x, rc, rfl, h1, h2, h3⟩ := zL2_2 hst
    cases h1
    cases h2
    exact ⟨_, _, rc, _, _, rfl, zg_long ρ _, h3, h⟩
  · obtain ⟨y, x, rc, rfl, h1, h2, h3⟩ := zL2_2 hst
    obtain ⟨y', rfl, -⟩ := zg_L h1 (z_and (z_and h).2).1
    obtain ⟨x', rfl, -⟩ := zg_L h2 (z_and h).1
    exact ⟨_, _, rc, _, _, rfl, zg_L0 ρ _, h3, (z_and (z_and h).2).2⟩
  · cases h
theorem zshl_sp {ρ : Nat → Option Nat} {f : Int64 → Int32 → Int64} {st : List zV} {stc : List Value} {k : List zV → Bool} (h : zshl f st k = true) (hst : zL2 ρ st stc) : ∃ (x : Int64) (y : Int32) (rc : List Value) (v : zV) (r : List zV), stc = .int y :: .long x :: rc ∧ zg ρ v (.long (f x y)) ∧ zL2 ρ r rc ∧ k (v :: r) = true := by
  unfold zshl at h
  split at h
  · obtain ⟨y, x, rc, rfl, h1, h2, h3⟩ := zL2_2 hst
    cases h1
    cases h2
    exact ⟨_, _, rc, _, _, rfl, zg_long ρ _, h3, h⟩
  · obtain ⟨y, x, rc, rfl, h1, h2, h3⟩ := zL2_2 hst
    obtain ⟨y', rfl, -⟩ := zg_I h1 (z_and (z_and h).2).1
    obtain ⟨x', rfl, -⟩ := zg_L h2 (z_and h).1
    exact ⟨_, _, rc, _, _, rfl, zg_L0 ρ _, h3, (z_and (z_and h).2).2⟩
  · cases h
theorem zof_sp {pc : Nat} {off : Int} {k : Nat → Bool} (h : zof pc off k = true) : ∃ t : Nat, (pc : Int) + off = (t : Int) ∧ k t = true := by
  unfold zof at h
  split at h
  · next t ht => exact ⟨t, ht, h⟩
  · cases h
theorem zbr_t {o : Option Bool} {kt kf : Bool} (h : zbr o kt kf = true) (ho : o ≠ some false) : kt = true := by
  unfold zbr at h
  split at h
  · exact h
  · exact absurd rfl ho
  · exact (z_and h).1
theorem zbr_f {o : Option Bool} {kt kf : Bool} (h : zbr o kt kf = true) (ho : o ≠ some true) : kf = true := by
  unfold zbr at h
  split at h
  · exact absurd rfl ho
  · exact h
  · exact (z_and h).2
theorem znot_t {o : Option Bool} (h : o ≠ some true) : znot o ≠ some false := by
  intro q
  unfold znot at q
  split at q
  · next b => cases b <;> first | exact h rfl | cases q
  · cases q
theorem znot_f {o : Option Bool} (h : o ≠ some false) : znot o ≠ some true := by
  intro q
  unfold znot at q
  split at q
  · next b => cases b <;> first | exact h rfl | cases q
  · cases q
theorem zlt_t {a b : zV} {x y : Int} (h1 : zlo a ≤ x) (h3 : zlo b ≤ y ∧ y ≤ zhi b) (h : x < y) : zlt a b ≠ some false := by
  intro q
  unfold zlt at q
  split at q
  · cases q
  · split at q
    · omega
    · cases q
theorem zlt_f {a b : zV} {x y : Int} (h2 : x ≤ zhi a) (h3 : zlo b ≤ y) (h : ¬ x < y) : zlt a b ≠ some true := by
  intro q
  unfold zlt at q
  split at q
  · omega
  · split at q
    · cases q
    · cases q
theorem zeq_t {a b : zV} {x y : Int} (h1 : zlo a ≤ x ∧ x ≤ zhi a) (h3 : zlo b ≤ y ∧ y ≤ zhi b) (h : x = y) : zeq a b ≠ some false := by
  intro q
  unfold zeq at q
  split at q
  · omega
  · split at q
    · cases q
    · cases q
theorem zeq_f {a b : zV} {x y : Int} (h1 : zlo a ≤ x ∧ x ≤ zhi a) (h3 : zlo b ≤ y ∧ y ≤ zhi b) (h : ¬ x = y) : zeq a b ≠ some true := by
  intro q
  unfold zeq at q
  split at q
  · cases q
  · split at q
    · omega
    · cases q
def zop : ClassFile.Cond → Int32 → Int32 → Prop
  | .eq, x, y => x = y
  | .ne, x, y => ¬ x = y
  | .lt, x, y => x < y
  | .ge, x, y => y ≤ x
  | .gt, x, y => y < x
  | .le, x, y => x ≤ y
theorem zcond_t {a b : zV} {x y : Int32} {cd : ClassFile.Cond} (h1 : zlo a ≤ x.toInt ∧ x.toInt ≤ zhi a) (h3 : zlo b ≤ y.toInt ∧ y.toInt ≤ zhi b) (h : zop cd x y) : zcond cd a b ≠ some false := by
  cases cd with
  | eq => exact zeq_t h1 h3 (congrArg Int32.toInt h)
  | ne => exact znot_t (zeq_f h1 h3 (fun q => h (Int32.toInt_inj.mp q)))
  | lt => exact zlt_t h1.1 h3 (Int32.lt_iff_toInt_lt.mp h)
  | ge => exact znot_t (zlt_f h1.2 h3.1 (fun q => by have := Int32.le_iff_toInt_le.mp h; omega))
  | gt => exact zlt_t h3.1 h1 (Int32.lt_iff_toInt_lt.mp h)
  | le => exact znot_t (zlt_f h3.2 h1.1 (fun q => by have := Int32.le_iff_toInt_le.mp h; omega))
theorem zcond_f {a b : zV} {x y : Int32} {cd : ClassFile.Cond} (h1 : zlo a ≤ x.toInt ∧ x.toInt ≤ zhi a) (h3 : zlo b ≤ y.toInt ∧ y.toInt ≤ zhi b) (h : ¬ zop cd x y) : zcond cd a b ≠ some true := by
  cases cd with
  | eq => exact zeq_f h1 h3 (fun q => h (Int32.toInt_inj.mp q))
  | ne => exact znot_f (zeq_t h1 h3 (congrArg Int32.toInt (Classical.not_not.mp h)))
  | lt => exact zlt_f h1.2 h3.1 (fun q => h (Int32.lt_iff_toInt_lt.mpr q))
  | ge => exact znot_f (zlt_t h1.1 h3 (by have h4 : ¬ y.toInt ≤ x.toInt := fun q => h (Int32.le_iff_toInt_le.mpr q); omega))
  | gt => exact zlt_f h3.2 h1.1 (fun q => h (Int32.lt_iff_toInt_lt.mpr q))
  | le => exact znot_f (zlt_t h3.1 h1 (by have h4 : ¬ x.toInt ≤ y.toInt := fun q => h (Int32.le_iff_toInt_le.mpr q); omega))
theorem zrow_sp {h : zH} {q t : Nat} {k : List zV → Bool} (hh : zrow h q t k = true) : ∃ vs, h[q]? = some (t, vs) ∧ q < 1000000 ∧ k vs = true := by
  unfold zrow at hh
  split at hh
  · next c hc =>
    obtain ⟨c1, c2⟩ := c
    have h1 := Nat.eq_of_beq_eq_true (z_and (z_and hh).2).1
    exact ⟨c2, by rw [hc]; exact congrArg (fun z => some (z, c2)) h1, z_blt (z_and hh).1, (z_and (z_and hh).2).2⟩
  · cases hh
theorem z_nn {i : Int32} (h : ¬ i < 0) : i.toInt = (i.toNatClampNeg : Int) := by
  have hz0 : (0 : Int) ≤ i.toInt := by
    have := Int32.not_lt.mp h
    simpa using Int32.le_iff_toInt_le.mp this
  show i.toInt = ((i.toInt.toNat : Nat) : Int)
  omega
theorem zel_sp {vs : List zV} {i : Int32} {k : zV → Bool} (h : zel vs i k = true) : ∃ v, vs[i.toNatClampNeg]? = some v ∧ vp_in i vs.length ∧ k v = true := by
  unfold zel at h
  split at h
  · cases h
  · next hi =>
    split at h
    · next v hv =>
      refine ⟨v, hv, ?_, h⟩
      have := (List.getElem?_eq_some_iff.mp hv).1
      rintro (q | q)
      · exact hi q
      · omega
    · cases h
theorem zix_sp {vs : List zV} {i : Int32} (h : zix vs i = true) : vp_in i vs.length := by
  unfold zix at h
  split at h
  · cases h
  · next hi =>
    have := z_blt h
    rintro (q | q)
    · exact hi q
    · omega
theorem zcmpL_g {ρ : Nat → Option Nat} {a b : zV} {x y : Int64} (h1 : zlo a ≤ x.toInt ∧ x.toInt ≤ zhi a) (h3 : zlo b ≤ y.toInt ∧ y.toInt ≤ zhi b) : zg ρ (zcmpL a b) (.int (lg_cmp x y)) := by
  have key : (y.toInt < x.toInt ∧ (lg_cmp x y).toInt = 1) ∨ (x.toInt = y.toInt ∧ (lg_cmp x y).toInt = 0) ∨ (x.toInt < y.toInt ∧ (lg_cmp x y).toInt = -1) := by
    unfold lg_cmp
    by_cases g : x > y
    · rw [if_pos g]
      exact Or.inl ⟨Int64.lt_iff_toInt_lt.mp g, rfl⟩
    · rw [if_neg g]
      by_cases g2 : x = y
      · rw [if_pos g2]
        exact Or.inr (Or.inl ⟨congrArg Int64.toInt g2, rfl⟩)
      · rw [if_neg g2]
        refine Or.inr (Or.inr ⟨?_, rfl⟩)
        have n1 : ¬ y.toInt < x.toInt := fun q => g (Int64.lt_iff_toInt_lt.mpr q)
        have n2 : ¬ x.toInt = y.toInt := fun q => g2 (Int64.toInt_inj.mp q)
        omega
  unfold zcmpL
  refine zmk_g ?_ ?_
  · split
    · omega
    · split <;> omega
  · split
    · omega
    · split <;> omega
theorem zval_len {ρ : Nat → Option Nat} {ct : Nat → ClassId} {c : zC} {e : va_E} (h : zCell ρ ct c e) {t : Nat} (hc : c.1 = 10 + t) : ∃ (n : Nat) (a : (Nat → Int32) ⊕ (Nat → Int64) ⊕ (Nat → UInt32) ⊕ (Nat → UInt64) ⊕ (Nat → Option Nat)), e = .inl (ct t, n, a) ∧ t < 5 ∧ c.2.length = n ∧ zkd t a ∧ ∀ (j : Nat) (v : zV), c.2[j]? = some v → zg ρ v (zval a j) := by
  cases e with
  | inr o =>
    have h1 := h.1
    have h2 := h.2.1
    omega
  | inl o =>
    obtain ⟨t', h1, h2, h3, h4, h5, h6⟩ := h
    have e1 : t' = t := by omega
    subst e1
    obtain ⟨o1, o2, o3⟩ := o
    cases h3
    exact ⟨o2, o3, rfl, h2, h4, h5, h6⟩
theorem zobj {ρ : Nat → Option Nat} {ct : Nat → ClassId} {c : zC} {e : va_E} (h : zCell ρ ct c e) (hc : c.1 < 10) : ∃ fs : List Value, e = .inr (c.1, fs) ∧ zL2 ρ c.2 fs := by
  cases e with
  | inl o =>
    obtain ⟨t', h1, -⟩ := h
    omega
  | inr o =>
    obtain ⟨o1, o2⟩ := o
    have h1 : c.1 = o1 := h.1
    subst h1
    exact ⟨o2, rfl, h.2.2⟩
theorem zdef_g (ρ : Nat → Option Nat) (ty : FieldType) (h : (defaultValue ty) = .int 0 ∨ defaultValue ty = .long 0 ∨ defaultValue ty = .null) : zg ρ (zdef ty) (defaultValue ty) := by
  cases ty <;> first | exact rfl | (exfalso; revert h; simp [defaultValue])
theorem zrep_g {ρ : Nat → Option Nat} {v : zV} {w : Value} (h : zg ρ v w) (n : Nat) : ∀ (j : Nat) (a : zV), (List.replicate n v)[j]? = some a → zg ρ a w := by
  intro j a hj
  have h1 := List.eq_of_mem_replicate (List.mem_of_getElem? hj)
  rw [h1]
  exact h
end
section
def zlens : List Nat := [5, 4, 5, 5, 5, 5, 3, 4]
def zbyts : List (List Int32) := [[115, 108, 105, 112, 115], [114, 117, 108, 101], [112, 114, 105, 99, 101], [116, 104, 105, 110, 103], [98, 117, 121, 101, 114], [108, 105, 107, 101, 115], [111, 117, 116], [102, 105, 118, 101]]
def zslen (q : Nat) : Option Int32 := if 1000000 ≤ q ∧ q < 1000008 then some (Int32.ofNat (zlens.getD (q - 1000000) 0)) else none
abbrev zSt : Type := List (String × Nat × String × Nat)
def zFacts (zst : zSt) (scr : List zV) (adK adV : Nat → Nat) (ext : Nat → Option Nat) (A : Nat → Prop) (U : State) (H : Heap) : Prop :=
  (∀ q ∈ zst, vk_R q.1 q.2.1 q.2.2.1 (adK q.2.2.2) U ∧ q.2.2.2 < 8) ∧ (∀ i, i < 8 → ext (1000000 + i) = some (adK i)) ∧ vk_S 8 zlens zbyts adK adV A U H ∧ va_Z "java/lang/String" "COMPACT_STRINGS" "Z" (.int 1) A U H ∧
  ∃ (b : Nat) (xs : Nat → Int32), ext 10000000 = some b ∧ ¬ A b ∧ b < H.size ∧ va_X b scr.length xs U H ∧ ∀ (j : Nat) (v : zV), scr[j]? = some v → zisI v = true ∧ zg (fun _ => none) v (.int (xs j))
theorem va_X_moved {b L : Nat} {xs : Nat → Int32} {u U : State} {H : Heap} (hvm : u.vm.Alike U.vm) (h : va_X b L xs u H) : va_X b L xs U H := by
  obtain ⟨scr, h1, h2, h3, h4, h5⟩ := h
  exact ⟨scr, h1, State.isArrayOf_alike hvm h2, h3, h4, h5⟩
theorem va_X_kept {b L : Nat} {xs : Nat → Int32} {U : State} {H H1 : Heap} (hk : H1[b]? = H[b]?) (h : va_X b L xs U H) : va_X b L xs U H1 := by
  obtain ⟨scr, h1, h2, h3, h4, h5⟩ := h
  exact ⟨scr, hk.trans h1, h2, h3, h4, h5⟩
theorem zFacts_warm {zst : zSt} {scr : List zV} {adK adV : Nat → Nat} {ext : Nat → Option Nat} {A B : Nat → Prop} {s U : State} {H H1 : Heap} (hW : s.WarmedH U.vm) (hAB : ∀ q, B q → A q) (hz : H.size ≤ H1.size) (hk : ∀ q : Nat, q < H.size → ¬ A q → H1[q]? = H[q]?) (h : zFacts zst scr adK adV ext A s H) : zFacts zst scr adK adV ext B U H1 := by
  obtain ⟨h1, h2, h3, h4, b, xs, h5, h6, h7, h8, h9⟩ := h
  refine ⟨fun q hq => ⟨vk_R.warm hW (h1 q hq).1, (h1 q hq).2⟩, h2, ((h3.moved hW.alike).kept hk).narrow hAB, ((h4.moved hW.alike).kept hk).narrow hAB, b, xs, h5, fun q => h6 (hAB b q), Nat.lt_of_lt_of_le h7 hz, va_X_kept (hk b h7 h6) (va_X_moved hW.alike h8), h9⟩
theorem zFacts_same {zst : zSt} {scr : List zV} {adK adV : Nat → Nat} {ext : Nat → Option Nat} {A : Nat → Prop} {s U : State} {H : Heap} (hv : U.vm = s.vm) (h : zFacts zst scr adK adV ext A s H) : zFacts zst scr adK adV ext A U H := by
  have hal : s.vm.Alike U.vm := by rw [hv]; exact Vm.Alike.refl _
  obtain ⟨h1, h2, h3, h4, b, xs, h5, h6, h7, h8, h9⟩ := h
  exact ⟨fun q hq => ⟨vk_R.same hv (h1 q hq).1, (h1 q hq).2⟩, h2, h3.moved hal, h4.moved hal, b, xs, h5, h6, h7, va_X_moved hal h8, h9⟩
def zWS (TG : List Cond) (E : zE) : List Cond := .code E.1 E.2.1 (zEm E) E.2.2.2.1 :: TG
def zrm (E : zE) (d : Nat) : Room := { frames := d + 1, cells := zEc E, slots := zEs E, locals := 60 * (d + 1) }
def zgo (ρ : Nat → Option Nat) : Option zV → Option Value → Prop
  | none, none => True
  | some a, some v => zg ρ a v
  | _, _ => False
def zPcB (zst : zSt) (TN : List Cond) (scr : List zV) (adK adV : Nat → Nat) (ext : Nat → Option Nat) (D : va_G) (ct : Nat → ClassId) (ws : va_W) (sz : Nat) (U : State) : Prop :=
  U.heap.size = sz ∧ va_P D vwCl ws U.heap ∧ va_K D vwCl (ztys ct) U ∧ va_D (fun _ => True) ws ∧ (∀ w ∈ TN, va_Nw w U) ∧ zFacts zst scr adK adV ext (va_A ws sz) U U.heap ∧ va_AO RX0 U ∧ va_AOA .long U ∧ va_AOA .int U
def zQr (ext : Nat → Option Nat) (D : va_G) (ct : Nat → ClassId) (ws : va_W) (sz : Nat) (post : Option zV → zH → Bool) : Array Value → State → Outcome → State → Prop := fun _ st o t =>
  (∃ (r : Option zV) (h' : zH) (v : Option Value) (ws' : va_W), post r h' = true ∧ o = .returned v ∧ zgo (zrho ws' ext) r v ∧ zHp (zrho ws' ext) ct h' ws' ∧ va_P D vwCl ws' t.heap ∧ va_D (va_A ws sz) ws' ∧ zPre ws ws') ∧ va_F (va_A ws sz) st t
def zMet (l : Launch) (prog : Nat → Option zE) (zst : zSt) (TG TN : List Cond) (scr : List zV) (adK adV : Nat → Nat) (ext : Nat → Option Nat) (D : va_G) (ct : Nat → ClassId) (d j : Nat) (vs : List zV) (h : zH) (post : Option zV → zH → Bool) : Prop :=
  ∀ (E : zE), prog j = some E → ∀ (ws : va_W) (sz : Nat) (argv : List Value), zL2 (zrho ws ext) vs argv → zHp (zrho ws ext) ct h ws →
    Met l E.1 (zWS TG E) (zrm E d) (va_Pc argv (zPcB zst TN scr adK adV ext D ct ws sz)) (zQr ext D ct ws sz post) (zEc E) (zEs E) (va_A ws sz)
def zRel (ext : Nat → Option Nat) (D : va_G) (ct : Nat → ClassId) (nL rc rs : Nat) (A : Nat → Prop) (H0 : Heap) (ws0 : va_W) (L : zL) (st : List zV) (h : zH) (nc ns : Nat) (ls : Array Slot) (stc : List Value) (H : Heap) (locs : List Loc) (ws : va_W) : Prop :=
  lv_has ls nL [] ∧ zLo (zrho ws ext) L ls ∧ zL2 (zrho ws ext) st stc ∧ zHp (zrho ws ext) ct h ws ∧ va_P D vwCl ws H ∧ va_D A ws ∧ va_S A H0 H locs ∧ nc ≤ rc ∧ ns ≤ rs ∧ zPre ws0 ws
def zGo (p : Program) (l : Launch) (e : Env) (R : Room) (s : State) (m : MethodId) (args : Array Value) (below : List Frame) (meth : Method) (c : Code) (Q : State → Prop) (ext : Nat → Option Nat) (D : va_G) (ct : Nat → ClassId) (nL rc rs : Nat) (A : Nat → Prop) (ws0 : va_W) (x : zS) : Prop :=
  ∀ (ls : Array Slot) (stc : List Value) (H : Heap) (locs : List Loc) (ws : va_W), zRel ext D ct nL rc rs A s.heap ws0 x.2.1 x.2.2.1 x.2.2.2.1 x.2.2.2.2.1 x.2.2.2.2.2 ls stc H locs ws →
    W p l e R s m args below meth c H locs x.2.2.2.2.1 x.2.2.2.2.2 Q (F0 m x.1 ls stc)
def zCx (p : Program) (R : Room) (s : State) (m : MethodId) (args : Array Value) (meth : Method) (c : Code) (prog : Nat → Option zE) (zst : zSt) (TG TN : List Cond) (scr : List zV) (adK adV : Nat → Nat) (ext : Nat → Option Nat) (D : va_G) (ct : Nat → ClassId) (A : Nat → Prop) (E : zE) (rc rs d : Nat) : Prop :=
  p.tables.exec = Jvm.exec ∧ c.code = E.2.1 ∧ c.maxLocals = zEm E ∧ s.vm.findClass E.1.cls = some m.cls ∧ (∀ w ∈ TG, w.before args s = true) ∧ (E.1.name = "<init>" → meth.name = "<init>") ∧ va_K D vwCl (ztys ct) s ∧ (∀ w ∈ TN, va_Nw w s) ∧ zFacts zst scr adK adV ext A s s.heap ∧ va_AO RX0 s ∧ va_AOA .long s ∧ va_AOA .int s ∧ (∀ q, s.heap.size ≤ q → A q) ∧ d + 2 ≤ R.frames ∧ 60 * (d + 2) ≤ R.locals ∧ rc ≤ R.cells ∧ rs ≤ R.slots ∧ zOkC prog zst TG TN E ∧ (∀ w ∈ zuws, w ∈ TG)
def zGood (TG : List Cond) : Prop := ∀ w ∈ TG, (w.onTables && w.keeps) = true ∨ ∃ ty, w = .arrayClass ty
def zTNok (TN : List Cond) : Prop := ∀ w ∈ TN, ∃ (a : String) (i : Nat) (x : MethodName) (h : String), w = .methodLinkNest a i x h
theorem zPcB_blind {zst : zSt} {TN : List Cond} {scr : List zV} {adK adV : Nat → Nat} {ext : Nat → Option Nat} {D : va_G} {ct : Nat → ClassId} {ws : va_W} {sz : Nat} {argv : List Value} (hTN : zTNok TN) : FrameBlind (va_Pc argv (zPcB zst TN scr adK adV ext D ct ws sz)) := by
  intro a U g mk ⟨h0, h1, h2, h3, h4, h5, h6, h7, h8, h9⟩
  have hv : (U.calling g mk a).vm = U.vm := rfl
  have hal : U.vm.Alike (U.calling g mk a).vm := Vm.Alike.refl _
  refine ⟨h0, h1, h2, va_K.moved hal h3, h4, fun w hw => ?_, zFacts_same hv h6, va_AO.moved hal h7, va_AOA.moved hal h8, va_AOA.moved hal h9⟩
  obtain ⟨_, _, _, _, rfl⟩ := hTN w hw
  exact va_Nw.same rfl hv.symm (h5 _ hw)
section
variable {p : Program} {l : Launch} {e : Env} {R : Room} {s : State} {m : MethodId} {args : Array Value} {below : List Frame} {meth : Method} {c : Code} {Q : State → Prop}
variable {prog : Nat → Option zE} {zst : zSt} {TG TN : List Cond} {scr : List zV} {adK adV : Nat → Nat} {ext : Nat → Option Nat} {D : va_G} {ct : Nat → ClassId} {A : Nat → Prop} {E : zE} {rc rs d : Nat} {ws0 : va_W}
theorem zPcB_at (C : zCx p R s m args meth c prog zst TG TN scr adK adV ext D ct A E rc rs d) (hTN : zTNok TN) {H : Heap} {locs : List Loc} {ws : va_W} (hP : va_P D vwCl ws H) (hD : va_D A ws) (hS : va_S A s.heap H locs) {U : State} (hU : U.heap = H) (hW : s.WarmedH U.vm) : zPcB zst TN scr adK adV ext D ct ws H.size U := by
  obtain ⟨-, -, -, -, -, -, hK, hN, hF, h1, h2, h3, hA, -⟩ := C
  have hfree : ∀ q, va_A ws H.size q → A q := va_free hD hS hA (List.range ws.length) (by
    apply List.ext_getElem?
    intro i
    by_cases hi : i < ws.length
    · simp [hi]
    · simp [Nat.not_lt.mp hi])
  refine ⟨by rw [hU], by rw [hU]; exact hP, va_K.moved hW.alike hK, hD.weaken (fun _ _ _ _ => trivial), fun w hw => ?_, by rw [hU]; exact zFacts_warm hW hfree hS.1 hS.2.1 hF, va_AO.moved hW.alike h1, va_AOA.moved hW.alike h2, va_AOA.moved hW.alike h3⟩
  obtain ⟨_, _, _, _, rfl⟩ := hTN w hw
  exact va_Nw.warmM hW (hN _ hw)
theorem z_after {post : Option zV → zH → Bool} {a : Array Value} {pc : Nat} {ls : Array Slot} {stc rest : List Value} {H : Heap} {locs : List Loc} {ws : va_W} {nL nc ns mc ms : Nat} {L : zL} {r0 : List zV}
    (hA : ∀ q, s.heap.size ≤ q → A q) (hl : lv_has ls nL []) (hL : zLo (zrho ws ext) L ls) (hr0 : zL2 (zrho ws ext) r0 rest) (hD : va_D A ws) (hS : va_S A s.heap H locs) (hnc : nc + mc ≤ rc) (hns : ns + ms ≤ rs) (hpre : zPre ws0 ws)
    (hrun : va_Run p l e R s m args below meth c H locs nc ns mc ms (F0 m pc ls stc) rest (zQr ext D ct ws H.size post a) (va_A ws H.size))
    (kk : ∀ (r : Option zV) (h' : zH), post r h' = true → zGo p l e R s m args below meth c Q ext D ct nL rc rs A ws0 (pc + 3, L, zpush r r0, h', nc + mc, ns + ms)) :
    W p l e R s m args below meth c H locs nc ns Q (F0 m pc ls stc) := by
  have hfree : ∀ q, va_A ws H.size q → A q := va_free hD hS hA (List.range ws.length) (by
    apply List.ext_getElem?
    intro i
    by_cases hi : i < ws.length
    · simp [hi]
    · simp [Nat.not_lt.mp hi])
  intro T hT X
  obtain ⟨v, st₀, t, T', L1, h0, X', hL1, e1, e2, ⟨⟨r, h', v', ws', hp, ho, hg, hH, hP', hD', hpr⟩, hz, hk⟩, st⟩ := hrun T hT X
  cases ho
  rw [h0] at hz hk
  have hm := zPre_rho (ext := ext) hpr
  have hst : zL2 (zrho ws' ext) (zpush r r0) (v.toList ++ rest) := by
    cases r with
    | none =>
      cases v with
      | none => exact zL2_mono hm hr0
      | some v => exact hg.elim
    | some a =>
      cases v with
      | none => exact hg.elim
      | some v => exact ⟨hg, zL2_mono hm hr0⟩
  obtain ⟨t2, a1, b1⟩ := kk r h' hp ls (v.toList ++ rest) T'.heap (locs ++ L1) ws' ⟨hl, zLo_mono hm hL, hst, hH, by rw [e1]; exact hP', hD'.weaken (fun k q _ hq => hfree q.1 hq),
    ⟨Nat.le_trans hS.1 (by rw [e1]; exact hz), fun q h1 h2 => by
      rw [e1, hk q (Nat.lt_of_lt_of_le h1 hS.1) (fun z => h2 (hfree q z))]
      exact hS.2.1 q h1 h2, fun q hq => by
      rcases List.mem_append.mp hq with h3 | h3
      · exact hS.2.2 q h3
      · exact hfree _ (hL1 q h3)⟩, hnc, hns, zPre_tr hpre hpr⟩ T' rfl X'
  exact ⟨t2, st t2 a1, b1⟩
end
end
section
section
variable {p : Program} {l : Launch} {e : Env} {R : Room} {s : State} {m : MethodId} {args : Array Value} {below : List Frame} {meth : Method} {c : Code} {Q : State → Prop}
variable {prog : Nat → Option zE} {zst : zSt} {TG TN : List Cond} {scr : List zV} {adK adV : Nat → Nat} {ext : Nat → Option Nat} {D : va_G} {ct : Nat → ClassId} {A : Nat → Prop} {E : zE} {rc rs d : Nat} {ws0 : va_W}
theorem z_mside {E' : zE} (h : zmside E' = true) : (parseMethodDescriptor E'.1.desc).map (fun d => d.parameters.length) = some (zEp E') ∧ E'.1.cls ≠ "java/lang/invoke/MethodHandle" ∧ E'.1.cls ≠ "java/lang/invoke/VarHandle" ∧ zEm E' ≤ 40 ∧ plainName E'.1.cls = true ∧ (zEk E' ≠ 99 → zEk E' < 6 ∧ E'.1.cls = zRf (zEk E') ∧ (E'.1.name = "<init>" → E'.2.2.2.1 = none)) := by
  unfold zmside at h
  obtain ⟨h0, h⟩ := z_and h
  obtain ⟨h1, h⟩ := z_and h
  obtain ⟨h2, h⟩ := z_and h
  obtain ⟨h3, h⟩ := z_and h
  obtain ⟨h4, h⟩ := z_and h
  refine ⟨of_decide_eq_true h1, of_decide_eq_true h2, of_decide_eq_true h3, z_ble h4, h0, fun hne => ?_⟩
  rw [if_neg hne] at h
  obtain ⟨h5, h⟩ := z_and h
  obtain ⟨h6, h⟩ := z_and h
  refine ⟨z_blt h5, of_decide_eq_true h6, fun hi => ?_⟩
  rw [if_pos hi] at h
  exact of_decide_eq_true h
theorem z_mw {E' : zE} (h : ∀ w ∈ zmwords E', w ∈ TG) : Cond.code E'.1 E'.2.1 E'.2.2.1 E'.2.2.2.1 ∈ TG ∧ Cond.initialized E'.1.cls ∈ TG ∧ (zEk E' = 99 → Cond.static E'.1 ∈ TG) ∧ (zEk E' ≠ 99 → Cond.instanceMethod E'.1 ∈ TG ∧ (E'.1.name ≠ "<init>" → Cond.selects E'.1.cls E'.1 E'.1 ∈ TG)) := by
  unfold zmwords at h
  by_cases h1 : zEk E' = 99
  · rw [if_pos h1] at h
    exact ⟨h _ (by simp), h _ (by simp), fun _ => h _ (by simp), fun q => absurd h1 q⟩
  · rw [if_neg h1] at h
    by_cases h2 : E'.1.name = "<init>"
    · rw [if_pos h2] at h
      exact ⟨h _ (by simp), h _ (by simp), fun q => absurd q h1, fun _ => ⟨h _ (by simp), fun q => absurd h2 q⟩⟩
    · rw [if_neg h2] at h
      exact ⟨h _ (by simp), h _ (by simp), fun q => absurd q h1, fun _ => ⟨h _ (by simp), fun _ => h _ (by simp)⟩⟩
theorem z_pay (C : zCx p R s m args meth c prog zst TG TN scr adK adV ext D ct A E rc rs d) (hG : zGood TG) {E' : zE} (hm : ∀ w ∈ zmwords E', w ∈ TG) : ∀ w ∈ zWS TG E', ∀ (a' : Array Value) (U : State), s.WarmedH U.vm → w.before a' U = true := by
  intro w hw a' U hW
  obtain ⟨-, -, -, -, hts, -⟩ := C
  rcases List.mem_cons.mp hw with rfl | hw
  · have hc := (z_mw hm).1
    exact word_at hW (hG _ hc) (hts _ hc)
  · exact word_at hW (hG _ hw) (hts _ hw)
theorem z_cb (C : zCx p R s m args meth c prog zst TG TN scr adK adV ext D ct A E rc rs d) (hG : zGood TG) {E' : zE} (hm : ∀ w ∈ zmwords E', w ∈ TG) (hs : zmside E' = true) {ix : Nat} (hl : Cond.methodLink E.1.cls ix E'.1 ∈ TG) :
    CallB R s args E.1.cls ix E'.1 E'.2.1 (zEm E') E'.2.2.2.1 (zWS TG E') (zrm E' d) (zEc E') (zEs E') (zEp E') := by
  have hpay := z_pay C hG hm
  obtain ⟨-, -, -, -, hts, -, -, -, -, -, -, -, -, hfr, hlo, -⟩ := C
  obtain ⟨s1, s2, s3, s4, -⟩ := z_mside hs
  obtain ⟨w1, w2, -⟩ := z_mw hm
  refine ⟨rfl, rfl, hfr, ?_, hpay, List.mem_cons_self, hts _ w1, hts _ w2, ⟨s2, s3⟩, fun sig h => ?_, hts _ hl⟩
  · show 8 + (zEm E' + 11) + 60 * (d + 1) ≤ R.locals
    omega
  · rw [h] at s1
    exact (Option.some.inj s1).symm
theorem z_cn (C : zCx p R s m args meth c prog zst TG TN scr adK adV ext D ct A E rc rs d) (hG : zGood TG) {E' : zE} (hm : ∀ w ∈ zmwords E', w ∈ TG) (hs : zmside E' = true) {ix : Nat} {host : String} (hl : Cond.methodLinkNest E.1.cls ix E'.1 host ∈ TN) :
    va_CN R s args E.1.cls ix E'.1 host E'.2.1 (zEm E') E'.2.2.2.1 (zWS TG E') (zrm E' d) (zEc E') (zEs E') (zEp E') := by
  have hpay := z_pay C hG hm
  obtain ⟨-, -, -, -, hts, -, -, hN, -, -, -, -, -, hfr, hlo, -⟩ := C
  obtain ⟨s1, s2, s3, s4, -⟩ := z_mside hs
  obtain ⟨w1, w2, -⟩ := z_mw hm
  refine ⟨⟨rfl, rfl, hfr, ?_, hpay, List.mem_cons_self⟩, hts _ w1, hts _ w2, ⟨s2, s3⟩, fun sig h => ?_, va_Nw.use rfl (hN _ hl)⟩
  · show 8 + (zEm E' + 11) + 60 * (d + 1) ≤ R.locals
    omega
  · rw [h] at s1
    exact (Option.some.inj s1).symm
theorem zcalv_sp {cc : zK} {j nc ns : Nat} {st : List zV} {h : zH} {k : List zV → zH → Nat → Nat → Bool} (hz : zcalv prog cc j st h nc ns rc rs k = true) : ∃ (E' : zE) (q : Nat) (r fs : List zV), prog j = some E' ∧ zEp E' ≤ st.length ∧ nc + zEc E' ≤ rc ∧ ns + zEs E' ≤ rs ∧ st.drop (zEp E') = .inl (.ref q) :: r ∧ h[q]? = some (zEk E', fs) ∧ q < 1000000 ∧ zsum r ≤ 8 ∧ cc j (.inl (.ref q) :: (st.take (zEp E')).reverse) h (fun v h' => k (zpush v r) h' (nc + zEc E') (ns + zEs E')) = true := by
  unfold zcalv at hz
  split at hz
  · next E' hE =>
    obtain ⟨h1, hz⟩ := z_and hz
    obtain ⟨h2, hz⟩ := z_and hz
    obtain ⟨h3, hz⟩ := z_and hz
    split at hz
    · next q r hq =>
      obtain ⟨fs, h4, h5, hz⟩ := zrow_sp hz
      obtain ⟨h6, h7⟩ := z_and hz
      exact ⟨E', q, r, fs, hE, z_ble h1, z_ble h2, z_ble h3, hq, h4, h5, z_ble h6, h7⟩
    · cases hz
  · cases hz
theorem zcall_sp {cc : zK} {j nc ns : Nat} {st : List zV} {h : zH} {k : List zV → zH → Nat → Nat → Bool} (hz : zcall prog cc j st h nc ns rc rs k = true) : ∃ E' : zE, prog j = some E' ∧ zEp E' ≤ st.length ∧ nc + zEc E' ≤ rc ∧ ns + zEs E' ≤ rs ∧ zsum (st.drop (zEp E')) ≤ 8 ∧ cc j (st.take (zEp E')).reverse h (fun v h' => k (zpush v (st.drop (zEp E'))) h' (nc + zEc E') (ns + zEs E')) = true := by
  unfold zcall at hz
  split at hz
  · next E' hE =>
    obtain ⟨h1, hz⟩ := z_and hz
    obtain ⟨h2, hz⟩ := z_and hz
    obtain ⟨h3, hz⟩ := z_and hz
    obtain ⟨h4, h5⟩ := z_and hz
    exact ⟨E', hE, z_ble h1, z_ble h2, z_ble h3, z_ble h4, h5⟩
  · cases hz
theorem z_refobj {h : zH} {ws : va_W} {q k b : Nat} {fs : List zV} (hH : zHp (zrho ws ext) ct h ws) (hq : h[q]? = some (k, fs)) (hlt : q < 1000000) (hk : k < 10) (hb : zrho ws ext q = some b) : ∃ fv : List Value, ws[q]? = some (b, .inr (k, fv)) ∧ zL2 (zrho ws ext) fs fv := by
  obtain ⟨a, e', h1, h2⟩ := zHp_get hH hq
  obtain ⟨fv, rfl, h3⟩ := zobj h2 hk
  have h4 := zrho_at (ext := ext) hlt h1
  rw [hb] at h4
  cases h4
  exact ⟨fv, h1, h3⟩
theorem z_refarr {h : zH} {ws : va_W} {q t b : Nat} {vs : List zV} (hH : zHp (zrho ws ext) ct h ws) (hq : h[q]? = some (10 + t, vs)) (hlt : q < 1000000) (hb : zrho ws ext q = some b) : ∃ (n : Nat) (a : (Nat → Int32) ⊕ (Nat → Int64) ⊕ (Nat → UInt32) ⊕ (Nat → UInt64) ⊕ (Nat → Option Nat)), ws[q]? = some (b, .inl (ct t, n, a)) ∧ t < 5 ∧ vs.length = n ∧ zkd t a ∧ ∀ (j : Nat) (v : zV), vs[j]? = some v → zg (zrho ws ext) v (zval a j) := by
  obtain ⟨a, e', h1, h2⟩ := zHp_get hH hq
  obtain ⟨n, f, rfl, h3⟩ := zval_len h2 (t := t) rfl
  have h4 := zrho_at (ext := ext) hlt h1
  rw [hb] at h4
  cases h4
  exact ⟨n, f, h1, h3⟩
theorem z_stk {n : Nat} {st : List zV} {stc : List Value} {ρ : Nat → Option Nat} (hst : zL2 ρ st stc) (hn : n ≤ st.length) : stc = (stc.take n).reverse.reverse ++ stc.drop n ∧ (stc.take n).reverse.length = n := by
  refine ⟨by rw [List.reverse_reverse, List.take_append_drop], ?_⟩
  rw [List.length_reverse, List.length_take, ← zL2_len hst]
  omega
theorem z_invV (C : zCx p R s m args meth c prog zst TG TN scr adK adV ext D ct A E rc rs d) (hG : zGood TG) (hTN : zTNok TN) (hOk : zOkP prog zst TG TN) {cc : zK} (HM : ∀ j vs h post, cc j vs h post = true → zMet l prog zst TG TN scr adK adV ext D ct d j vs h post) {K : zS → Bool}
    (IH : ∀ x, K x = true → zGo p l e R s m args below meth c Q ext D ct (zEm E) rc rs A ws0 x) {ix j pc nc ns : Nat} {L : zL} {st : List zV} {h : zH} {ls : Array Slot} {stc : List Value} {H : Heap} {locs : List Loc} {ws : va_W}
    (hrel : zRel ext D ct (zEm E) rc rs A s.heap ws0 L st h nc ns ls stc H locs ws) (hsd : ∀ E', prog j = some E' → zEk E' < 6 ∧ E'.1.name ≠ "<init>" ∧ Cond.methodLink E.1.cls ix E'.1 ∈ TG) (hdg : decode E.2.1 pc = .ok (.invokevirtual ix, 3))
    (hz : zcalv prog cc j st h nc ns rc rs (fun st' h' nc' ns' => K (pc + 3, L, st', h', nc', ns')) = true) : W p l e R s m args below meth c H locs nc ns Q (F0 m pc ls stc) := by
  obtain ⟨E', q, r, fs, hE, h1, h2, h3, h4, h5, h6, h7, h8⟩ := zcalv_sp hz
  obtain ⟨hl, hL, hst, hH, hP, hD, hS, hnc, hns, hpre⟩ := hrel
  obtain ⟨k1, k2, k3⟩ := hsd E' hE
  obtain ⟨-, hms, hmw⟩ := hOk j E' hE
  have hne : zEk E' ≠ 99 := by omega
  obtain ⟨m1, m2, m3⟩ := (z_mside hms).2.2.2.2.2 hne
  obtain ⟨w1, w2, w3, w4⟩ := z_mw hmw
  have hdr := zL2_drop (zEp E') hst
  rw [h4] at hdr
  obtain ⟨v0, rest, e0, g0, hrest⟩ := zL2_cons hdr
  obtain ⟨b, hb, rfl⟩ := g0
  obtain ⟨e1, e2⟩ := z_stk hst h1
  rw [e0] at e1
  obtain ⟨fv, hw, -⟩ := z_refobj hH h5 h6 (by omega) hb
  have cb := z_cb C hG hmw hms k3
  have hpcB : ∀ U : State, U.heap = H → s.WarmedH U.vm → va_Pc (Value.ref b :: (stc.take (zEp E')).reverse) (zPcB zst TN scr adK adV ext D ct ws H.size) (Value.ref b :: (stc.take (zEp E')).reverse).toArray U := fun U hU hW => ⟨rfl, zPcB_at C hTN hP hD hS hU hW⟩
  have hA : ∀ q, s.heap.size ≤ q → A q := C.2.2.2.2.2.2.2.2.2.2.2.2.1
  have hrc : rc ≤ R.cells ∧ rs ≤ R.slots := ⟨C.2.2.2.2.2.2.2.2.2.2.2.2.2.2.2.1, C.2.2.2.2.2.2.2.2.2.2.2.2.2.2.2.2.1⟩
  have hM := HM j _ h _ h8 E' hE ws H.size (Value.ref b :: (stc.take (zEp E')).reverse) ⟨⟨b, hb, rfl⟩, zL2_rev (zL2_take _ hst)⟩ hH
  refine z_after hA hl hL hrest hD hS h2 h3 hpre (va_runV (C := E'.1.cls) (nL := zEm E) ⟨C.1, C.2.1, C.2.2.1, C.2.2.2.1, C.2.2.2.2.1⟩ hM ⟨cb, C.2.2.2.2.1 _ (w4 hne).1, C.2.2.2.2.1 _ ((w4 hne).2 k2)⟩ ⟨zPcB_blind hTN, by rw [m2]; exact va_recv C.2.2.2.2.2.2.1 hP (z_cl m1) hw, hpcB⟩ rfl e2 hl.1 e1 (lv_room (by rw [zL2_sum hrest]; exact h7)) hdg ⟨by omega, by omega⟩) (fun r' h' hp => IH _ hp)
theorem z_invI (C : zCx p R s m args meth c prog zst TG TN scr adK adV ext D ct A E rc rs d) (hG : zGood TG) (hTN : zTNok TN) (hOk : zOkP prog zst TG TN) {cc : zK} (HM : ∀ j vs h post, cc j vs h post = true → zMet l prog zst TG TN scr adK adV ext D ct d j vs h post) {K : zS → Bool}
    (IH : ∀ x, K x = true → zGo p l e R s m args below meth c Q ext D ct (zEm E) rc rs A ws0 x) {ix j pc nc ns : Nat} {L : zL} {st : List zV} {h : zH} {ls : Array Slot} {stc : List Value} {H : Heap} {locs : List Loc} {ws : va_W}
    (hrel : zRel ext D ct (zEm E) rc rs A s.heap ws0 L st h nc ns ls stc H locs ws) (hsd : ∀ E', prog j = some E' → zEk E' < 6 ∧ E'.1.name = "<init>" ∧ (Cond.methodLink E.1.cls ix E'.1 ∈ TG ∨ Cond.methodLinkNest E.1.cls ix E'.1 zhost ∈ TN)) (hdg : decode E.2.1 pc = .ok (.invokespecial ix, 3))
    (hz : zcalv prog cc j st h nc ns rc rs (fun st' h' nc' ns' => K (pc + 3, L, st', h', nc', ns')) = true) : W p l e R s m args below meth c H locs nc ns Q (F0 m pc ls stc) := by
  obtain ⟨E', q, r, fs, hE, h1, h2, h3, h4, h5, h6, h7, h8⟩ := zcalv_sp hz
  obtain ⟨hl, hL, hst, hH, hP, hD, hS, hnc, hns, hpre⟩ := hrel
  obtain ⟨k1, k2, k3⟩ := hsd E' hE
  obtain ⟨-, hms, hmw⟩ := hOk j E' hE
  have hne : zEk E' ≠ 99 := by omega
  obtain ⟨m1, m2, m3⟩ := (z_mside hms).2.2.2.2.2 hne
  obtain ⟨w1, w2, w3, w4⟩ := z_mw hmw
  have hdr := zL2_drop (zEp E') hst
  rw [h4] at hdr
  obtain ⟨v0, rest, e0, g0, hrest⟩ := zL2_cons hdr
  obtain ⟨b, hb, rfl⟩ := g0
  obtain ⟨e1, e2⟩ := z_stk hst h1
  rw [e0] at e1
  have hpcB : ∀ U : State, U.heap = H → s.WarmedH U.vm → va_Pc (Value.ref b :: (stc.take (zEp E')).reverse) (zPcB zst TN scr adK adV ext D ct ws H.size) (Value.ref b :: (stc.take (zEp E')).reverse).toArray U := fun U hU hW => ⟨rfl, zPcB_at C hTN hP hD hS hU hW⟩
  have hA : ∀ q, s.heap.size ≤ q → A q := C.2.2.2.2.2.2.2.2.2.2.2.2.1
  have hrc : rc ≤ R.cells ∧ rs ≤ R.slots := ⟨C.2.2.2.2.2.2.2.2.2.2.2.2.2.2.2.1, C.2.2.2.2.2.2.2.2.2.2.2.2.2.2.2.2.1⟩
  have hM := HM j _ h _ h8 E' hE ws H.size (Value.ref b :: (stc.take (zEp E')).reverse) ⟨⟨b, hb, rfl⟩, zL2_rev (zL2_take _ hst)⟩ hH
  rcases k3 with k3 | k3
  · have cb := z_cb C hG hmw hms k3
    rw [m3 k2] at cb
    exact z_after hA hl hL hrest hD hS h2 h3 hpre (va_runI (nL := zEm E) ⟨C.1, C.2.1, C.2.2.1, C.2.2.2.1, C.2.2.2.2.1⟩ hM ⟨cb, k2, C.2.2.2.2.1 _ (w4 hne).1⟩ ⟨zPcB_blind hTN, hpcB⟩ rfl e2 hl.1 e1 (lv_room (by rw [zL2_sum hrest]; exact h7)) hdg ⟨by omega, by omega⟩) (fun r' h' hp => IH _ hp)
  · have cb := z_cn C hG hmw hms k3
    rw [m3 k2] at cb
    exact z_after hA hl hL hrest hD hS h2 h3 hpre (va_runIN (nL := zEm E) ⟨C.1, C.2.1, C.2.2.1, C.2.2.2.1, C.2.2.2.2.1⟩ hM ⟨cb, k2, C.2.2.2.2.1 _ (w4 hne).1⟩ ⟨zPcB_blind hTN, hpcB⟩ rfl e2 hl.1 e1 (lv_room (by rw [zL2_sum hrest]; exact h7)) hdg ⟨by omega, by omega⟩) (fun r' h' hp => IH _ hp)
theorem z_invS (C : zCx p R s m args meth c prog zst TG TN scr adK adV ext D ct A E rc rs d) (hG : zGood TG) (hTN : zTNok TN) (hOk : zOkP prog zst TG TN) {cc : zK} (HM : ∀ j vs h post, cc j vs h post = true → zMet l prog zst TG TN scr adK adV ext D ct d j vs h post) {K : zS → Bool}
    (IH : ∀ x, K x = true → zGo p l e R s m args below meth c Q ext D ct (zEm E) rc rs A ws0 x) {ix j pc nc ns : Nat} {L : zL} {st : List zV} {h : zH} {ls : Array Slot} {stc : List Value} {H : Heap} {locs : List Loc} {ws : va_W}
    (hrel : zRel ext D ct (zEm E) rc rs A s.heap ws0 L st h nc ns ls stc H locs ws) (hsd : ∀ E', prog j = some E' → zEk E' = 99 ∧ (Cond.methodLink E.1.cls ix E'.1 ∈ TG ∨ Cond.methodLinkNest E.1.cls ix E'.1 zhost ∈ TN)) (hdg : decode E.2.1 pc = .ok (.invokestatic ix, 3))
    (hz : zcall prog cc j st h nc ns rc rs (fun st' h' nc' ns' => K (pc + 3, L, st', h', nc', ns')) = true) : W p l e R s m args below meth c H locs nc ns Q (F0 m pc ls stc) := by
  obtain ⟨E', hE, h1, h2, h3, h7, h8⟩ := zcall_sp hz
  obtain ⟨hl, hL, hst, hH, hP, hD, hS, hnc, hns, hpre⟩ := hrel
  obtain ⟨k1, k3⟩ := hsd E' hE
  obtain ⟨-, hms, hmw⟩ := hOk j E' hE
  obtain ⟨w1, w2, w3, w4⟩ := z_mw hmw
  have hrest := zL2_drop (zEp E') hst
  obtain ⟨e1, e2⟩ := z_stk hst h1
  have hpcB : ∀ U : State, U.heap = H → s.WarmedH U.vm → va_Pc (stc.take (zEp E')).reverse (zPcB zst TN scr adK adV ext D ct ws H.size) (stc.take (zEp E')).reverse.toArray U := fun U hU hW => ⟨rfl, zPcB_at C hTN hP hD hS hU hW⟩
  have hA : ∀ q, s.heap.size ≤ q → A q := C.2.2.2.2.2.2.2.2.2.2.2.2.1
  have hrc : rc ≤ R.cells ∧ rs ≤ R.slots := ⟨C.2.2.2.2.2.2.2.2.2.2.2.2.2.2.2.1, C.2.2.2.2.2.2.2.2.2.2.2.2.2.2.2.2.1⟩
  have hM := HM j _ h _ h8 E' hE ws H.size (stc.take (zEp E')).reverse (zL2_rev (zL2_take _ hst)) hH
  rcases k3 with k3 | k3
  · exact z_after hA hl hL hrest hD hS h2 h3 hpre (va_runS (nL := zEm E) ⟨C.1, C.2.1, C.2.2.1, C.2.2.2.1, C.2.2.2.2.1⟩ hM ⟨z_cb C hG hmw hms k3, C.2.2.2.2.1 _ (w3 k1)⟩ ⟨zPcB_blind hTN, hpcB⟩ rfl e2 hl.1 e1 (lv_room (by rw [zL2_sum hrest]; exact h7)) hdg ⟨by omega, by omega⟩) (fun r' h' hp => IH _ hp)
  · exact z_after hA hl hL hrest hD hS h2 h3 hpre (va_runSN (nL := zEm E) ⟨C.1, C.2.1, C.2.2.1, C.2.2.2.1, C.2.2.2.2.1⟩ hM ⟨z_cn C hG hmw hms k3, C.2.2.2.2.1 _ (w3 k1), trivial⟩ ⟨zPcB_blind hTN, hpcB⟩ rfl e2 hl.1 e1 (lv_room (by rw [zL2_sum hrest]; exact h7)) hdg ⟨by omega, by omega⟩) (fun r' h' hp => IH _ hp)
end
end
section
abbrev zESL : zE := (zySL, cJ0_length_8abf5, 1, some .int, 0, 98, 0, 0, [])
def zSL (l : Launch) (zst : zSt) (TG TN : List Cond) (scr : List zV) (adK adV : Nat → Nat) (ext : Nat → Option Nat) (D : va_G) (ct : Nat → ClassId) (d : Nat) : Prop :=
  ∀ (i : Nat), i < 8 → ∀ (h : zH) (ws : va_W) (sz : Nat), zHp (zrho ws ext) ct h ws →
    Met l zySL (zWS TG zESL) (zrm zESL d) (va_Pc [.ref (adK i)] (zPcB zst TN scr adK adV ext D ct ws sz)) (zQr ext D ct ws sz (fun r h' => decide (r = some (.inl (.int (Int32.ofNat (zlens.getD i 0))))) && decide (h' = h))) 0 0 (va_A ws sz)
section
variable {p : Program} {l : Launch} {e : Env} {R : Room} {s : State} {m : MethodId} {args : Array Value} {below : List Frame} {meth : Method} {c : Code} {Q : State → Prop}
variable {prog : Nat → Option zE} {zst : zSt} {TG TN : List Cond} {scr : List zV} {adK adV : Nat → Nat} {ext : Nat → Option Nat} {D : va_G} {ct : Nat → ClassId} {A : Nat → Prop} {E : zE} {rc rs d : Nat} {ws0 : va_W}
theorem z_invL (C : zCx p R s m args meth c prog zst TG TN scr adK adV ext D ct A E rc rs d) (hG : zGood TG) (hTN : zTNok TN) (HL : zSL l zst TG TN scr adK adV ext D ct d) (hLw : ∀ w ∈ zmwords zESL, w ∈ TG) {K : zS → Bool}
    (IH : ∀ x, K x = true → zGo p l e R s m args below meth c Q ext D ct (zEm E) rc rs A ws0 x) {ix pc nc ns q : Nat} {L : zL} {r : List zV} {h : zH} {ls : Array Slot} {stc : List Value} {H : Heap} {locs : List Loc} {ws : va_W} {x : Int32}
    (hrel : zRel ext D ct (zEm E) rc rs A s.heap ws0 L (.inl (.ref q) :: r) h nc ns ls stc H locs ws) (hl0 : Cond.methodLink E.1.cls ix zySL ∈ TG) (hdg : decode E.2.1 pc = .ok (.invokevirtual ix, 3)) (hx : zslen q = some x) (h7 : zsum r ≤ 8)
    (hz : K (pc + 3, L, .inl (.int x) :: r, h, nc, ns) = true) : W p l e R s m args below meth c H locs nc ns Q (F0 m pc ls stc) := by
  obtain ⟨hl, hL, hst, hH, hP, hD, hS, hnc, hns, hpre⟩ := hrel
  obtain ⟨v0, rest, rfl, g0, hrest⟩ := zL2_cons hst
  obtain ⟨b, hb, rfl⟩ := g0
  unfold zslen at hx
  split at hx
  · next hq =>
    have hx := Option.some.inj hx
    subst hx
    obtain ⟨i, hi, rfl⟩ : ∃ i, i < 8 ∧ q = 1000000 + i := ⟨q - 1000000, by omega, by omega⟩
    have hF := C.2.2.2.2.2.2.2.2.1
    have hbi : b = adK i := by
      have h1 := hF.2.1 i hi
      unfold zrho at hb
      rw [if_neg (by omega), h1] at hb
      exact (Option.some.inj hb).symm
    subst hbi
    rw [show 1000000 + i - 1000000 = i by omega] at hz
    have hpay := z_pay C hG hLw
    obtain ⟨w1, w2, w3, w4⟩ := z_mw hLw
    have hts := C.2.2.2.2.1
    have hA : ∀ q, s.heap.size ≤ q → A q := C.2.2.2.2.2.2.2.2.2.2.2.2.1
    have hfr := C.2.2.2.2.2.2.2.2.2.2.2.2.2.1
    have hlo := C.2.2.2.2.2.2.2.2.2.2.2.2.2.2.1
    have hrc : rc ≤ R.cells ∧ rs ≤ R.slots := ⟨C.2.2.2.2.2.2.2.2.2.2.2.2.2.2.2.1, C.2.2.2.2.2.2.2.2.2.2.2.2.2.2.2.2.1⟩
    have cb : CallB R s args E.1.cls ix zySL zESL.2.1 (zEm zESL) zESL.2.2.2.1 (zWS TG zESL) (zrm zESL d) 0 0 0 := by
      refine ⟨rfl, rfl, hfr, ?_, hpay, List.mem_cons_self, hts _ w1, hts _ w2, ⟨by decide, by decide⟩, fun sig h => ?_, hts _ hl0⟩
      · show 8 + (1 + 11) + 60 * (d + 1) ≤ R.locals
        omega
      · have h9 : (parseMethodDescriptor zySL.desc).map (fun d => d.parameters.length) = some 0 := by decide +kernel
        rw [h] at h9
        exact (Option.some.inj h9).symm
    have hpcB : ∀ U : State, U.heap = H → s.WarmedH U.vm → va_Pc [Value.ref (adK i)] (zPcB zst TN scr adK adV ext D ct ws H.size) (Value.ref (adK i) :: []).toArray U := fun U hU hW => ⟨rfl, zPcB_at C hTN hP hD hS hU hW⟩
    have hM := HL i hi h ws H.size hH
    refine z_after (mc := 0) (ms := 0) hA hl hL hrest hD hS hnc hns hpre (va_runV (As := []) (n := 0) (C := "java/lang/String") (nL := zEm E) ⟨C.1, C.2.1, C.2.2.1, C.2.2.2.1, C.2.2.2.2.1⟩ hM ⟨cb, hts _ (w4 (by decide)).1, hts _ ((w4 (by decide)).2 (by decide))⟩ ⟨zPcB_blind hTN, vk_recv hF.2.2.1 hi hS, hpcB⟩ rfl rfl hl.1 rfl (lv_room (by rw [zL2_sum hrest]; exact h7)) hdg ⟨by omega, by omega⟩) (fun r' h' hp => ?_)
    obtain ⟨p1, p2⟩ := z_and hp
    have p1 := of_decide_eq_true p1
    have p2 := of_decide_eq_true p2
    subst p1
    subst p2
    exact IH _ hz
  · cases hx
end
end
section
theorem zfit3 {v : zV} (h : zfit 3 v = true) : ∃ x : Int32, v = .inl (.int x) ∧ (x = 0 ∨ x = 1) := by
  rcases v with (x | x | x | x | _ | x | x) | ⟨_ | _, lo, hi2⟩
  · refine ⟨x, rfl, ?_⟩
    rcases (Bool.or_eq_true _ _).mp (show (x == 0 || x == 1) = true from h) with h5 | h5
    · exact Or.inl (by simpa using h5)
    · exact Or.inr (by simpa using h5)
  · exact absurd h Bool.false_ne_true
  · exact absurd h Bool.false_ne_true
  · exact absurd h Bool.false_ne_true
  · exact absurd h Bool.false_ne_true
  · exact absurd h Bool.false_ne_true
  · exact absurd h Bool.false_ne_true
  · exact absurd h Bool.false_ne_true
  · exact absurd h Bool.false_ne_true
theorem z_nf {ρ : Nat → Option Nat} {k : Nat} {ty : FieldType} {v : zV} {w : Value} (h1 : zkt k ty = true) (h2 : zfit k v = true) (h3 : zg ρ v w) : narrow ty w = w ∧ fits ty w = true := by
  match k, ty, h1 with
  | 0, .int, _ =>
    obtain ⟨x, rfl, -⟩ := zg_I h3 h2
    exact ⟨rfl, rfl⟩
  | 1, .long, _ =>
    obtain ⟨x, rfl, -⟩ := zg_L h3 h2
    exact ⟨rfl, rfl⟩
  | 2, .object n, _ =>
    rcases zg_R h3 h2 with ⟨-, rfl⟩ | ⟨k, a, -, -, rfl⟩ <;> exact ⟨rfl, rfl⟩
  | 2, .array t, _ =>
    rcases zg_R h3 h2 with ⟨-, rfl⟩ | ⟨k, a, -, -, rfl⟩ <;> exact ⟨rfl, rfl⟩
  | 3, .boolean, _ =>
    obtain ⟨x, rfl, hx⟩ := zfit3 h2
    rw [show w = .int x from h3]
    rcases hx with rfl | rfl
    · exact ⟨by decide, by decide⟩
    · exact ⟨by decide, by decide⟩
theorem z_tyok : ∀ a, a < 6 → ∀ k, k < zNf a → zTy a k ≠ .float ∧ zTy a k ≠ .double := by decide +kernel
theorem z_dfv (ρ : Nat → Option Nat) {ty : FieldType} (h : ty ≠ .float ∧ ty ≠ .double) : zg ρ (zdef ty) (defaultValue ty) := by
  cases ty <;> first | exact rfl | exact absurd rfl h.1 | exact absurd rfl h.2
theorem z_L2map {ρ : Nat → Option Nat} {f : Nat → zV} {g : Nat → Value} : ∀ (l : List Nat), (∀ k ∈ l, zg ρ (f k) (g k)) → zL2 ρ (l.map f) (l.map g)
  | [], _ => trivial
  | k :: l, h => ⟨h k List.mem_cons_self, z_L2map l (fun j hj => h j (List.mem_cons_of_mem _ hj))⟩
theorem z_ctu {s : State} {D : va_G} {ct : Nat → ClassId} {t : Nat} {cA : ClassId} (ht : t < 5) (h1 : va_K D vwCl (ztys ct) s) (h2 : va_K D vwCl (ztys ct ++ [(cA, ztyA t)]) s) : cA = ct t := by
  have a1 := (h1.2 t _ (z_tys ct ht)).2
  have a2 := (h2.2 5 (cA, ztyA t) (by rfl)).2
  have key : ∀ (c : ClassId) (ty : FieldType), va_RA s c ty → s.vm.findClass ("[" ++ ty.toString) = some c := by
    intro c ty h
    cases ty <;> first | exact h | (obtain ⟨_, _, _, _, _, h⟩ := h; exact h)
  have b1 := key _ _ a1
  have b2 := key _ _ a2
  exact Option.some.inj (b2.symm.trans b1)
theorem zcpy_get {f g : List zV} {sp dp n j : Nat} {a : zV} (h1 : sp + n ≤ f.length) (h2 : dp + n ≤ g.length) (h : (zcpy f g sp dp n)[j]? = some a) : (dp ≤ j ∧ j < dp + n → f[sp + (j - dp)]? = some a) ∧ (¬ (dp ≤ j ∧ j < dp + n) → g[j]? = some a) := by
  unfold zcpy at h
  have e1 : (g.take dp).length = dp := by rw [List.length_take]; omega
  have e2 : ((f.drop sp).take n).length = n := by rw [List.length_take, List.length_drop]; omega
  refine ⟨fun hj => ?_, fun hj => ?_⟩
  · rw [List.getElem?_append_right (by omega), List.getElem?_append_left (by omega), List.getElem?_take, if_pos (by omega), List.getElem?_drop, e1] at h
    exact h
  · by_cases h3 : j < dp
    · rw [List.getElem?_append_left (by omega), List.getElem?_take, if_pos h3] at h
      exact h
    · rw [List.getElem?_append_right (by omega), List.getElem?_append_right (by omega), List.getElem?_drop, e1, e2, show dp + n + (j - dp - n) = j by omega] at h
      exact h
theorem zcpy_len {f g : List zV} {sp dp n : Nat} (h1 : sp + n ≤ f.length) (h2 : dp + n ≤ g.length) : (zcpy f g sp dp n).length = g.length := by
  unfold zcpy
  rw [List.length_append, List.length_append, List.length_take, List.length_take, List.length_drop, List.length_drop]
  omega
theorem zset_get {α : Type} {l : List α} {i j : Nat} {v a : α} (h : (l.set i v)[j]? = some a) : (j = i ∧ a = v) ∨ (j ≠ i ∧ l[j]? = some a) := by
  by_cases hj : j = i
  · subst hj
    have hl : j < l.length := by
      have := (List.getElem?_eq_some_iff.mp h).1
      simpa using this
    rw [List.getElem?_set_self hl] at h
    exact Or.inl ⟨rfl, (Option.some.inj h).symm⟩
  · rw [List.getElem?_set_ne (Ne.symm hj)] at h
    exact Or.inr ⟨hj, h⟩
theorem zdec_t {bs : ByteArray} {pc : Nat} {d lo hi : Int} {o : Array Int} (h : zdec bs pc (.tableswitch d lo hi o) = true) : ∃ len, decode bs pc = .ok (.tableswitch d lo hi o, len) := by
  unfold zdec at h
  split at h
  · next q1 q2 q3 q4 hq =>
    cases hq
    split at h
    · next q hq =>
      have h1 := of_decide_eq_true h
      obtain ⟨i, len⟩ := q
      cases h1
      exact ⟨len, hq⟩
    · cases h
  · next hq => exact absurd rfl (hq _ _ _ _)
def zglob : List Cond := [.instanceMethod objectInit, .code objectInit ⟨#[0xb1]⟩ 1 none, .native arraycopyName, .static arraycopyName, .initialized "java/lang/System", .static Lib.Math.min.name, .initialized "java/lang/Math", .code Lib.Math.min.name Lib.Math.min.code 2 (some .int)]
theorem z_aald {p : Program} {l : Launch} {e : Env} {R : Room} {s : State} {m : MethodId} {args : Array Value} {below : List Frame} {meth : Method} {c : Code} {H : Heap} {locs : List Loc} {cells slots : Nat} {Q : State → Prop} {cc : ByteArray} {pc : Nat} {ls : Array Slot} {rest : List Value} {D : va_G} {cl : List vw_C} {a : Nat} {tys : List (ClassId × FieldType)} {ws : va_W} (hexec : p.tables.exec = Jvm.exec) (hb : c.code = cc) (hK : va_K D cl tys s) (hP : va_P D cl ws H) (q0 t0 : Nat) {cA : ClassId} {ty : FieldType} (hty : ty.isReference = true) {n : Nat} {f : Nat → Option Nat} (ha : ws[q0]? = some (a, .inl (cA, n, .inr (.inr (.inr (.inr f)))))) (ht : tys[t0]? = some (cA, ty)) {i : Int32} (hin : vp_in i n) (hdg : decode cc pc = .ok (.aaload, 1))
    (kk : W p l e R s m args below meth c H locs cells slots Q (F0 m (pc + 1) ls (va_rf (f i.toNatClampNeg) :: rest))) : W p l e R s m args below meth c H locs cells slots Q (F0 m pc ls (.int i :: .ref a :: rest)) := by
  have hlt : i.toNatClampNeg < n := Nat.not_le.mp fun q => hin (Or.inr q)
  exact W.aald (v := va_rf (f i.toNatClampNeg)) (ty := ty) hexec hb (hP q0 _ ha) ((hK.2 t0 _ ht).1 n (fun j => va_rf (f j))) hty (fun q => by cases q) (by show ¬ (i < 0 ∨ (arrV _ _ _).slots.size ≤ _); rw [arrV_size]; exact hin) (by show (arrV _ _ _).slots[_]? = _; rw [arrV_read _ _ hlt]) rfl rfl hdg kk
section
variable {p : Program} {l : Launch} {e : Env} {R : Room} {s : State} {m : MethodId} {args : Array Value} {below : List Frame} {meth : Method} {c : Code} {Q : State → Prop}
variable {prog : Nat → Option zE} {zst : zSt} {TG TN : List Cond} {scr : List zV} {adK adV : Nat → Nat} {ext : Nat → Option Nat} {D : va_G} {ct : Nat → ClassId} {A : Nat → Prop} {E : zE} {rc rs d : Nat} {ws0 : va_W}
variable {K : zS → Bool} {cv : zV} {a b k pc nc ns : Nat} {L : zL} {st : List zV} {h : zH} {ls : Array Slot} {stc : List Value} {H : Heap} {locs : List Loc} {ws : va_W} {cc : zK}
theorem z_getf (C : zCx p R s m args meth c prog zst TG TN scr adK adV ext D ct A E rc rs d) (IH : ∀ x, K x = true → zGo p l e R s m args below meth c Q ext D ct (zEm E) rc rs A ws0 x) (hrel : zRel ext D ct (zEm E) rc rs A s.heap ws0 L st h nc ns ls stc H locs ws) {ix : Nat}
    (k1 : zdec E.2.1 pc (.getfield ix) = true) (k2 : zside prog E.1 zst (.getfield ix) cv a b k = true) (k3 : ∀ w ∈ zwords prog E.1.cls (.getfield ix) cv a b, w ∈ TG)
    (hz : zstep zNf zdfl zslen prog (zEm E) rc rs scr cc K (.getfield ix) cv a b k pc L st h nc ns = true) : W p l e R s m args below meth c H locs nc ns Q (F0 m pc ls stc) := by
  have hdg : decode E.2.1 pc = .ok (.getfield ix, 3) := of_decide_eq_true k1
  obtain ⟨hl, hL, hst, hH, hP, hD, hS, hnc, hns, hpre⟩ := hrel
  obtain ⟨hx, hb, hml, hown, hts, -, hK, -, -, -, -, -, hA, -, -, -, -, -, huw⟩ := C
  simp only [zstep] at hz
  split at hz
  · next q r =>
    obtain ⟨fs, h1, h2, hz⟩ := zrow_sp hz
    split at hz
    · next v hv =>
      obtain ⟨v0, rest, rfl, ⟨b0, hb0, rfl⟩, hrest⟩ := zL2_cons hst
      obtain ⟨a1, a2⟩ := z_and k2
      obtain ⟨a2, a3⟩ := z_and a2
      have a1 := z_blt a1
      have a3 : (zTf a b).1 = zRf a := of_decide_eq_true a3
      obtain ⟨fv, g1, g2⟩ := z_refobj hH h1 h2 (by omega) hb0
      obtain ⟨w, g3, g4⟩ := zL2_get b g2 hv
      exact va_get hx hb hts (fun w hw => huw w (z_uws a1 w hw)) hown hK hP q g1 (z_cl a1) b (z_blt a2) (ref := zRf a) (hts _ (k3 _ List.mem_cons_self)) (fun x hx => by rw [a3] at hx; exact hx) g3 hdg (IH _ hz ls _ H locs ws ⟨hl, hL, ⟨g4, hrest⟩, hH, hP, hD, hS, hnc, hns, hpre⟩)
    · cases hz
  · cases hz
theorem z_putf (C : zCx p R s m args meth c prog zst TG TN scr adK adV ext D ct A E rc rs d) (IH : ∀ x, K x = true → zGo p l e R s m args below meth c Q ext D ct (zEm E) rc rs A ws0 x) (hrel : zRel ext D ct (zEm E) rc rs A s.heap ws0 L st h nc ns ls stc H locs ws) {ix : Nat}
    (k1 : zdec E.2.1 pc (.putfield ix) = true) (k2 : zside prog E.1 zst (.putfield ix) cv a b k = true) (k3 : ∀ w ∈ zwords prog E.1.cls (.putfield ix) cv a b, w ∈ TG)
    (hz : zstep zNf zdfl zslen prog (zEm E) rc rs scr cc K (.putfield ix) cv a b k pc L st h nc ns = true) : W p l e R s m args below meth c H locs nc ns Q (F0 m pc ls stc) := by
  have hdg : decode E.2.1 pc = .ok (.putfield ix, 3) := of_decide_eq_true k1
  obtain ⟨hl, hL, hst, hH, hP, hD, hS, hnc, hns, hpre⟩ := hrel
  obtain ⟨hx, hb, hml, hown, hts, hini, hK, -, -, -, -, -, hA, -, -, -, -, -, huw⟩ := C
  simp only [zstep] at hz
  split at hz
  · next v q r =>
    obtain ⟨fs, h1, h2, hz⟩ := zrow_sp hz
    obtain ⟨h3, hz⟩ := z_and hz
    obtain ⟨h4, hz⟩ := z_and hz
    obtain ⟨w, v0, rest, rfl, hg, ⟨b0, hb0, rfl⟩, hrest⟩ := zL2_2 hst
    obtain ⟨a1, a2⟩ := z_and k2
    obtain ⟨a2, a3⟩ := z_and a2
    obtain ⟨a3, a4⟩ := z_and a3
    obtain ⟨a4, a5⟩ := z_and a4
    have a1 := z_blt a1
    have a3 : (zTf a b).1 = zRf a := of_decide_eq_true a3
    obtain ⟨fv, g1, g2⟩ := z_refobj hH h1 h2 (by omega) hb0
    obtain ⟨n1, n2⟩ := z_nf a4 h4 hg
    have hlen := zL2_len g2
    have hin : ∀ w ∈ u_ws (zRf a) (zTf a) (zNf a), w ∈ TG := fun w hw => huw w (z_uws a1 w hw)
    have fin : ∀ (H1 : Heap) (locs1 : List Loc), va_P D vwCl (ws.set q (b0, .inr (a, fv.set b w))) H1 → va_D A (ws.set q (b0, .inr (a, fv.set b w))) → va_S A s.heap H1 locs1 → W p l e R s m args below meth c H1 locs1 nc ns Q (F0 m (pc + 3) ls rest) := fun H1 locs1 hP1 hD1 hS1 => by
      have er := zrho_set (ext := ext) (e := .inr (a, fv.set b w)) g1
      refine IH _ hz ls _ H1 locs1 _ ⟨hl, by rw [er]; exact hL, by rw [er]; exact hrest, ?_, hP1, hD1, hS1, hnc, hns, zPre_tr hpre (zPre_set g1)⟩
      rw [er]
      exact zHp_set hH ⟨rfl, by show a < 10; omega, zL2_set hg b g2⟩
    by_cases hf : (zTf a b).2.2.2 = true
    · have a6 : (decide (E.1.name = "<init>") && decide (zRf a = E.1.cls)) = true := by
        rcases (Bool.or_eq_true _ _).mp a5 with q1 | q1
        · rw [hf] at q1
          cases q1
        · exact q1
      obtain ⟨a6, a7⟩ := z_and a6
      exact va_putF hx hb hts hin (zTy a) (z_ty a1) (z_nm a1) hown hK hP hD hS q g1 (z_cl a1) b (z_blt a2) (ref := zRf a) (hts _ (k3 _ List.mem_cons_self)) (fun x hx => by rw [a3] at hx; exact hx) hf (hini (of_decide_eq_true a6)) (a3.trans (of_decide_eq_true a7)) (z_ty a1 b (z_blt a2)) n1 n2 (by rw [← hlen]; exact z_blt h3) hdg fin
    · exact va_put hx hb hts hin (zTy a) (z_ty a1) (z_nm a1) hown hK hP hD hS q g1 (z_cl a1) b (z_blt a2) (ref := zRf a) (hts _ (k3 _ List.mem_cons_self)) (fun x hx => by rw [a3] at hx; exact hx) (by simpa using hf) (z_ty a1 b (z_blt a2)) n1 n2 (by rw [← hlen]; exact z_blt h3) hdg fin
  · cases hz
theorem z_new (C : zCx p R s m args meth c prog zst TG TN scr adK adV ext D ct A E rc rs d) (IH : ∀ x, K x = true → zGo p l e R s m args below meth c Q ext D ct (zEm E) rc rs A ws0 x) (hrel : zRel ext D ct (zEm E) rc rs A s.heap ws0 L st h nc ns ls stc H locs ws) {ix : Nat}
    (k1 : zdec E.2.1 pc (.new ix) = true) (k2 : zside prog E.1 zst (.new ix) cv a b k = true) (k3 : ∀ w ∈ zwords prog E.1.cls (.new ix) cv a b, w ∈ TG)
    (hz : zstep zNf zdfl zslen prog (zEm E) rc rs scr cc K (.new ix) cv a b k pc L st h nc ns = true) : W p l e R s m args below meth c H locs nc ns Q (F0 m pc ls stc) := by
  have hdg : decode E.2.1 pc = .ok (.new ix, 3) := of_decide_eq_true k1
  obtain ⟨hl, hL, hst, hH, hP, hD, hS, hnc, hns, hpre⟩ := hrel
  obtain ⟨hx, hb, hml, hown, hts, hini, hK, -, -, -, -, -, hA, -, -, hrc, hrs, -, huw⟩ := C
  simp only [zstep] at hz
  obtain ⟨h1, hz⟩ := z_and hz
  obtain ⟨h2, hz⟩ := z_and hz
  obtain ⟨h3, hz⟩ := z_and hz
  have h1 := z_ble h1
  have h2 := z_ble h2
  have h3 := z_blt h3
  have a1 : a < 6 := z_blt k2
  have hin : ∀ w ∈ u_ws (zRf a) (zTf a) (zNf a), w ∈ TG := fun w hw => huw w (z_uws a1 w hw)
  refine va_new hx hb hts hin (zTy a) (z_ty a1) hown (hts _ (k3 _ (List.mem_cons_self))) (hts _ (k3 _ (List.mem_cons_of_mem _ List.mem_cons_self))) (hts _ (k3 _ (List.mem_cons_of_mem _ (List.mem_cons_of_mem _ List.mem_cons_self)))) hK hP hD hS hA (z_cl a1) (fs := (List.range (zNf a)).map (fun k => defaultValue (zTy a k))) (fun j hj => by simp [vp_V, hj]) (by omega) (by omega) hdg (fun q H1 hP1 hD1 hS1 => ?_)
  have hm : ∀ k9 a9 : Nat, zrho ws ext k9 = some a9 → zrho (ws ++ [(q, .inr (a, (List.range (zNf a)).map (fun k => defaultValue (zTy a k))))]) ext k9 = some a9 := fun _ _ hk => zrho_app hk
  refine IH _ hz ls _ H1 locs _ ⟨hl, zLo_mono hm hL, ⟨⟨q, ?_, rfl⟩, zL2_mono hm hst⟩, zHp_app (zHp_mono hm hH) (zHp_one ⟨rfl, by show a < 10; omega, z_L2map _ (fun j hj => z_dfv _ (z_tyok a a1 j (List.mem_range.mp hj)))⟩), hP1, hD1, hS1, h1, h2, zPre_tr hpre (zPre_app _ _)⟩
  refine zrho_at h3 (e := .inr (a, (List.range (zNf a)).map (fun k => defaultValue (zTy a k)))) ?_
  rw [hH.1, List.getElem?_append_right (Nat.le_refl _), Nat.sub_self]
  rfl
end
end
section
section
variable {p : Program} {l : Launch} {e : Env} {R : Room} {s : State} {m : MethodId} {args : Array Value} {below : List Frame} {meth : Method} {c : Code} {Q : State → Prop}
variable {prog : Nat → Option zE} {zst : zSt} {TG TN : List Cond} {scr : List zV} {adK adV : Nat → Nat} {ext : Nat → Option Nat} {D : va_G} {ct : Nat → ClassId} {A : Nat → Prop} {E : zE} {rc rs d : Nat} {ws0 : va_W}
variable {K : zS → Bool} {cv : zV} {a b k pc nc ns : Nat} {L : zL} {st : List zV} {h : zH} {ls : Array Slot} {stc : List Value} {H : Heap} {locs : List Loc} {ws : va_W} {cc : zK}
theorem z_push {x : zV} {t N : Nat} {r : List zV} {rest : List Value} {q : Nat} {f : (Nat → Int32) ⊕ (Nat → Int64) ⊕ (Nat → UInt32) ⊕ (Nat → UInt64) ⊕ (Nat → Option Nat)} {H1 : Heap} {nc' ns' : Nat} (ht : t < 5) (hk : zkd t f) (hv : ∀ (ρ : Nat → Option Nat) (j : Nat), zg ρ x (zval f j))
    (hl : lv_has ls (zEm E) []) (hL : zLo (zrho ws ext) L ls) (hr : zL2 (zrho ws ext) r rest) (hH : zHp (zrho ws ext) ct h ws) (h3 : h.length < 1000000) (hP1 : va_P D vwCl (ws ++ [(q, .inl (ct t, N, f))]) H1) (hD1 : va_D A (ws ++ [(q, .inl (ct t, N, f))])) (hS1 : va_S A s.heap H1 locs) (hnc : nc' ≤ rc) (hns : ns' ≤ rs) (hpre : zPre ws0 ws) :
    zRel ext D ct (zEm E) rc rs A s.heap ws0 L (.inl (.ref h.length) :: r) (h ++ [(10 + t, List.replicate N x)]) nc' ns' ls (.ref q :: rest) H1 locs (ws ++ [(q, .inl (ct t, N, f))]) := by
  have hm : ∀ k9 a9 : Nat, zrho ws ext k9 = some a9 → zrho (ws ++ [(q, .inl (ct t, N, f))]) ext k9 = some a9 := fun _ _ hk => zrho_app hk
  refine ⟨hl, zLo_mono hm hL, ⟨⟨q, ?_, rfl⟩, zL2_mono hm hr⟩, zHp_app (zHp_mono hm hH) (zHp_one ⟨t, rfl, ht, rfl, by simp, hk, fun j a9 hj => ?_⟩), hP1, hD1, hS1, hnc, hns, zPre_tr hpre (zPre_app _ _)⟩
  · refine zrho_at h3 (e := .inl (ct t, N, f)) ?_
    rw [hH.1, List.getElem?_append_right (Nat.le_refl _), Nat.sub_self]
    rfl
  · have h1 := List.eq_of_mem_replicate (List.mem_of_getElem? hj)
    rw [h1]
    exact hv _ _
theorem z_newa (C : zCx p R s m args meth c prog zst TG TN scr adK adV ext D ct A E rc rs d) (IH : ∀ x, K x = true → zGo p l e R s m args below meth c Q ext D ct (zEm E) rc rs A ws0 x) (hrel : zRel ext D ct (zEm E) rc rs A s.heap ws0 L st h nc ns ls stc H locs ws) {ty : ArrayType}
    (k1 : zdec E.2.1 pc (.newarray ty) = true) (k3 : ∀ w ∈ zwords prog E.1.cls (.newarray ty) cv a b, w ∈ TG)
    (hz : zstep zNf zdfl zslen prog (zEm E) rc rs scr cc K (.newarray ty) cv a b k pc L st h nc ns = true) : W p l e R s m args below meth c H locs nc ns Q (F0 m pc ls stc) := by
  have hdg : decode E.2.1 pc = .ok (.newarray ty, 2) := of_decide_eq_true k1
  obtain ⟨hl, hL, hst, hH, hP, hD, hS, hnc, hns, hpre⟩ := hrel
  obtain ⟨hx, hb, hml, hown, hts, hini, hK, -, -, -, -, -, hA, -, -, hrc, hrs, -, huw⟩ := C
  simp only [zstep] at hz
  split at hz
  · next n r =>
    obtain ⟨v0, rest, rfl, h0, hrest⟩ := zL2_cons hst
    cases h0
    split at hz
    · cases hz
    · next hn =>
      obtain ⟨h1, hz⟩ := z_and hz
      obtain ⟨h2, hz⟩ := z_and hz
      obtain ⟨h3, hz⟩ := z_and hz
      obtain ⟨h4, hz⟩ := z_and hz
      have h1 := z_ble h1
      have h2 := z_ble h2
      have h3 := z_ble h3
      have h4 := z_blt h4
      split at hz
      · refine va_newa (atype := .int) hx hb (hts _ (k3 _ List.mem_cons_self)) (ty := .int) rfl hK hP hD hS hA (a0 := (n.toNatClampNeg, .inl (fun _ => 0))) (fun cA => rfl) hn rfl (by show n.toNatClampNeg * 4 ≤ _; omega) (by omega) (by omega) hdg (fun q cA H1 hK1 hP1 hD1 hS1 => ?_)
        have hc := z_ctu (t := 0) (by omega) hK hK1
        subst hc
        exact IH _ hz ls _ H1 locs _ (z_push (t := 0) (by omega) ⟨_, rfl⟩ (fun _ _ => rfl) hl hL hrest hH h4 hP1 hD1 hS1 h2 h3 hpre)
      · refine va_newa (atype := .long) hx hb (hts _ (k3 _ List.mem_cons_self)) (ty := .long) rfl hK hP hD hS hA (a0 := (n.toNatClampNeg, .inr (.inl (fun _ => 0)))) (fun cA => rfl) hn rfl (by show n.toNatClampNeg * 8 ≤ _; omega) (by omega) (by omega) hdg (fun q cA H1 hK1 hP1 hD1 hS1 => ?_)
        have hc := z_ctu (t := 1) (by omega) hK hK1
        subst hc
        exact IH _ hz ls _ H1 locs _ (z_push (t := 1) (by omega) ⟨_, rfl⟩ (fun _ _ => rfl) hl hL hrest hH h4 hP1 hD1 hS1 h2 h3 hpre)
      · cases hz
  · cases hz
theorem z_newq (C : zCx p R s m args meth c prog zst TG TN scr adK adV ext D ct A E rc rs d) (IH : ∀ x, K x = true → zGo p l e R s m args below meth c Q ext D ct (zEm E) rc rs A ws0 x) (hrel : zRel ext D ct (zEm E) rc rs A s.heap ws0 L st h nc ns ls stc H locs ws) {ix : Nat}
    (k1 : zdec E.2.1 pc (.anewarray ix) = true) (k3 : ∀ w ∈ zwords prog E.1.cls (.anewarray ix) cv a b, w ∈ TG)
    (hz : zstep zNf zdfl zslen prog (zEm E) rc rs scr cc K (.anewarray ix) cv a b k pc L st h nc ns = true) : W p l e R s m args below meth c H locs nc ns Q (F0 m pc ls stc) := by
  have hdg : decode E.2.1 pc = .ok (.anewarray ix, 3) := of_decide_eq_true k1
  obtain ⟨hl, hL, hst, hH, hP, hD, hS, hnc, hns, hpre⟩ := hrel
  obtain ⟨hx, hb, hml, hown, hts, hini, hK, -, -, hAO, -, -, hA, -, -, hrc, hrs, -, huw⟩ := C
  simp only [zstep] at hz
  split at hz
  · next n r =>
    obtain ⟨v0, rest, rfl, h0, hrest⟩ := zL2_cons hst
    cases h0
    split at hz
    · cases hz
    · next hn =>
      obtain ⟨h1, hz⟩ := z_and hz
      obtain ⟨h2, hz⟩ := z_and hz
      obtain ⟨h3, hz⟩ := z_and hz
      obtain ⟨h4, hz⟩ := z_and hz
      have h1 := z_ble h1
      have h2 := z_ble h2
      have h3 := z_ble h3
      have h4 := z_blt h4
      refine va_newq hx hb hown (hts _ (k3 _ List.mem_cons_self)) hAO hK hP hD hS hA hn rfl (by omega) (by omega) (by omega) hdg (fun q cA H1 hK1 hP1 hD1 hS1 => ?_)
      have hc := z_ctu (t := 2) (by omega) hK hK1
      subst hc
      exact IH _ hz ls _ H1 locs _ (z_push (t := 2) (f := .inr (.inr (.inr (.inr (fun _ => none))))) (by omega) ⟨_, rfl⟩ (fun _ _ => rfl) hl hL hrest hH h4 hP1 hD1 hS1 h2 h3 hpre)
  · cases hz
theorem z_ild (C : zCx p R s m args meth c prog zst TG TN scr adK adV ext D ct A E rc rs d) (IH : ∀ x, K x = true → zGo p l e R s m args below meth c Q ext D ct (zEm E) rc rs A ws0 x) (hrel : zRel ext D ct (zEm E) rc rs A s.heap ws0 L st h nc ns ls stc H locs ws)
    (k1 : zdec E.2.1 pc .iaload = true) (hz : zstep zNf zdfl zslen prog (zEm E) rc rs scr cc K .iaload cv a b k pc L st h nc ns = true) : W p l e R s m args below meth c H locs nc ns Q (F0 m pc ls stc) := by
  have hdg : decode E.2.1 pc = .ok (.iaload, 1) := of_decide_eq_true k1
  obtain ⟨hl, hL, hst, hH, hP, hD, hS, hnc, hns, hpre⟩ := hrel
  obtain ⟨hx, hb, hml, hown, hts, hini, hK, -, hF, -, -, -, hA, -⟩ := C
  simp only [zstep] at hz
  split at hz
  · next i q r =>
    obtain ⟨w, v0, rest, rfl, h0, ⟨b0, hb0, rfl⟩, hrest⟩ := zL2_2 hst
    cases h0
    split at hz
    · next hq =>
      subst hq
      obtain ⟨v, hv, hin, hz⟩ := zel_sp hz
      obtain ⟨-, -, -, -, b1, xs, f1, f2, f3, f4, f5⟩ := hF
      unfold zrho at hb0
      rw [if_neg (Nat.not_lt.mpr (Nat.le_of_ble_eq_true rfl)), f1] at hb0
      cases hb0
      have hg := f5 _ _ hv
      exact va_sld hx hb f4 f3 f2 hS hin hdg (IH _ hz ls _ H locs ws ⟨hl, hL, ⟨zg_mono (fun _ _ hk => by cases hk) hg.2, hrest⟩, hH, hP, hD, hS, hnc, hns, hpre⟩)
    · obtain ⟨vs, h1, h2, hz⟩ := zrow_sp hz
      obtain ⟨v, hv, hin, hz⟩ := zel_sp hz
      obtain ⟨n, f, g1, g2, g3, ⟨f, rfl⟩, g5⟩ := z_refarr (t := 0) hH h1 h2 hb0
      exact va_iald hx hb hK hP q 0 g1 rfl (by rw [← g3]; exact hin) hdg (IH _ hz ls _ H locs ws ⟨hl, hL, ⟨g5 _ _ hv, hrest⟩, hH, hP, hD, hS, hnc, hns, hpre⟩)
  · cases hz
theorem z_lld (C : zCx p R s m args meth c prog zst TG TN scr adK adV ext D ct A E rc rs d) (IH : ∀ x, K x = true → zGo p l e R s m args below meth c Q ext D ct (zEm E) rc rs A ws0 x) (hrel : zRel ext D ct (zEm E) rc rs A s.heap ws0 L st h nc ns ls stc H locs ws)
    (k1 : zdec E.2.1 pc .laload = true) (hz : zstep zNf zdfl zslen prog (zEm E) rc rs scr cc K .laload cv a b k pc L st h nc ns = true) : W p l e R s m args below meth c H locs nc ns Q (F0 m pc ls stc) := by
  have hdg : decode E.2.1 pc = .ok (.laload, 1) := of_decide_eq_true k1
  obtain ⟨hl, hL, hst, hH, hP, hD, hS, hnc, hns, hpre⟩ := hrel
  obtain ⟨hx, hb, hml, hown, hts, hini, hK, -, hF, -, -, -, hA, -⟩ := C
  simp only [zstep] at hz
  split at hz
  · next i q r =>
    obtain ⟨w, v0, rest, rfl, h0, ⟨b0, hb0, rfl⟩, hrest⟩ := zL2_2 hst
    cases h0
    obtain ⟨vs, h1, h2, hz⟩ := zrow_sp hz
    obtain ⟨v, hv, hin, hz⟩ := zel_sp hz
    obtain ⟨n, f, g1, g2, g3, ⟨f, rfl⟩, g5⟩ := z_refarr (t := 1) hH h1 h2 hb0
    exact va_lald hx hb hK hP q 1 g1 rfl (by rw [← g3]; exact hin) hdg (IH _ hz ls _ H locs ws ⟨hl, hL, ⟨g5 _ _ hv, hrest⟩, hH, hP, hD, hS, hnc, hns, hpre⟩)
  · cases hz
theorem z_ald (C : zCx p R s m args meth c prog zst TG TN scr adK adV ext D ct A E rc rs d) (IH : ∀ x, K x = true → zGo p l e R s m args below meth c Q ext D ct (zEm E) rc rs A ws0 x) (hrel : zRel ext D ct (zEm E) rc rs A s.heap ws0 L st h nc ns ls stc H locs ws)
    (k1 : zdec E.2.1 pc .aaload = true) (hz : zstep zNf zdfl zslen prog (zEm E) rc rs scr cc K .aaload cv a b k pc L st h nc ns = true) : W p l e R s m args below meth c H locs nc ns Q (F0 m pc ls stc) := by
  have hdg : decode E.2.1 pc = .ok (.aaload, 1) := of_decide_eq_true k1
  obtain ⟨hl, hL, hst, hH, hP, hD, hS, hnc, hns, hpre⟩ := hrel
  obtain ⟨hx, hb, hml, hown, hts, hini, hK, -, hF, -, -, -, hA, -⟩ := C
  simp only [zstep] at hz
  split at hz
  · next i q r =>
    obtain ⟨w, v0, rest, rfl, h0, ⟨b0, hb0, rfl⟩, hrest⟩ := zL2_2 hst
    cases h0
    split at hz
    · next x hx0 =>
      obtain ⟨h2, hz⟩ := z_and hz
      obtain ⟨h3, hz⟩ := z_and hz
      have h3 := z_ble h3
      obtain ⟨x1, x2⟩ := x
      obtain ⟨v, hv, hin, hz2⟩ := zel_sp hz
      obtain ⟨t, rfl⟩ : ∃ t, x1 = 10 + (t + 2) := ⟨x1 - 12, by have : 12 ≤ x1 := h3; omega⟩
      obtain ⟨n, f, g1, g2, g3, ⟨f, rfl⟩, g5⟩ := z_refarr (t := t + 2) hH hx0 (z_blt h2) hb0
      refine z_aald hx hb hK hP q (t + 2) (ty := ztyA (t + 2)) ?_ g1 (z_tys ct g2) (by rw [← g3]; exact hin) hdg (IH _ hz2 ls _ H locs ws ⟨hl, hL, ⟨g5 _ _ hv, hrest⟩, hH, hP, hD, hS, hnc, hns, hpre⟩)
      match t, g2 with
      | 0, _ => rfl
      | 1, _ => rfl
      | 2, _ => rfl
    · cases hz
  · cases hz
theorem z_ist (C : zCx p R s m args meth c prog zst TG TN scr adK adV ext D ct A E rc rs d) (IH : ∀ x, K x = true → zGo p l e R s m args below meth c Q ext D ct (zEm E) rc rs A ws0 x) (hrel : zRel ext D ct (zEm E) rc rs A s.heap ws0 L st h nc ns ls stc H locs ws)
    (k1 : zdec E.2.1 pc .iastore = true) (hz : zstep zNf zdfl zslen prog (zEm E) rc rs scr cc K .iastore cv a b k pc L st h nc ns = true) : W p l e R s m args below meth c H locs nc ns Q (F0 m pc ls stc) := by
  have hdg : decode E.2.1 pc = .ok (.iastore, 1) := of_decide_eq_true k1
  obtain ⟨hl, hL, hst, hH, hP, hD, hS, hnc, hns, hpre⟩ := hrel
  obtain ⟨hx, hb, hml, hown, hts, hini, hK, -, hF, -, -, -, hA, -⟩ := C
  simp only [zstep] at hz
  split at hz
  · next v i q r =>
    obtain ⟨w, v0, rest0, rfl, hg, h0, hrest0⟩ := zL2_2 hst
    cases h0
    obtain ⟨v1, rest, rfl, ⟨b0, hb0, rfl⟩, hrest⟩ := zL2_cons hrest0
    obtain ⟨h3, hz⟩ := z_and hz
    obtain ⟨x, rfl, -⟩ := zg_I hg h3
    obtain ⟨vs, h1, h2, hz⟩ := zrow_sp hz
    obtain ⟨h4, hz⟩ := z_and hz
    obtain ⟨n, f, g1, g2, g3, ⟨f, rfl⟩, g5⟩ := z_refarr (t := 0) hH h1 h2 hb0
    refine va_iast hx hb hK hP hD hS q 0 g1 rfl (by rw [← g3]; exact zix_sp h4) hdg (fun H1 locs1 hP1 hD1 hS1 => ?_)
    have er := zrho_set (ext := ext) (e := .inl (ct 0, n, .inl (upd f i.toNatClampNeg x))) g1
    refine IH _ hz ls _ H1 locs1 _ ⟨hl, by rw [er]; exact hL, by rw [er]; exact hrest, ?_, hP1, hD1, hS1, hnc, hns, zPre_tr hpre (zPre_set g1)⟩
    rw [er]
    refine zHp_set hH ⟨0, rfl, by omega, rfl, by rw [List.length_set]; exact g3, ⟨_, rfl⟩, fun j a9 hj => ?_⟩
    rcases zset_get hj with ⟨rfl, rfl⟩ | ⟨hne, hj⟩
    · show zg _ _ (.int (upd f i.toNatClampNeg x i.toNatClampNeg))
      rw [pk_us]
      exact hg
    · show zg _ _ (.int (upd f i.toNatClampNeg x j))
      rw [pk_un hne]
      exact g5 _ _ hj
  · cases hz
theorem z_lst (C : zCx p R s m args meth c prog zst TG TN scr adK adV ext D ct A E rc rs d) (IH : ∀ x, K x = true → zGo p l e R s m args below meth c Q ext D ct (zEm E) rc rs A ws0 x) (hrel : zRel ext D ct (zEm E) rc rs A s.heap ws0 L st h nc ns ls stc H locs ws)
    (k1 : zdec E.2.1 pc .lastore = true) (hz : zstep zNf zdfl zslen prog (zEm E) rc rs scr cc K .lastore cv a b k pc L st h nc ns = true) : W p l e R s m args below meth c H locs nc ns Q (F0 m pc ls stc) := by
  have hdg : decode E.2.1 pc = .ok (.lastore, 1) := of_decide_eq_true k1
  obtain ⟨hl, hL, hst, hH, hP, hD, hS, hnc, hns, hpre⟩ := hrel
  obtain ⟨hx, hb, hml, hown, hts, hini, hK, -, hF, -, -, -, hA, -⟩ := C
  simp only [zstep] at hz
  split at hz
  · next v i q r =>
    obtain ⟨w, v0, rest0, rfl, hg, h0, hrest0⟩ := zL2_2 hst
    cases h0
    obtain ⟨v1, rest, rfl, ⟨b0, hb0, rfl⟩, hrest⟩ := zL2_cons hrest0
    obtain ⟨h3, hz⟩ := z_and hz
    obtain ⟨x, rfl, -⟩ := zg_L hg h3
    obtain ⟨vs, h1, h2, hz⟩ := zrow_sp hz
    obtain ⟨h4, hz⟩ := z_and hz
    obtain ⟨n, f, g1, g2, g3, ⟨f, rfl⟩, g5⟩ := z_refarr (t := 1) hH h1 h2 hb0
    refine va_last hx hb hK hP hD hS q 1 g1 rfl (by rw [← g3]; exact zix_sp h4) hdg (fun H1 locs1 hP1 hD1 hS1 => ?_)
    have er := zrho_set (ext := ext) (e := .inl (ct 1, n, .inr (.inl (vp_updL f i.toNatClampNeg x)))) g1
    refine IH _ hz ls _ H1 locs1 _ ⟨hl, by rw [er]; exact hL, by rw [er]; exact hrest, ?_, hP1, hD1, hS1, hnc, hns, zPre_tr hpre (zPre_set g1)⟩
    rw [er]
    refine zHp_set hH ⟨1, rfl, by omega, rfl, by rw [List.length_set]; exact g3, ⟨_, rfl⟩, fun j a9 hj => ?_⟩
    rcases zset_get hj with ⟨rfl, rfl⟩ | ⟨hne, hj⟩
    · show zg _ _ (.long (vp_updL f i.toNatClampNeg x i.toNatClampNeg))
      rw [pk_uLs]
      exact hg
    · show zg _ _ (.long (vp_updL f i.toNatClampNeg x j))
      rw [pk_uLn hne]
      exact g5 _ _ hj
  · cases hz
theorem z_ast (C : zCx p R s m args meth c prog zst TG TN scr adK adV ext D ct A E rc rs d) (IH : ∀ x, K x = true → zGo p l e R s m args below meth c Q ext D ct (zEm E) rc rs A ws0 x) (hrel : zRel ext D ct (zEm E) rc rs A s.heap ws0 L st h nc ns ls stc H locs ws)
    (k1 : zdec E.2.1 pc .aastore = true) (hz : zstep zNf zdfl zslen prog (zEm E) rc rs scr cc K .aastore cv a b k pc L st h nc ns = true) : W p l e R s m args below meth c H locs nc ns Q (F0 m pc ls stc) := by
  have hdg : decode E.2.1 pc = .ok (.aastore, 1) := of_decide_eq_true k1
  obtain ⟨hl, hL, hst, hH, hP, hD, hS, hnc, hns, hpre⟩ := hrel
  obtain ⟨hx, hb, hml, hown, hts, hini, hK, -, hF, -, -, -, hA, -⟩ := C
  simp only [zstep] at hz
  split at hz
  · next o i q r =>
    obtain ⟨w, v0, rest0, rfl, ⟨b1, hb1, rfl⟩, h0, hrest0⟩ := zL2_2 hst
    cases h0
    obtain ⟨v1, rest, rfl, ⟨b0, hb0, rfl⟩, hrest⟩ := zL2_cons hrest0
    obtain ⟨os, o1, o2, hz⟩ := zrow_sp hz
    obtain ⟨vs, h1, h2, hz⟩ := zrow_sp hz
    obtain ⟨h4, hz⟩ := z_and hz
    obtain ⟨fv, p1, p2⟩ := z_refobj hH o1 o2 (by omega) hb1
    obtain ⟨n, f, g1, g2, g3, ⟨f, rfl⟩, g5⟩ := z_refarr (t := 2) hH h1 h2 hb0
    refine va_astq hx hb hK hP hD hS q 2 o 0 (r := (RX0, TX0, 3)) g1 rfl p1 rfl (by rw [← g3]; exact zix_sp h4) hdg (fun H1 locs1 hP1 hD1 hS1 => ?_)
    have er := zrho_set (ext := ext) (e := .inl (ct 2, n, .inr (.inr (.inr (.inr (va_up f i.toNatClampNeg (some b1))))))) g1
    refine IH _ hz ls _ H1 locs1 _ ⟨hl, by rw [er]; exact hL, by rw [er]; exact hrest, ?_, hP1, hD1, hS1, hnc, hns, zPre_tr hpre (zPre_set g1)⟩
    rw [er]
    refine zHp_set hH ⟨2, rfl, by omega, rfl, by rw [List.length_set]; exact g3, ⟨_, rfl⟩, fun j a9 hj => ?_⟩
    rcases zset_get hj with ⟨rfl, rfl⟩ | ⟨hne, hj⟩
    · show zg _ _ (va_rf (va_up f i.toNatClampNeg (some b1) i.toNatClampNeg))
      have : va_up f i.toNatClampNeg (some b1) i.toNatClampNeg = some b1 := if_pos rfl
      rw [this]
      exact ⟨b1, hb1, rfl⟩
    · show zg _ _ (va_rf (va_up f i.toNatClampNeg (some b1) j))
      have : va_up f i.toNatClampNeg (some b1) j = f j := if_neg hne
      rw [this]
      exact g5 _ _ hj
  · cases hz
theorem z_alen (C : zCx p R s m args meth c prog zst TG TN scr adK adV ext D ct A E rc rs d) (IH : ∀ x, K x = true → zGo p l e R s m args below meth c Q ext D ct (zEm E) rc rs A ws0 x) (hrel : zRel ext D ct (zEm E) rc rs A s.heap ws0 L st h nc ns ls stc H locs ws)
    (k1 : zdec E.2.1 pc .arraylength = true) (hz : zstep zNf zdfl zslen prog (zEm E) rc rs scr cc K .arraylength cv a b k pc L st h nc ns = true) : W p l e R s m args below meth c H locs nc ns Q (F0 m pc ls stc) := by
  have hdg : decode E.2.1 pc = .ok (.arraylength, 1) := of_decide_eq_true k1
  obtain ⟨hl, hL, hst, hH, hP, hD, hS, hnc, hns, hpre⟩ := hrel
  obtain ⟨hx, hb, hml, hown, hts, hini, hK, -, hF, -, -, -, hA, -⟩ := C
  simp only [zstep] at hz
  split at hz
  · next q r =>
    obtain ⟨v0, rest, rfl, ⟨b0, hb0, rfl⟩, hrest⟩ := zL2_cons hst
    split at hz
    · next hq =>
      subst hq
      obtain ⟨-, -, -, -, b1, xs, f1, f2, f3, f4, f5⟩ := hF
      unfold zrho at hb0
      rw [if_neg (Nat.not_lt.mpr (Nat.le_of_ble_eq_true rfl)), f1] at hb0
      cases hb0
      exact va_slen hx hb f4 f3 f2 hS hdg (IH _ hz ls _ H locs ws ⟨hl, hL, ⟨rfl, hrest⟩, hH, hP, hD, hS, hnc, hns, hpre⟩)
    · split at hz
      · next x hx0 =>
        obtain ⟨h2, hz⟩ := z_and hz
        obtain ⟨h3, hz⟩ := z_and hz
        have h3 := z_ble h3
        obtain ⟨x1, x2⟩ := x
        obtain ⟨t, rfl⟩ : ∃ t, x1 = 10 + t := ⟨x1 - 10, by have : 10 ≤ x1 := h3; omega⟩
        obtain ⟨n, f, g1, g2, g3, g4, g5⟩ := z_refarr (t := t) hH hx0 (z_blt h2) hb0
        exact va_alen hx hb hK hP q t g1 (z_tys ct g2) (v := Int32.ofNat x2.length) (by rw [← g3]) hdg (IH _ hz ls _ H locs ws ⟨hl, hL, ⟨rfl, hrest⟩, hH, hP, hD, hS, hnc, hns, hpre⟩)
      · cases hz
  · cases hz
theorem z_acopy (C : zCx p R s m args meth c prog zst TG TN scr adK adV ext D ct A E rc rs d) (hgl : ∀ w ∈ zglob, w ∈ TG) (IH : ∀ x, K x = true → zGo p l e R s m args below meth c Q ext D ct (zEm E) rc rs A ws0 x) (hrel : zRel ext D ct (zEm E) rc rs A s.heap ws0 L st h nc ns ls stc H locs ws) {ix : Nat}
    (hdg : decode E.2.1 pc = .ok (.invokestatic ix, 3)) (k3 : Cond.methodLink E.1.cls ix arraycopyName ∈ TG)
    {n dp sp : Int32} {q1 q0 : Nat} (est : st = .inl (.int n) :: .inl (.int dp) :: .inl (.ref q1) :: .inl (.int sp) :: .inl (.ref q0) :: []) (h1 : ¬ n < 0) (h2 : ¬ dp < 0) (h3 : ¬ sp < 0) {f g : List zV} (hf : h[q0]? = some (10, f)) (hg : h[q1]? = some (10, g)) (hf2 : q0 < 1000000) (hg2 : q1 < 1000000) (hn1 : sp.toNatClampNeg + n.toNatClampNeg ≤ f.length) (hn2 : dp.toNatClampNeg + n.toNatClampNeg ≤ g.length)
    (hz : K (pc + 3, L, [], h.set q1 (10, zcpy f g sp.toNatClampNeg dp.toNatClampNeg n.toNatClampNeg), nc, ns) = true) : W p l e R s m args below meth c H locs nc ns Q (F0 m pc ls stc) := by
  obtain ⟨hl, hL, hst, hH, hP, hD, hS, hnc, hns, hpre⟩ := hrel
  obtain ⟨hx, hb, hml, hown, hts, hini, hK, -, hF, -, -, -, hA, hfr, hlo, -⟩ := C
  rw [est] at hst
  obtain ⟨w1, w2, r1, rfl, e1, e2, hst1⟩ := zL2_2 hst
  obtain ⟨w3, w4, r2, rfl, ⟨b1, hb1, rfl⟩, e4, hst2⟩ := zL2_2 hst1
  obtain ⟨w5, r3, rfl, ⟨b0, hb0, rfl⟩, hst3⟩ := zL2_cons hst2
  have e5 := zL2_nil hst3
  subst e5
  cases e1
  cases e2
  cases e4
  obtain ⟨n0, f0, g1, g2, g3, ⟨f0, rfl⟩, g5⟩ := z_refarr (t := 0) hH hf hf2 hb0
  obtain ⟨n1, f1, j1, j2, j3, ⟨f1, rfl⟩, j5⟩ := z_refarr (t := 0) hH hg hg2 hb1
  refine va_copyi hx hb (by rw [hml]; exact hl.1.symm) hown (hts _ k3) (hts _ (hgl _ (by simp [zglob]))) (hts _ (hgl _ (by simp [zglob]))) (hts _ (hgl _ (by simp [zglob]))) hK hP hD hS q0 q1 0 0 g1 j1 rfl rfl rfl h3 h2 h1 (by rw [← g3]; exact hn1) (by rw [← j3]; exact hn2) (fun i _ => rfl) (by omega) ?_ hdg (fun H1 locs1 hP1 hD1 hS1 => ?_)
  · have : nativeFrameWords "java/lang/System" "arraycopy" 5 = 7 := by decide +kernel
    rw [this]
    show 0 + 18 ≤ R.locals
    omega
  · have er := zrho_set (ext := ext) (e := .inl (ct 0, n1, .inl (va_cpy f0 f1 sp.toNatClampNeg dp.toNatClampNeg n.toNatClampNeg))) j1
    refine IH _ hz ls _ H1 locs1 _ ⟨hl, by rw [er]; exact hL, trivial, ?_, hP1, hD1, hS1, hnc, hns, zPre_tr hpre (zPre_set j1)⟩
    rw [er]
    refine zHp_set hH ⟨0, rfl, by omega, rfl, by show (zcpy _ _ _ _ _).length = _; rw [zcpy_len hn1 hn2]; exact j3, ⟨_, rfl⟩, fun j a9 hj => ?_⟩
    obtain ⟨c1, c2⟩ := zcpy_get hn1 hn2 hj
    by_cases hjj : dp.toNatClampNeg ≤ j ∧ j < dp.toNatClampNeg + n.toNatClampNeg
    · show zg _ _ (.int (va_cpy f0 f1 sp.toNatClampNeg dp.toNatClampNeg n.toNatClampNeg j))
      rw [pk_cpy_in hjj.1 hjj.2]
      exact g5 _ _ (c1 hjj)
    · show zg _ _ (.int (va_cpy f0 f1 sp.toNatClampNeg dp.toNatClampNeg n.toNatClampNeg j))
      rw [pk_cpy_out (by omega)]
      exact j5 _ _ (c2 hjj)
end
end
section
theorem z_ar1 {a b : Nat} (h1 : 1000000 ≤ a) (h2 : b = a - 1000000) : a = 1000000 + b := by omega
theorem z_pl {l : List Nat} {f : Nat → va_E} {v : va_E} : va_pl ([] ++ l) (vr_up f l v) = l.map (fun a => (a, v)) := by
  unfold va_pl
  rw [List.nil_append]
  apply List.map_congr_left
  intro a ha
  rw [vr_up_in ha]
section
variable {p : Program} {l : Launch} {e : Env} {R : Room} {s : State} {m : MethodId} {args : Array Value} {below : List Frame} {meth : Method} {c : Code} {Q : State → Prop}
variable {prog : Nat → Option zE} {zst : zSt} {TG TN : List Cond} {scr : List zV} {adK adV : Nat → Nat} {ext : Nat → Option Nat} {D : va_G} {ct : Nat → ClassId} {A : Nat → Prop} {E : zE} {rc rs d : Nat} {ws0 : va_W}
variable {K : zS → Bool} {cv : zV} {a b k pc nc ns : Nat} {L : zL} {st : List zV} {h : zH} {ls : Array Slot} {stc : List Value} {H : Heap} {locs : List Loc} {ws : va_W} {cc : zK}
theorem z_mrel {x : zV} {t u N Kn : Nat} {r0 : List zV} {rest : List Value} {q : Nat} {r : Nat → Nat} {f : (Nat → Int32) ⊕ (Nat → Int64) ⊕ (Nat → UInt32) ⊕ (Nat → UInt64) ⊕ (Nat → Option Nat)} {H1 : Heap} {nc' ns' : Nat} (ht : t = 3 ∨ t = 4) (hu : u < 5) (hk : zkd u f) (hv : ∀ (ρ : Nat → Option Nat) (j : Nat), zg ρ x (zval f j))
    (hl : lv_has ls (zEm E) []) (hL : zLo (zrho ws ext) L ls) (hr : zL2 (zrho ws ext) r0 rest) (hH : zHp (zrho ws ext) ct h ws) (h3 : h.length + N < 1000000)
    (hP1 : va_P D vwCl (ws ++ ((q, .inl (ct t, N, .inr (.inr (.inr (.inr (fun i => if i < N then some (r i) else none)))))) :: (List.range N).map (fun i => (r i, .inl (ct u, Kn, f))))) H1) (hD1 : va_D A (ws ++ ((q, .inl (ct t, N, .inr (.inr (.inr (.inr (fun i => if i < N then some (r i) else none)))))) :: (List.range N).map (fun i => (r i, .inl (ct u, Kn, f)))))) (hS1 : va_S A s.heap H1 locs) (hnc : nc' ≤ rc) (hns : ns' ≤ rs) (hpre : zPre ws0 ws) :
    zRel ext D ct (zEm E) rc rs A s.heap ws0 L (.inl (.ref h.length) :: r0) (h ++ ((10 + t, (List.range N).map (fun i => .inl (.ref (h.length + 1 + i)))) :: List.replicate N (10 + u, List.replicate Kn x))) nc' ns' ls (.ref q :: rest) H1 locs (ws ++ ((q, .inl (ct t, N, .inr (.inr (.inr (.inr (fun i => if i < N then some (r i) else none)))))) :: (List.range N).map (fun i => (r i, .inl (ct u, Kn, f))))) := by
  generalize hw : ((q, .inl (ct t, N, .inr (.inr (.inr (.inr (fun i => if i < N then some (r i) else none)))))) :: (List.range N).map (fun i => (r i, .inl (ct u, Kn, f))) : va_W) = w2 at hP1 hD1 ⊢
  have hm : ∀ k9 a9 : Nat, zrho ws ext k9 = some a9 → zrho (ws ++ w2) ext k9 = some a9 := fun _ _ hk => zrho_app hk
  have e0 : (ws ++ w2)[h.length]? = some (q, .inl (ct t, N, .inr (.inr (.inr (.inr (fun i => if i < N then some (r i) else none)))))) := by
    rw [hH.1, List.getElem?_append_right (Nat.le_refl _), Nat.sub_self, ← hw]
    rfl
  have e1 : ∀ i, i < N → (ws ++ w2)[h.length + 1 + i]? = some (r i, .inl (ct u, Kn, f)) := fun i hi => by
    rw [hH.1, List.getElem?_append_right (by omega), show ws.length + 1 + i - ws.length = i + 1 by omega, ← hw, List.getElem?_cons_succ, List.getElem?_map, List.getElem?_range hi]
    rfl
  refine ⟨hl, zLo_mono hm hL, ⟨⟨q, zrho_at (by omega) e0, rfl⟩, zL2_mono hm hr⟩, zHp_app (zHp_mono hm hH) ?_, hP1, hD1, hS1, hnc, hns, zPre_tr hpre (zPre_app _ _)⟩
  refine ⟨by rw [← hw]; simp, fun i c' q' h1 h2 => ?_⟩
  cases i with
  | zero =>
    rw [← hw, List.getElem?_cons_zero] at h2
    rw [List.getElem?_cons_zero] at h1
    cases h1
    cases h2
    refine ⟨t, rfl, by omega, rfl, by simp, ?_, fun j a9 hj => ?_⟩
    · rcases ht with rfl | rfl <;> exact ⟨_, rfl⟩
    · have hj1 : j < N := by
        have := (List.getElem?_eq_some_iff.mp hj).1
        simpa using this
      rw [List.getElem?_map, List.getElem?_range hj1] at hj
      cases hj
      refine ⟨r j, zrho_at (by omega) (e1 j hj1), ?_⟩
      show va_rf (if j < N then some (r j) else none) = _
      rw [if_pos hj1]
      rfl
  | succ i =>
    rw [← hw, List.getElem?_cons_succ] at h2
    rw [List.getElem?_cons_succ] at h1
    have hi1 : i < N := by
      have := (List.getElem?_eq_some_iff.mp h1).1
      simpa using this
    rw [List.getElem?_map, List.getElem?_range hi1] at h2
    have h5 := List.eq_of_mem_replicate (List.mem_of_getElem? h1)
    cases h2
    subst h5
    refine ⟨u, rfl, hu, rfl, by simp, hk, fun j a9 hj => ?_⟩
    have h6 := List.eq_of_mem_replicate (List.mem_of_getElem? hj)
    rw [h6]
    exact hv _ _
theorem z_mna (C : zCx p R s m args meth c prog zst TG TN scr adK adV ext D ct A E rc rs d) (IH : ∀ x, K x = true → zGo p l e R s m args below meth c Q ext D ct (zEm E) rc rs A ws0 x) (hrel : zRel ext D ct (zEm E) rc rs A s.heap ws0 L st h nc ns ls stc H locs ws) {ix dd : Nat}
    (k1 : zdec E.2.1 pc (.multianewarray ix dd) = true) (k2 : zside prog E.1 zst (.multianewarray ix dd) cv a b k = true) (k3 : ∀ w ∈ zwords prog E.1.cls (.multianewarray ix dd) cv a b, w ∈ TG)
    (hz : zstep zNf zdfl zslen prog (zEm E) rc rs scr cc K (.multianewarray ix dd) cv a b k pc L st h nc ns = true) : W p l e R s m args below meth c H locs nc ns Q (F0 m pc ls stc) := by
  have hdg : decode E.2.1 pc = .ok (.multianewarray ix dd, 4) := of_decide_eq_true k1
  have hdd : dd = 2 := Nat.eq_of_beq_eq_true (z_and k2).1
  subst hdd
  obtain ⟨hl, hL, hst, hH, hP, hD, hS, hnc, hns, hpre⟩ := hrel
  obtain ⟨hx, hb, hml, hown, hts, hini, hK, -, -, -, hO1, hO2, hA, -, -, hrc, hrs, -, huw⟩ := C
  simp only [zstep] at hz
  split at hz
  · next kn n r0 =>
    obtain ⟨w0, w1, rest, rfl, e0, e1, hrest⟩ := zL2_2 hst
    cases e0
    cases e1
    split at hz
    · cases hz
    · next hn =>
      split at hz
      · cases hz
      · next hkn =>
        obtain ⟨h1, hz⟩ := z_and hz
        obtain ⟨h2, hz⟩ := z_and hz
        obtain ⟨h3, hz⟩ := z_and hz
        obtain ⟨h4, hz⟩ := z_and hz
        obtain ⟨h5, hz⟩ := z_and hz
        have h1 := z_ble h1
        have h2 := z_ble h2
        have h3 := z_ble h3
        have h4 := z_ble h4
        have h5 := z_blt h5
        have hPa : va_P D vwCl (ws ++ va_pl [] (fun _ => .inr (0, []))) H := by
          rw [show va_pl [] (fun _ => (.inr (0, []) : va_E)) = [] from rfl, List.append_nil]
          exact hP
        have hDa : va_D A (ws ++ va_pl [] (fun _ => .inr (0, []))) := by
          rw [show va_pl [] (fun _ => (.inr (0, []) : va_E)) = [] from rfl, List.append_nil]
          exact hD
        split at hz
        · have hcy : s.vm.findClass (FieldType.array FieldType.long).toString = some (ct 1) := (hK.2 1 _ (z_tys ct (by omega))).2
          refine va_mna (ty := .long) (z := (kn.toNatClampNeg, .inr (.inl (fun _ => 0)))) hx hb hown (hts _ (k3 _ List.mem_cons_self)) hO1 (hts _ (k3 _ (List.mem_cons_of_mem _ List.mem_cons_self))) hcy hK hPa hDa hS hA hn hkn rfl rfl (by omega) (by show kn.toNatClampNeg * 8 ≤ _; omega) (by omega) rfl rfl (by omega) (by omega) (fun c9 => by first | rfl | (rw [vp_cell_l]; exact arrV_new _ _ _) | (rw [vp_cell_l]; exact (arrV_new _ _ _).symm)) hdg (fun q r cA H1 hi hj hK1 hP1 hD1 hS1 => ?_)
          have hc := z_ctu (t := 3) (by omega) hK hK1
          subst hc
          rw [z_pl, List.append_assoc, List.map_map] at hP1 hD1
          exact IH _ hz ls _ H1 locs _ (z_mrel (t := 3) (u := 1) (f := .inr (.inl (fun _ => 0))) (Or.inl rfl) (by omega) ⟨_, rfl⟩ (fun _ _ => rfl) hl hL hrest hH h5 hP1 hD1 hS1 h3 h4 hpre)
        · have hcy : s.vm.findClass (FieldType.array FieldType.int).toString = some (ct 0) := (hK.2 0 _ (z_tys ct (by omega))).2
          refine va_mna (ty := .int) (z := (kn.toNatClampNeg, .inl (fun _ => 0))) hx hb hown (hts _ (k3 _ List.mem_cons_self)) hO2 (hts _ (k3 _ (List.mem_cons_of_mem _ List.mem_cons_self))) hcy hK hPa hDa hS hA hn hkn rfl rfl (by omega) (by show kn.toNatClampNeg * 4 ≤ _; omega) (by omega) rfl rfl (by omega) (by omega) (fun c9 => by first | rfl | (rw [vp_cell_i]; exact arrV_new _ _ _) | (rw [vp_cell_i]; exact (arrV_new _ _ _).symm)) hdg (fun q r cA H1 hi hj hK1 hP1 hD1 hS1 => ?_)
          have hc := z_ctu (t := 4) (by omega) hK hK1
          subst hc
          rw [z_pl, List.append_assoc, List.map_map] at hP1 hD1
          exact IH _ hz ls _ H1 locs _ (z_mrel (t := 4) (u := 0) (f := .inl (fun _ => 0)) (Or.inr rfl) (by omega) ⟨_, rfl⟩ (fun _ _ => rfl) hl hL hrest hH h5 hP1 hD1 hS1 h3 h4 hpre)
        · cases hz
  · cases hz
theorem z_ldc (C : zCx p R s m args meth c prog zst TG TN scr adK adV ext D ct A E rc rs d) (IH : ∀ x, K x = true → zGo p l e R s m args below meth c Q ext D ct (zEm E) rc rs A ws0 x) (hrel : zRel ext D ct (zEm E) rc rs A s.heap ws0 L st h nc ns ls stc H locs ws) {ix : Nat}
    (k1 : zdec E.2.1 pc (.ldc ix) = true) (k2 : zside prog E.1 zst (.ldc ix) cv a b k = true) (k3 : ∀ w ∈ zwords prog E.1.cls (.ldc ix) cv a b, w ∈ TG)
    (hz : K (pc + 2, L, cv :: st, h, nc, ns) = true) : W p l e R s m args below meth c H locs nc ns Q (F0 m pc ls stc) := by
  have hdg : decode E.2.1 pc = .ok (.ldc ix, 2) := of_decide_eq_true k1
  obtain ⟨hl, hL, hst, hH, hP, hD, hS, hnc, hns, hpre⟩ := hrel
  obtain ⟨hx, hb, hml, hown, hts, hini, hK, -, hF, -⟩ := C
  simp only [zside] at k2
  split at k2
  · next x => exact lv_ldc hx hb hown (hts _ (k3 _ List.mem_cons_self)) hdg (IH _ hz ls _ H locs ws ⟨hl, hL, ⟨rfl, hst⟩, hH, hP, hD, hS, hnc, hns, hpre⟩)
  · next kk =>
    obtain ⟨q1, q2⟩ := z_and k2
    obtain ⟨q, hq, hq2⟩ := List.any_eq_true.mp q2
    obtain ⟨q3, q4⟩ := z_and hq2
    obtain ⟨q5, q6⟩ := z_and q4
    have q1 : 1000000 ≤ kk := z_ble q1
    have q3 : q.1 = E.1.cls := of_decide_eq_true q3
    have q5 := Nat.eq_of_beq_eq_true q5
    have q6 : q.2.2.2 = kk - 1000000 := Nat.eq_of_beq_eq_true q6
    have q7 : kk = 1000000 + q.2.2.2 := z_ar1 q1 q6
    obtain ⟨f1, f2⟩ := hF.1 q hq
    rw [q3, q5] at f1
    have f3 := hF.2.1 _ f2
    refine va_ldcS hx hb hown f1 hdg (IH _ hz ls _ H locs ws ⟨hl, hL, ⟨⟨_, ?_, rfl⟩, hst⟩, hH, hP, hD, hS, hnc, hns, hpre⟩)
    unfold zrho
    rw [if_neg (Nat.not_lt.mpr q1), q7]
    exact f3
  · cases k2
theorem z_tsw (C : zCx p R s m args meth c prog zst TG TN scr adK adV ext D ct A E rc rs d) (IH : ∀ x, K x = true → zGo p l e R s m args below meth c Q ext D ct (zEm E) rc rs A ws0 x) (hrel : zRel ext D ct (zEm E) rc rs A s.heap ws0 L st h nc ns ls stc H locs ws) {df lo hi : Int} {offs : Array Int}
    (k1 : zdec E.2.1 pc (.tableswitch df lo hi offs) = true)
    (hz : zstep zNf zdfl zslen prog (zEm E) rc rs scr cc K (.tableswitch df lo hi offs) cv a b k pc L st h nc ns = true) : W p l e R s m args below meth c H locs nc ns Q (F0 m pc ls stc) := by
  obtain ⟨len, hdg⟩ := zdec_t k1
  obtain ⟨hl, hL, hst, hH, hP, hD, hS, hnc, hns, hpre⟩ := hrel
  obtain ⟨hx, hb, -⟩ := C
  simp only [zstep] at hz
  split at hz
  · next v r =>
    obtain ⟨w, rest, rfl, hg, hrest⟩ := zL2_cons hst
    obtain ⟨h1, hz⟩ := z_and hz
    obtain ⟨x, rfl, b1, b2⟩ := zg_I hg h1
    split at hz
    · next ho =>
      obtain ⟨t, ht, hz⟩ := zof_sp hz
      exact lv_tableOut hx hb hdg (by omega) ht (IH _ hz ls _ H locs ws ⟨hl, hL, hrest, hH, hP, hD, hS, hnc, hns, hpre⟩)
    · split at hz
      · next z =>
        cases hg
        obtain ⟨h2, hz⟩ := z_and hz
        obtain ⟨h3, hz⟩ := z_and hz
        split at hz
        · next off ho =>
          obtain ⟨t, ht, hz⟩ := zof_sp hz
          exact lv_tableIn hx hb hdg (by simpa using h2) (by simpa using h3) ho ht (IH _ hz ls _ H locs ws ⟨hl, hL, hrest, hH, hP, hD, hS, hnc, hns, hpre⟩)
        · cases hz
      · cases hz
  · cases hz
theorem z_icmp (C : zCx p R s m args meth c prog zst TG TN scr adK adV ext D ct A E rc rs d) (IH : ∀ x, K x = true → zGo p l e R s m args below meth c Q ext D ct (zEm E) rc rs A ws0 x) (hrel : zRel ext D ct (zEm E) rc rs A s.heap ws0 L st h nc ns ls stc H locs ws) {cd : ClassFile.Cond} {off : Int}
    (k1 : zdec E.2.1 pc (.if_icmp cd off) = true)
    (hz : zstep zNf zdfl zslen prog (zEm E) rc rs scr cc K (.if_icmp cd off) cv a b k pc L st h nc ns = true) : W p l e R s m args below meth c H locs nc ns Q (F0 m pc ls stc) := by
  have hdg : decode E.2.1 pc = .ok (.if_icmp cd off, 3) := of_decide_eq_true k1
  obtain ⟨hl, hL, hst, hH, hP, hD, hS, hnc, hns, hpre⟩ := hrel
  obtain ⟨hx, hb, -⟩ := C
  simp only [zstep] at hz
  split at hz
  · next vy vx r =>
    obtain ⟨wy, wx, rest, rfl, gy, gx, hrest⟩ := zL2_2 hst
    obtain ⟨h1, hz⟩ := z_and hz
    obtain ⟨h2, hz⟩ := z_and hz
    obtain ⟨x, rfl, bx⟩ := zg_I gx h1
    obtain ⟨y, rfl, bb⟩ := zg_I gy h2
    obtain ⟨t, ht, hz⟩ := zof_sp hz
    have T : zop cd x y → W p l e R s m args below meth c H locs nc ns Q (F0 m t ls rest) := fun hh => IH _ (zbr_t hz (zcond_t bx bb hh)) ls _ H locs ws ⟨hl, hL, hrest, hH, hP, hD, hS, hnc, hns, hpre⟩
    have F : ¬ zop cd x y → W p l e R s m args below meth c H locs nc ns Q (F0 m (pc + 3) ls rest) := fun hh => IH _ (zbr_f hz (zcond_f bx bb hh)) ls _ H locs ws ⟨hl, hL, hrest, hH, hP, hD, hS, hnc, hns, hpre⟩
    cases cd with
    | eq => exact lv_icmp_eq hx hb hdg ht T F
    | ne => exact lv_icmp_ne hx hb hdg ht T (fun q => F (fun q2 => q2 q))
    | lt => exact lv_icmp_lt hx hb hdg ht T F
    | ge => exact lv_icmp_ge hx hb hdg ht T F
    | gt => exact lv_icmp_gt hx hb hdg ht T F
    | le => exact lv_icmp_le hx hb hdg ht T F
  · cases hz
theorem z_ifc (C : zCx p R s m args meth c prog zst TG TN scr adK adV ext D ct A E rc rs d) (IH : ∀ x, K x = true → zGo p l e R s m args below meth c Q ext D ct (zEm E) rc rs A ws0 x) (hrel : zRel ext D ct (zEm E) rc rs A s.heap ws0 L st h nc ns ls stc H locs ws) {cd : ClassFile.Cond} {off : Int}
    (k1 : zdec E.2.1 pc (.ifCond cd off) = true)
    (hz : zstep zNf zdfl zslen prog (zEm E) rc rs scr cc K (.ifCond cd off) cv a b k pc L st h nc ns = true) : W p l e R s m args below meth c H locs nc ns Q (F0 m pc ls stc) := by
  have hdg : decode E.2.1 pc = .ok (.ifCond cd off, 3) := of_decide_eq_true k1
  obtain ⟨hl, hL, hst, hH, hP, hD, hS, hnc, hns, hpre⟩ := hrel
  obtain ⟨hx, hb, -⟩ := C
  simp only [zstep] at hz
  split at hz
  · next vx r =>
    obtain ⟨wx, rest, rfl, gx, hrest⟩ := zL2_cons hst
    obtain ⟨h1, hz⟩ := z_and hz
    obtain ⟨x, rfl, bx⟩ := zg_I gx h1
    obtain ⟨t, ht, hz⟩ := zof_sp hz
    have bb : zlo (.inl (.int 0)) ≤ (0 : Int32).toInt ∧ (0 : Int32).toInt ≤ zhi (.inl (.int 0)) := ⟨Int.le_refl _, Int.le_refl _⟩
    have T : zop cd x 0 → W p l e R s m args below meth c H locs nc ns Q (F0 m t ls rest) := fun hh => IH _ (zbr_t hz (zcond_t bx bb hh)) ls _ H locs ws ⟨hl, hL, hrest, hH, hP, hD, hS, hnc, hns, hpre⟩
    have F : ¬ zop cd x 0 → W p l e R s m args below meth c H locs nc ns Q (F0 m (pc + 3) ls rest) := fun hh => IH _ (zbr_f hz (zcond_f bx bb hh)) ls _ H locs ws ⟨hl, hL, hrest, hH, hP, hD, hS, hnc, hns, hpre⟩
    cases cd with
    | eq => exact lv_if_eq hx hb hdg ht T F
    | ne => exact lv_if_ne hx hb hdg ht T (fun q => F (fun q2 => q2 q))
    | lt => exact lv_if_lt hx hb hdg ht T F
    | ge => exact lv_if_ge hx hb hdg ht T F
    | gt => exact lv_if_gt hx hb hdg ht T F
    | le => exact lv_if_le hx hb hdg ht T F
  · cases hz
end
end
section
section
variable {p : Program} {l : Launch} {e : Env} {R : Room} {s : State} {m : MethodId} {args : Array Value} {below : List Frame} {meth : Method} {c : Code} {Q : State → Prop}
variable {prog : Nat → Option zE} {zst : zSt} {TG TN : List Cond} {scr : List zV} {adK adV : Nat → Nat} {ext : Nat → Option Nat} {D : va_G} {ct : Nat → ClassId} {A : Nat → Prop} {E : zE} {rc rs d : Nat} {ws0 : va_W}
variable {K : zS → Bool} {cv : zV} {a b k pc nc ns : Nat} {L : zL} {st : List zV} {h : zH} {ls : Array Slot} {stc : List Value} {H : Heap} {locs : List Loc} {ws : va_W} {cc : zK}
theorem zstep_sound (C : zCx p R s m args meth c prog zst TG TN scr adK adV ext D ct A E rc rs d) (hG : zGood TG) (hTN : zTNok TN) (hOk : zOkP prog zst TG TN) (HL : zSL l zst TG TN scr adK adV ext D ct d) (hLw : ∀ w ∈ zmwords zESL, w ∈ TG) (hgl : ∀ w ∈ zglob, w ∈ TG)
    (HM : ∀ j vs h post, cc j vs h post = true → zMet l prog zst TG TN scr adK adV ext D ct d j vs h post) (IH : ∀ x, K x = true → zGo p l e R s m args below meth c Q ext D ct (zEm E) rc rs A ws0 x) (hrel : zRel ext D ct (zEm E) rc rs A s.heap ws0 L st h nc ns ls stc H locs ws) {ins : Instr}
    (k1 : zdec E.2.1 pc ins = true) (k2 : zside prog E.1 zst ins cv a b k = true) (k3 : ∀ w ∈ zwords prog E.1.cls ins cv a b, w ∈ TG) (k4 : ∀ w ∈ zwordsN prog E.1.cls ins a b, w ∈ TN)
    (hz : zstep zNf zdfl zslen prog (zEm E) rc rs scr cc K ins cv a b k pc L st h nc ns = true) : W p l e R s m args below meth c H locs nc ns Q (F0 m pc ls stc) := by
  obtain ⟨hl, hL, hst, hH, hP, hD, hS, hnc, hns, hpre⟩ := id hrel
  obtain ⟨hx, hb, hml, hown, hts, hini, hK, hN, hF, hAO, hO1, hO2, hA, hfr, hlo, hrc, hrs, hC, huw⟩ := id C
  cases ins <;> try (exact absurd hz Bool.false_ne_true)
  case iconst n => exact lv_iconst hx hb (of_decide_eq_true k1) rfl (IH _ hz ls _ H locs ws ⟨hl, hL, ⟨rfl, hst⟩, hH, hP, hD, hS, hnc, hns, hpre⟩)
  case bipush n => exact lv_bipush hx hb (of_decide_eq_true k1) rfl (IH _ hz ls _ H locs ws ⟨hl, hL, ⟨rfl, hst⟩, hH, hP, hD, hS, hnc, hns, hpre⟩)
  case sipush n => exact lv_sipush hx hb (of_decide_eq_true k1) rfl (IH _ hz ls _ H locs ws ⟨hl, hL, ⟨rfl, hst⟩, hH, hP, hD, hS, hnc, hns, hpre⟩)
  case lconst n => exact lv_lconst hx hb (of_decide_eq_true k1) rfl (IH _ hz ls _ H locs ws ⟨hl, hL, ⟨rfl, hst⟩, hH, hP, hD, hS, hnc, hns, hpre⟩)
  case iload_n i =>
    simp only [zstep] at hz
    obtain ⟨v, hv, hi, hk⟩ := zld_sp hz
    obtain ⟨w, hw, hg⟩ := zLo_get hL hv
    obtain ⟨x, rfl, -⟩ := zg_I hg hi
    exact lv_iload_n hx hb (of_decide_eq_true k1) rfl hw (IH _ hk ls _ H locs ws ⟨hl, hL, ⟨hg, hst⟩, hH, hP, hD, hS, hnc, hns, hpre⟩)
  case iload i =>
    simp only [zstep] at hz
    obtain ⟨v, hv, hi, hk⟩ := zld_sp hz
    obtain ⟨w, hw, hg⟩ := zLo_get hL hv
    obtain ⟨x, rfl, -⟩ := zg_I hg hi
    exact lv_iload hx hb (of_decide_eq_true k1) hw (IH _ hk ls _ H locs ws ⟨hl, hL, ⟨hg, hst⟩, hH, hP, hD, hS, hnc, hns, hpre⟩)
  case lload_n i =>
    simp only [zstep] at hz
    obtain ⟨v, hv, hi, hk⟩ := zld_sp hz
    obtain ⟨w, hw, hg⟩ := zLo_get hL hv
    obtain ⟨x, rfl, -⟩ := zg_L hg hi
    exact lv_lload_n hx hb (of_decide_eq_true k1) rfl hw (IH _ hk ls _ H locs ws ⟨hl, hL, ⟨hg, hst⟩, hH, hP, hD, hS, hnc, hns, hpre⟩)
  case lload i =>
    simp only [zstep] at hz
    obtain ⟨v, hv, hi, hk⟩ := zld_sp hz
    obtain ⟨w, hw, hg⟩ := zLo_get hL hv
    obtain ⟨x, rfl, -⟩ := zg_L hg hi
    exact lv_lload hx hb (of_decide_eq_true k1) hw (IH _ hk ls _ H locs ws ⟨hl, hL, ⟨hg, hst⟩, hH, hP, hD, hS, hnc, hns, hpre⟩)
  case aload_n i =>
    simp only [zstep] at hz
    obtain ⟨v, hv, hi, hk⟩ := zld_sp hz
    obtain ⟨w, hw, hg⟩ := zLo_get hL hv
    rcases zg_R hg hi with ⟨-, rfl⟩ | ⟨_, _, -, -, rfl⟩
    · exact lv_aload_nN hx hb (of_decide_eq_true k1) rfl hw (IH _ hk ls _ H locs ws ⟨hl, hL, ⟨hg, hst⟩, hH, hP, hD, hS, hnc, hns, hpre⟩)
    · exact lv_aload_n hx hb (of_decide_eq_true k1) rfl hw (IH _ hk ls _ H locs ws ⟨hl, hL, ⟨hg, hst⟩, hH, hP, hD, hS, hnc, hns, hpre⟩)
  case aload i =>
    simp only [zstep] at hz
    obtain ⟨v, hv, hi, hk⟩ := zld_sp hz
    obtain ⟨w, hw, hg⟩ := zLo_get hL hv
    rcases zg_R hg hi with ⟨-, rfl⟩ | ⟨_, _, -, -, rfl⟩
    · exact lv_aloadN hx hb (of_decide_eq_true k1) hw (IH _ hk ls _ H locs ws ⟨hl, hL, ⟨hg, hst⟩, hH, hP, hD, hS, hnc, hns, hpre⟩)
    · exact lv_aload hx hb (of_decide_eq_true k1) hw (IH _ hk ls _ H locs ws ⟨hl, hL, ⟨hg, hst⟩, hH, hP, hD, hS, hnc, hns, hpre⟩)
  case istore_n i =>
    simp only [zstep] at hz
    obtain ⟨v, r, rfl, hi, hlt, hk⟩ := zs1_sp hz
    obtain ⟨w, r', rfl, hg, hr⟩ := zL2_cons hst
    obtain ⟨x, rfl, -⟩ := zg_I hg hi
    exact lv_istore_n hx hb (of_decide_eq_true k1) rfl (zconc_has hl hL) hlt rfl (fun ls' hl' => IH _ hk ls' _ H locs ws ⟨lv_sub hl' [] rfl, zLo_st1 hL hg hl', hr, hH, hP, hD, hS, hnc, hns, hpre⟩)
  case istore i =>
    simp only [zstep] at hz
    obtain ⟨v, r, rfl, hi, hlt, hk⟩ := zs1_sp hz
    obtain ⟨w, r', rfl, hg, hr⟩ := zL2_cons hst
    obtain ⟨x, rfl, -⟩ := zg_I hg hi
    exact lv_istore hx hb (of_decide_eq_true k1) (zconc_has hl hL) hlt rfl (fun ls' hl' => IH _ hk ls' _ H locs ws ⟨lv_sub hl' [] rfl, zLo_st1 hL hg hl', hr, hH, hP, hD, hS, hnc, hns, hpre⟩)
  case astore_n i =>
    simp only [zstep] at hz
    obtain ⟨v, r, rfl, hi, hlt, hk⟩ := zs1_sp hz
    obtain ⟨w, r', rfl, hg, hr⟩ := zL2_cons hst
    rcases zg_R hg hi with ⟨-, rfl⟩ | ⟨_, _, -, -, rfl⟩
    · exact lv_astore_nN hx hb (of_decide_eq_true k1) rfl (zconc_has hl hL) hlt rfl (fun ls' hl' => IH _ hk ls' _ H locs ws ⟨lv_sub hl' [] rfl, zLo_st1 hL hg hl', hr, hH, hP, hD, hS, hnc, hns, hpre⟩)
    · exact lv_astore_n hx hb (of_decide_eq_true k1) rfl (zconc_has hl hL) hlt rfl (fun ls' hl' => IH _ hk ls' _ H locs ws ⟨lv_sub hl' [] rfl, zLo_st1 hL hg hl', hr, hH, hP, hD, hS, hnc, hns, hpre⟩)
  case astore i =>
    simp only [zstep] at hz
    obtain ⟨v, r, rfl, hi, hlt, hk⟩ := zs1_sp hz
    obtain ⟨w, r', rfl, hg, hr⟩ := zL2_cons hst
    rcases zg_R hg hi with ⟨-, rfl⟩ | ⟨_, _, -, -, rfl⟩
    · exact lv_astoreN hx hb (of_decide_eq_true k1) (zconc_has hl hL) hlt rfl (fun ls' hl' => IH _ hk ls' _ H locs ws ⟨lv_sub hl' [] rfl, zLo_st1 hL hg hl', hr, hH, hP, hD, hS, hnc, hns, hpre⟩)
    · exact lv_astore hx hb (of_decide_eq_true k1) (zconc_has hl hL) hlt rfl (fun ls' hl' => IH _ hk ls' _ H locs ws ⟨lv_sub hl' [] rfl, zLo_st1 hL hg hl', hr, hH, hP, hD, hS, hnc, hns, hpre⟩)
  case lstore_n i =>
    simp only [zstep] at hz
    obtain ⟨v, r, rfl, hi, hlt, hk⟩ := zs2_sp hz
    obtain ⟨w, r', rfl, hg, hr⟩ := zL2_cons hst
    obtain ⟨x, rfl, -⟩ := zg_L hg hi
    exact lv_lstore_n hx hb (of_decide_eq_true k1) rfl (zconc_has hl hL) hlt rfl (fun ls' hl' => IH _ hk ls' _ H locs ws ⟨lv_sub hl' [] rfl, zLo_st2 hL hg hl', hr, hH, hP, hD, hS, hnc, hns, hpre⟩)
  case lstore i =>
    simp only [zstep] at hz
    obtain ⟨v, r, rfl, hi, hlt, hk⟩ := zs2_sp hz
    obtain ⟨w, r', rfl, hg, hr⟩ := zL2_cons hst
    obtain ⟨x, rfl, -⟩ := zg_L hg hi
    exact lv_lstore hx hb (of_decide_eq_true k1) (zconc_has hl hL) hlt rfl (fun ls' hl' => IH _ hk ls' _ H locs ws ⟨lv_sub hl' [] rfl, zLo_st2 hL hg hl', hr, hH, hP, hD, hS, hnc, hns, hpre⟩)
  case iinc i n =>
    simp only [zstep] at hz
    split at hz
    · next x hv =>
      obtain ⟨h1, hk⟩ := z_and hz
      obtain ⟨w, hw, hg⟩ := zLo_get hL hv
      cases hg
      have hc := zconc_has hl hL
      have hm : (i, Value.int x) ∈ zconc L ls := by
        have h9 := zconc_has hl hL
        unfold zget at hv
        split at hv
        · next q hq =>
          have h0 := List.find?_some hq
          have h2 : q.1 = i := Nat.eq_of_beq_eq_true h0
          refine List.mem_map.mpr ⟨q, List.mem_of_find?_eq_some hq, ?_⟩
          rw [h2, hw]
          rfl
        · cases hv
      obtain ⟨j, hj⟩ := List.getElem?_of_mem hm
      exact lv_iinc hx hb (of_decide_eq_true k1) hc hj rfl (z_blt h1) rfl (fun ls' hl' => IH _ hk ls' _ H locs ws ⟨lv_sub hl' [] rfl, zLo_st1 hL rfl hl', hst, hH, hP, hD, hS, hnc, hns, hpre⟩)
    · cases hz
  case iadd =>
    simp only [zstep] at hz
    obtain ⟨x, y, rc', v, r, rfl, hg, hr, hk⟩ := zb2_sp (ρ := zrho ws ext) hz hst
    exact lv_iadd hx hb (of_decide_eq_true k1) (IH _ hk ls _ H locs ws ⟨hl, hL, ⟨hg, hr⟩, hH, hP, hD, hS, hnc, hns, hpre⟩)
  case isub =>
    simp only [zstep] at hz
    obtain ⟨x, y, rc', v, r, rfl, hg, hr, hk⟩ := zb2_sp (ρ := zrho ws ext) hz hst
    exact lv_isub hx hb (of_decide_eq_true k1) (IH _ hk ls _ H locs ws ⟨hl, hL, ⟨hg, hr⟩, hH, hP, hD, hS, hnc, hns, hpre⟩)
  case imul =>
    simp only [zstep] at hz
    obtain ⟨x, y, rc', v, r, rfl, hg, hr, hk⟩ := zml_sp (ρ := zrho ws ext) hz hst
    exact lv_imul hx hb (of_decide_eq_true k1) (IH _ hk ls _ H locs ws ⟨hl, hL, ⟨hg, hr⟩, hH, hP, hD, hS, hnc, hns, hpre⟩)
  case iand =>
    simp only [zstep] at hz
    obtain ⟨x, y, rc', v, r, rfl, hg, hr, hk⟩ := zb2_sp (ρ := zrho ws ext) hz hst
    exact lv_iand hx hb (of_decide_eq_true k1) (IH _ hk ls _ H locs ws ⟨hl, hL, ⟨hg, hr⟩, hH, hP, hD, hS, hnc, hns, hpre⟩)
  case ior =>
    simp only [zstep] at hz
    obtain ⟨x, y, rc', v, r, rfl, hg, hr, hk⟩ := zb2_sp (ρ := zrho ws ext) hz hst
    exact lv_ior hx hb (of_decide_eq_true k1) (IH _ hk ls _ H locs ws ⟨hl, hL, ⟨hg, hr⟩, hH, hP, hD, hS, hnc, hns, hpre⟩)
  case ixor =>
    simp only [zstep] at hz
    obtain ⟨x, y, rc', v, r, rfl, hg, hr, hk⟩ := zb2_sp (ρ := zrho ws ext) hz hst
    exact lv_ixor hx hb (of_decide_eq_true k1) (IH _ hk ls _ H locs ws ⟨hl, hL, ⟨hg, hr⟩, hH, hP, hD, hS, hnc, hns, hpre⟩)
  case ishl =>
    simp only [zstep] at hz
    obtain ⟨x, y, rc', v, r, rfl, hg, hr, hk⟩ := zb2_sp (ρ := zrho ws ext) hz hst
    exact lv_ishl hx hb (of_decide_eq_true k1) (IH _ hk ls _ H locs ws ⟨hl, hL, ⟨hg, hr⟩, hH, hP, hD, hS, hnc, hns, hpre⟩)
  case ishr =>
    simp only [zstep] at hz
    obtain ⟨x, y, rc', v, r, rfl, hg, hr, hk⟩ := zb2_sp (ρ := zrho ws ext) hz hst
    exact lv_ishr hx hb (of_decide_eq_true k1) (IH _ hk ls _ H locs ws ⟨hl, hL, ⟨hg, hr⟩, hH, hP, hD, hS, hnc, hns, hpre⟩)
  case iushr =>
    simp only [zstep] at hz
    obtain ⟨x, y, rc', v, r, rfl, hg, hr, hk⟩ := zb2_sp (ρ := zrho ws ext) hz hst
    exact lv_iushr hx hb (of_decide_eq_true k1) rfl (IH _ hk ls _ H locs ws ⟨hl, hL, ⟨hg, hr⟩, hH, hP, hD, hS, hnc, hns, hpre⟩)
  case idiv =>
    simp only [zstep] at hz
    obtain ⟨x, y, rc', v, r, rfl, hne, hg, hr, hk⟩ := zdv_sp (ρ := zrho ws ext) hz hst
    exact lv_idiv hx hb (of_decide_eq_true k1) hne (IH _ hk ls _ H locs ws ⟨hl, hL, ⟨hg, hr⟩, hH, hP, hD, hS, hnc, hns, hpre⟩)
  case irem =>
    simp only [zstep] at hz
    obtain ⟨x, y, rc', v, r, rfl, hne, hg, hr, hk⟩ := zdv_sp (ρ := zrho ws ext) hz hst
    exact lv_irem hx hb (of_decide_eq_true k1) hne (IH _ hk ls _ H locs ws ⟨hl, hL, ⟨hg, hr⟩, hH, hP, hD, hS, hnc, hns, hpre⟩)
  case ineg =>
    simp only [zstep] at hz
    split at hz
    · obtain ⟨w, rest, rfl, hg, hrest⟩ := zL2_cons hst
      cases hg
      exact lv_ineg hx hb (of_decide_eq_true k1) (IH _ hz ls _ H locs ws ⟨hl, hL, ⟨rfl, hrest⟩, hH, hP, hD, hS, hnc, hns, hpre⟩)
    · cases hz
  case ladd =>
    simp only [zstep] at hz
    obtain ⟨x, y, rc', v, r, rfl, hg, hr, hk⟩ := zb2l_sp (ρ := zrho ws ext) hz hst
    exact lv_ladd hx hb (of_decide_eq_true k1) (IH _ hk ls _ H locs ws ⟨hl, hL, ⟨hg, hr⟩, hH, hP, hD, hS, hnc, hns, hpre⟩)
  case lsub =>
    simp only [zstep] at hz
    obtain ⟨x, y, rc', v, r, rfl, hg, hr, hk⟩ := zb2l_sp (ρ := zrho ws ext) hz hst
    exact lv_lsub hx hb (of_decide_eq_true k1) (IH _ hk ls _ H locs ws ⟨hl, hL, ⟨hg, hr⟩, hH, hP, hD, hS, hnc, hns, hpre⟩)
  case lmul =>
    simp only [zstep] at hz
    obtain ⟨x, y, rc', v, r, rfl, hg, hr, hk⟩ := zb2l_sp (ρ := zrho ws ext) hz hst
    exact lv_lmul hx hb (of_decide_eq_true k1) (IH _ hk ls _ H locs ws ⟨hl, hL, ⟨hg, hr⟩, hH, hP, hD, hS, hnc, hns, hpre⟩)
  case land =>
    simp only [zstep] at hz
    obtain ⟨x, y, rc', v, r, rfl, hg, hr, hk⟩ := zb2l_sp (ρ := zrho ws ext) hz hst
    exact lv_land hx hb (of_decide_eq_true k1) (IH _ hk ls _ H locs ws ⟨hl, hL, ⟨hg, hr⟩, hH, hP, hD, hS, hnc, hns, hpre⟩)
  case lor =>
    simp only [zstep] at hz
    obtain ⟨x, y, rc', v, r, rfl, hg, hr, hk⟩ := zb2l_sp (ρ := zrho ws ext) hz hst
    exact lv_lor hx hb (of_decide_eq_true k1) (IH _ hk ls _ H locs ws ⟨hl, hL, ⟨hg, hr⟩, hH, hP, hD, hS, hnc, hns, hpre⟩)
  case lxor =>
    simp only [zstep] at hz
    obtain ⟨x, y, rc', v, r, rfl, hg, hr, hk⟩ := zb2l_sp (ρ := zrho ws ext) hz hst
    exact lv_lxor hx hb (of_decide_eq_true k1) (IH _ hk ls _ H locs ws ⟨hl, hL, ⟨hg, hr⟩, hH, hP, hD, hS, hnc, hns, hpre⟩)
  case lshl =>
    simp only [zstep] at hz
    obtain ⟨x, y, rc', v, r, rfl, hg, hr, hk⟩ := zshl_sp (ρ := zrho ws ext) hz hst
    exact lv_lshl hx hb (of_decide_eq_true k1) rfl (IH _ hk ls _ H locs ws ⟨hl, hL, ⟨hg, hr⟩, hH, hP, hD, hS, hnc, hns, hpre⟩)
  case lushr =>
    simp only [zstep] at hz
    obtain ⟨x, y, rc', v, r, rfl, hg, hr, hk⟩ := zshl_sp (ρ := zrho ws ext) hz hst
    exact lv_lushr hx hb (of_decide_eq_true k1) rfl (IH _ hk ls _ H locs ws ⟨hl, hL, ⟨hg, hr⟩, hH, hP, hD, hS, hnc, hns, hpre⟩)
  case i2l =>
    simp only [zstep] at hz
    split at hz
    · obtain ⟨w, rest, rfl, hg, hrest⟩ := zL2_cons hst
      cases hg
      exact lv_i2l hx hb (of_decide_eq_true k1) rfl (IH _ hz ls _ H locs ws ⟨hl, hL, ⟨rfl, hrest⟩, hH, hP, hD, hS, hnc, hns, hpre⟩)
    · obtain ⟨w, rest, rfl, ⟨x, rfl, g1, g2⟩, hrest⟩ := zL2_cons hst
      exact lv_i2l hx hb (of_decide_eq_true k1) rfl (IH _ hz ls _ H locs ws ⟨hl, hL, ⟨⟨x.toInt64, rfl, by simpa using g1, by simpa using g2⟩, hrest⟩, hH, hP, hD, hS, hnc, hns, hpre⟩)
    · cases hz
  case l2i =>
    simp only [zstep] at hz
    split at hz
    · obtain ⟨w, rest, rfl, hg, hrest⟩ := zL2_cons hst
      cases hg
      exact lv_l2i hx hb (of_decide_eq_true k1) rfl (IH _ hz ls _ H locs ws ⟨hl, hL, ⟨rfl, hrest⟩, hH, hP, hD, hS, hnc, hns, hpre⟩)
    · obtain ⟨w, rest, rfl, hg, hrest⟩ := zL2_cons hst
      obtain ⟨h1, hk⟩ := z_and hz
      obtain ⟨x, rfl, -⟩ := zg_L hg h1
      exact lv_l2i hx hb (of_decide_eq_true k1) rfl (IH _ hk ls _ H locs ws ⟨hl, hL, ⟨zg_I0 _ _, hrest⟩, hH, hP, hD, hS, hnc, hns, hpre⟩)
    · cases hz
  case lcmp =>
    simp only [zstep] at hz
    split at hz
    · obtain ⟨wy, wx, rest, rfl, gy, gx, hrest⟩ := zL2_2 hst
      obtain ⟨h1, hz⟩ := z_and hz
      obtain ⟨h2, hz⟩ := z_and hz
      obtain ⟨x, rfl, bx⟩ := zg_L gx h1
      obtain ⟨y, rfl, bb⟩ := zg_L gy h2
      exact W.lcmp hx hb (of_decide_eq_true k1) (IH _ hz ls _ H locs ws ⟨hl, hL, ⟨zcmpL_g bx bb, hrest⟩, hH, hP, hD, hS, hnc, hns, hpre⟩)
    · cases hz
  case dup =>
    simp only [zstep] at hz
    split at hz
    · obtain ⟨w, rest, rfl, hg, hrest⟩ := zL2_cons hst
      obtain ⟨h1, hk⟩ := z_and hz
      exact lv_dup hx hb (of_decide_eq_true k1) (by rw [zg_cat hg]; exact Nat.eq_of_beq_eq_true h1) (IH _ hk ls _ H locs ws ⟨hl, hL, ⟨hg, hg, hrest⟩, hH, hP, hD, hS, hnc, hns, hpre⟩)
    · cases hz
  case pop =>
    simp only [zstep] at hz
    split at hz
    · obtain ⟨w, rest, rfl, hg, hrest⟩ := zL2_cons hst
      obtain ⟨h1, hk⟩ := z_and hz
      exact lv_pop hx hb (of_decide_eq_true k1) (by rw [zg_cat hg]; exact Nat.eq_of_beq_eq_true h1) (IH _ hk ls _ H locs ws ⟨hl, hL, hrest, hH, hP, hD, hS, hnc, hns, hpre⟩)
    · cases hz
  case dup2 =>
    simp only [zstep] at hz
    split at hz
    · obtain ⟨w1, w2, rest, rfl, g1, g2, hrest⟩ := zL2_2 hst
      obtain ⟨h1, hz⟩ := z_and hz
      obtain ⟨h2, hk⟩ := z_and hz
      exact lv_dup2_11 hx hb (of_decide_eq_true k1) (by rw [zg_cat g1]; exact Nat.eq_of_beq_eq_true h1) (by rw [zg_cat g2]; exact Nat.eq_of_beq_eq_true h2) (IH _ hk ls _ H locs ws ⟨hl, hL, ⟨g1, g2, g1, g2, hrest⟩, hH, hP, hD, hS, hnc, hns, hpre⟩)
    · cases hz
  case dup_x1 =>
    simp only [zstep] at hz
    split at hz
    · obtain ⟨w1, w2, rest, rfl, g1, g2, hrest⟩ := zL2_2 hst
      obtain ⟨h1, hz⟩ := z_and hz
      obtain ⟨h2, hk⟩ := z_and hz
      exact lv_dup_x1 hx hb (of_decide_eq_true k1) (by rw [zg_cat g1]; exact Nat.eq_of_beq_eq_true h1) (by rw [zg_cat g2]; exact Nat.eq_of_beq_eq_true h2) (IH _ hk ls _ H locs ws ⟨hl, hL, ⟨g1, g2, g1, hrest⟩, hH, hP, hD, hS, hnc, hns, hpre⟩)
    · cases hz
  case ifCond cd off => exact z_ifc C IH hrel k1 hz
  case if_icmp cd off => exact z_icmp C IH hrel k1 hz
  case goto off =>
    simp only [zstep] at hz
    obtain ⟨t, ht, hk⟩ := zof_sp hz
    exact lv_goto hx hb (of_decide_eq_true k1) ht (IH _ hk ls _ H locs ws ⟨hl, hL, hst, hH, hP, hD, hS, hnc, hns, hpre⟩)
  case ifnull off =>
    simp only [zstep] at hz
    split at hz
    · obtain ⟨w, rest, rfl, hg, hrest⟩ := zL2_cons hst
      cases hg
      obtain ⟨t, ht, hk⟩ := zof_sp hz
      exact lv_ifnullN hx hb (of_decide_eq_true k1) ht (IH _ hk ls _ H locs ws ⟨hl, hL, hrest, hH, hP, hD, hS, hnc, hns, hpre⟩)
    · obtain ⟨w, rest, rfl, ⟨b0, hb0, rfl⟩, hrest⟩ := zL2_cons hst
      exact lv_ifnull hx hb (of_decide_eq_true k1) (IH _ hz ls _ H locs ws ⟨hl, hL, hrest, hH, hP, hD, hS, hnc, hns, hpre⟩)
    · cases hz
  case ifnonnull off =>
    simp only [zstep] at hz
    split at hz
    · obtain ⟨w, rest, rfl, ⟨b0, hb0, rfl⟩, hrest⟩ := zL2_cons hst
      obtain ⟨t, ht, hk⟩ := zof_sp hz
      exact lv_ifnonnull hx hb (of_decide_eq_true k1) ht (IH _ hk ls _ H locs ws ⟨hl, hL, hrest, hH, hP, hD, hS, hnc, hns, hpre⟩)
    · obtain ⟨w, rest, rfl, hg, hrest⟩ := zL2_cons hst
      cases hg
      exact lv_ifnonnullN hx hb (of_decide_eq_true k1) (IH _ hz ls _ H locs ws ⟨hl, hL, hrest, hH, hP, hD, hS, hnc, hns, hpre⟩)
    · cases hz
  case tableswitch df lo hi offs => exact z_tsw C IH hrel k1 hz
  case getfield ix => exact z_getf C IH hrel k1 k2 k3 hz
  case putfield ix => exact z_putf C IH hrel k1 k2 k3 hz
  case new ix => exact z_new C IH hrel k1 k2 k3 hz
  case newarray ty => exact z_newa C IH hrel k1 k3 hz
  case anewarray ix => exact z_newq C IH hrel k1 k3 hz
  case multianewarray ix dd => exact z_mna C IH hrel k1 k2 k3 hz
  case iaload => exact z_ild C IH hrel k1 hz
  case laload => exact z_lld C IH hrel k1 hz
  case aaload => exact z_ald C IH hrel k1 hz
  case iastore => exact z_ist C IH hrel k1 hz
  case lastore => exact z_lst C IH hrel k1 hz
  case aastore => exact z_ast C IH hrel k1 hz
  case arraylength => exact z_alen C IH hrel k1 hz
  case ldc ix => exact z_ldc C IH hrel k1 k2 k3 hz
  case ldc_w ix =>
    simp only [zside] at k2
    split at k2
    · exact lv_ldcw hx hb hown (hts _ (k3 _ List.mem_cons_self)) (of_decide_eq_true k1) (IH _ hz ls _ H locs ws ⟨hl, hL, ⟨rfl, hst⟩, hH, hP, hD, hS, hnc, hns, hpre⟩)
    · cases k2
  case ldc2_w ix =>
    simp only [zside] at k2
    split at k2
    · exact lv_ldc2 hx hb hown (hts _ (k3 _ List.mem_cons_self)) (of_decide_eq_true k1) (IH _ hz ls _ H locs ws ⟨hl, hL, ⟨rfl, hst⟩, hH, hP, hD, hS, hnc, hns, hpre⟩)
    · cases k2
  case invokevirtual ix =>
    simp only [zstep] at hz
    split at hz
    · refine z_invV C hG hTN hOk HM IH hrel (fun E' hE => ?_) (of_decide_eq_true k1) hz
      have k5 : (match prog a with | some E => Nat.blt (zEk E) 6 && (decide (E.1.name ≠ "<init>")) | none => false) = true := k2
      rw [hE] at k5
      obtain ⟨q1, q2⟩ := z_and k5
      refine ⟨z_blt q1, of_decide_eq_true q2, k3 _ ?_⟩
      simp only [zwords]
      rw [hE]
      exact List.mem_cons_self
    · split at hz
      · next q r =>
        split at hz
        · next x hx1 =>
          obtain ⟨h1, hk⟩ := z_and hz
          exact z_invL C hG hTN HL hLw IH hrel (k3 _ List.mem_cons_self) (of_decide_eq_true k1) hx1 (z_ble h1) hk
        · cases hz
      · cases hz
    · cases hz
  case invokespecial ix =>
    simp only [zstep] at hz
    split at hz
    · split at hz
      · next q r =>
        obtain ⟨w, rest, rfl, ⟨b0, hb0, rfl⟩, hrest⟩ := zL2_cons hst
        obtain ⟨h1, hk⟩ := z_and hz
        have h8 : (rest.map fun v => v.category).sum ≤ 8 := by
          rw [zL2_sum hrest]
          exact z_ble h1
        have h9 := lv_room (m := m) (pc := pc) (ls := ls) (rest := .ref b0 :: rest) (st := rest) h8
        exact W.objInit hx hb hown (hts _ (k3 _ List.mem_cons_self)) (hts _ (hgl _ (by simp [zglob]))) (hts _ (hgl _ (by simp [zglob]))) rfl (by rw [hml]; exact hl.1) rfl (of_decide_eq_true k1) (by omega) (by omega) (IH _ hk ls _ H locs ws ⟨hl, hL, hrest, hH, hP, hD, hS, hnc, hns, hpre⟩)
      · cases hz
    · next hb6 =>
      refine z_invI C hG hTN hOk HM IH hrel (fun E' hE => ?_) (of_decide_eq_true k1) hz
      have k5 : (Nat.beq b 6 || (Nat.ble b 1 && (match prog a with | some E => Nat.blt (zEk E) 6 && (decide (E.1.name = "<init>")) | none => false))) = true := k2
      have n6 : Nat.beq b 6 = false := by
        rw [z_beq]
        simpa using hb6
      rw [n6, Bool.false_or, hE] at k5
      obtain ⟨q0, q1⟩ := z_and k5
      obtain ⟨q1, q2⟩ := z_and q1
      have q0 := z_ble q0
      refine ⟨z_blt q1, of_decide_eq_true q2, ?_⟩
      match b, q0 with
      | 0, _ =>
        refine Or.inl (k3 _ ?_)
        simp only [zwords]
        rw [hE]
        exact List.mem_cons_self
      | 1, _ =>
        refine Or.inr (k4 _ ?_)
        simp only [zwordsN]
        rw [hE]
        exact List.mem_cons_self
  case invokestatic ix =>
    simp only [zstep] at hz
    split at hz
    · split at hz
      · next n dp q1 sp q0 =>
        split at hz
        · cases hz
        · next g1 =>
          split at hz
          · cases hz
          · next g2 =>
            split at hz
            · cases hz
            · next g3 =>
              obtain ⟨f, j1, j2, hz⟩ := zrow_sp hz
              obtain ⟨g, j3, j4, hz⟩ := zrow_sp hz
              obtain ⟨j5, hz⟩ := z_and hz
              obtain ⟨j6, hz⟩ := z_and hz
              exact z_acopy C hgl IH hrel (of_decide_eq_true k1) (k3 _ List.mem_cons_self) rfl g1 g2 g3 j1 j3 j2 j4 (z_ble j5) (z_ble j6) hz
      · cases hz
    · split at hz
      · obtain ⟨w1, w2, rest, rfl, g1, g2, hrest⟩ := zL2_2 hst
        cases g1
        cases g2
        obtain ⟨h1, hk⟩ := z_and hz
        have h8 : (rest.map fun v => v.category).sum ≤ 8 := by
          rw [zL2_sum hrest]
          exact z_ble h1
        exact va_mmin hx hb (by rw [hml]; exact hl.1.symm) hown (hts _ (k3 _ List.mem_cons_self)) (hts _ (hgl _ (by simp [zglob]))) (hts _ (hgl _ (by simp [zglob]))) (hts _ (hgl _ (by simp [zglob]))) (by omega) (by omega) (by omega) (by omega) (of_decide_eq_true k1) (IH _ hk ls _ H locs ws ⟨hl, hL, ⟨rfl, hrest⟩, hH, hP, hD, hS, hnc, hns, hpre⟩)
      · cases hz
    · next hb7 hb9 =>
      refine z_invS C hG hTN hOk HM IH hrel (fun E' hE => ?_) (of_decide_eq_true k1) hz
      have k5 : (Nat.beq b 7 || Nat.beq b 9 || (Nat.ble b 1 && (match prog a with | some E => Nat.beq (zEk E) 99 | none => false))) = true := k2
      have n7 : Nat.beq b 7 = false := by
        rw [z_beq]
        simpa using hb7
      have n9 : Nat.beq b 9 = false := by
        rw [z_beq]
        simpa using hb9
      rw [n7, n9, Bool.false_or, Bool.false_or, hE] at k5
      obtain ⟨q0, q1⟩ := z_and k5
      have q0 := z_ble q0
      refine ⟨Nat.eq_of_beq_eq_true q1, ?_⟩
      match b, q0 with
      | 0, _ =>
        refine Or.inl (k3 _ ?_)
        simp only [zwords]
        rw [hE]
        exact List.mem_cons_self
      | 1, _ =>
        refine Or.inr (k4 _ ?_)
        simp only [zwordsN]
        rw [hE]
        exact List.mem_cons_self
end
end
section
theorem z_sl : ∀ (vs : List Value), (lg_sl vs).length = (vs.map fun v => v.category).sum
  | [] => rfl
  | v :: vs => by
    have h := z_sl vs
    cases v <;> simp_all [lg_sl, Value.category] <;> omega
section
variable {p : Program} {l : Launch} {e : Env} {R : Room} {s : State} {m : MethodId} {args : Array Value} {below : List Frame} {meth : Method} {c : Code} {Q : State → Prop}
variable {prog : Nat → Option zE} {zst : zSt} {TG TN : List Cond} {scr : List zV} {adK adV : Nat → Nat} {ext : Nat → Option Nat} {D : va_G} {ct : Nat → ClassId} {A : Nat → Prop} {E : zE} {rc rs d : Nat} {ws0 : va_W} {cc : zK}
theorem zrun_sound (C : zCx p R s m args meth c prog zst TG TN scr adK adV ext D ct A E rc rs d) (hG : zGood TG) (hTN : zTNok TN) (hOk : zOkP prog zst TG TN) (HL : zSL l zst TG TN scr adK adV ext D ct d) (hLw : ∀ w ∈ zmwords zESL, w ∈ TG) (hgl : ∀ w ∈ zglob, w ∈ TG)
    (HM : ∀ j vs h post, cc j vs h post = true → zMet l prog zst TG TN scr adK adV ext D ct d j vs h post) {fin : Nat → zS → Bool} {post : Option zV → zH → Bool}
    (hfin : ∀ x : zS, fin x.1 x = true → zGo p l e R s m args below meth c Q ext D ct (zEm E) rc rs A ws0 x)
    (hret : ∀ (x : zS) (i : zI), zft (zEd E) x.1 = some i → zisRet i.1 = true → zret E.2.2.2.1 i.1 x.2.2.1 x.2.2.2.1 post = true → zGo p l e R s m args below meth c Q ext D ct (zEm E) rc rs A ws0 x) :
    ∀ (n : Nat) (x : zS), zrun zNf zdfl zslen prog E scr rc rs cc fin post n x = true → zGo p l e R s m args below meth c Q ext D ct (zEm E) rc rs A ws0 x := by
  intro n
  induction n with
  | zero =>
    intro x hx
    exact absurd hx Bool.false_ne_true
  | succ n ih =>
    intro x hx
    have hx : (if fin x.1 x then true else match zft (zEd E) x.1 with
      | some i => if zisRet i.1 then zret E.2.2.2.1 i.1 x.2.2.1 x.2.2.2.1 post else zstep zNf zdfl zslen prog (zEm E) rc rs scr cc (zrun zNf zdfl zslen prog E scr rc rs cc fin post n) i.1 i.2.1 i.2.2.1 i.2.2.2.1 i.2.2.2.2.1 x.1 x.2.1 x.2.2.1 x.2.2.2.1 x.2.2.2.2.1 x.2.2.2.2.2
      | none => false) = true := hx
    by_cases hf : fin x.1 x = true
    · exact hfin x hf
    · rw [if_neg hf] at hx
      split at hx
      · next i hi =>
        by_cases hr : zisRet i.1 = true
        · rw [if_pos hr] at hx
          exact hret x i hi hr hx
        · rw [if_neg hr] at hx
          have hC := C.2.2.2.2.2.2.2.2.2.2.2.2.2.2.2.2.2.1
          obtain ⟨k1, k2, k3, k4⟩ := hC x.1 i hi
          intro ls stc H locs ws hrel
          exact zstep_sound C hG hTN hOk HL hLw hgl HM ih hrel k1 k2 k3 k4 hx
      · cases hx
end
theorem zret_sp {ret : Option FieldType} {i : Instr} {st : List zV} {h : zH} {post : Option zV → zH → Bool} (hr : zret ret i st h post = true) :
    (∃ v, i = .ireturn ∧ st = [v] ∧ ((ret = some .int ∧ zisI v = true) ∨ (ret = some .boolean ∧ zfit 3 v = true)) ∧ post (some v) h = true) ∨ (∃ v, i = .lreturn ∧ st = [v] ∧ ret = some .long ∧ zisL v = true ∧ post (some v) h = true) ∨ (∃ v n, i = .areturn ∧ st = [v] ∧ ret = some (.object n) ∧ zisR v = true ∧ post (some v) h = true) ∨ (i = .return_ ∧ st = [] ∧ ret = none ∧ post none h = true) := by
  unfold zret at hr
  split at hr
  · next v =>
    split at hr
    · obtain ⟨h1, h2⟩ := z_and hr
      exact Or.inl ⟨v, rfl, rfl, Or.inl ⟨rfl, h1⟩, h2⟩
    · obtain ⟨h1, h2⟩ := z_and hr
      exact Or.inl ⟨v, rfl, rfl, Or.inr ⟨rfl, h1⟩, h2⟩
    · cases hr
  · next v =>
    obtain ⟨h0, hr⟩ := z_and hr
    obtain ⟨h1, h2⟩ := z_and hr
    exact Or.inr (Or.inl ⟨v, rfl, rfl, of_decide_eq_true h0, h1, h2⟩)
  · next v =>
    split at hr
    · next n =>
      obtain ⟨h1, h2⟩ := z_and hr
      exact Or.inr (Or.inr (Or.inl ⟨v, n, rfl, rfl, rfl, h1, h2⟩))
    · cases hr
  · obtain ⟨h0, h2⟩ := z_and hr
    exact Or.inr (Or.inr (Or.inr ⟨rfl, rfl, of_decide_eq_true h0, h2⟩))
  · cases hr
theorem z_metG {l : Launch} {prog : Nat → Option zE} {zst : zSt} {TG TN : List Cond} {scr : List zV} {adK adV : Nat → Nat} {ext : Nat → Option Nat} {D : va_G} {ct : Nat → ClassId} {d j : Nat} {vs : List zV} {h : zH} {post : Option zV → zH → Bool}
    (hOk : zOkP prog zst TG TN) (huw : ∀ w ∈ zuws, w ∈ TG)
    {E : zE} (hE : prog j = some E) (hsum : zsum vs ≤ zEm E)
    (HB : ∀ {p : Program} {e : Env} {s : State} {m : MethodId} {args : Array Value} {below : List Frame} {meth : Method} {c : Code} {Q : State → Prop} {A : Nat → Prop} {ws0 : va_W}, zCx p (zrm E (d + 1)) s m args meth c prog zst TG TN scr adK adV ext D ct A E (zEc E) (zEs E) d →
      (∀ (x : zS) (i : zI), zft (zEd E) x.1 = some i → zisRet i.1 = true → zret E.2.2.2.1 i.1 x.2.2.1 x.2.2.2.1 post = true → zGo p l e (zrm E (d + 1)) s m args below meth c Q ext D ct (zEm E) (zEc E) (zEs E) A ws0 x) →
      zGo p l e (zrm E (d + 1)) s m args below meth c Q ext D ct (zEm E) (zEc E) (zEs E) A ws0 (0, zarg 0 vs, [], h, 0, 0)) {ws : va_W} {sz : Nat} {argv : List Value} (hv : zL2 (zrho ws ext) vs argv) (hH : zHp (zrho ws ext) ct h ws) :
    Met l E.1 (zWS TG E) (zrm E (d + 1)) (va_Pc argv (zPcB zst TN scr adK adV ext D ct ws sz)) (zQr ext D ct ws sz post) (zEc E) (zEs E) (va_A ws sz) := by
  obtain ⟨hC, hms, hmw⟩ := hOk j E hE
  refine Met.ofW (cc := E.2.1) (maxL := zEm E) (ret := E.2.2.2.1) (z_mside hms).2.2.2.2.1 rfl ?_
  intro p e s m args below meth c s₁ B hml hpv
  obtain ⟨rfl, hsz, hP, hK, hD0, hN, hF, h1, h2, h3⟩ := hpv
  subst hsz
  have hts := atoms_spec (ws := zWS TG E) B.pre
  have hlocks := B.notSynchronized
  have C : zCx p (zrm E (d + 1)) s m argv.toArray meth c prog zst TG TN scr adK adV ext D ct (va_A ws s.heap.size) E (zEc E) (zEs E) d := by
    refine ⟨B.exec, B.bytes, hml, findClass_of_methodNamed B.named, fun w hw => hts w (List.mem_cons_of_mem _ hw), fun hi => ?_, hK, hN, hF, h1, h2, h3, fun q hq => Or.inr hq, Nat.le_refl _, Nat.le_refl _, Nat.le_refl _, Nat.le_refl _, hC, huw⟩
    rw [← hi]
    exact (name_of_methodNamed B.named B.method).1
  have hlen : (lg_sl argv).length ≤ zEm E := by
    rw [z_sl, zL2_sum hv]
    exact hsum
  have hl := lv_entry argv (n := zEm E) hlen
  rw [lg_entry_eq]
  generalize (lg_sl argv ++ List.replicate (zEm E - (lg_sl argv).length) Slot.unset).toArray = ls at hl ⊢
  have key : zGo p l e (zrm E (d + 1)) s m argv.toArray below meth c (MQ below (zQr ext D ct ws s.heap.size post) argv.toArray s (zEc E) (zEs E) (va_A ws s.heap.size)) ext D ct (zEm E) (zEc E) (zEs E) (va_A ws s.heap.size) ws (0, zarg 0 vs, [], h, 0, 0) := by
    refine HB C (fun x i hi hr hx => ?_)
    intro ls stc H locs ws' hrel
    obtain ⟨hl', hL', hst, hH', hP', hD', hS', hnc, hns, hpre⟩ := hrel
    have k1 := (hC x.1 i hi).1
    have hq : ∀ (r : Option zV) (v : Option Value), post r x.2.2.2.1 = true → zgo (zrho ws' ext) r v → ∀ t : State, t.heap = H → s.WarmedH t.vm → zQr ext D ct ws s.heap.size post argv.toArray s (.returned v) t := fun r v hp hg t ht _ =>
      ⟨⟨r, _, v, ws', hp, rfl, hg, hH', by rw [ht]; exact hP', hD', hpre⟩, by rw [ht]; exact hS'.1, fun q h8 h9 => by rw [ht]; exact hS'.2.1 q h8 h9⟩
    refine W.widen hnc hns ?_
    rcases zret_sp hx with ⟨v, hi1, hst1, hty, hp⟩ | ⟨v, hi1, hst1, hty, h9, hp⟩ | ⟨v, n9, hi1, hst1, hty, h9, hp⟩ | ⟨hi1, hst1, hty, hp⟩
    · rw [hi1] at k1
      rw [hst1] at hst
      obtain ⟨w, r', rfl, hg, hr'⟩ := zL2_cons hst
      have e0 := zL2_nil hr'
      subst e0
      rcases hty with ⟨hty, h9⟩ | ⟨hty, h9⟩
      · obtain ⟨xv, rfl, -⟩ := zg_I hg h9
        exact W.iret B.exec B.bytes (by rw [← hty]; exact B.returns) (hq (some v) (some (.int xv)) hp hg) hS'.2.2 (of_decide_eq_true k1)
      · obtain ⟨xv, rfl, hxv⟩ := zfit3 h9
        cases hg
        refine W.zret (ty := .boolean) B.exec B.bytes (by rw [← hty]; exact B.returns) ?_ (hq (some (.inl (.int xv))) (some (.int xv)) hp rfl) hS'.2.2 (of_decide_eq_true k1)
        rcases hxv with rfl | rfl <;> decide
    · rw [hi1] at k1
      rw [hst1] at hst
      obtain ⟨w, r', rfl, hg, hr'⟩ := zL2_cons hst
      have e0 := zL2_nil hr'
      subst e0
      obtain ⟨xv, rfl, -⟩ := zg_L hg h9
      exact W.lret B.exec B.bytes (by rw [← hty]; exact B.returns) (hq (some v) (some (.long xv)) hp hg) hS'.2.2 (of_decide_eq_true k1)
    · rw [hi1] at k1
      rw [hst1] at hst
      obtain ⟨w, r', rfl, hg, hr'⟩ := zL2_cons hst
      have e0 := zL2_nil hr'
      subst e0
      refine W.aret (rt := .object n9) B.exec B.bytes (by rw [← hty]; exact B.returns) (Or.inl ⟨n9, rfl⟩) ?_ (hq (some v) (some w) hp hg) hS'.2.2 (of_decide_eq_true k1)
      rcases zg_R hg h9 with ⟨-, rfl⟩ | ⟨_, a9, -, -, rfl⟩
      · exact Or.inl rfl
      · exact Or.inr ⟨a9, rfl⟩
    · rw [hi1] at k1
      rw [hst1] at hst
      have e0 := zL2_nil hst
      subst e0
      exact W.vret B.exec B.bytes (by rw [← hty]; exact B.returns) (hq none none hp trivial) hS'.2.2 (of_decide_eq_true k1)
  exact key ls [] s.heap [] ws ⟨lv_sub hl [] rfl, zLo_arg (nL := zEm E) 0 hv hl.2.2, trivial, hH, hP, hD0.self, va_S.rf, Nat.zero_le _, Nat.zero_le _, zPre_rf ws⟩
theorem z_met {l : Launch} {prog : Nat → Option zE} {zst : zSt} {TG TN : List Cond} {scr : List zV} {adK adV : Nat → Nat} {ext : Nat → Option Nat} {D : va_G} {ct : Nat → ClassId} {d j : Nat} {cc : zK} {vs : List zV} {h : zH} {post : Option zV → zH → Bool}
    (hG : zGood TG) (hTN : zTNok TN) (hOk : zOkP prog zst TG TN) (huw : ∀ w ∈ zuws, w ∈ TG) (HL : zSL l zst TG TN scr adK adV ext D ct d) (hLw : ∀ w ∈ zmwords zESL, w ∈ TG) (hgl : ∀ w ∈ zglob, w ∈ TG)
    (HM : ∀ j vs h post, cc j vs h post = true → zMet l prog zst TG TN scr adK adV ext D ct d j vs h post) {E : zE} (hE : prog j = some E) (hsum : zsum vs ≤ zEm E) {n : Nat}
    (hz : zrun zNf zdfl zslen prog E scr (zEc E) (zEs E) cc (fun _ _ => false) post n (0, zarg 0 vs, [], h, 0, 0) = true) {ws : va_W} {sz : Nat} {argv : List Value} (hv : zL2 (zrho ws ext) vs argv) (hH : zHp (zrho ws ext) ct h ws) :
    Met l E.1 (zWS TG E) (zrm E (d + 1)) (va_Pc argv (zPcB zst TN scr adK adV ext D ct ws sz)) (zQr ext D ct ws sz post) (zEc E) (zEs E) (va_A ws sz) := by
  exact z_metG hOk huw hE hsum (fun C hr => zrun_sound C hG hTN hOk HL hLw hgl HM (fun x hx => absurd hx Bool.false_ne_true) hr n _ hz) hv hH
theorem zdeep_sound {l : Launch} {prog : Nat → Option zE} {zst : zSt} {TG TN : List Cond} {scr : List zV} {adK adV : Nat → Nat} {ext : Nat → Option Nat} {D : va_G} {ct : Nat → ClassId}
    (hG : zGood TG) (hTN : zTNok TN) (hOk : zOkP prog zst TG TN) (huw : ∀ w ∈ zuws, w ∈ TG) (HL : ∀ d, zSL l zst TG TN scr adK adV ext D ct d) (hLw : ∀ w ∈ zmwords zESL, w ∈ TG) (hgl : ∀ w ∈ zglob, w ∈ TG) :
    ∀ (d j : Nat) (vs : List zV) (h : zH) (post : Option zV → zH → Bool), zdeep zNf zdfl zslen prog scr d j vs h post = true → zMet l prog zst TG TN scr adK adV ext D ct d j vs h post := by
  intro d
  induction d with
  | zero =>
    intro j vs h post hz
    exact absurd hz Bool.false_ne_true
  | succ d ih =>
    intro j vs h post hz E hE ws sz argv hv hH
    have hz : (match prog j with
      | some E => Nat.ble (zsum vs) (zEm E) && zrun zNf zdfl zslen prog E scr (zEc E) (zEs E) (zdeep zNf zdfl zslen prog scr d) (fun _ _ => false) post 20000 (0, zarg 0 vs, [], h, 0, 0)
      | none => false) = true := hz
    rw [hE] at hz
    obtain ⟨h1, h2⟩ := z_and hz
    exact z_met hG hTN hOk huw (HL d) hLw hgl ih hE (z_ble h1) h2 hv hH
end
section
abbrev zEco : zE := (yJ0_coder_7d493, cJ0_coder_7d493, 1, some .byte, 0, 98, 0, 0, [])
def zco (i : Nat) (h : zH) : Option zV → zH → Bool := fun r h' => decide (r = some (.inl (.int 0))) && decide (h' = h)
def zslw : List Cond := [.fieldLink "java/lang/String" 9 "java/lang/String" "value" "[B", .methodLink "java/lang/String" 335 yJ0_coder_7d493, .instanceMethod yJ0_coder_7d493, .selects "java/lang/String" yJ0_coder_7d493 yJ0_coder_7d493, .initialized "java/lang/String", .code yJ0_coder_7d493 cJ0_coder_7d493 1 (some .byte), .fieldLink "java/lang/String" 38 "java/lang/String" "COMPACT_STRINGS" "Z", .fieldLink "java/lang/String" 15 "java/lang/String" "coder" "B"]
theorem zl0 : decode cJ0_length_8abf5 0 = .ok (.aload_n 0, 1) := by decide +kernel
theorem zl1 : decode cJ0_length_8abf5 1 = .ok (.getfield 9, 3) := by decide +kernel
theorem zl4 : decode cJ0_length_8abf5 4 = .ok (.arraylength, 1) := by decide +kernel
theorem zl5 : decode cJ0_length_8abf5 5 = .ok (.aload_n 0, 1) := by decide +kernel
theorem zl6 : decode cJ0_length_8abf5 6 = .ok (.invokevirtual 335, 3) := by decide +kernel
theorem zl9 : decode cJ0_length_8abf5 9 = .ok (.ishr, 1) := by decide +kernel
theorem zl10 : decode cJ0_length_8abf5 10 = .ok (.ireturn, 1) := by decide +kernel
theorem zc0 : decode cJ0_coder_7d493 0 = .ok (.getstatic 38, 3) := by decide +kernel
theorem zc3 : decode cJ0_coder_7d493 3 = .ok (.ifCond .eq 10, 3) := by decide +kernel
theorem zc6 : decode cJ0_coder_7d493 6 = .ok (.aload_n 0, 1) := by decide +kernel
theorem zc7 : decode cJ0_coder_7d493 7 = .ok (.getfield 15, 3) := by decide +kernel
theorem zc10 : decode cJ0_coder_7d493 10 = .ok (.goto 4, 3) := by decide +kernel
theorem zc14 : decode cJ0_coder_7d493 14 = .ok (.ireturn, 1) := by decide +kernel
theorem z_coder {l : Launch} {zst : zSt} {TG TN : List Cond} {scr : List zV} {adK adV : Nat → Nat} {ext : Nat → Option Nat} {D : va_G} {ct : Nat → ClassId} (hw : ∀ w ∈ zslw, w ∈ TG) {i : Nat} (hi : i < 8) (h : zH) (ws : va_W) (sz : Nat) (hH : zHp (zrho ws ext) ct h ws) :
    Met l yJ0_coder_7d493 (zWS TG zEco) ({ frames := 0, cells := 0, slots := 0, locals := 0 }) (va_Pc [.ref (adK i)] (zPcB zst TN scr adK adV ext D ct ws sz)) (zQr ext D ct ws sz (zco i h)) 0 0 (va_A ws sz) := by
  refine Met.ofW (cc := cJ0_coder_7d493) (maxL := 1) (ret := some .byte) (by decide) rfl ?_
  intro p e s m args below meth c s₁ B hml hpv
  obtain ⟨rfl, hsz, hP, hK, hD0, hN, hF, h1, h2, h3⟩ := hpv
  subst hsz
  have hts := atoms_spec (ws := zWS TG zEco) B.pre
  have hlocks := B.notSynchronized
  have hx := B.exec
  have hb := B.bytes
  have hown : s.vm.findClass "java/lang/String" = some m.cls := findClass_of_methodNamed B.named
  have hS : va_S (va_A ws s.heap.size) s.heap s.heap [] := va_S.rf
  have hl := lv_entry [.ref (adK i)] (n := 1) (Nat.le_of_ble_eq_true rfl)
  rw [lg_entry_eq]
  generalize (lg_sl [.ref (adK i)] ++ List.replicate (1 - (lg_sl [.ref (adK i)]).length) Slot.unset).toArray = ls at hl ⊢
  have hl : lv_has ls 1 [(0, .ref (adK i))] := hl
  have hwt : ∀ w ∈ zslw, w.before #[Value.ref (adK i)] s = true := fun w h => hts w (List.mem_cons_of_mem _ (hw w h))
  refine va_gets hx hb (ref := "java/lang/String") hF.2.2.2.1 hS hown (hwt _ (by simp [zslw])) (fun x hx => hx) zc0 ?_
  refine lv_if_eq (tgt := 13) hx hb zc3 (by decide) (fun q => absurd q (by decide)) (fun _ => ?_)
  refine lv_aload_n hx hb zc6 rfl (lv_at hl 0 rfl) ?_
  refine vk_getf hx hb (ref := "java/lang/String") (hF.2.2.1.1 i hi).2.1 hS hown (hwt _ (by simp [zslw])) (fun x hx => hx) zc7 ?_
  refine lv_goto (tgt := 14) hx hb zc10 (by decide) ?_
  exact W.zret (ty := .byte) hx hb B.returns (by decide) (fun t ht _ => ⟨⟨some (.inl (.int 0)), h, some (.int 0), ws, by simp [zco], rfl, rfl, hH, by rw [ht]; exact hP, hD0.self, zPre_rf ws⟩, by rw [ht]; exact Nat.le_refl _, fun q h8 h9 => by rw [ht]⟩) (fun q hq => by cases hq) zc14
theorem z_slen {l : Launch} {zst : zSt} {TG TN : List Cond} {scr : List zV} {adK adV : Nat → Nat} {ext : Nat → Option Nat} {D : va_G} {ct : Nat → ClassId} (hG : zGood TG) (hTN : zTNok TN) (hw : ∀ w ∈ zslw, w ∈ TG) (huw : ∀ w ∈ zuws, w ∈ TG) (d : Nat) : zSL l zst TG TN scr adK adV ext D ct d := by
  intro i hi h ws sz hH
  refine Met.ofW (cc := cJ0_length_8abf5) (maxL := 1) (ret := some .int) (by decide) rfl ?_
  intro p e s m args below meth c s₁ B hml hpv
  obtain ⟨rfl, hsz, hP, hK, hD0, hN, hF, h1, h2, h3⟩ := hpv
  subst hsz
  have hts := atoms_spec (ws := zWS TG zESL) B.pre
  have hlocks := B.notSynchronized
  have hx := B.exec
  have hb := B.bytes
  have hown : s.vm.findClass "java/lang/String" = some m.cls := findClass_of_methodNamed B.named
  have hS : va_S (va_A ws s.heap.size) s.heap s.heap [] := va_S.rf
  have hl := lv_entry [.ref (adK i)] (n := 1) (Nat.le_of_ble_eq_true rfl)
  rw [lg_entry_eq]
  generalize (lg_sl [.ref (adK i)] ++ List.replicate (1 - (lg_sl [.ref (adK i)]).length) Slot.unset).toArray = ls at hl ⊢
  have hl : lv_has ls 1 [(0, .ref (adK i))] := hl
  have hwt : ∀ w ∈ zslw, w.before #[Value.ref (adK i)] s = true := fun w h => hts w (List.mem_cons_of_mem _ (hw w h))
  have hTG : ∀ w ∈ TG, w.before #[Value.ref (adK i)] s = true := fun w h => hts w (List.mem_cons_of_mem _ h)
  obtain ⟨s1, s2, s3, s4⟩ := hF.2.2.1.1 i hi
  have C : zCx p { frames := d + 2, cells := 0, slots := 0, locals := 60 * (d + 2) } s m [Value.ref (adK i)].toArray meth c (fun _ => none) zst TG TN scr adK adV ext D ct (va_A ws s.heap.size) zESL 0 0 d :=
    ⟨hx, hb, hml, hown, hTG, fun q => absurd q (by decide), hK, hN, hF, h1, h2, h3, fun q hq => Or.inr hq, Nat.le_refl _, Nat.le_refl _, Nat.le_refl _, Nat.le_refl _, fun pc i hi => (by cases hi), huw⟩
  refine lv_aload_n hx hb zl0 rfl (lv_at hl 0 rfl) ?_
  refine vk_getf hx hb (ref := "java/lang/String") s3 hS hown (hwt _ (by simp [zslw])) (fun x hx => hx) zl1 ?_
  refine va_tlen hx hb s4 hS rfl zl4 ?_
  refine lv_aload_n hx hb zl5 rfl (lv_at hl 0 rfl) ?_
  have hpay : ∀ w ∈ zWS TG zEco, ∀ (a' : Array Value) (U : State), s.WarmedH U.vm → w.before a' U = true := by
    intro w hw9 a' U hW
    rcases List.mem_cons.mp hw9 with rfl | hw9
    · have hc := hw (.code yJ0_coder_7d493 cJ0_coder_7d493 1 (some .byte)) (by simp [zslw])
      exact word_at hW (hG _ hc) (hTG _ hc)
    · exact word_at hW (hG _ hw9) (hTG _ hw9)
  have cb : CallB (zrm zESL d) s [Value.ref (adK i)].toArray "java/lang/String" 335 yJ0_coder_7d493 cJ0_coder_7d493 1 (some .byte) (zWS TG zEco) ({ frames := 0, cells := 0, slots := 0, locals := 0 }) 0 0 0 := by
    refine ⟨rfl, rfl, by show 0 + 1 ≤ d + 1; omega, by show 8 + (1 + 11) + 0 ≤ 60 * (d + 1); omega, hpay, List.mem_cons_self, hwt _ (by simp [zslw]), hwt _ (by simp [zslw, yJ0_coder_7d493, RJ0]), ⟨by decide, by decide⟩, fun sig h => ?_, hwt _ (by simp [zslw])⟩
    have h9 : (parseMethodDescriptor yJ0_coder_7d493.desc).map (fun d => d.parameters.length) = some 0 := by decide +kernel
    rw [h] at h9
    exact (Option.some.inj h9).symm
  have hpcB : ∀ U : State, U.heap = s.heap → s.WarmedH U.vm → va_Pc [Value.ref (adK i)] (zPcB zst TN scr adK adV ext D ct ws s.heap.size) (Value.ref (adK i) :: []).toArray U := fun U hU hW => ⟨rfl, zPcB_at C hTN hP hD0.self hS hU hW⟩
  refine z_after (e := e) (rc := 0) (rs := 0) (mc := 0) (ms := 0) (nL := 1) (L := []) (r0 := [.inl (.int (Int32.ofNat (zlens.getD i 0)))]) (ws0 := ws) (post := zco i h) (fun q hq => Or.inr hq) (lv_sub hl [] rfl) (fun q hq => by cases hq) (show zL2 (zrho ws ext) [.inl (.int (Int32.ofNat (zlens.getD i 0)))] [.int (Int32.ofNat (zlens.getD i 0))] from ⟨rfl, trivial⟩) hD0.self hS (Nat.le_refl _) (Nat.le_refl _) (zPre_rf ws) (va_runV (As := []) (n := 0) (C := "java/lang/String") (nL := 1) ⟨hx, hb, hml, hown, hTG⟩ (z_coder hw hi h ws s.heap.size hH) ⟨cb, hwt _ (by simp [zslw]), hwt _ (by simp [zslw])⟩ ⟨zPcB_blind hTN, vk_recv hF.2.2.1 hi hS, hpcB⟩ rfl rfl hl.1 rfl (lv_room (by show 1 + 0 ≤ 8; omega)) zl6 ⟨by show 0 + 0 ≤ 0; omega, by show 0 + 0 ≤ 0; omega⟩) (fun r' h' hp => ?_)
  obtain ⟨p1, p2⟩ := z_and hp
  have p1 := of_decide_eq_true p1
  have p2 := of_decide_eq_true p2
  subst p1
  subst p2
  intro ls2 stc H locs ws' hrel
  obtain ⟨hl', hL', hst, hH', hP', hD', hS', hnc, hns, hpre⟩ := hrel
  obtain ⟨w1, w2, r2, rfl, e1, e2, hr2⟩ := zL2_2 hst
  have e3 := zL2_nil hr2
  subst e3
  cases e1
  cases e2
  refine lv_ishr hx hb zl9 ?_
  have hsh : ∀ j, j < 8 → Int32.ofNat (zlens.getD j 0) >>> ((0 : Int32) &&& 31) = Int32.ofNat (zlens.getD j 0) := by decide +kernel
  rw [hsh i hi]
  exact W.iret hx hb B.returns (fun t ht _ => ⟨⟨some (.inl (.int (Int32.ofNat (zlens.getD i 0)))), h', some (.int (Int32.ofNat (zlens.getD i 0))), ws', by simp, rfl, rfl, hH', by rw [ht]; exact hP', hD', hpre⟩, by rw [ht]; exact hS'.1, fun q h8 h9 => by rw [ht]; exact hS'.2.1 q h8 h9⟩) hS'.2.2 zl10
end
section
def zrL_0 : List (Nat × zI) := [(0, (.new 7, .inl .null, 4, 0, 0, 0)), (3, (.dup, .inl .null, 0, 0, 0, 0)), (4, (.invokespecial 9, .inl .null, 76, 0, 0, 0)), (7, (.astore_n 1, .inl .null, 0, 0, 0, 0)), (8, (.new 10, .inl .null, 5, 0, 0, 0)), (11, (.dup, .inl .null, 0, 0, 0, 0)), (12, (.invokespecial 12, .inl .null, 73, 0, 0, 0)), (15, (.astore_n 2, .inl .null, 0, 0, 0, 0)), (16, (.iconst 0, .inl .null, 0, 0, 0, 0)), (17, (.istore_n 3, .inl .null, 0, 0, 0, 0)), (18, (.iload_n 3, .inl .null, 0, 0, 0, 0)), (19, (.aload_n 0, .inl .null, 0, 0, 0, 0)), (20, (.arraylength, .inl .null, 0, 0, 0, 0)), (21, (.bipush 6, .inl .null, 0, 0, 0, 0)), (23, (.isub, .inl .null, 0, 0, 0, 0)), (24, (.if_icmp .gt 1645, .inl .null, 0, 0, 0, 0)), (27, (.aload_n 0, .inl .null, 0, 0, 0, 0)), (28, (.iload_n 3, .inl .null, 0, 0, 0, 0)), (29, (.iaload, .inl .null, 0, 0, 0, 0)), (256, (.aload_n 1, .inl .null, 0, 0, 0, 0)), (257, (.aload_n 0, .inl .null, 0, 0, 0, 0)), (258, (.iload_n 3, .inl .null, 0, 0, 0, 0)), (259, (.iconst 1, .inl .null, 0, 0, 0, 0)), (260, (.iadd, .inl .null, 0, 0, 0, 0)), (261, (.iaload, .inl .null, 0, 0, 0, 0)), (262, (.aload_n 0, .inl .null, 0, 0, 0, 0)), (263, (.iload_n 3, .inl .null, 0, 0, 0, 0)), (264, (.iconst 2, .inl .null, 0, 0, 0, 0)), (265, (.iadd, .inl .null, 0, 0, 0, 0)), (266, (.iaload, .inl .null, 0, 0, 0, 0)), (267, (.aload_n 0, .inl .null, 0, 0, 0, 0)), (268, (.iload_n 3, .inl .null, 0, 0, 0, 0))]
def zrL_1 : List (Nat × zI) := [(269, (.iconst 3, .inl .null, 0, 0, 0, 0)), (270, (.iadd, .inl .null, 0, 0, 0, 0)), (271, (.iaload, .inl .null, 0, 0, 0, 0)), (272, (.invokevirtual 13, .inl .null, 17, 0, 0, 0)), (275, (.aload_n 2, .inl .null, 0, 0, 0, 0)), (276, (.aload_n 0, .inl .null, 0, 0, 0, 0)), (277, (.iload_n 3, .inl .null, 0, 0, 0, 0)), (278, (.iconst 1, .inl .null, 0, 0, 0, 0)), (279, (.iadd, .inl .null, 0, 0, 0, 0)), (280, (.iaload, .inl .null, 0, 0, 0, 0)), (281, (.aload_n 0, .inl .null, 0, 0, 0, 0)), (282, (.iload_n 3, .inl .null, 0, 0, 0, 0)), (283, (.iconst 2, .inl .null, 0, 0, 0, 0)), (284, (.iadd, .inl .null, 0, 0, 0, 0)), (285, (.iaload, .inl .null, 0, 0, 0, 0)), (286, (.aload_n 0, .inl .null, 0, 0, 0, 0)), (287, (.iload_n 3, .inl .null, 0, 0, 0, 0)), (288, (.iconst 3, .inl .null, 0, 0, 0, 0)), (289, (.iadd, .inl .null, 0, 0, 0, 0)), (290, (.iaload, .inl .null, 0, 0, 0, 0)), (291, (.invokevirtual 17, .inl .null, 18, 0, 0, 0)), (294, (.if_icmp .eq 1369, .inl .null, 0, 0, 0, 0)), (299, (.aload_n 1, .inl .null, 0, 0, 0, 0)), (300, (.aload_n 0, .inl .null, 0, 0, 0, 0)), (301, (.iload_n 3, .inl .null, 0, 0, 0, 0)), (302, (.iconst 1, .inl .null, 0, 0, 0, 0)), (303, (.iadd, .inl .null, 0, 0, 0, 0)), (304, (.iaload, .inl .null, 0, 0, 0, 0)), (305, (.aload_n 0, .inl .null, 0, 0, 0, 0)), (306, (.iload_n 3, .inl .null, 0, 0, 0, 0)), (307, (.iconst 2, .inl .null, 0, 0, 0, 0)), (308, (.iadd, .inl .null, 0, 0, 0, 0))]
def zrL_2 : List (Nat × zI) := [(309, (.iaload, .inl .null, 0, 0, 0, 0)), (310, (.aload_n 0, .inl .null, 0, 0, 0, 0)), (311, (.iload_n 3, .inl .null, 0, 0, 0, 0)), (312, (.iconst 3, .inl .null, 0, 0, 0, 0)), (313, (.iadd, .inl .null, 0, 0, 0, 0)), (314, (.iaload, .inl .null, 0, 0, 0, 0)), (315, (.i2l, .inl .null, 0, 0, 0, 0)), (316, (.bipush 32, .inl .null, 0, 0, 0, 0)), (318, (.lshl, .inl .null, 0, 0, 0, 0)), (319, (.aload_n 0, .inl .null, 0, 0, 0, 0)), (320, (.iload_n 3, .inl .null, 0, 0, 0, 0)), (321, (.iconst 4, .inl .null, 0, 0, 0, 0)), (322, (.iadd, .inl .null, 0, 0, 0, 0)), (323, (.iaload, .inl .null, 0, 0, 0, 0)), (324, (.i2l, .inl .null, 0, 0, 0, 0)), (325, (.ldc2_w 18, .inl (.long (4294967295)), 0, 0, 0, 0)), (328, (.land, .inl .null, 0, 0, 0, 0)), (329, (.lor, .inl .null, 0, 0, 0, 0)), (330, (.invokevirtual 20, .inl .null, 67, 0, 0, 0)), (333, (.aload_n 2, .inl .null, 0, 0, 0, 0)), (334, (.aload_n 0, .inl .null, 0, 0, 0, 0)), (335, (.iload_n 3, .inl .null, 0, 0, 0, 0)), (336, (.iconst 1, .inl .null, 0, 0, 0, 0)), (337, (.iadd, .inl .null, 0, 0, 0, 0)), (338, (.iaload, .inl .null, 0, 0, 0, 0)), (339, (.aload_n 0, .inl .null, 0, 0, 0, 0)), (340, (.iload_n 3, .inl .null, 0, 0, 0, 0)), (341, (.iconst 2, .inl .null, 0, 0, 0, 0)), (342, (.iadd, .inl .null, 0, 0, 0, 0)), (343, (.iaload, .inl .null, 0, 0, 0, 0)), (344, (.aload_n 0, .inl .null, 0, 0, 0, 0)), (345, (.iload_n 3, .inl .null, 0, 0, 0, 0))]
def zrL_3 : List (Nat × zI) := [(346, (.iconst 3, .inl .null, 0, 0, 0, 0)), (347, (.iadd, .inl .null, 0, 0, 0, 0)), (348, (.iaload, .inl .null, 0, 0, 0, 0)), (349, (.i2l, .inl .null, 0, 0, 0, 0)), (350, (.bipush 32, .inl .null, 0, 0, 0, 0)), (352, (.lshl, .inl .null, 0, 0, 0, 0)), (353, (.aload_n 0, .inl .null, 0, 0, 0, 0)), (354, (.iload_n 3, .inl .null, 0, 0, 0, 0)), (355, (.iconst 4, .inl .null, 0, 0, 0, 0)), (356, (.iadd, .inl .null, 0, 0, 0, 0)), (357, (.iaload, .inl .null, 0, 0, 0, 0)), (358, (.i2l, .inl .null, 0, 0, 0, 0)), (359, (.ldc2_w 18, .inl (.long (4294967295)), 0, 0, 0, 0)), (362, (.land, .inl .null, 0, 0, 0, 0)), (363, (.lor, .inl .null, 0, 0, 0, 0)), (364, (.invokevirtual 24, .inl .null, 68, 0, 0, 0)), (367, (.if_icmp .eq 1296, .inl .null, 0, 0, 0, 0)), (372, (.aload_n 1, .inl .null, 0, 0, 0, 0)), (373, (.aload_n 0, .inl .null, 0, 0, 0, 0)), (374, (.iload_n 3, .inl .null, 0, 0, 0, 0)), (375, (.iconst 1, .inl .null, 0, 0, 0, 0)), (376, (.iadd, .inl .null, 0, 0, 0, 0)), (377, (.iaload, .inl .null, 0, 0, 0, 0)), (378, (.aload_n 0, .inl .null, 0, 0, 0, 0)), (379, (.iload_n 3, .inl .null, 0, 0, 0, 0)), (380, (.iconst 2, .inl .null, 0, 0, 0, 0)), (381, (.iadd, .inl .null, 0, 0, 0, 0)), (382, (.iaload, .inl .null, 0, 0, 0, 0)), (383, (.aload_n 0, .inl .null, 0, 0, 0, 0)), (384, (.iload_n 3, .inl .null, 0, 0, 0, 0)), (385, (.iconst 3, .inl .null, 0, 0, 0, 0)), (386, (.iadd, .inl .null, 0, 0, 0, 0))]
def zrL_4 : List (Nat × zI) := [(387, (.iaload, .inl .null, 0, 0, 0, 0)), (388, (.aload_n 0, .inl .null, 0, 0, 0, 0)), (389, (.iload_n 3, .inl .null, 0, 0, 0, 0)), (390, (.iconst 4, .inl .null, 0, 0, 0, 0)), (391, (.iadd, .inl .null, 0, 0, 0, 0)), (392, (.iaload, .inl .null, 0, 0, 0, 0)), (393, (.aload_n 0, .inl .null, 0, 0, 0, 0)), (394, (.iload_n 3, .inl .null, 0, 0, 0, 0)), (395, (.iconst 5, .inl .null, 0, 0, 0, 0)), (396, (.iadd, .inl .null, 0, 0, 0, 0)), (397, (.iaload, .inl .null, 0, 0, 0, 0)), (398, (.invokevirtual 25, .inl .null, 15, 0, 0, 0)), (401, (.aload_n 2, .inl .null, 0, 0, 0, 0)), (402, (.aload_n 0, .inl .null, 0, 0, 0, 0)), (403, (.iload_n 3, .inl .null, 0, 0, 0, 0)), (404, (.iconst 1, .inl .null, 0, 0, 0, 0)), (405, (.iadd, .inl .null, 0, 0, 0, 0)), (406, (.iaload, .inl .null, 0, 0, 0, 0)), (407, (.aload_n 0, .inl .null, 0, 0, 0, 0)), (408, (.iload_n 3, .inl .null, 0, 0, 0, 0)), (409, (.iconst 2, .inl .null, 0, 0, 0, 0)), (410, (.iadd, .inl .null, 0, 0, 0, 0)), (411, (.iaload, .inl .null, 0, 0, 0, 0)), (412, (.aload_n 0, .inl .null, 0, 0, 0, 0)), (413, (.iload_n 3, .inl .null, 0, 0, 0, 0)), (414, (.iconst 3, .inl .null, 0, 0, 0, 0)), (415, (.iadd, .inl .null, 0, 0, 0, 0)), (416, (.iaload, .inl .null, 0, 0, 0, 0)), (417, (.aload_n 0, .inl .null, 0, 0, 0, 0)), (418, (.iload_n 3, .inl .null, 0, 0, 0, 0)), (419, (.iconst 4, .inl .null, 0, 0, 0, 0)), (420, (.iadd, .inl .null, 0, 0, 0, 0))]
def zrL_5 : List (Nat × zI) := [(421, (.iaload, .inl .null, 0, 0, 0, 0)), (422, (.aload_n 0, .inl .null, 0, 0, 0, 0)), (423, (.iload_n 3, .inl .null, 0, 0, 0, 0)), (424, (.iconst 5, .inl .null, 0, 0, 0, 0)), (425, (.iadd, .inl .null, 0, 0, 0, 0)), (426, (.iaload, .inl .null, 0, 0, 0, 0)), (427, (.invokevirtual 29, .inl .null, 16, 0, 0, 0)), (430, (.if_icmp .eq 1233, .inl .null, 0, 0, 0, 0)), (435, (.aload_n 1, .inl .null, 0, 0, 0, 0)), (436, (.aload_n 0, .inl .null, 0, 0, 0, 0)), (437, (.iload_n 3, .inl .null, 0, 0, 0, 0)), (438, (.iconst 1, .inl .null, 0, 0, 0, 0)), (439, (.iadd, .inl .null, 0, 0, 0, 0)), (440, (.iaload, .inl .null, 0, 0, 0, 0)), (441, (.aload_n 0, .inl .null, 0, 0, 0, 0)), (442, (.iload_n 3, .inl .null, 0, 0, 0, 0)), (443, (.iconst 2, .inl .null, 0, 0, 0, 0)), (444, (.iadd, .inl .null, 0, 0, 0, 0)), (445, (.iaload, .inl .null, 0, 0, 0, 0)), (446, (.invokevirtual 30, .inl .null, 69, 0, 0, 0)), (449, (.aload_n 2, .inl .null, 0, 0, 0, 0)), (450, (.aload_n 0, .inl .null, 0, 0, 0, 0)), (451, (.iload_n 3, .inl .null, 0, 0, 0, 0)), (452, (.iconst 1, .inl .null, 0, 0, 0, 0)), (453, (.iadd, .inl .null, 0, 0, 0, 0)), (454, (.iaload, .inl .null, 0, 0, 0, 0)), (455, (.aload_n 0, .inl .null, 0, 0, 0, 0)), (456, (.iload_n 3, .inl .null, 0, 0, 0, 0)), (457, (.iconst 2, .inl .null, 0, 0, 0, 0)), (458, (.iadd, .inl .null, 0, 0, 0, 0)), (459, (.iaload, .inl .null, 0, 0, 0, 0)), (460, (.invokevirtual 34, .inl .null, 70, 0, 0, 0))]
def zrL_6 : List (Nat × zI) := [(463, (.lcmp, .inl .null, 0, 0, 0, 0)), (464, (.ifCond .eq 1199, .inl .null, 0, 0, 0, 0)), (469, (.aload_n 1, .inl .null, 0, 0, 0, 0)), (470, (.aload_n 0, .inl .null, 0, 0, 0, 0)), (471, (.iload_n 3, .inl .null, 0, 0, 0, 0)), (472, (.iconst 1, .inl .null, 0, 0, 0, 0)), (473, (.iadd, .inl .null, 0, 0, 0, 0)), (474, (.iaload, .inl .null, 0, 0, 0, 0)), (475, (.invokevirtual 35, .inl .null, 71, 0, 0, 0)), (478, (.aload_n 2, .inl .null, 0, 0, 0, 0)), (479, (.aload_n 0, .inl .null, 0, 0, 0, 0)), (480, (.iload_n 3, .inl .null, 0, 0, 0, 0)), (481, (.iconst 1, .inl .null, 0, 0, 0, 0)), (482, (.iadd, .inl .null, 0, 0, 0, 0)), (483, (.iaload, .inl .null, 0, 0, 0, 0)), (484, (.invokevirtual 39, .inl .null, 72, 0, 0, 0)), (487, (.if_icmp .eq 1176, .inl .null, 0, 0, 0, 0)), (492, (.aload_n 1, .inl .null, 0, 0, 0, 0)), (493, (.aload_n 0, .inl .null, 0, 0, 0, 0)), (494, (.iload_n 3, .inl .null, 0, 0, 0, 0)), (495, (.iconst 1, .inl .null, 0, 0, 0, 0)), (496, (.iadd, .inl .null, 0, 0, 0, 0)), (497, (.iaload, .inl .null, 0, 0, 0, 0)), (498, (.aload_n 0, .inl .null, 0, 0, 0, 0)), (499, (.iload_n 3, .inl .null, 0, 0, 0, 0)), (500, (.iconst 2, .inl .null, 0, 0, 0, 0)), (501, (.iadd, .inl .null, 0, 0, 0, 0)), (502, (.iaload, .inl .null, 0, 0, 0, 0)), (503, (.invokevirtual 40, .inl .null, 34, 0, 0, 0)), (506, (.aload_n 2, .inl .null, 0, 0, 0, 0)), (507, (.aload_n 0, .inl .null, 0, 0, 0, 0)), (508, (.iload_n 3, .inl .null, 0, 0, 0, 0))]
def zrL_7 : List (Nat × zI) := [(509, (.iconst 1, .inl .null, 0, 0, 0, 0)), (510, (.iadd, .inl .null, 0, 0, 0, 0)), (511, (.iaload, .inl .null, 0, 0, 0, 0)), (512, (.aload_n 0, .inl .null, 0, 0, 0, 0)), (513, (.iload_n 3, .inl .null, 0, 0, 0, 0)), (514, (.iconst 2, .inl .null, 0, 0, 0, 0)), (515, (.iadd, .inl .null, 0, 0, 0, 0)), (516, (.iaload, .inl .null, 0, 0, 0, 0)), (517, (.invokevirtual 44, .inl .null, 35, 0, 0, 0)), (520, (.if_icmp .eq 1143, .inl .null, 0, 0, 0, 0)), (525, (.aload_n 1, .inl .null, 0, 0, 0, 0)), (526, (.aload_n 0, .inl .null, 0, 0, 0, 0)), (527, (.iload_n 3, .inl .null, 0, 0, 0, 0)), (528, (.iconst 1, .inl .null, 0, 0, 0, 0)), (529, (.iadd, .inl .null, 0, 0, 0, 0)), (530, (.iaload, .inl .null, 0, 0, 0, 0)), (531, (.aload_n 0, .inl .null, 0, 0, 0, 0)), (532, (.iload_n 3, .inl .null, 0, 0, 0, 0)), (533, (.iconst 2, .inl .null, 0, 0, 0, 0)), (534, (.iadd, .inl .null, 0, 0, 0, 0)), (535, (.iaload, .inl .null, 0, 0, 0, 0)), (536, (.invokevirtual 45, .inl .null, 36, 0, 0, 0)), (539, (.aload_n 2, .inl .null, 0, 0, 0, 0)), (540, (.aload_n 0, .inl .null, 0, 0, 0, 0)), (541, (.iload_n 3, .inl .null, 0, 0, 0, 0)), (542, (.iconst 1, .inl .null, 0, 0, 0, 0)), (543, (.iadd, .inl .null, 0, 0, 0, 0)), (544, (.iaload, .inl .null, 0, 0, 0, 0)), (545, (.aload_n 0, .inl .null, 0, 0, 0, 0)), (546, (.iload_n 3, .inl .null, 0, 0, 0, 0)), (547, (.iconst 2, .inl .null, 0, 0, 0, 0)), (548, (.iadd, .inl .null, 0, 0, 0, 0))]
def zrL_8 : List (Nat × zI) := [(549, (.iaload, .inl .null, 0, 0, 0, 0)), (550, (.invokevirtual 48, .inl .null, 37, 0, 0, 0)), (553, (.if_icmp .eq 1110, .inl .null, 0, 0, 0, 0)), (558, (.aload_n 1, .inl .null, 0, 0, 0, 0)), (559, (.aload_n 0, .inl .null, 0, 0, 0, 0)), (560, (.iload_n 3, .inl .null, 0, 0, 0, 0)), (561, (.iconst 1, .inl .null, 0, 0, 0, 0)), (562, (.iadd, .inl .null, 0, 0, 0, 0)), (563, (.iaload, .inl .null, 0, 0, 0, 0)), (564, (.invokevirtual 49, .inl .null, 90, 0, 0, 0)), (567, (.aload_n 2, .inl .null, 0, 0, 0, 0)), (568, (.aload_n 0, .inl .null, 0, 0, 0, 0)), (569, (.iload_n 3, .inl .null, 0, 0, 0, 0)), (570, (.iconst 1, .inl .null, 0, 0, 0, 0)), (571, (.iadd, .inl .null, 0, 0, 0, 0)), (572, (.iaload, .inl .null, 0, 0, 0, 0)), (573, (.invokevirtual 52, .inl .null, 91, 0, 0, 0)), (576, (.if_icmp .eq 1087, .inl .null, 0, 0, 0, 0)), (581, (.aload_n 1, .inl .null, 0, 0, 0, 0)), (582, (.aload_n 0, .inl .null, 0, 0, 0, 0)), (583, (.iload_n 3, .inl .null, 0, 0, 0, 0)), (584, (.iconst 1, .inl .null, 0, 0, 0, 0)), (585, (.iadd, .inl .null, 0, 0, 0, 0)), (586, (.iaload, .inl .null, 0, 0, 0, 0)), (587, (.invokevirtual 53, .inl .null, 92, 0, 0, 0)), (590, (.aload_n 2, .inl .null, 0, 0, 0, 0)), (591, (.aload_n 0, .inl .null, 0, 0, 0, 0)), (592, (.iload_n 3, .inl .null, 0, 0, 0, 0)), (593, (.iconst 1, .inl .null, 0, 0, 0, 0)), (594, (.iadd, .inl .null, 0, 0, 0, 0)), (595, (.iaload, .inl .null, 0, 0, 0, 0)), (596, (.invokevirtual 56, .inl .null, 93, 0, 0, 0))]
def zrL_9 : List (Nat × zI) := [(599, (.if_icmp .eq 1064, .inl .null, 0, 0, 0, 0)), (604, (.aload_n 1, .inl .null, 0, 0, 0, 0)), (605, (.aload_n 0, .inl .null, 0, 0, 0, 0)), (606, (.iload_n 3, .inl .null, 0, 0, 0, 0)), (607, (.iconst 1, .inl .null, 0, 0, 0, 0)), (608, (.iadd, .inl .null, 0, 0, 0, 0)), (609, (.iaload, .inl .null, 0, 0, 0, 0)), (610, (.aload_n 0, .inl .null, 0, 0, 0, 0)), (611, (.iload_n 3, .inl .null, 0, 0, 0, 0)), (612, (.iconst 2, .inl .null, 0, 0, 0, 0)), (613, (.iadd, .inl .null, 0, 0, 0, 0)), (614, (.iaload, .inl .null, 0, 0, 0, 0)), (615, (.invokevirtual 57, .inl .null, 63, 0, 0, 0)), (618, (.aload_n 2, .inl .null, 0, 0, 0, 0)), (619, (.aload_n 0, .inl .null, 0, 0, 0, 0)), (620, (.iload_n 3, .inl .null, 0, 0, 0, 0)), (621, (.iconst 1, .inl .null, 0, 0, 0, 0)), (622, (.iadd, .inl .null, 0, 0, 0, 0)), (623, (.iaload, .inl .null, 0, 0, 0, 0)), (624, (.aload_n 0, .inl .null, 0, 0, 0, 0)), (625, (.iload_n 3, .inl .null, 0, 0, 0, 0)), (626, (.iconst 2, .inl .null, 0, 0, 0, 0)), (627, (.iadd, .inl .null, 0, 0, 0, 0)), (628, (.iaload, .inl .null, 0, 0, 0, 0)), (629, (.invokevirtual 60, .inl .null, 64, 0, 0, 0)), (632, (.if_icmp .eq 1031, .inl .null, 0, 0, 0, 0)), (637, (.aload_n 1, .inl .null, 0, 0, 0, 0)), (638, (.aload_n 0, .inl .null, 0, 0, 0, 0)), (639, (.iload_n 3, .inl .null, 0, 0, 0, 0)), (640, (.iconst 1, .inl .null, 0, 0, 0, 0)), (641, (.iadd, .inl .null, 0, 0, 0, 0)), (642, (.iaload, .inl .null, 0, 0, 0, 0))]
def zrL_10 : List (Nat × zI) := [(643, (.aload_n 0, .inl .null, 0, 0, 0, 0)), (644, (.iload_n 3, .inl .null, 0, 0, 0, 0)), (645, (.iconst 2, .inl .null, 0, 0, 0, 0)), (646, (.iadd, .inl .null, 0, 0, 0, 0)), (647, (.iaload, .inl .null, 0, 0, 0, 0)), (648, (.aload_n 0, .inl .null, 0, 0, 0, 0)), (649, (.iload_n 3, .inl .null, 0, 0, 0, 0)), (650, (.iconst 3, .inl .null, 0, 0, 0, 0)), (651, (.iadd, .inl .null, 0, 0, 0, 0)), (652, (.iaload, .inl .null, 0, 0, 0, 0)), (653, (.invokevirtual 61, .inl .null, 8, 0, 0, 0)), (656, (.aload_n 2, .inl .null, 0, 0, 0, 0)), (657, (.aload_n 0, .inl .null, 0, 0, 0, 0)), (658, (.iload_n 3, .inl .null, 0, 0, 0, 0)), (659, (.iconst 1, .inl .null, 0, 0, 0, 0)), (660, (.iadd, .inl .null, 0, 0, 0, 0)), (661, (.iaload, .inl .null, 0, 0, 0, 0)), (662, (.aload_n 0, .inl .null, 0, 0, 0, 0)), (663, (.iload_n 3, .inl .null, 0, 0, 0, 0)), (664, (.iconst 2, .inl .null, 0, 0, 0, 0)), (665, (.iadd, .inl .null, 0, 0, 0, 0)), (666, (.iaload, .inl .null, 0, 0, 0, 0)), (667, (.aload_n 0, .inl .null, 0, 0, 0, 0)), (668, (.iload_n 3, .inl .null, 0, 0, 0, 0)), (669, (.iconst 3, .inl .null, 0, 0, 0, 0)), (670, (.iadd, .inl .null, 0, 0, 0, 0)), (671, (.iaload, .inl .null, 0, 0, 0, 0)), (672, (.invokevirtual 64, .inl .null, 9, 0, 0, 0)), (675, (.if_icmp .eq 988, .inl .null, 0, 0, 0, 0)), (680, (.aload_n 1, .inl .null, 0, 0, 0, 0)), (681, (.aload_n 0, .inl .null, 0, 0, 0, 0)), (682, (.iload_n 3, .inl .null, 0, 0, 0, 0))]
def zrL_11 : List (Nat × zI) := [(683, (.iconst 1, .inl .null, 0, 0, 0, 0)), (684, (.iadd, .inl .null, 0, 0, 0, 0)), (685, (.iaload, .inl .null, 0, 0, 0, 0)), (686, (.invokevirtual 65, .inl .null, 94, 0, 0, 0)), (689, (.aload_n 2, .inl .null, 0, 0, 0, 0)), (690, (.aload_n 0, .inl .null, 0, 0, 0, 0)), (691, (.iload_n 3, .inl .null, 0, 0, 0, 0)), (692, (.iconst 1, .inl .null, 0, 0, 0, 0)), (693, (.iadd, .inl .null, 0, 0, 0, 0)), (694, (.iaload, .inl .null, 0, 0, 0, 0)), (695, (.invokevirtual 68, .inl .null, 95, 0, 0, 0)), (698, (.if_icmp .eq 965, .inl .null, 0, 0, 0, 0)), (703, (.aload_n 1, .inl .null, 0, 0, 0, 0)), (704, (.aload_n 0, .inl .null, 0, 0, 0, 0)), (705, (.iload_n 3, .inl .null, 0, 0, 0, 0)), (706, (.iconst 1, .inl .null, 0, 0, 0, 0)), (707, (.iadd, .inl .null, 0, 0, 0, 0)), (708, (.iaload, .inl .null, 0, 0, 0, 0)), (709, (.aload_n 0, .inl .null, 0, 0, 0, 0)), (710, (.iload_n 3, .inl .null, 0, 0, 0, 0)), (711, (.iconst 2, .inl .null, 0, 0, 0, 0)), (712, (.iadd, .inl .null, 0, 0, 0, 0)), (713, (.iaload, .inl .null, 0, 0, 0, 0)), (714, (.aload_n 0, .inl .null, 0, 0, 0, 0)), (715, (.iload_n 3, .inl .null, 0, 0, 0, 0)), (716, (.iconst 3, .inl .null, 0, 0, 0, 0)), (717, (.iadd, .inl .null, 0, 0, 0, 0)), (718, (.iaload, .inl .null, 0, 0, 0, 0)), (719, (.invokevirtual 69, .inl .null, 106, 0, 0, 0)), (722, (.aload_n 2, .inl .null, 0, 0, 0, 0)), (723, (.aload_n 0, .inl .null, 0, 0, 0, 0)), (724, (.iload_n 3, .inl .null, 0, 0, 0, 0))]
def zrL_12 : List (Nat × zI) := [(725, (.iconst 1, .inl .null, 0, 0, 0, 0)), (726, (.iadd, .inl .null, 0, 0, 0, 0)), (727, (.iaload, .inl .null, 0, 0, 0, 0)), (728, (.aload_n 0, .inl .null, 0, 0, 0, 0)), (729, (.iload_n 3, .inl .null, 0, 0, 0, 0)), (730, (.iconst 2, .inl .null, 0, 0, 0, 0)), (731, (.iadd, .inl .null, 0, 0, 0, 0)), (732, (.iaload, .inl .null, 0, 0, 0, 0)), (733, (.aload_n 0, .inl .null, 0, 0, 0, 0)), (734, (.iload_n 3, .inl .null, 0, 0, 0, 0)), (735, (.iconst 3, .inl .null, 0, 0, 0, 0)), (736, (.iadd, .inl .null, 0, 0, 0, 0)), (737, (.iaload, .inl .null, 0, 0, 0, 0)), (738, (.invokevirtual 72, .inl .null, 107, 0, 0, 0)), (741, (.if_icmp .eq 922, .inl .null, 0, 0, 0, 0)), (746, (.aload_n 1, .inl .null, 0, 0, 0, 0)), (747, (.aload_n 0, .inl .null, 0, 0, 0, 0)), (748, (.iload_n 3, .inl .null, 0, 0, 0, 0)), (749, (.iconst 1, .inl .null, 0, 0, 0, 0)), (750, (.iadd, .inl .null, 0, 0, 0, 0)), (751, (.iaload, .inl .null, 0, 0, 0, 0)), (752, (.aload_n 0, .inl .null, 0, 0, 0, 0)), (753, (.iload_n 3, .inl .null, 0, 0, 0, 0)), (754, (.iconst 2, .inl .null, 0, 0, 0, 0)), (755, (.iadd, .inl .null, 0, 0, 0, 0)), (756, (.iaload, .inl .null, 0, 0, 0, 0)), (757, (.invokevirtual 73, .inl .null, 108, 0, 0, 0)), (760, (.aload_n 2, .inl .null, 0, 0, 0, 0)), (761, (.aload_n 0, .inl .null, 0, 0, 0, 0)), (762, (.iload_n 3, .inl .null, 0, 0, 0, 0)), (763, (.iconst 1, .inl .null, 0, 0, 0, 0)), (764, (.iadd, .inl .null, 0, 0, 0, 0))]
def zrL_13 : List (Nat × zI) := [(765, (.iaload, .inl .null, 0, 0, 0, 0)), (766, (.aload_n 0, .inl .null, 0, 0, 0, 0)), (767, (.iload_n 3, .inl .null, 0, 0, 0, 0)), (768, (.iconst 2, .inl .null, 0, 0, 0, 0)), (769, (.iadd, .inl .null, 0, 0, 0, 0)), (770, (.iaload, .inl .null, 0, 0, 0, 0)), (771, (.invokevirtual 76, .inl .null, 109, 0, 0, 0)), (774, (.if_icmp .eq 889, .inl .null, 0, 0, 0, 0)), (779, (.aload_n 1, .inl .null, 0, 0, 0, 0)), (780, (.aload_n 0, .inl .null, 0, 0, 0, 0)), (781, (.iload_n 3, .inl .null, 0, 0, 0, 0)), (782, (.iconst 1, .inl .null, 0, 0, 0, 0)), (783, (.iadd, .inl .null, 0, 0, 0, 0)), (784, (.iaload, .inl .null, 0, 0, 0, 0)), (785, (.invokevirtual 77, .inl .null, 96, 0, 0, 0)), (788, (.aload_n 2, .inl .null, 0, 0, 0, 0)), (789, (.aload_n 0, .inl .null, 0, 0, 0, 0)), (790, (.iload_n 3, .inl .null, 0, 0, 0, 0)), (791, (.iconst 1, .inl .null, 0, 0, 0, 0)), (792, (.iadd, .inl .null, 0, 0, 0, 0)), (793, (.iaload, .inl .null, 0, 0, 0, 0)), (794, (.invokevirtual 80, .inl .null, 97, 0, 0, 0)), (797, (.if_icmp .eq 866, .inl .null, 0, 0, 0, 0)), (802, (.aload_n 1, .inl .null, 0, 0, 0, 0)), (803, (.invokevirtual 81, .inl .null, 146, 0, 0, 0)), (806, (.aload_n 2, .inl .null, 0, 0, 0, 0)), (807, (.invokevirtual 85, .inl .null, 147, 0, 0, 0)), (810, (.if_icmp .eq 853, .inl .null, 0, 0, 0, 0)), (815, (.aload_n 1, .inl .null, 0, 0, 0, 0)), (816, (.invokevirtual 86, .inl .null, 148, 0, 0, 0)), (819, (.aload_n 2, .inl .null, 0, 0, 0, 0)), (820, (.invokevirtual 89, .inl .null, 152, 0, 0, 0))]
def zrL_14 : List (Nat × zI) := [(823, (.if_icmp .eq 840, .inl .null, 0, 0, 0, 0)), (828, (.aload_n 1, .inl .null, 0, 0, 0, 0)), (829, (.aload_n 0, .inl .null, 0, 0, 0, 0)), (830, (.iload_n 3, .inl .null, 0, 0, 0, 0)), (831, (.iconst 1, .inl .null, 0, 0, 0, 0)), (832, (.iadd, .inl .null, 0, 0, 0, 0)), (833, (.iaload, .inl .null, 0, 0, 0, 0)), (834, (.aload_n 0, .inl .null, 0, 0, 0, 0)), (835, (.iload_n 3, .inl .null, 0, 0, 0, 0)), (836, (.iconst 2, .inl .null, 0, 0, 0, 0)), (837, (.iadd, .inl .null, 0, 0, 0, 0)), (838, (.iaload, .inl .null, 0, 0, 0, 0)), (839, (.invokevirtual 90, .inl .null, 111, 0, 0, 0)), (842, (.aload_n 2, .inl .null, 0, 0, 0, 0)), (843, (.aload_n 0, .inl .null, 0, 0, 0, 0)), (844, (.iload_n 3, .inl .null, 0, 0, 0, 0)), (845, (.iconst 1, .inl .null, 0, 0, 0, 0)), (846, (.iadd, .inl .null, 0, 0, 0, 0)), (847, (.iaload, .inl .null, 0, 0, 0, 0)), (848, (.aload_n 0, .inl .null, 0, 0, 0, 0)), (849, (.iload_n 3, .inl .null, 0, 0, 0, 0)), (850, (.iconst 2, .inl .null, 0, 0, 0, 0)), (851, (.iadd, .inl .null, 0, 0, 0, 0)), (852, (.iaload, .inl .null, 0, 0, 0, 0)), (853, (.invokevirtual 93, .inl .null, 112, 0, 0, 0)), (856, (.if_icmp .eq 807, .inl .null, 0, 0, 0, 0)), (861, (.aload_n 1, .inl .null, 0, 0, 0, 0)), (862, (.aload_n 0, .inl .null, 0, 0, 0, 0)), (863, (.iload_n 3, .inl .null, 0, 0, 0, 0)), (864, (.iconst 1, .inl .null, 0, 0, 0, 0)), (865, (.iadd, .inl .null, 0, 0, 0, 0)), (866, (.iaload, .inl .null, 0, 0, 0, 0))]
def zrL_15 : List (Nat × zI) := [(867, (.aload_n 0, .inl .null, 0, 0, 0, 0)), (868, (.iload_n 3, .inl .null, 0, 0, 0, 0)), (869, (.iconst 2, .inl .null, 0, 0, 0, 0)), (870, (.iadd, .inl .null, 0, 0, 0, 0)), (871, (.iaload, .inl .null, 0, 0, 0, 0)), (872, (.invokevirtual 94, .inl .null, 113, 0, 0, 0)), (875, (.aload_n 2, .inl .null, 0, 0, 0, 0)), (876, (.aload_n 0, .inl .null, 0, 0, 0, 0)), (877, (.iload_n 3, .inl .null, 0, 0, 0, 0)), (878, (.iconst 1, .inl .null, 0, 0, 0, 0)), (879, (.iadd, .inl .null, 0, 0, 0, 0)), (880, (.iaload, .inl .null, 0, 0, 0, 0)), (881, (.aload_n 0, .inl .null, 0, 0, 0, 0)), (882, (.iload_n 3, .inl .null, 0, 0, 0, 0)), (883, (.iconst 2, .inl .null, 0, 0, 0, 0)), (884, (.iadd, .inl .null, 0, 0, 0, 0)), (885, (.iaload, .inl .null, 0, 0, 0, 0)), (886, (.invokevirtual 97, .inl .null, 114, 0, 0, 0)), (889, (.if_icmp .eq 774, .inl .null, 0, 0, 0, 0)), (894, (.aload_n 1, .inl .null, 0, 0, 0, 0)), (895, (.aload_n 0, .inl .null, 0, 0, 0, 0)), (896, (.iload_n 3, .inl .null, 0, 0, 0, 0)), (897, (.iconst 1, .inl .null, 0, 0, 0, 0)), (898, (.iadd, .inl .null, 0, 0, 0, 0)), (899, (.iaload, .inl .null, 0, 0, 0, 0)), (900, (.aload_n 0, .inl .null, 0, 0, 0, 0)), (901, (.iload_n 3, .inl .null, 0, 0, 0, 0)), (902, (.iconst 2, .inl .null, 0, 0, 0, 0)), (903, (.iadd, .inl .null, 0, 0, 0, 0)), (904, (.iaload, .inl .null, 0, 0, 0, 0)), (905, (.invokevirtual 98, .inl .null, 12, 0, 0, 0)), (908, (.aload_n 2, .inl .null, 0, 0, 0, 0))]
def zrL_16 : List (Nat × zI) := [(909, (.aload_n 0, .inl .null, 0, 0, 0, 0)), (910, (.iload_n 3, .inl .null, 0, 0, 0, 0)), (911, (.iconst 1, .inl .null, 0, 0, 0, 0)), (912, (.iadd, .inl .null, 0, 0, 0, 0)), (913, (.iaload, .inl .null, 0, 0, 0, 0)), (914, (.aload_n 0, .inl .null, 0, 0, 0, 0)), (915, (.iload_n 3, .inl .null, 0, 0, 0, 0)), (916, (.iconst 2, .inl .null, 0, 0, 0, 0)), (917, (.iadd, .inl .null, 0, 0, 0, 0)), (918, (.iaload, .inl .null, 0, 0, 0, 0)), (919, (.invokevirtual 101, .inl .null, 13, 0, 0, 0)), (922, (.if_icmp .eq 741, .inl .null, 0, 0, 0, 0)), (927, (.aload_n 1, .inl .null, 0, 0, 0, 0)), (928, (.invokevirtual 102, .inl .null, 158, 0, 0, 0)), (931, (.aload_n 2, .inl .null, 0, 0, 0, 0)), (932, (.invokevirtual 105, .inl .null, 159, 0, 0, 0)), (935, (.if_icmp .eq 728, .inl .null, 0, 0, 0, 0)), (940, (.aload_n 1, .inl .null, 0, 0, 0, 0)), (941, (.aload_n 0, .inl .null, 0, 0, 0, 0)), (942, (.iload_n 3, .inl .null, 0, 0, 0, 0)), (943, (.iconst 1, .inl .null, 0, 0, 0, 0)), (944, (.iadd, .inl .null, 0, 0, 0, 0)), (945, (.iaload, .inl .null, 0, 0, 0, 0)), (946, (.invokevirtual 106, .inl .null, 52, 0, 0, 0)), (949, (.aload_n 2, .inl .null, 0, 0, 0, 0)), (950, (.aload_n 0, .inl .null, 0, 0, 0, 0)), (951, (.iload_n 3, .inl .null, 0, 0, 0, 0)), (952, (.iconst 1, .inl .null, 0, 0, 0, 0)), (953, (.iadd, .inl .null, 0, 0, 0, 0)), (954, (.iaload, .inl .null, 0, 0, 0, 0)), (955, (.invokevirtual 109, .inl .null, 53, 0, 0, 0)), (958, (.if_icmp .eq 705, .inl .null, 0, 0, 0, 0))]
def zrL_17 : List (Nat × zI) := [(963, (.aload_n 1, .inl .null, 0, 0, 0, 0)), (964, (.aload_n 0, .inl .null, 0, 0, 0, 0)), (965, (.iload_n 3, .inl .null, 0, 0, 0, 0)), (966, (.iconst 1, .inl .null, 0, 0, 0, 0)), (967, (.iadd, .inl .null, 0, 0, 0, 0)), (968, (.iaload, .inl .null, 0, 0, 0, 0)), (969, (.invokevirtual 110, .inl .null, 118, 0, 0, 0)), (972, (.aload_n 2, .inl .null, 0, 0, 0, 0)), (973, (.aload_n 0, .inl .null, 0, 0, 0, 0)), (974, (.iload_n 3, .inl .null, 0, 0, 0, 0)), (975, (.iconst 1, .inl .null, 0, 0, 0, 0)), (976, (.iadd, .inl .null, 0, 0, 0, 0)), (977, (.iaload, .inl .null, 0, 0, 0, 0)), (978, (.invokevirtual 113, .inl .null, 119, 0, 0, 0)), (981, (.if_icmp .eq 682, .inl .null, 0, 0, 0, 0)), (986, (.aload_n 1, .inl .null, 0, 0, 0, 0)), (987, (.aload_n 0, .inl .null, 0, 0, 0, 0)), (988, (.iload_n 3, .inl .null, 0, 0, 0, 0)), (989, (.iconst 1, .inl .null, 0, 0, 0, 0)), (990, (.iadd, .inl .null, 0, 0, 0, 0)), (991, (.iaload, .inl .null, 0, 0, 0, 0)), (992, (.invokevirtual 114, .inl .null, 120, 0, 0, 0)), (995, (.aload_n 2, .inl .null, 0, 0, 0, 0)), (996, (.aload_n 0, .inl .null, 0, 0, 0, 0)), (997, (.iload_n 3, .inl .null, 0, 0, 0, 0)), (998, (.iconst 1, .inl .null, 0, 0, 0, 0)), (999, (.iadd, .inl .null, 0, 0, 0, 0)), (1000, (.iaload, .inl .null, 0, 0, 0, 0)), (1001, (.invokevirtual 117, .inl .null, 121, 0, 0, 0)), (1004, (.if_icmp .eq 659, .inl .null, 0, 0, 0, 0)), (1009, (.aload_n 1, .inl .null, 0, 0, 0, 0)), (1010, (.aload_n 0, .inl .null, 0, 0, 0, 0))]
def zrL_18 : List (Nat × zI) := [(1011, (.iload_n 3, .inl .null, 0, 0, 0, 0)), (1012, (.iconst 1, .inl .null, 0, 0, 0, 0)), (1013, (.iadd, .inl .null, 0, 0, 0, 0)), (1014, (.iaload, .inl .null, 0, 0, 0, 0)), (1015, (.invokevirtual 118, .inl .null, 122, 0, 0, 0)), (1018, (.aload_n 2, .inl .null, 0, 0, 0, 0)), (1019, (.aload_n 0, .inl .null, 0, 0, 0, 0)), (1020, (.iload_n 3, .inl .null, 0, 0, 0, 0)), (1021, (.iconst 1, .inl .null, 0, 0, 0, 0)), (1022, (.iadd, .inl .null, 0, 0, 0, 0)), (1023, (.iaload, .inl .null, 0, 0, 0, 0)), (1024, (.invokevirtual 121, .inl .null, 123, 0, 0, 0)), (1027, (.if_icmp .eq 636, .inl .null, 0, 0, 0, 0)), (1032, (.aload_n 1, .inl .null, 0, 0, 0, 0)), (1033, (.aload_n 0, .inl .null, 0, 0, 0, 0)), (1034, (.iload_n 3, .inl .null, 0, 0, 0, 0)), (1035, (.iconst 1, .inl .null, 0, 0, 0, 0)), (1036, (.iadd, .inl .null, 0, 0, 0, 0)), (1037, (.iaload, .inl .null, 0, 0, 0, 0)), (1038, (.invokevirtual 122, .inl .null, 124, 0, 0, 0)), (1041, (.aload_n 2, .inl .null, 0, 0, 0, 0)), (1042, (.aload_n 0, .inl .null, 0, 0, 0, 0)), (1043, (.iload_n 3, .inl .null, 0, 0, 0, 0)), (1044, (.iconst 1, .inl .null, 0, 0, 0, 0)), (1045, (.iadd, .inl .null, 0, 0, 0, 0)), (1046, (.iaload, .inl .null, 0, 0, 0, 0)), (1047, (.invokevirtual 125, .inl .null, 125, 0, 0, 0)), (1050, (.if_icmp .eq 613, .inl .null, 0, 0, 0, 0)), (1055, (.aload_n 1, .inl .null, 0, 0, 0, 0)), (1056, (.aload_n 0, .inl .null, 0, 0, 0, 0)), (1057, (.iload_n 3, .inl .null, 0, 0, 0, 0)), (1058, (.iconst 1, .inl .null, 0, 0, 0, 0))]
def zrL_19 : List (Nat × zI) := [(1059, (.iadd, .inl .null, 0, 0, 0, 0)), (1060, (.iaload, .inl .null, 0, 0, 0, 0)), (1061, (.aload_n 0, .inl .null, 0, 0, 0, 0)), (1062, (.iload_n 3, .inl .null, 0, 0, 0, 0)), (1063, (.iconst 2, .inl .null, 0, 0, 0, 0)), (1064, (.iadd, .inl .null, 0, 0, 0, 0)), (1065, (.iaload, .inl .null, 0, 0, 0, 0)), (1066, (.invokevirtual 126, .inl .null, 126, 0, 0, 0)), (1069, (.aload_n 2, .inl .null, 0, 0, 0, 0)), (1070, (.aload_n 0, .inl .null, 0, 0, 0, 0)), (1071, (.iload_n 3, .inl .null, 0, 0, 0, 0)), (1072, (.iconst 1, .inl .null, 0, 0, 0, 0)), (1073, (.iadd, .inl .null, 0, 0, 0, 0)), (1074, (.iaload, .inl .null, 0, 0, 0, 0)), (1075, (.aload_n 0, .inl .null, 0, 0, 0, 0)), (1076, (.iload_n 3, .inl .null, 0, 0, 0, 0)), (1077, (.iconst 2, .inl .null, 0, 0, 0, 0)), (1078, (.iadd, .inl .null, 0, 0, 0, 0)), (1079, (.iaload, .inl .null, 0, 0, 0, 0)), (1080, (.invokevirtual 129, .inl .null, 127, 0, 0, 0)), (1083, (.if_icmp .eq 580, .inl .null, 0, 0, 0, 0)), (1088, (.aload_n 1, .inl .null, 0, 0, 0, 0)), (1089, (.aload_n 0, .inl .null, 0, 0, 0, 0)), (1090, (.iload_n 3, .inl .null, 0, 0, 0, 0)), (1091, (.iconst 1, .inl .null, 0, 0, 0, 0)), (1092, (.iadd, .inl .null, 0, 0, 0, 0)), (1093, (.iaload, .inl .null, 0, 0, 0, 0)), (1094, (.invokevirtual 130, .inl .null, 128, 0, 0, 0)), (1097, (.aload_n 2, .inl .null, 0, 0, 0, 0)), (1098, (.aload_n 0, .inl .null, 0, 0, 0, 0)), (1099, (.iload_n 3, .inl .null, 0, 0, 0, 0)), (1100, (.iconst 1, .inl .null, 0, 0, 0, 0))]
def zrL_20 : List (Nat × zI) := [(1101, (.iadd, .inl .null, 0, 0, 0, 0)), (1102, (.iaload, .inl .null, 0, 0, 0, 0)), (1103, (.invokevirtual 133, .inl .null, 129, 0, 0, 0)), (1106, (.if_icmp .eq 557, .inl .null, 0, 0, 0, 0)), (1111, (.aload_n 1, .inl .null, 0, 0, 0, 0)), (1112, (.aload_n 0, .inl .null, 0, 0, 0, 0)), (1113, (.iload_n 3, .inl .null, 0, 0, 0, 0)), (1114, (.iconst 1, .inl .null, 0, 0, 0, 0)), (1115, (.iadd, .inl .null, 0, 0, 0, 0)), (1116, (.iaload, .inl .null, 0, 0, 0, 0)), (1117, (.invokevirtual 134, .inl .null, 100, 0, 0, 0)), (1120, (.aload_n 2, .inl .null, 0, 0, 0, 0)), (1121, (.aload_n 0, .inl .null, 0, 0, 0, 0)), (1122, (.iload_n 3, .inl .null, 0, 0, 0, 0)), (1123, (.iconst 1, .inl .null, 0, 0, 0, 0)), (1124, (.iadd, .inl .null, 0, 0, 0, 0)), (1125, (.iaload, .inl .null, 0, 0, 0, 0)), (1126, (.invokevirtual 137, .inl .null, 101, 0, 0, 0)), (1129, (.if_icmp .eq 534, .inl .null, 0, 0, 0, 0)), (1134, (.aload_n 1, .inl .null, 0, 0, 0, 0)), (1135, (.invokevirtual 138, .inl .null, 160, 0, 0, 0)), (1138, (.aload_n 2, .inl .null, 0, 0, 0, 0)), (1139, (.invokevirtual 141, .inl .null, 161, 0, 0, 0)), (1142, (.if_icmp .eq 521, .inl .null, 0, 0, 0, 0)), (1147, (.aload_n 1, .inl .null, 0, 0, 0, 0)), (1148, (.invokevirtual 142, .inl .null, 162, 0, 0, 0)), (1151, (.aload_n 2, .inl .null, 0, 0, 0, 0)), (1152, (.invokevirtual 145, .inl .null, 163, 0, 0, 0)), (1155, (.if_icmp .eq 508, .inl .null, 0, 0, 0, 0)), (1160, (.aload_n 1, .inl .null, 0, 0, 0, 0)), (1161, (.aload_n 0, .inl .null, 0, 0, 0, 0)), (1162, (.iload_n 3, .inl .null, 0, 0, 0, 0))]
def zrL_21 : List (Nat × zI) := [(1163, (.iconst 1, .inl .null, 0, 0, 0, 0)), (1164, (.iadd, .inl .null, 0, 0, 0, 0)), (1165, (.iaload, .inl .null, 0, 0, 0, 0)), (1166, (.aload_n 0, .inl .null, 0, 0, 0, 0)), (1167, (.iload_n 3, .inl .null, 0, 0, 0, 0)), (1168, (.iconst 2, .inl .null, 0, 0, 0, 0)), (1169, (.iadd, .inl .null, 0, 0, 0, 0)), (1170, (.iaload, .inl .null, 0, 0, 0, 0)), (1171, (.invokevirtual 146, .inl .null, 43, 0, 0, 0)), (1174, (.aload_n 2, .inl .null, 0, 0, 0, 0)), (1175, (.aload_n 0, .inl .null, 0, 0, 0, 0)), (1176, (.iload_n 3, .inl .null, 0, 0, 0, 0)), (1177, (.iconst 1, .inl .null, 0, 0, 0, 0)), (1178, (.iadd, .inl .null, 0, 0, 0, 0)), (1179, (.iaload, .inl .null, 0, 0, 0, 0)), (1180, (.aload_n 0, .inl .null, 0, 0, 0, 0)), (1181, (.iload_n 3, .inl .null, 0, 0, 0, 0)), (1182, (.iconst 2, .inl .null, 0, 0, 0, 0)), (1183, (.iadd, .inl .null, 0, 0, 0, 0)), (1184, (.iaload, .inl .null, 0, 0, 0, 0)), (1185, (.invokevirtual 149, .inl .null, 44, 0, 0, 0)), (1188, (.if_icmp .eq 475, .inl .null, 0, 0, 0, 0)), (1193, (.aload_n 1, .inl .null, 0, 0, 0, 0)), (1194, (.aload_n 0, .inl .null, 0, 0, 0, 0)), (1195, (.iload_n 3, .inl .null, 0, 0, 0, 0)), (1196, (.iconst 1, .inl .null, 0, 0, 0, 0)), (1197, (.iadd, .inl .null, 0, 0, 0, 0)), (1198, (.iaload, .inl .null, 0, 0, 0, 0)), (1199, (.aload_n 0, .inl .null, 0, 0, 0, 0)), (1200, (.iload_n 3, .inl .null, 0, 0, 0, 0)), (1201, (.iconst 2, .inl .null, 0, 0, 0, 0)), (1202, (.iadd, .inl .null, 0, 0, 0, 0))]
def zrL_22 : List (Nat × zI) := [(1203, (.iaload, .inl .null, 0, 0, 0, 0)), (1204, (.invokevirtual 150, .inl .null, 83, 0, 0, 0)), (1207, (.aload_n 2, .inl .null, 0, 0, 0, 0)), (1208, (.aload_n 0, .inl .null, 0, 0, 0, 0)), (1209, (.iload_n 3, .inl .null, 0, 0, 0, 0)), (1210, (.iconst 1, .inl .null, 0, 0, 0, 0)), (1211, (.iadd, .inl .null, 0, 0, 0, 0)), (1212, (.iaload, .inl .null, 0, 0, 0, 0)), (1213, (.aload_n 0, .inl .null, 0, 0, 0, 0)), (1214, (.iload_n 3, .inl .null, 0, 0, 0, 0)), (1215, (.iconst 2, .inl .null, 0, 0, 0, 0)), (1216, (.iadd, .inl .null, 0, 0, 0, 0)), (1217, (.iaload, .inl .null, 0, 0, 0, 0)), (1218, (.invokevirtual 153, .inl .null, 84, 0, 0, 0)), (1221, (.if_icmp .eq 442, .inl .null, 0, 0, 0, 0)), (1226, (.aload_n 1, .inl .null, 0, 0, 0, 0)), (1227, (.aload_n 0, .inl .null, 0, 0, 0, 0)), (1228, (.iload_n 3, .inl .null, 0, 0, 0, 0)), (1229, (.iconst 1, .inl .null, 0, 0, 0, 0)), (1230, (.iadd, .inl .null, 0, 0, 0, 0)), (1231, (.iaload, .inl .null, 0, 0, 0, 0)), (1232, (.aload_n 0, .inl .null, 0, 0, 0, 0)), (1233, (.iload_n 3, .inl .null, 0, 0, 0, 0)), (1234, (.iconst 2, .inl .null, 0, 0, 0, 0)), (1235, (.iadd, .inl .null, 0, 0, 0, 0)), (1236, (.iaload, .inl .null, 0, 0, 0, 0)), (1237, (.invokevirtual 154, .inl .null, 81, 0, 0, 0)), (1240, (.aload_n 2, .inl .null, 0, 0, 0, 0)), (1241, (.aload_n 0, .inl .null, 0, 0, 0, 0)), (1242, (.iload_n 3, .inl .null, 0, 0, 0, 0)), (1243, (.iconst 1, .inl .null, 0, 0, 0, 0)), (1244, (.iadd, .inl .null, 0, 0, 0, 0))]
def zrL_23 : List (Nat × zI) := [(1245, (.iaload, .inl .null, 0, 0, 0, 0)), (1246, (.aload_n 0, .inl .null, 0, 0, 0, 0)), (1247, (.iload_n 3, .inl .null, 0, 0, 0, 0)), (1248, (.iconst 2, .inl .null, 0, 0, 0, 0)), (1249, (.iadd, .inl .null, 0, 0, 0, 0)), (1250, (.iaload, .inl .null, 0, 0, 0, 0)), (1251, (.invokevirtual 157, .inl .null, 82, 0, 0, 0)), (1254, (.if_icmp .eq 409, .inl .null, 0, 0, 0, 0)), (1259, (.aload_n 1, .inl .null, 0, 0, 0, 0)), (1260, (.aload_n 0, .inl .null, 0, 0, 0, 0)), (1261, (.iload_n 3, .inl .null, 0, 0, 0, 0)), (1262, (.iconst 1, .inl .null, 0, 0, 0, 0)), (1263, (.iadd, .inl .null, 0, 0, 0, 0)), (1264, (.iaload, .inl .null, 0, 0, 0, 0)), (1265, (.invokevirtual 158, .inl .null, 102, 0, 0, 0)), (1268, (.aload_n 2, .inl .null, 0, 0, 0, 0)), (1269, (.aload_n 0, .inl .null, 0, 0, 0, 0)), (1270, (.iload_n 3, .inl .null, 0, 0, 0, 0)), (1271, (.iconst 1, .inl .null, 0, 0, 0, 0)), (1272, (.iadd, .inl .null, 0, 0, 0, 0)), (1273, (.iaload, .inl .null, 0, 0, 0, 0)), (1274, (.invokevirtual 161, .inl .null, 103, 0, 0, 0)), (1277, (.if_icmp .eq 386, .inl .null, 0, 0, 0, 0)), (1282, (.aload_n 1, .inl .null, 0, 0, 0, 0)), (1283, (.aload_n 0, .inl .null, 0, 0, 0, 0)), (1284, (.iload_n 3, .inl .null, 0, 0, 0, 0)), (1285, (.iconst 1, .inl .null, 0, 0, 0, 0)), (1286, (.iadd, .inl .null, 0, 0, 0, 0)), (1287, (.iaload, .inl .null, 0, 0, 0, 0)), (1288, (.aload_n 0, .inl .null, 0, 0, 0, 0)), (1289, (.iload_n 3, .inl .null, 0, 0, 0, 0)), (1290, (.iconst 2, .inl .null, 0, 0, 0, 0))]
def zrL_24 : List (Nat × zI) := [(1291, (.iadd, .inl .null, 0, 0, 0, 0)), (1292, (.iaload, .inl .null, 0, 0, 0, 0)), (1293, (.invokevirtual 162, .inl .null, 38, 0, 0, 0)), (1296, (.aload_n 2, .inl .null, 0, 0, 0, 0)), (1297, (.aload_n 0, .inl .null, 0, 0, 0, 0)), (1298, (.iload_n 3, .inl .null, 0, 0, 0, 0)), (1299, (.iconst 1, .inl .null, 0, 0, 0, 0)), (1300, (.iadd, .inl .null, 0, 0, 0, 0)), (1301, (.iaload, .inl .null, 0, 0, 0, 0)), (1302, (.aload_n 0, .inl .null, 0, 0, 0, 0)), (1303, (.iload_n 3, .inl .null, 0, 0, 0, 0)), (1304, (.iconst 2, .inl .null, 0, 0, 0, 0)), (1305, (.iadd, .inl .null, 0, 0, 0, 0)), (1306, (.iaload, .inl .null, 0, 0, 0, 0)), (1307, (.invokevirtual 165, .inl .null, 39, 0, 0, 0)), (1310, (.if_icmp .eq 353, .inl .null, 0, 0, 0, 0)), (1315, (.aload_n 1, .inl .null, 0, 0, 0, 0)), (1316, (.aload_n 0, .inl .null, 0, 0, 0, 0)), (1317, (.iload_n 3, .inl .null, 0, 0, 0, 0)), (1318, (.iconst 1, .inl .null, 0, 0, 0, 0)), (1319, (.iadd, .inl .null, 0, 0, 0, 0)), (1320, (.iaload, .inl .null, 0, 0, 0, 0)), (1321, (.aload_n 0, .inl .null, 0, 0, 0, 0)), (1322, (.iload_n 3, .inl .null, 0, 0, 0, 0)), (1323, (.iconst 2, .inl .null, 0, 0, 0, 0)), (1324, (.iadd, .inl .null, 0, 0, 0, 0)), (1325, (.iaload, .inl .null, 0, 0, 0, 0)), (1326, (.invokevirtual 166, .inl .null, 40, 0, 0, 0)), (1329, (.aload_n 2, .inl .null, 0, 0, 0, 0)), (1330, (.aload_n 0, .inl .null, 0, 0, 0, 0)), (1331, (.iload_n 3, .inl .null, 0, 0, 0, 0)), (1332, (.iconst 1, .inl .null, 0, 0, 0, 0))]
def zrL_25 : List (Nat × zI) := [(1333, (.iadd, .inl .null, 0, 0, 0, 0)), (1334, (.iaload, .inl .null, 0, 0, 0, 0)), (1335, (.aload_n 0, .inl .null, 0, 0, 0, 0)), (1336, (.iload_n 3, .inl .null, 0, 0, 0, 0)), (1337, (.iconst 2, .inl .null, 0, 0, 0, 0)), (1338, (.iadd, .inl .null, 0, 0, 0, 0)), (1339, (.iaload, .inl .null, 0, 0, 0, 0)), (1340, (.invokevirtual 169, .inl .null, 41, 0, 0, 0)), (1343, (.if_icmp .eq 320, .inl .null, 0, 0, 0, 0)), (1348, (.aload_n 1, .inl .null, 0, 0, 0, 0)), (1349, (.aload_n 0, .inl .null, 0, 0, 0, 0)), (1350, (.iload_n 3, .inl .null, 0, 0, 0, 0)), (1351, (.iconst 1, .inl .null, 0, 0, 0, 0)), (1352, (.iadd, .inl .null, 0, 0, 0, 0)), (1353, (.iaload, .inl .null, 0, 0, 0, 0)), (1354, (.aload_n 0, .inl .null, 0, 0, 0, 0)), (1355, (.iload_n 3, .inl .null, 0, 0, 0, 0)), (1356, (.iconst 2, .inl .null, 0, 0, 0, 0)), (1357, (.iadd, .inl .null, 0, 0, 0, 0)), (1358, (.iaload, .inl .null, 0, 0, 0, 0)), (1359, (.aload_n 0, .inl .null, 0, 0, 0, 0)), (1360, (.iload_n 3, .inl .null, 0, 0, 0, 0)), (1361, (.iconst 3, .inl .null, 0, 0, 0, 0)), (1362, (.iadd, .inl .null, 0, 0, 0, 0)), (1363, (.iaload, .inl .null, 0, 0, 0, 0)), (1364, (.invokevirtual 170, .inl .null, 61, 0, 0, 0)), (1367, (.aload_n 2, .inl .null, 0, 0, 0, 0)), (1368, (.aload_n 0, .inl .null, 0, 0, 0, 0)), (1369, (.iload_n 3, .inl .null, 0, 0, 0, 0)), (1370, (.iconst 1, .inl .null, 0, 0, 0, 0)), (1371, (.iadd, .inl .null, 0, 0, 0, 0)), (1372, (.iaload, .inl .null, 0, 0, 0, 0))]
def zrL_26 : List (Nat × zI) := [(1373, (.aload_n 0, .inl .null, 0, 0, 0, 0)), (1374, (.iload_n 3, .inl .null, 0, 0, 0, 0)), (1375, (.iconst 2, .inl .null, 0, 0, 0, 0)), (1376, (.iadd, .inl .null, 0, 0, 0, 0)), (1377, (.iaload, .inl .null, 0, 0, 0, 0)), (1378, (.aload_n 0, .inl .null, 0, 0, 0, 0)), (1379, (.iload_n 3, .inl .null, 0, 0, 0, 0)), (1380, (.iconst 3, .inl .null, 0, 0, 0, 0)), (1381, (.iadd, .inl .null, 0, 0, 0, 0)), (1382, (.iaload, .inl .null, 0, 0, 0, 0)), (1383, (.invokevirtual 173, .inl .null, 62, 0, 0, 0)), (1386, (.if_icmp .eq 277, .inl .null, 0, 0, 0, 0)), (1391, (.aload_n 1, .inl .null, 0, 0, 0, 0)), (1392, (.aload_n 0, .inl .null, 0, 0, 0, 0)), (1393, (.iload_n 3, .inl .null, 0, 0, 0, 0)), (1394, (.iconst 1, .inl .null, 0, 0, 0, 0)), (1395, (.iadd, .inl .null, 0, 0, 0, 0)), (1396, (.iaload, .inl .null, 0, 0, 0, 0)), (1397, (.invokevirtual 174, .inl .null, 131, 0, 0, 0)), (1400, (.aload_n 2, .inl .null, 0, 0, 0, 0)), (1401, (.aload_n 0, .inl .null, 0, 0, 0, 0)), (1402, (.iload_n 3, .inl .null, 0, 0, 0, 0)), (1403, (.iconst 1, .inl .null, 0, 0, 0, 0)), (1404, (.iadd, .inl .null, 0, 0, 0, 0)), (1405, (.iaload, .inl .null, 0, 0, 0, 0)), (1406, (.invokevirtual 177, .inl .null, 132, 0, 0, 0)), (1409, (.if_icmp .eq 254, .inl .null, 0, 0, 0, 0)), (1414, (.aload_n 1, .inl .null, 0, 0, 0, 0)), (1415, (.aload_n 0, .inl .null, 0, 0, 0, 0)), (1416, (.iload_n 3, .inl .null, 0, 0, 0, 0)), (1417, (.iconst 1, .inl .null, 0, 0, 0, 0)), (1418, (.iadd, .inl .null, 0, 0, 0, 0))]
def zrL_27 : List (Nat × zI) := [(1419, (.iaload, .inl .null, 0, 0, 0, 0)), (1420, (.invokevirtual 178, .inl .null, 133, 0, 0, 0)), (1423, (.aload_n 2, .inl .null, 0, 0, 0, 0)), (1424, (.aload_n 0, .inl .null, 0, 0, 0, 0)), (1425, (.iload_n 3, .inl .null, 0, 0, 0, 0)), (1426, (.iconst 1, .inl .null, 0, 0, 0, 0)), (1427, (.iadd, .inl .null, 0, 0, 0, 0)), (1428, (.iaload, .inl .null, 0, 0, 0, 0)), (1429, (.invokevirtual 181, .inl .null, 134, 0, 0, 0)), (1432, (.if_icmp .eq 231, .inl .null, 0, 0, 0, 0)), (1437, (.aload_n 1, .inl .null, 0, 0, 0, 0)), (1438, (.aload_n 0, .inl .null, 0, 0, 0, 0)), (1439, (.iload_n 3, .inl .null, 0, 0, 0, 0)), (1440, (.iconst 1, .inl .null, 0, 0, 0, 0)), (1441, (.iadd, .inl .null, 0, 0, 0, 0)), (1442, (.iaload, .inl .null, 0, 0, 0, 0)), (1443, (.invokevirtual 182, .inl .null, 135, 0, 0, 0)), (1446, (.aload_n 2, .inl .null, 0, 0, 0, 0)), (1447, (.aload_n 0, .inl .null, 0, 0, 0, 0)), (1448, (.iload_n 3, .inl .null, 0, 0, 0, 0)), (1449, (.iconst 1, .inl .null, 0, 0, 0, 0)), (1450, (.iadd, .inl .null, 0, 0, 0, 0)), (1451, (.iaload, .inl .null, 0, 0, 0, 0)), (1452, (.invokevirtual 185, .inl .null, 136, 0, 0, 0)), (1455, (.if_icmp .eq 208, .inl .null, 0, 0, 0, 0)), (1460, (.aload_n 1, .inl .null, 0, 0, 0, 0)), (1461, (.invokevirtual 186, .inl .null, 164, 0, 0, 0)), (1464, (.aload_n 2, .inl .null, 0, 0, 0, 0)), (1465, (.invokevirtual 189, .inl .null, 165, 0, 0, 0)), (1468, (.if_icmp .eq 195, .inl .null, 0, 0, 0, 0)), (1473, (.aload_n 1, .inl .null, 0, 0, 0, 0)), (1474, (.invokevirtual 190, .inl .null, 166, 0, 0, 0))]
def zrL_28 : List (Nat × zI) := [(1477, (.aload_n 2, .inl .null, 0, 0, 0, 0)), (1478, (.invokevirtual 193, .inl .null, 167, 0, 0, 0)), (1481, (.if_icmp .eq 182, .inl .null, 0, 0, 0, 0)), (1486, (.aload_n 1, .inl .null, 0, 0, 0, 0)), (1487, (.invokevirtual 194, .inl .null, 168, 0, 0, 0)), (1490, (.aload_n 2, .inl .null, 0, 0, 0, 0)), (1491, (.invokevirtual 197, .inl .null, 169, 0, 0, 0)), (1494, (.if_icmp .eq 169, .inl .null, 0, 0, 0, 0)), (1499, (.aload_n 1, .inl .null, 0, 0, 0, 0)), (1500, (.aload_n 0, .inl .null, 0, 0, 0, 0)), (1501, (.iload_n 3, .inl .null, 0, 0, 0, 0)), (1502, (.iconst 1, .inl .null, 0, 0, 0, 0)), (1503, (.iadd, .inl .null, 0, 0, 0, 0)), (1504, (.iaload, .inl .null, 0, 0, 0, 0)), (1505, (.invokevirtual 198, .inl .null, 137, 0, 0, 0)), (1508, (.aload_n 2, .inl .null, 0, 0, 0, 0)), (1509, (.aload_n 0, .inl .null, 0, 0, 0, 0)), (1510, (.iload_n 3, .inl .null, 0, 0, 0, 0)), (1511, (.iconst 1, .inl .null, 0, 0, 0, 0)), (1512, (.iadd, .inl .null, 0, 0, 0, 0)), (1513, (.iaload, .inl .null, 0, 0, 0, 0)), (1514, (.invokevirtual 201, .inl .null, 138, 0, 0, 0)), (1517, (.if_icmp .eq 146, .inl .null, 0, 0, 0, 0)), (1522, (.aload_n 1, .inl .null, 0, 0, 0, 0)), (1523, (.aload_n 0, .inl .null, 0, 0, 0, 0)), (1524, (.iload_n 3, .inl .null, 0, 0, 0, 0)), (1525, (.iconst 1, .inl .null, 0, 0, 0, 0)), (1526, (.iadd, .inl .null, 0, 0, 0, 0)), (1527, (.iaload, .inl .null, 0, 0, 0, 0)), (1528, (.invokevirtual 202, .inl .null, 139, 0, 0, 0)), (1531, (.aload_n 2, .inl .null, 0, 0, 0, 0)), (1532, (.aload_n 0, .inl .null, 0, 0, 0, 0))]
def zrL_29 : List (Nat × zI) := [(1533, (.iload_n 3, .inl .null, 0, 0, 0, 0)), (1534, (.iconst 1, .inl .null, 0, 0, 0, 0)), (1535, (.iadd, .inl .null, 0, 0, 0, 0)), (1536, (.iaload, .inl .null, 0, 0, 0, 0)), (1537, (.invokevirtual 205, .inl .null, 140, 0, 0, 0)), (1540, (.if_icmp .eq 123, .inl .null, 0, 0, 0, 0)), (1545, (.aload_n 1, .inl .null, 0, 0, 0, 0)), (1546, (.aload_n 0, .inl .null, 0, 0, 0, 0)), (1547, (.iload_n 3, .inl .null, 0, 0, 0, 0)), (1548, (.iconst 1, .inl .null, 0, 0, 0, 0)), (1549, (.iadd, .inl .null, 0, 0, 0, 0)), (1550, (.iaload, .inl .null, 0, 0, 0, 0)), (1551, (.invokevirtual 206, .inl .null, 141, 0, 0, 0)), (1554, (.aload_n 2, .inl .null, 0, 0, 0, 0)), (1555, (.aload_n 0, .inl .null, 0, 0, 0, 0)), (1556, (.iload_n 3, .inl .null, 0, 0, 0, 0)), (1557, (.iconst 1, .inl .null, 0, 0, 0, 0)), (1558, (.iadd, .inl .null, 0, 0, 0, 0)), (1559, (.iaload, .inl .null, 0, 0, 0, 0)), (1560, (.invokevirtual 209, .inl .null, 142, 0, 0, 0)), (1563, (.if_icmp .eq 100, .inl .null, 0, 0, 0, 0)), (1568, (.aload_n 1, .inl .null, 0, 0, 0, 0)), (1569, (.aload_n 0, .inl .null, 0, 0, 0, 0)), (1570, (.iload_n 3, .inl .null, 0, 0, 0, 0)), (1571, (.iconst 1, .inl .null, 0, 0, 0, 0)), (1572, (.iadd, .inl .null, 0, 0, 0, 0)), (1573, (.iaload, .inl .null, 0, 0, 0, 0)), (1574, (.invokevirtual 210, .inl .null, 104, 0, 0, 0)), (1577, (.aload_n 2, .inl .null, 0, 0, 0, 0)), (1578, (.aload_n 0, .inl .null, 0, 0, 0, 0)), (1579, (.iload_n 3, .inl .null, 0, 0, 0, 0)), (1580, (.iconst 1, .inl .null, 0, 0, 0, 0))]
def zrL_30 : List (Nat × zI) := [(1581, (.iadd, .inl .null, 0, 0, 0, 0)), (1582, (.iaload, .inl .null, 0, 0, 0, 0)), (1583, (.invokevirtual 213, .inl .null, 105, 0, 0, 0)), (1586, (.if_icmp .eq 77, .inl .null, 0, 0, 0, 0)), (1591, (.aload_n 1, .inl .null, 0, 0, 0, 0)), (1592, (.aload_n 0, .inl .null, 0, 0, 0, 0)), (1593, (.iload_n 3, .inl .null, 0, 0, 0, 0)), (1594, (.iconst 1, .inl .null, 0, 0, 0, 0)), (1595, (.iadd, .inl .null, 0, 0, 0, 0)), (1596, (.iaload, .inl .null, 0, 0, 0, 0)), (1597, (.invokevirtual 214, .inl .null, 171, 0, 0, 0)), (1600, (.aload_n 2, .inl .null, 0, 0, 0, 0)), (1601, (.aload_n 0, .inl .null, 0, 0, 0, 0)), (1602, (.iload_n 3, .inl .null, 0, 0, 0, 0)), (1603, (.iconst 1, .inl .null, 0, 0, 0, 0)), (1604, (.iadd, .inl .null, 0, 0, 0, 0)), (1605, (.iaload, .inl .null, 0, 0, 0, 0)), (1606, (.invokevirtual 217, .inl .null, 172, 0, 0, 0)), (1609, (.if_icmp .eq 54, .inl .null, 0, 0, 0, 0)), (1614, (.aload_n 1, .inl .null, 0, 0, 0, 0)), (1615, (.invokevirtual 218, .inl .null, 173, 0, 0, 0)), (1618, (.aload_n 2, .inl .null, 0, 0, 0, 0)), (1619, (.invokevirtual 221, .inl .null, 174, 0, 0, 0)), (1622, (.if_icmp .eq 41, .inl .null, 0, 0, 0, 0)), (1627, (.aload_n 1, .inl .null, 0, 0, 0, 0)), (1628, (.invokevirtual 222, .inl .null, 175, 0, 0, 0)), (1631, (.aload_n 2, .inl .null, 0, 0, 0, 0)), (1632, (.invokevirtual 225, .inl .null, 176, 0, 0, 0)), (1635, (.if_icmp .eq 28, .inl .null, 0, 0, 0, 0)), (1640, (.aload_n 1, .inl .null, 0, 0, 0, 0)), (1641, (.aload_n 0, .inl .null, 0, 0, 0, 0)), (1642, (.iload_n 3, .inl .null, 0, 0, 0, 0))]
def zrL_31 : List (Nat × zI) := [(1643, (.iconst 1, .inl .null, 0, 0, 0, 0)), (1644, (.iadd, .inl .null, 0, 0, 0, 0)), (1645, (.iaload, .inl .null, 0, 0, 0, 0)), (1646, (.invokevirtual 226, .inl .null, 59, 0, 0, 0)), (1649, (.aload_n 2, .inl .null, 0, 0, 0, 0)), (1650, (.aload_n 0, .inl .null, 0, 0, 0, 0)), (1651, (.iload_n 3, .inl .null, 0, 0, 0, 0)), (1652, (.iconst 1, .inl .null, 0, 0, 0, 0)), (1653, (.iadd, .inl .null, 0, 0, 0, 0)), (1654, (.iaload, .inl .null, 0, 0, 0, 0)), (1655, (.invokevirtual 229, .inl .null, 60, 0, 0, 0)), (1658, (.if_icmp .eq 5, .inl .null, 0, 0, 0, 0)), (1663, (.iinc 3 6, .inl .null, 0, 0, 0, 0)), (1666, (.goto (-1648), .inl .null, 0, 0, 0, 0)), (1669, (.iconst 1, .inl .null, 0, 0, 0, 0)), (1670, (.ireturn, .inl .null, 0, 0, 0, 0))]
def zc_X4_isWithin : zCd := [(5, [(0, (.iload_n 0, .inl .null, 0, 0, 0, 0)), (1, (.iload_n 1, .inl .null, 0, 0, 0, 0)), (2, (.if_icmp .lt 12, .inl .null, 0, 0, 0, 0))]),
  (10, [(5, (.iload_n 0, .inl .null, 0, 0, 0, 0)), (6, (.iload_n 2, .inl .null, 0, 0, 0, 0)), (7, (.if_icmp .gt 7, .inl .null, 0, 0, 0, 0))]),
  (15, [(10, (.iconst 1, .inl .null, 0, 0, 0, 0)), (11, (.goto 4, .inl .null, 0, 0, 0, 0)), (14, (.iconst 0, .inl .null, 0, 0, 0, 0))]),
  (100000, [(15, (.ireturn, .inl .null, 0, 0, 0, 0))])]
def zc_X5_in : zCd := [(3, [(0, (.lload_n 0, .inl .null, 0, 0, 0, 0)), (1, (.lload_n 2, .inl .null, 0, 0, 0, 0)), (2, (.lcmp, .inl .null, 0, 0, 0, 0))]),
  (9, [(3, (.ifCond .lt 14, .inl .null, 0, 0, 0, 0)), (6, (.lload_n 0, .inl .null, 0, 0, 0, 0)), (7, (.lload 4, .inl .null, 0, 0, 0, 0))]),
  (14, [(9, (.lcmp, .inl .null, 0, 0, 0, 0)), (10, (.ifCond .gt 7, .inl .null, 0, 0, 0, 0)), (13, (.iconst 1, .inl .null, 0, 0, 0, 0))]),
  (100000, [(14, (.goto 4, .inl .null, 0, 0, 0, 0)), (17, (.iconst 0, .inl .null, 0, 0, 0, 0)), (18, (.ireturn, .inl .null, 0, 0, 0, 0))])]
def zc_X4_refuse : zCd := [(5, [(0, (.bipush (-2), .inl .null, 0, 0, 0, 0)), (2, (.iload_n 1, .inl .null, 0, 0, 0, 0)), (3, (.isub, .inl .null, 0, 0, 0, 0)), (4, (.istore_n 2, .inl .null, 0, 0, 0, 0))]),
  (11, [(5, (.iload_n 2, .inl .null, 0, 0, 0, 0)), (6, (.iconst 0, .inl .null, 0, 0, 0, 0)), (7, (.iconst 4, .inl .null, 0, 0, 0, 0)), (8, (.invokestatic 55, .inl .null, 0, 0, 0, 0))]),
  (19, [(11, (.ifCond .eq 13, .inl .null, 0, 0, 0, 0)), (14, (.aload_n 0, .inl .null, 0, 0, 0, 0)), (15, (.getfield 42, .inl .null, 4, 6, 0, 0)), (18, (.iload_n 2, .inl .null, 0, 0, 0, 0))]),
  (23, [(19, (.dup2, .inl .null, 0, 0, 0, 0)), (20, (.iaload, .inl .null, 0, 0, 0, 0)), (21, (.iconst 1, .inl .null, 0, 0, 0, 0)), (22, (.iadd, .inl .null, 0, 0, 0, 0))]),
  (100000, [(23, (.iastore, .inl .null, 0, 0, 0, 0)), (24, (.iload_n 1, .inl .null, 0, 0, 0, 0)), (25, (.ireturn, .inl .null, 0, 0, 0, 0))])]
def zc_X5_refuse : zCd := [(5, [(0, (.aload_n 0, .inl .null, 0, 0, 0, 0)), (1, (.getfield 34, .inl .null, 5, 8, 0, 0)), (4, (.iload_n 1, .inl .null, 0, 0, 0, 0))]),
  (8, [(5, (.ineg, .inl .null, 0, 0, 0, 0)), (6, (.dup2, .inl .null, 0, 0, 0, 0)), (7, (.iaload, .inl .null, 0, 0, 0, 0))]),
  (11, [(8, (.iconst 1, .inl .null, 0, 0, 0, 0)), (9, (.iadd, .inl .null, 0, 0, 0, 0)), (10, (.iastore, .inl .null, 0, 0, 0, 0))]),
  (100000, [(11, (.iload_n 1, .inl .null, 0, 0, 0, 0)), (12, (.ireturn, .inl .null, 0, 0, 0, 0))])]
def zc_X4_isShelf : zCd := [(2, [(0, (.iload_n 0, .inl .null, 0, 0, 0, 0)), (1, (.iconst 0, .inl .null, 0, 0, 0, 0))]),
  (7, [(2, (.bipush 7, .inl .null, 0, 0, 0, 0)), (4, (.invokestatic 55, .inl .null, 0, 0, 0, 0))]),
  (100000, [(7, (.ireturn, .inl .null, 0, 0, 0, 0))])]
def zc_X1_isSlip : zCd := [(5, [(0, (.iload_n 1, .inl .null, 0, 0, 0, 0)), (1, (.iconst 1, .inl .null, 0, 0, 0, 0)), (2, (.if_icmp .lt 15, .inl .null, 0, 0, 0, 0))]),
  (10, [(5, (.iload_n 1, .inl .null, 0, 0, 0, 0)), (6, (.aload_n 0, .inl .null, 0, 0, 0, 0)), (7, (.getfield 9, .inl .null, 1, 0, 0, 0))]),
  (17, [(10, (.if_icmp .gt 7, .inl .null, 0, 0, 0, 0)), (13, (.iconst 1, .inl .null, 0, 0, 0, 0)), (14, (.goto 4, .inl .null, 0, 0, 0, 0))]),
  (100000, [(17, (.iconst 0, .inl .null, 0, 0, 0, 0)), (18, (.ireturn, .inl .null, 0, 0, 0, 0))])]
def zc_X1_quartersOf : zCd := [(12, [(0, (.aload_n 0, .inl .null, 0, 0, 0, 0)), (1, (.getfield 9, .inl .null, 1, 0, 0, 0)), (4, (.ifCond .gt 7, .inl .null, 0, 0, 0, 0)), (11, (.iconst 4, .inl .null, 0, 0, 0, 0))]),
  (18, [(12, (.iload_n 1, .inl .null, 0, 0, 0, 0)), (13, (.imul, .inl .null, 0, 0, 0, 0)), (14, (.aload_n 0, .inl .null, 0, 0, 0, 0)), (15, (.getfield 9, .inl .null, 1, 0, 0, 0))]),
  (22, [(18, (.iadd, .inl .null, 0, 0, 0, 0)), (19, (.iconst 1, .inl .null, 0, 0, 0, 0)), (20, (.isub, .inl .null, 0, 0, 0, 0)), (21, (.aload_n 0, .inl .null, 0, 0, 0, 0))]),
  (100000, [(22, (.getfield 9, .inl .null, 1, 0, 0, 0)), (25, (.idiv, .inl .null, 0, 0, 0, 0)), (26, (.ireturn, .inl .null, 0, 0, 0, 0))])]
def zc_X5_fullWith : zCd := [(3, [(0, (.iconst 4, .inl .null, 0, 0, 0, 0)), (1, (.iload_n 1, .inl .null, 0, 0, 0, 0)), (2, (.imul, .inl .null, 0, 0, 0, 0))]),
  (8, [(3, (.aload_n 0, .inl .null, 0, 0, 0, 0)), (4, (.getfield 37, .inl .null, 5, 9, 0, 0)), (7, (.iadd, .inl .null, 0, 0, 0, 0))]),
  (11, [(8, (.iconst 1, .inl .null, 0, 0, 0, 0)), (9, (.isub, .inl .null, 0, 0, 0, 0)), (10, (.aload_n 0, .inl .null, 0, 0, 0, 0))]),
  (100000, [(11, (.getfield 37, .inl .null, 5, 9, 0, 0)), (14, (.idiv, .inl .null, 0, 0, 0, 0)), (15, (.ireturn, .inl .null, 0, 0, 0, 0))])]
def zc_X4_thing : zCd := [(10, [(0, (.iload_n 1, .inl .null, 0, 0, 0, 0)), (1, (.iconst 0, .inl .null, 0, 0, 0, 0)), (2, (.iconst 5, .inl .null, 0, 0, 0, 0)), (3, (.invokestatic 55, .inl .null, 0, 0, 0, 0)), (6, (.ifCond .eq 35, .inl .null, 0, 0, 0, 0)), (9, (.iload_n 3, .inl .null, 0, 0, 0, 0))]),
  (23, [(10, (.iconst 0, .inl .null, 0, 0, 0, 0)), (11, (.bipush 9, .inl .null, 0, 0, 0, 0)), (13, (.invokestatic 55, .inl .null, 0, 0, 0, 0)), (16, (.ifCond .eq 25, .inl .null, 0, 0, 0, 0)), (19, (.aload_n 0, .inl .null, 0, 0, 0, 0)), (20, (.getfield 10, .inl .null, 4, 0, 0, 0))]),
  (35, [(23, (.iload_n 2, .inl .null, 0, 0, 0, 0)), (24, (.invokevirtual 132, .inl .null, 5, 0, 0, 0)), (27, (.ifCond .eq 14, .inl .null, 0, 0, 0, 0)), (30, (.aload_n 0, .inl .null, 0, 0, 0, 0)), (31, (.getfield 10, .inl .null, 4, 0, 0, 0)), (34, (.iload_n 2, .inl .null, 0, 0, 0, 0))]),
  (48, [(35, (.invokevirtual 135, .inl .null, 31, 0, 0, 0)), (38, (.ifCond .ne 10, .inl .null, 0, 0, 0, 0)), (41, (.aload_n 0, .inl .null, 0, 0, 0, 0)), (42, (.bipush (-2), .inl .null, 0, 0, 0, 0)), (44, (.invokevirtual 59, .inl .null, 2, 0, 0, 0)), (47, (.ireturn, .inl .null, 0, 0, 0, 0))]),
  (67, [(48, (.aload_n 0, .inl .null, 0, 0, 0, 0)), (49, (.getfield 10, .inl .null, 4, 0, 0, 0)), (52, (.iload_n 2, .inl .null, 0, 0, 0, 0)), (53, (.invokevirtual 138, .inl .null, 85, 0, 0, 0)), (56, (.ifCond .ne 10, .inl .null, 0, 0, 0, 0)), (66, (.aload_n 0, .inl .null, 0, 0, 0, 0))]),
  (89, [(67, (.getfield 10, .inl .null, 4, 0, 0, 0)), (70, (.getfield 113, .inl .null, 1, 8, 0, 0)), (73, (.bipush 8, .inl .null, 0, 0, 0, 0)), (75, (.if_icmp .lt 10, .inl .null, 0, 0, 0, 0)), (85, (.aload_n 0, .inl .null, 0, 0, 0, 0)), (86, (.getfield 10, .inl .null, 4, 0, 0, 0))]),
  (100000, [(89, (.iload_n 1, .inl .null, 0, 0, 0, 0)), (90, (.iload_n 2, .inl .null, 0, 0, 0, 0)), (91, (.iload_n 3, .inl .null, 0, 0, 0, 0)), (92, (.invokevirtual 141, .inl .null, 86, 0, 0, 0)), (95, (.ireturn, .inl .null, 0, 0, 0, 0))])]
def zc_X5_thing : zCd := [(13, [(0, (.iload_n 1, .inl .null, 0, 0, 0, 0)), (1, (.i2l, .inl .null, 0, 0, 0, 0)), (2, (.lconst 0, .inl .null, 0, 0, 0, 0)), (3, (.ldc2_w 113, .inl (.long (5)), 0, 0, 0, 0)), (6, (.invokestatic 85, .inl .null, 1, 0, 0, 0)), (9, (.ifCond .eq 23, .inl .null, 0, 0, 0, 0)), (12, (.aload_n 0, .inl .null, 0, 0, 0, 0))]),
  (26, [(13, (.iload_n 2, .inl .null, 0, 0, 0, 0)), (14, (.invokevirtual 147, .inl .null, 22, 0, 0, 0)), (17, (.ifCond .eq 15, .inl .null, 0, 0, 0, 0)), (20, (.iload_n 3, .inl .null, 0, 0, 0, 0)), (21, (.i2l, .inl .null, 0, 0, 0, 0)), (22, (.lconst 0, .inl .null, 0, 0, 0, 0)), (23, (.ldc2_w 150, .inl (.long (9)), 0, 0, 0, 0))]),
  (40, [(26, (.invokestatic 85, .inl .null, 1, 0, 0, 0)), (29, (.ifCond .ne 10, .inl .null, 0, 0, 0, 0)), (32, (.aload_n 0, .inl .null, 0, 0, 0, 0)), (33, (.bipush (-2), .inl .null, 0, 0, 0, 0)), (35, (.invokevirtual 98, .inl .null, 3, 0, 0, 0)), (38, (.ireturn, .inl .null, 0, 0, 0, 0)), (39, (.aload_n 0, .inl .null, 0, 0, 0, 0))]),
  (53, [(40, (.getfield 53, .inl .null, 5, 16, 0, 0)), (43, (.iload_n 2, .inl .null, 0, 0, 0, 0)), (44, (.iaload, .inl .null, 0, 0, 0, 0)), (45, (.ifCond .ne 12, .inl .null, 0, 0, 0, 0)), (48, (.aload_n 0, .inl .null, 0, 0, 0, 0)), (49, (.iload_n 2, .inl .null, 0, 0, 0, 0)), (50, (.invokevirtual 152, .inl .null, 14, 0, 0, 0))]),
  (81, [(53, (.iconst (-1), .inl .null, 0, 0, 0, 0)), (54, (.if_icmp .eq 10, .inl .null, 0, 0, 0, 0)), (64, (.aload_n 0, .inl .null, 0, 0, 0, 0)), (65, (.getfield 82, .inl .null, 5, 17, 0, 0)), (68, (.bipush 8, .inl .null, 0, 0, 0, 0)), (70, (.if_icmp .ne 10, .inl .null, 0, 0, 0, 0)), (80, (.aload_n 0, .inl .null, 0, 0, 0, 0))]),
  (92, [(81, (.iload_n 1, .inl .null, 0, 0, 0, 0)), (82, (.iload_n 2, .inl .null, 0, 0, 0, 0)), (83, (.iload_n 3, .inl .null, 0, 0, 0, 0)), (84, (.invokevirtual 155, .inl .null, 87, 0, 0, 0)), (87, (.aload_n 0, .inl .null, 0, 0, 0, 0)), (88, (.getfield 82, .inl .null, 5, 17, 0, 0)), (91, (.iconst 1, .inl .null, 0, 0, 0, 0))]),
  (100000, [(92, (.isub, .inl .null, 0, 0, 0, 0)), (93, (.ireturn, .inl .null, 0, 0, 0, 0))])]
def zc_X0_holdsRow : zCd := [(4, [(0, (.aload_n 0, .inl .null, 0, 0, 0, 0)), (1, (.getfield 9, .inl .null, 0, 0, 0, 0))]),
  (6, [(4, (.iconst 0, .inl .null, 0, 0, 0, 0)), (5, (.iconst 4, .inl .null, 0, 0, 0, 0))]),
  (100000, [(6, (.invokestatic 22, .inl .null, 0, 1, 0, 0)), (9, (.ireturn, .inl .null, 0, 0, 0, 0))])]
def zc_X0_lackOfRow : zCd := [(9, [(0, (.aload_n 0, .inl .null, 0, 0, 0, 0)), (1, (.invokevirtual 26, .inl .null, 10, 0, 0, 0)), (4, (.ifCond .eq 5, .inl .null, 0, 0, 0, 0))]),
  (14, [(9, (.aload_n 0, .inl .null, 0, 0, 0, 0)), (10, (.getfield 9, .inl .null, 0, 0, 0, 0)), (13, (.iconst (-1), .inl .null, 0, 0, 0, 0))]),
  (24, [(14, (.if_icmp .ne 8, .inl .null, 0, 0, 0, 0)), (17, (.bipush (-4), .inl .null, 0, 0, 0, 0)), (19, (.goto 5, .inl .null, 0, 0, 0, 0))]),
  (100000, [(24, (.ireturn, .inl .null, 0, 0, 0, 0))])]
def zc_X4_slipOf : zCd := [(12, [(0, (.aload_n 0, .inl .null, 0, 0, 0, 0)), (1, (.getfield 10, .inl .null, 4, 0, 0, 0)), (4, (.iload_n 1, .inl .null, 0, 0, 0, 0)), (5, (.invokevirtual 132, .inl .null, 5, 0, 0, 0)), (8, (.ifCond .ne 10, .inl .null, 0, 0, 0, 0)), (11, (.aload_n 0, .inl .null, 0, 0, 0, 0))]),
  (49, [(12, (.bipush (-2), .inl .null, 0, 0, 0, 0)), (14, (.invokevirtual 59, .inl .null, 2, 0, 0, 0)), (17, (.ireturn, .inl .null, 0, 0, 0, 0)), (18, (.iload_n 2, .inl .null, 0, 0, 0, 0)), (19, (.tableswitch 74 0 3 #[29, 41, 53, 65], .inl .null, 0, 0, 0, 0)), (48, (.aload_n 0, .inl .null, 0, 0, 0, 0))]),
  (61, [(49, (.getfield 10, .inl .null, 4, 0, 0, 0)), (52, (.iload_n 1, .inl .null, 0, 0, 0, 0)), (53, (.invokevirtual 199, .inl .null, 24, 0, 0, 0)), (56, (.invokestatic 202, .inl .null, 25, 0, 0, 0)), (59, (.ireturn, .inl .null, 0, 0, 0, 0)), (60, (.aload_n 0, .inl .null, 0, 0, 0, 0))]),
  (73, [(61, (.getfield 10, .inl .null, 4, 0, 0, 0)), (64, (.iload_n 1, .inl .null, 0, 0, 0, 0)), (65, (.invokevirtual 135, .inl .null, 31, 0, 0, 0)), (68, (.invokestatic 202, .inl .null, 25, 0, 0, 0)), (71, (.ireturn, .inl .null, 0, 0, 0, 0)), (72, (.aload_n 0, .inl .null, 0, 0, 0, 0))]),
  (85, [(73, (.getfield 10, .inl .null, 4, 0, 0, 0)), (76, (.iload_n 1, .inl .null, 0, 0, 0, 0)), (77, (.invokevirtual 206, .inl .null, 32, 0, 0, 0)), (80, (.invokestatic 202, .inl .null, 25, 0, 0, 0)), (83, (.ireturn, .inl .null, 0, 0, 0, 0)), (84, (.aload_n 0, .inl .null, 0, 0, 0, 0))]),
  (96, [(85, (.getfield 10, .inl .null, 4, 0, 0, 0)), (88, (.iload_n 1, .inl .null, 0, 0, 0, 0)), (89, (.invokevirtual 209, .inl .null, 19, 0, 0, 0)), (92, (.ireturn, .inl .null, 0, 0, 0, 0)), (93, (.aload_n 0, .inl .null, 0, 0, 0, 0)), (94, (.bipush (-2), .inl .null, 0, 0, 0, 0))]),
  (100000, [(96, (.invokevirtual 59, .inl .null, 2, 0, 0, 0)), (99, (.ireturn, .inl .null, 0, 0, 0, 0))])]
def zc_X5_slipOf : zCd := [(11, [(0, (.iload_n 1, .inl .null, 0, 0, 0, 0)), (1, (.i2l, .inl .null, 0, 0, 0, 0)), (2, (.lconst 1, .inl .null, 0, 0, 0, 0)), (3, (.aload_n 0, .inl .null, 0, 0, 0, 0)), (4, (.getfield 37, .inl .null, 5, 9, 0, 0)), (7, (.i2l, .inl .null, 0, 0, 0, 0)), (8, (.invokestatic 85, .inl .null, 1, 0, 0, 0))]),
  (52, [(11, (.ifCond .ne 10, .inl .null, 0, 0, 0, 0)), (14, (.aload_n 0, .inl .null, 0, 0, 0, 0)), (15, (.bipush (-2), .inl .null, 0, 0, 0, 0)), (17, (.invokevirtual 98, .inl .null, 3, 0, 0, 0)), (20, (.ireturn, .inl .null, 0, 0, 0, 0)), (21, (.iload_n 2, .inl .null, 0, 0, 0, 0)), (22, (.tableswitch 74 0 3 #[30, 39, 54, 68], .inl .null, 0, 0, 0, 0))]),
  (61, [(52, (.iconst 1, .inl .null, 0, 0, 0, 0)), (53, (.aload_n 0, .inl .null, 0, 0, 0, 0)), (54, (.getfield 53, .inl .null, 5, 16, 0, 0)), (57, (.iload_n 1, .inl .null, 0, 0, 0, 0)), (58, (.iaload, .inl .null, 0, 0, 0, 0)), (59, (.isub, .inl .null, 0, 0, 0, 0)), (60, (.ireturn, .inl .null, 0, 0, 0, 0))]),
  (74, [(61, (.iload_n 1, .inl .null, 0, 0, 0, 0)), (62, (.aload_n 0, .inl .null, 0, 0, 0, 0)), (63, (.getfield 41, .inl .null, 5, 10, 0, 0)), (66, (.irem, .inl .null, 0, 0, 0, 0)), (67, (.ifCond .ne 7, .inl .null, 0, 0, 0, 0)), (70, (.iconst 1, .inl .null, 0, 0, 0, 0)), (71, (.goto 4, .inl .null, 0, 0, 0, 0))]),
  (85, [(74, (.iconst 0, .inl .null, 0, 0, 0, 0)), (75, (.ireturn, .inl .null, 0, 0, 0, 0)), (76, (.aload_n 0, .inl .null, 0, 0, 0, 0)), (77, (.iload_n 1, .inl .null, 0, 0, 0, 0)), (78, (.invokevirtual 268, .inl .null, 21, 0, 0, 0)), (81, (.ifCond .eq 7, .inl .null, 0, 0, 0, 0)), (84, (.iconst 1, .inl .null, 0, 0, 0, 0))]),
  (97, [(85, (.goto 4, .inl .null, 0, 0, 0, 0)), (89, (.ireturn, .inl .null, 0, 0, 0, 0)), (90, (.aload_n 0, .inl .null, 0, 0, 0, 0)), (91, (.iload_n 1, .inl .null, 0, 0, 0, 0)), (92, (.invokevirtual 152, .inl .null, 14, 0, 0, 0)), (95, (.ireturn, .inl .null, 0, 0, 0, 0)), (96, (.aload_n 0, .inl .null, 0, 0, 0, 0))]),
  (100000, [(97, (.bipush (-2), .inl .null, 0, 0, 0, 0)), (99, (.invokevirtual 98, .inl .null, 3, 0, 0, 0)), (102, (.ireturn, .inl .null, 0, 0, 0, 0))])]
def zc_X5_thingOn : zCd := [(3, [(0, (.iconst 0, .inl .null, 0, 0, 0, 0)), (1, (.istore_n 2, .inl .null, 0, 0, 0, 0)), (2, (.iload_n 2, .inl .null, 0, 0, 0, 0))]),
  (28, [(3, (.aload_n 0, .inl .null, 0, 0, 0, 0)), (4, (.getfield 82, .inl .null, 5, 17, 0, 0)), (7, (.if_icmp .ge 21, .inl .null, 0, 0, 0, 0))]),
  (100000, [(28, (.iconst (-1), .inl .null, 0, 0, 0, 0)), (29, (.ireturn, .inl .null, 0, 0, 0, 0))])]
def zc_X4_copy : zCd := [(11, [(0, (.iload_n 1, .inl .null, 0, 0, 0, 0)), (1, (.invokestatic 51, .inl .null, 4, 0, 0, 0)), (4, (.ifCond .eq 10, .inl .null, 0, 0, 0, 0)), (7, (.iload_n 2, .inl .null, 0, 0, 0, 0)), (8, (.invokestatic 51, .inl .null, 4, 0, 0, 0))]),
  (21, [(11, (.ifCond .ne 10, .inl .null, 0, 0, 0, 0)), (14, (.aload_n 0, .inl .null, 0, 0, 0, 0)), (15, (.bipush (-2), .inl .null, 0, 0, 0, 0)), (17, (.invokevirtual 59, .inl .null, 2, 0, 0, 0)), (20, (.ireturn, .inl .null, 0, 0, 0, 0))]),
  (29, [(21, (.aload_n 0, .inl .null, 0, 0, 0, 0)), (22, (.getfield 38, .inl .null, 4, 5, 0, 0)), (25, (.iload_n 1, .inl .null, 0, 0, 0, 0)), (26, (.aaload, .inl .null, 0, 0, 0, 0)), (27, (.astore 6, .inl .null, 0, 0, 0, 0))]),
  (37, [(29, (.aload_n 0, .inl .null, 0, 0, 0, 0)), (30, (.getfield 38, .inl .null, 4, 5, 0, 0)), (33, (.iload_n 2, .inl .null, 0, 0, 0, 0)), (34, (.aaload, .inl .null, 0, 0, 0, 0)), (35, (.astore 7, .inl .null, 0, 0, 0, 0))]),
  (48, [(37, (.aload 6, .inl .null, 0, 0, 0, 0)), (39, (.aload 7, .inl .null, 0, 0, 0, 0)), (41, (.invokestatic 82, .inl .null, 23, 0, 0, 0)), (44, (.istore 8, .inl .null, 0, 0, 0, 0)), (46, (.iload 8, .inl .null, 0, 0, 0, 0))]),
  (100000, [(48, (.ifCond .eq 10, .inl .null, 0, 0, 0, 0)), (51, (.aload_n 0, .inl .null, 0, 0, 0, 0)), (52, (.iload 8, .inl .null, 0, 0, 0, 0)), (54, (.invokevirtual 59, .inl .null, 2, 0, 0, 0)), (57, (.ireturn, .inl .null, 0, 0, 0, 0))])]
def zc_X5_copy : zCd := [(13, [(0, (.iload_n 1, .inl .null, 0, 0, 0, 0)), (1, (.i2l, .inl .null, 0, 0, 0, 0)), (2, (.lconst 0, .inl .null, 0, 0, 0, 0)), (3, (.ldc2_w 92, .inl (.long (7)), 0, 0, 0, 0)), (6, (.invokestatic 85, .inl .null, 1, 0, 0, 0)), (9, (.ifCond .eq 15, .inl .null, 0, 0, 0, 0)), (12, (.iload_n 2, .inl .null, 0, 0, 0, 0))]),
  (27, [(13, (.i2l, .inl .null, 0, 0, 0, 0)), (14, (.lconst 0, .inl .null, 0, 0, 0, 0)), (15, (.ldc2_w 92, .inl (.long (7)), 0, 0, 0, 0)), (18, (.invokestatic 85, .inl .null, 1, 0, 0, 0)), (21, (.ifCond .ne 10, .inl .null, 0, 0, 0, 0)), (24, (.aload_n 0, .inl .null, 0, 0, 0, 0)), (25, (.bipush (-2), .inl .null, 0, 0, 0, 0))]),
  (38, [(27, (.invokevirtual 98, .inl .null, 3, 0, 0, 0)), (30, (.ireturn, .inl .null, 0, 0, 0, 0)), (31, (.aload_n 0, .inl .null, 0, 0, 0, 0)), (32, (.getfield 7, .inl .null, 5, 0, 0, 0)), (35, (.iload_n 1, .inl .null, 0, 0, 0, 0)), (36, (.iaload, .inl .null, 0, 0, 0, 0)), (37, (.iconst 2, .inl .null, 0, 0, 0, 0))]),
  (51, [(38, (.if_icmp .eq 48, .inl .null, 0, 0, 0, 0)), (41, (.aload_n 0, .inl .null, 0, 0, 0, 0)), (42, (.getfield 7, .inl .null, 5, 0, 0, 0)), (45, (.iload_n 2, .inl .null, 0, 0, 0, 0)), (46, (.iaload, .inl .null, 0, 0, 0, 0)), (47, (.iconst 2, .inl .null, 0, 0, 0, 0)), (48, (.if_icmp .eq 38, .inl .null, 0, 0, 0, 0))]),
  (94, [(51, (.aload_n 0, .inl .null, 0, 0, 0, 0)), (52, (.getfield 7, .inl .null, 5, 0, 0, 0)), (55, (.iload_n 1, .inl .null, 0, 0, 0, 0)), (56, (.iaload, .inl .null, 0, 0, 0, 0)), (57, (.iconst 1, .inl .null, 0, 0, 0, 0)), (58, (.if_icmp .ne 35, .inl .null, 0, 0, 0, 0)), (93, (.aload_n 0, .inl .null, 0, 0, 0, 0))]),
  (117, [(94, (.getfield 7, .inl .null, 5, 0, 0, 0)), (97, (.iload_n 1, .inl .null, 0, 0, 0, 0)), (98, (.iaload, .inl .null, 0, 0, 0, 0)), (99, (.ifCond .eq 12, .inl .null, 0, 0, 0, 0)), (111, (.aload_n 0, .inl .null, 0, 0, 0, 0)), (112, (.bipush (-4), .inl .null, 0, 0, 0, 0)), (114, (.invokevirtual 98, .inl .null, 3, 0, 0, 0))]),
  (100000, [(117, (.ireturn, .inl .null, 0, 0, 0, 0))])]
def zc_X4_row : zCd := [(9, [(0, (.iload_n 1, .inl .null, 0, 0, 0, 0)), (1, (.invokestatic 51, .inl .null, 4, 0, 0, 0)), (4, (.ifCond .eq 22, .inl .null, 0, 0, 0, 0)), (7, (.iload_n 2, .inl .null, 0, 0, 0, 0)), (8, (.iconst 0, .inl .null, 0, 0, 0, 0))]),
  (18, [(9, (.iconst 4, .inl .null, 0, 0, 0, 0)), (10, (.invokestatic 55, .inl .null, 0, 0, 0, 0)), (13, (.ifCond .eq 13, .inl .null, 0, 0, 0, 0)), (16, (.iload_n 3, .inl .null, 0, 0, 0, 0)), (17, (.iconst 0, .inl .null, 0, 0, 0, 0))]),
  (29, [(18, (.bipush 40, .inl .null, 0, 0, 0, 0)), (20, (.invokestatic 55, .inl .null, 0, 0, 0, 0)), (23, (.ifCond .ne 10, .inl .null, 0, 0, 0, 0)), (26, (.aload_n 0, .inl .null, 0, 0, 0, 0)), (27, (.bipush (-2), .inl .null, 0, 0, 0, 0))]),
  (38, [(29, (.invokevirtual 59, .inl .null, 2, 0, 0, 0)), (32, (.ireturn, .inl .null, 0, 0, 0, 0)), (33, (.aload_n 0, .inl .null, 0, 0, 0, 0)), (34, (.getfield 38, .inl .null, 4, 5, 0, 0)), (37, (.iload_n 1, .inl .null, 0, 0, 0, 0))]),
  (45, [(38, (.aaload, .inl .null, 0, 0, 0, 0)), (39, (.iload_n 2, .inl .null, 0, 0, 0, 0)), (40, (.iload_n 3, .inl .null, 0, 0, 0, 0)), (41, (.invokevirtual 63, .inl .null, 74, 0, 0, 0)), (44, (.iconst 1, .inl .null, 0, 0, 0, 0))]),
  (100000, [(45, (.ireturn, .inl .null, 0, 0, 0, 0))])]
def zc_X5_row : zCd := [(13, [(0, (.iload_n 1, .inl .null, 0, 0, 0, 0)), (1, (.i2l, .inl .null, 0, 0, 0, 0)), (2, (.lconst 0, .inl .null, 0, 0, 0, 0)), (3, (.ldc2_w 92, .inl (.long (7)), 0, 0, 0, 0)), (6, (.invokestatic 85, .inl .null, 1, 0, 0, 0)), (9, (.ifCond .eq 27, .inl .null, 0, 0, 0, 0)), (12, (.iload_n 2, .inl .null, 0, 0, 0, 0))]),
  (26, [(13, (.i2l, .inl .null, 0, 0, 0, 0)), (14, (.lconst 0, .inl .null, 0, 0, 0, 0)), (15, (.ldc2_w 94, .inl (.long (4)), 0, 0, 0, 0)), (18, (.invokestatic 85, .inl .null, 1, 0, 0, 0)), (21, (.ifCond .eq 15, .inl .null, 0, 0, 0, 0)), (24, (.iload_n 3, .inl .null, 0, 0, 0, 0)), (25, (.i2l, .inl .null, 0, 0, 0, 0))]),
  (42, [(26, (.lconst 0, .inl .null, 0, 0, 0, 0)), (27, (.ldc2_w 96, .inl (.long (40)), 0, 0, 0, 0)), (30, (.invokestatic 85, .inl .null, 1, 0, 0, 0)), (33, (.ifCond .ne 10, .inl .null, 0, 0, 0, 0)), (36, (.aload_n 0, .inl .null, 0, 0, 0, 0)), (37, (.bipush (-2), .inl .null, 0, 0, 0, 0)), (39, (.invokevirtual 98, .inl .null, 3, 0, 0, 0))]),
  (51, [(42, (.ireturn, .inl .null, 0, 0, 0, 0)), (43, (.aload_n 0, .inl .null, 0, 0, 0, 0)), (44, (.getfield 7, .inl .null, 5, 0, 0, 0)), (47, (.iload_n 1, .inl .null, 0, 0, 0, 0)), (48, (.iconst 1, .inl .null, 0, 0, 0, 0)), (49, (.iastore, .inl .null, 0, 0, 0, 0)), (50, (.aload_n 0, .inl .null, 0, 0, 0, 0))]),
  (62, [(51, (.getfield 13, .inl .null, 5, 1, 0, 0)), (54, (.iload_n 1, .inl .null, 0, 0, 0, 0)), (55, (.iload_n 2, .inl .null, 0, 0, 0, 0)), (56, (.iastore, .inl .null, 0, 0, 0, 0)), (57, (.aload_n 0, .inl .null, 0, 0, 0, 0)), (58, (.getfield 16, .inl .null, 5, 2, 0, 0)), (61, (.iload_n 1, .inl .null, 0, 0, 0, 0))]),
  (74, [(62, (.iload_n 3, .inl .null, 0, 0, 0, 0)), (63, (.iastore, .inl .null, 0, 0, 0, 0)), (64, (.iconst 0, .inl .null, 0, 0, 0, 0)), (65, (.istore 4, .inl .null, 0, 0, 0, 0)), (67, (.iload 4, .inl .null, 0, 0, 0, 0)), (69, (.bipush 40, .inl .null, 0, 0, 0, 0)), (71, (.if_icmp .ge 19, .inl .null, 0, 0, 0, 0))]),
  (84, [(74, (.aload_n 0, .inl .null, 0, 0, 0, 0)), (75, (.getfield 21, .inl .null, 5, 3, 0, 0)), (78, (.iload_n 1, .inl .null, 0, 0, 0, 0)), (79, (.aaload, .inl .null, 0, 0, 0, 0)), (80, (.iload 4, .inl .null, 0, 0, 0, 0)), (82, (.lconst 0, .inl .null, 0, 0, 0, 0)), (83, (.lastore, .inl .null, 0, 0, 0, 0))]),
  (100000, [(84, (.iinc 4 1, .inl .null, 0, 0, 0, 0)), (87, (.goto (-20), .inl .null, 0, 0, 0, 0)), (90, (.iconst 1, .inl .null, 0, 0, 0, 0)), (91, (.ireturn, .inl .null, 0, 0, 0, 0))])]
def zc_X1_thingOn : zCd := [(3, [(0, (.iconst 0, .inl .null, 0, 0, 0, 0)), (1, (.istore_n 2, .inl .null, 0, 0, 0, 0)), (2, (.iload_n 2, .inl .null, 0, 0, 0, 0))]),
  (28, [(3, (.aload_n 0, .inl .null, 0, 0, 0, 0)), (4, (.getfield 37, .inl .null, 1, 8, 0, 0)), (7, (.if_icmp .ge 21, .inl .null, 0, 0, 0, 0))]),
  (100000, [(28, (.iconst (-1), .inl .null, 0, 0, 0, 0)), (29, (.ireturn, .inl .null, 0, 0, 0, 0))])]
def zc_X1_isThing : zCd := [(5, [(0, (.iload_n 1, .inl .null, 0, 0, 0, 0)), (1, (.ifCond .lt 15, .inl .null, 0, 0, 0, 0)), (4, (.iload_n 1, .inl .null, 0, 0, 0, 0))]),
  (16, [(5, (.aload_n 0, .inl .null, 0, 0, 0, 0)), (6, (.getfield 37, .inl .null, 1, 8, 0, 0)), (9, (.if_icmp .ge 7, .inl .null, 0, 0, 0, 0))]),
  (100000, [(16, (.iconst 0, .inl .null, 0, 0, 0, 0)), (17, (.ireturn, .inl .null, 0, 0, 0, 0))])]
def zc_X5_canDraw : zCd := [(7, [(0, (.iload_n 1, .inl .null, 0, 0, 0, 0)), (1, (.i2l, .inl .null, 0, 0, 0, 0)), (2, (.lconst 1, .inl .null, 0, 0, 0, 0)), (3, (.aload_n 0, .inl .null, 0, 0, 0, 0)), (4, (.getfield 37, .inl .null, 5, 9, 0, 0))]),
  (18, [(7, (.i2l, .inl .null, 0, 0, 0, 0)), (8, (.invokestatic 85, .inl .null, 1, 0, 0, 0)), (11, (.ifCond .eq 12, .inl .null, 0, 0, 0, 0)), (14, (.aload_n 0, .inl .null, 0, 0, 0, 0)), (15, (.getfield 53, .inl .null, 5, 16, 0, 0))]),
  (27, [(18, (.iload_n 1, .inl .null, 0, 0, 0, 0)), (19, (.iaload, .inl .null, 0, 0, 0, 0)), (20, (.ifCond .eq 5, .inl .null, 0, 0, 0, 0)), (25, (.aload_n 0, .inl .null, 0, 0, 0, 0)), (26, (.iload_n 1, .inl .null, 0, 0, 0, 0))]),
  (62, [(27, (.invokevirtual 152, .inl .null, 14, 0, 0, 0)), (30, (.istore_n 2, .inl .null, 0, 0, 0, 0)), (31, (.iload_n 2, .inl .null, 0, 0, 0, 0)), (32, (.iconst (-1), .inl .null, 0, 0, 0, 0)), (33, (.if_icmp .eq 29, .inl .null, 0, 0, 0, 0))]),
  (100000, [(62, (.iconst 1, .inl .null, 0, 0, 0, 0)), (63, (.goto 4, .inl .null, 0, 0, 0, 0)), (67, (.ireturn, .inl .null, 0, 0, 0, 0))])]
def zc_X5_isWinner : zCd := [(4, [(0, (.iload_n 1, .inl .null, 0, 0, 0, 0)), (1, (.i2l, .inl .null, 0, 0, 0, 0)), (2, (.lconst 1, .inl .null, 0, 0, 0, 0)), (3, (.aload_n 0, .inl .null, 0, 0, 0, 0))]),
  (14, [(4, (.getfield 37, .inl .null, 5, 9, 0, 0)), (7, (.i2l, .inl .null, 0, 0, 0, 0)), (8, (.invokestatic 85, .inl .null, 1, 0, 0, 0)), (11, (.ifCond .eq 16, .inl .null, 0, 0, 0, 0))]),
  (20, [(14, (.iload_n 1, .inl .null, 0, 0, 0, 0)), (15, (.aload_n 0, .inl .null, 0, 0, 0, 0)), (16, (.getfield 41, .inl .null, 5, 10, 0, 0)), (19, (.irem, .inl .null, 0, 0, 0, 0))]),
  (28, [(20, (.ifCond .ne 7, .inl .null, 0, 0, 0, 0)), (23, (.iconst 1, .inl .null, 0, 0, 0, 0)), (24, (.goto 4, .inl .null, 0, 0, 0, 0)), (27, (.iconst 0, .inl .null, 0, 0, 0, 0))]),
  (100000, [(28, (.ireturn, .inl .null, 0, 0, 0, 0))])]
def zc_X4_lackOfRows : zCd := [(6, [(0, (.aload_n 0, .inl .null, 0, 0, 0, 0)), (1, (.invokevirtual 67, .inl .null, 11, 0, 0, 0)), (4, (.istore_n 2, .inl .null, 0, 0, 0, 0)), (5, (.aload_n 1, .inl .null, 0, 0, 0, 0))]),
  (13, [(6, (.invokevirtual 67, .inl .null, 11, 0, 0, 0)), (9, (.istore_n 3, .inl .null, 0, 0, 0, 0)), (10, (.iload_n 2, .inl .null, 0, 0, 0, 0)), (11, (.bipush (-3), .inl .null, 0, 0, 0, 0))]),
  (25, [(13, (.if_icmp .eq 9, .inl .null, 0, 0, 0, 0)), (16, (.iload_n 3, .inl .null, 0, 0, 0, 0)), (17, (.bipush (-3), .inl .null, 0, 0, 0, 0)), (19, (.if_icmp .ne 6, .inl .null, 0, 0, 0, 0))]),
  (39, [(25, (.iload_n 2, .inl .null, 0, 0, 0, 0)), (26, (.bipush (-4), .inl .null, 0, 0, 0, 0)), (28, (.if_icmp .eq 9, .inl .null, 0, 0, 0, 0)), (37, (.bipush (-4), .inl .null, 0, 0, 0, 0))]),
  (100000, [(39, (.ireturn, .inl .null, 0, 0, 0, 0))])]
def zc_X1_isIn : zCd := [(5, [(0, (.aload_n 0, .inl .null, 0, 0, 0, 0)), (1, (.getfield 33, .inl .null, 1, 7, 0, 0)), (4, (.lconst 1, .inl .null, 0, 0, 0, 0))]),
  (8, [(5, (.iload_n 1, .inl .null, 0, 0, 0, 0)), (6, (.lshl, .inl .null, 0, 0, 0, 0)), (7, (.land, .inl .null, 0, 0, 0, 0))]),
  (13, [(8, (.lconst 0, .inl .null, 0, 0, 0, 0)), (9, (.lcmp, .inl .null, 0, 0, 0, 0)), (10, (.ifCond .eq 7, .inl .null, 0, 0, 0, 0))]),
  (100000, [(13, (.iconst 1, .inl .null, 0, 0, 0, 0)), (14, (.goto 4, .inl .null, 0, 0, 0, 0)), (18, (.ireturn, .inl .null, 0, 0, 0, 0))])]
def zc_X4_asNumber : zCd := [(4, [(0, (.iload_n 0, .inl .null, 0, 0, 0, 0)), (1, (.ifCond .eq 7, .inl .null, 0, 0, 0, 0))]),
  (8, [(4, (.iconst 1, .inl .null, 0, 0, 0, 0)), (5, (.goto 4, .inl .null, 0, 0, 0, 0))]),
  (100000, [(8, (.iconst 0, .inl .null, 0, 0, 0, 0)), (9, (.ireturn, .inl .null, 0, 0, 0, 0))])]
def zc_X1_stands : zCd := [(2, [(0, (.aload_n 0, .inl .null, 0, 0, 0, 0)), (1, (.iload_n 1, .inl .null, 0, 0, 0, 0))]),
  (22, [(2, (.invokevirtual 94, .inl .null, 20, 0, 0, 0)), (5, (.ifCond .eq 17, .inl .null, 0, 0, 0, 0))]),
  (100000, [(22, (.iconst 0, .inl .null, 0, 0, 0, 0)), (23, (.ireturn, .inl .null, 0, 0, 0, 0))])]
def zc_X4_lackOfBook : zCd := [(8, [(0, (.iload_n 1, .inl .null, 0, 0, 0, 0)), (1, (.invokestatic 51, .inl .null, 4, 0, 0, 0)), (4, (.ifCond .eq 13, .inl .null, 0, 0, 0, 0)), (7, (.iload_n 2, .inl .null, 0, 0, 0, 0))]),
  (17, [(8, (.iconst 0, .inl .null, 0, 0, 0, 0)), (9, (.bipush 40, .inl .null, 0, 0, 0, 0)), (11, (.invokestatic 55, .inl .null, 0, 0, 0, 0)), (14, (.ifCond .ne 6, .inl .null, 0, 0, 0, 0))]),
  (24, [(17, (.bipush (-2), .inl .null, 0, 0, 0, 0)), (19, (.ireturn, .inl .null, 0, 0, 0, 0)), (20, (.aload_n 0, .inl .null, 0, 0, 0, 0)), (21, (.getfield 38, .inl .null, 4, 5, 0, 0))]),
  (30, [(24, (.iload_n 1, .inl .null, 0, 0, 0, 0)), (25, (.aaload, .inl .null, 0, 0, 0, 0)), (26, (.invokevirtual 67, .inl .null, 11, 0, 0, 0)), (29, (.istore_n 3, .inl .null, 0, 0, 0, 0))]),
  (100000, [(30, (.iload_n 3, .inl .null, 0, 0, 0, 0)), (31, (.ifCond .eq 5, .inl .null, 0, 0, 0, 0)), (34, (.iload_n 3, .inl .null, 0, 0, 0, 0)), (35, (.ireturn, .inl .null, 0, 0, 0, 0))])]
def zc_X5_noBook : zCd := [(9, [(0, (.iload_n 1, .inl .null, 0, 0, 0, 0)), (1, (.i2l, .inl .null, 0, 0, 0, 0)), (2, (.lconst 0, .inl .null, 0, 0, 0, 0)), (3, (.ldc2_w 92, .inl (.long (7)), 0, 0, 0, 0)), (6, (.invokestatic 85, .inl .null, 1, 0, 0, 0))]),
  (18, [(9, (.ifCond .eq 15, .inl .null, 0, 0, 0, 0)), (12, (.iload_n 2, .inl .null, 0, 0, 0, 0)), (13, (.i2l, .inl .null, 0, 0, 0, 0)), (14, (.lconst 0, .inl .null, 0, 0, 0, 0)), (15, (.ldc2_w 96, .inl (.long (40)), 0, 0, 0, 0))]),
  (30, [(18, (.invokestatic 85, .inl .null, 1, 0, 0, 0)), (21, (.ifCond .ne 10, .inl .null, 0, 0, 0, 0)), (24, (.aload_n 0, .inl .null, 0, 0, 0, 0)), (25, (.bipush (-2), .inl .null, 0, 0, 0, 0)), (27, (.invokevirtual 98, .inl .null, 3, 0, 0, 0))]),
  (37, [(30, (.ireturn, .inl .null, 0, 0, 0, 0)), (31, (.aload_n 0, .inl .null, 0, 0, 0, 0)), (32, (.iload_n 1, .inl .null, 0, 0, 0, 0)), (33, (.invokevirtual 102, .inl .null, 47, 0, 0, 0)), (36, (.istore_n 3, .inl .null, 0, 0, 0, 0))]),
  (100000, [(37, (.iload_n 3, .inl .null, 0, 0, 0, 0)), (38, (.ifCond .eq 5, .inl .null, 0, 0, 0, 0)), (41, (.iload_n 3, .inl .null, 0, 0, 0, 0)), (42, (.ireturn, .inl .null, 0, 0, 0, 0))])]
def zc_X0_init : zCd := [(6, [(0, (.aload_n 0, .inl .null, 0, 0, 0, 0)), (1, (.invokespecial 3, .inl .null, 0, 6, 0, 0)), (4, (.aload_n 0, .inl .null, 0, 0, 0, 0)), (5, (.iconst (-1), .inl .null, 0, 0, 0, 0))]),
  (14, [(6, (.putfield 9, .inl .null, 0, 0, 0, 0)), (9, (.aload_n 0, .inl .null, 0, 0, 0, 0)), (10, (.iconst 0, .inl .null, 0, 0, 0, 0)), (11, (.putfield 15, .inl .null, 0, 1, 0, 0))]),
  (22, [(14, (.aload_n 0, .inl .null, 0, 0, 0, 0)), (15, (.bipush 40, .inl .null, 0, 0, 0, 0)), (17, (.newarray .long, .inl .null, 0, 0, 0, 0)), (19, (.putfield 18, .inl .null, 0, 2, 2, 0))]),
  (100000, [(22, (.return_, .inl .null, 0, 0, 0, 0))])]
def zc_X1_isBuyer : zCd := [(5, [(0, (.iload_n 1, .inl .null, 0, 0, 0, 0)), (1, (.ifCond .lt 15, .inl .null, 0, 0, 0, 0)), (4, (.iload_n 1, .inl .null, 0, 0, 0, 0))]),
  (16, [(5, (.aload_n 0, .inl .null, 0, 0, 0, 0)), (6, (.getfield 56, .inl .null, 1, 14, 0, 0)), (9, (.if_icmp .ge 7, .inl .null, 0, 0, 0, 0))]),
  (100000, [(16, (.iconst 0, .inl .null, 0, 0, 0, 0)), (17, (.ireturn, .inl .null, 0, 0, 0, 0))])]
def zc_X1_isWinner : zCd := [(7, [(0, (.aload_n 0, .inl .null, 0, 0, 0, 0)), (1, (.getfield 15, .inl .null, 1, 1, 0, 0)), (4, (.ifCond .eq 16, .inl .null, 0, 0, 0, 0))]),
  (12, [(7, (.iload_n 1, .inl .null, 0, 0, 0, 0)), (8, (.aload_n 0, .inl .null, 0, 0, 0, 0)), (9, (.getfield 15, .inl .null, 1, 1, 0, 0))]),
  (17, [(12, (.irem, .inl .null, 0, 0, 0, 0)), (13, (.ifCond .ne 7, .inl .null, 0, 0, 0, 0)), (16, (.iconst 1, .inl .null, 0, 0, 0, 0))]),
  (100000, [(17, (.goto 4, .inl .null, 0, 0, 0, 0)), (20, (.iconst 0, .inl .null, 0, 0, 0, 0)), (21, (.ireturn, .inl .null, 0, 0, 0, 0))])]
def zc_X1_canBeDrawn : zCd := [(8, [(0, (.aload_n 0, .inl .null, 0, 0, 0, 0)), (1, (.iload_n 1, .inl .null, 0, 0, 0, 0)), (2, (.invokevirtual 120, .inl .null, 5, 0, 0, 0)), (5, (.ifCond .eq 11, .inl .null, 0, 0, 0, 0))]),
  (18, [(8, (.aload_n 0, .inl .null, 0, 0, 0, 0)), (9, (.iload_n 1, .inl .null, 0, 0, 0, 0)), (10, (.invokevirtual 86, .inl .null, 24, 0, 0, 0)), (13, (.ifCond .ne 5, .inl .null, 0, 0, 0, 0))]),
  (24, [(18, (.aload_n 0, .inl .null, 0, 0, 0, 0)), (19, (.iload_n 1, .inl .null, 0, 0, 0, 0)), (20, (.invokevirtual 90, .inl .null, 19, 0, 0, 0)), (23, (.istore_n 2, .inl .null, 0, 0, 0, 0))]),
  (51, [(24, (.aload_n 0, .inl .null, 0, 0, 0, 0)), (25, (.iload_n 2, .inl .null, 0, 0, 0, 0)), (26, (.invokevirtual 123, .inl .null, 26, 0, 0, 0)), (29, (.ifCond .eq 22, .inl .null, 0, 0, 0, 0))]),
  (100000, [(51, (.iconst 1, .inl .null, 0, 0, 0, 0)), (52, (.goto 4, .inl .null, 0, 0, 0, 0)), (56, (.ireturn, .inl .null, 0, 0, 0, 0))])]
def zc_X5_over : zCd := [(4, [(0, (.iconst 0, .inl .null, 0, 0, 0, 0)), (1, (.istore_n 2, .inl .null, 0, 0, 0, 0)), (2, (.iload_n 2, .inl .null, 0, 0, 0, 0)), (3, (.aload_n 0, .inl .null, 0, 0, 0, 0))]),
  (10, [(4, (.arraylength, .inl .null, 0, 0, 0, 0)), (5, (.if_icmp .ge 15, .inl .null, 0, 0, 0, 0)), (8, (.aload_n 1, .inl .null, 0, 0, 0, 0)), (9, (.iload_n 2, .inl .null, 0, 0, 0, 0))]),
  (14, [(10, (.aload_n 0, .inl .null, 0, 0, 0, 0)), (11, (.iload_n 2, .inl .null, 0, 0, 0, 0)), (12, (.iaload, .inl .null, 0, 0, 0, 0)), (13, (.iastore, .inl .null, 0, 0, 0, 0))]),
  (100000, [(14, (.iinc 2 1, .inl .null, 0, 0, 0, 0)), (17, (.goto (-15), .inl .null, 0, 0, 0, 0)), (20, (.return_, .inl .null, 0, 0, 0, 0))])]
def zc_X4_show : zCd := [(9, [(0, (.iload_n 1, .inl .null, 0, 0, 0, 0)), (1, (.invokestatic 51, .inl .null, 4, 0, 0, 0)), (4, (.ifCond .eq 19, .inl .null, 0, 0, 0, 0)), (7, (.iload_n 2, .inl .null, 0, 0, 0, 0)), (8, (.iconst (-1), .inl .null, 0, 0, 0, 0))]),
  (20, [(9, (.if_icmp .eq 21, .inl .null, 0, 0, 0, 0)), (12, (.aload_n 0, .inl .null, 0, 0, 0, 0)), (13, (.getfield 10, .inl .null, 4, 0, 0, 0)), (16, (.iload_n 2, .inl .null, 0, 0, 0, 0)), (17, (.invokevirtual 100, .inl .null, 20, 0, 0, 0))]),
  (30, [(20, (.ifCond .ne 10, .inl .null, 0, 0, 0, 0)), (23, (.aload_n 0, .inl .null, 0, 0, 0, 0)), (24, (.bipush (-2), .inl .null, 0, 0, 0, 0)), (26, (.invokevirtual 59, .inl .null, 2, 0, 0, 0)), (29, (.ireturn, .inl .null, 0, 0, 0, 0))]),
  (37, [(30, (.aload_n 0, .inl .null, 0, 0, 0, 0)), (31, (.getfield 38, .inl .null, 4, 5, 0, 0)), (34, (.iload_n 1, .inl .null, 0, 0, 0, 0)), (35, (.aaload, .inl .null, 0, 0, 0, 0)), (36, (.iload_n 2, .inl .null, 0, 0, 0, 0))]),
  (52, [(37, (.iconst (-1), .inl .null, 0, 0, 0, 0)), (38, (.if_icmp .ne 7, .inl .null, 0, 0, 0, 0)), (41, (.iconst (-1), .inl .null, 0, 0, 0, 0)), (42, (.goto 7, .inl .null, 0, 0, 0, 0)), (49, (.putfield 96, .inl .null, 0, 0, 0, 0))]),
  (100000, [(52, (.iconst 1, .inl .null, 0, 0, 0, 0)), (53, (.ireturn, .inl .null, 0, 0, 0, 0))])]
def zc_X5_show : zCd := [(12, [(0, (.iload_n 1, .inl .null, 0, 0, 0, 0)), (1, (.i2l, .inl .null, 0, 0, 0, 0)), (2, (.lconst 0, .inl .null, 0, 0, 0, 0)), (3, (.ldc2_w 92, .inl (.long (7)), 0, 0, 0, 0)), (6, (.invokestatic 85, .inl .null, 1, 0, 0, 0)), (9, (.ifCond .eq 16, .inl .null, 0, 0, 0, 0))]),
  (22, [(12, (.iload_n 2, .inl .null, 0, 0, 0, 0)), (13, (.iconst (-1), .inl .null, 0, 0, 0, 0)), (14, (.if_icmp .eq 18, .inl .null, 0, 0, 0, 0)), (17, (.aload_n 0, .inl .null, 0, 0, 0, 0)), (18, (.iload_n 2, .inl .null, 0, 0, 0, 0)), (19, (.invokevirtual 109, .inl .null, 51, 0, 0, 0))]),
  (33, [(22, (.ifCond .ne 10, .inl .null, 0, 0, 0, 0)), (25, (.aload_n 0, .inl .null, 0, 0, 0, 0)), (26, (.bipush (-2), .inl .null, 0, 0, 0, 0)), (28, (.invokevirtual 98, .inl .null, 3, 0, 0, 0)), (31, (.ireturn, .inl .null, 0, 0, 0, 0)), (32, (.aload_n 0, .inl .null, 0, 0, 0, 0))]),
  (43, [(33, (.getfield 7, .inl .null, 5, 0, 0, 0)), (36, (.iload_n 1, .inl .null, 0, 0, 0, 0)), (37, (.iload_n 2, .inl .null, 0, 0, 0, 0)), (38, (.iconst (-1), .inl .null, 0, 0, 0, 0)), (39, (.if_icmp .ne 7, .inl .null, 0, 0, 0, 0)), (42, (.iconst 0, .inl .null, 0, 0, 0, 0))]),
  (54, [(43, (.goto 4, .inl .null, 0, 0, 0, 0)), (47, (.iastore, .inl .null, 0, 0, 0, 0)), (48, (.aload_n 0, .inl .null, 0, 0, 0, 0)), (49, (.getfield 28, .inl .null, 5, 5, 0, 0)), (52, (.iload_n 1, .inl .null, 0, 0, 0, 0)), (53, (.iload_n 2, .inl .null, 0, 0, 0, 0))]),
  (100000, [(54, (.iastore, .inl .null, 0, 0, 0, 0)), (55, (.iconst 1, .inl .null, 0, 0, 0, 0)), (56, (.ireturn, .inl .null, 0, 0, 0, 0))])]
def zc_X4_says : zCd := [(9, [(0, (.iload_n 1, .inl .null, 0, 0, 0, 0)), (1, (.invokestatic 51, .inl .null, 4, 0, 0, 0)), (4, (.ifCond .eq 12, .inl .null, 0, 0, 0, 0)), (7, (.iload_n 2, .inl .null, 0, 0, 0, 0)), (8, (.iconst 0, .inl .null, 0, 0, 0, 0))]),
  (19, [(9, (.iconst 5, .inl .null, 0, 0, 0, 0)), (10, (.invokestatic 55, .inl .null, 0, 0, 0, 0)), (13, (.ifCond .ne 10, .inl .null, 0, 0, 0, 0)), (16, (.aload_n 0, .inl .null, 0, 0, 0, 0)), (17, (.bipush (-2), .inl .null, 0, 0, 0, 0))]),
  (28, [(19, (.invokevirtual 59, .inl .null, 2, 0, 0, 0)), (22, (.ireturn, .inl .null, 0, 0, 0, 0)), (23, (.aload_n 0, .inl .null, 0, 0, 0, 0)), (24, (.getfield 38, .inl .null, 4, 5, 0, 0)), (27, (.iload_n 1, .inl .null, 0, 0, 0, 0))]),
  (35, [(28, (.aaload, .inl .null, 0, 0, 0, 0)), (29, (.astore_n 3, .inl .null, 0, 0, 0, 0)), (30, (.aload_n 3, .inl .null, 0, 0, 0, 0)), (31, (.getfield 96, .inl .null, 0, 0, 0, 0)), (34, (.iconst (-1), .inl .null, 0, 0, 0, 0))]),
  (100000, [(35, (.if_icmp .ne 10, .inl .null, 0, 0, 0, 0)), (38, (.aload_n 0, .inl .null, 0, 0, 0, 0)), (39, (.bipush (-4), .inl .null, 0, 0, 0, 0)), (41, (.invokevirtual 59, .inl .null, 2, 0, 0, 0)), (44, (.ireturn, .inl .null, 0, 0, 0, 0))])]
def zc_X5_says : zCd := [(12, [(0, (.iload_n 1, .inl .null, 0, 0, 0, 0)), (1, (.i2l, .inl .null, 0, 0, 0, 0)), (2, (.lconst 0, .inl .null, 0, 0, 0, 0)), (3, (.ldc2_w 92, .inl (.long (7)), 0, 0, 0, 0)), (6, (.invokestatic 85, .inl .null, 1, 0, 0, 0)), (9, (.ifCond .eq 15, .inl .null, 0, 0, 0, 0))]),
  (24, [(12, (.iload_n 2, .inl .null, 0, 0, 0, 0)), (13, (.i2l, .inl .null, 0, 0, 0, 0)), (14, (.lconst 0, .inl .null, 0, 0, 0, 0)), (15, (.ldc2_w 113, .inl (.long (5)), 0, 0, 0, 0)), (18, (.invokestatic 85, .inl .null, 1, 0, 0, 0)), (21, (.ifCond .ne 10, .inl .null, 0, 0, 0, 0))]),
  (35, [(24, (.aload_n 0, .inl .null, 0, 0, 0, 0)), (25, (.bipush (-2), .inl .null, 0, 0, 0, 0)), (27, (.invokevirtual 98, .inl .null, 3, 0, 0, 0)), (30, (.ireturn, .inl .null, 0, 0, 0, 0)), (31, (.aload_n 0, .inl .null, 0, 0, 0, 0)), (32, (.getfield 7, .inl .null, 5, 0, 0, 0))]),
  (45, [(35, (.iload_n 1, .inl .null, 0, 0, 0, 0)), (36, (.iaload, .inl .null, 0, 0, 0, 0)), (37, (.iconst 1, .inl .null, 0, 0, 0, 0)), (38, (.if_icmp .eq 31, .inl .null, 0, 0, 0, 0)), (41, (.aload_n 0, .inl .null, 0, 0, 0, 0)), (42, (.getfield 7, .inl .null, 5, 0, 0, 0))]),
  (80, [(45, (.iload_n 1, .inl .null, 0, 0, 0, 0)), (46, (.iaload, .inl .null, 0, 0, 0, 0)), (47, (.iconst 2, .inl .null, 0, 0, 0, 0)), (48, (.if_icmp .ne 28, .inl .null, 0, 0, 0, 0)), (76, (.aload_n 0, .inl .null, 0, 0, 0, 0)), (77, (.getfield 7, .inl .null, 5, 0, 0, 0))]),
  (91, [(80, (.iload_n 1, .inl .null, 0, 0, 0, 0)), (81, (.iaload, .inl .null, 0, 0, 0, 0)), (82, (.ifCond .ne 10, .inl .null, 0, 0, 0, 0)), (85, (.aload_n 0, .inl .null, 0, 0, 0, 0)), (86, (.bipush (-4), .inl .null, 0, 0, 0, 0)), (88, (.invokevirtual 98, .inl .null, 3, 0, 0, 0))]),
  (100000, [(91, (.ireturn, .inl .null, 0, 0, 0, 0))])]
def zc_X4_judge : zCd := [(3, [(0, (.aload_n 0, .inl .null, 0, 0, 0, 0)), (1, (.iload_n 1, .inl .null, 0, 0, 0, 0)), (2, (.iload_n 2, .inl .null, 0, 0, 0, 0))]),
  (8, [(3, (.invokevirtual 256, .inl .null, 27, 0, 0, 0)), (6, (.istore_n 3, .inl .null, 0, 0, 0, 0)), (7, (.iload_n 3, .inl .null, 0, 0, 0, 0))]),
  (13, [(8, (.ifCond .eq 11, .inl .null, 0, 0, 0, 0)), (11, (.aload_n 0, .inl .null, 0, 0, 0, 0)), (12, (.iload_n 3, .inl .null, 0, 0, 0, 0))]),
  (100000, [(13, (.invokevirtual 59, .inl .null, 2, 0, 0, 0)), (16, (.goto 10, .inl .null, 0, 0, 0, 0)), (26, (.ireturn, .inl .null, 0, 0, 0, 0))])]
def zc_X5_judge : zCd := [(3, [(0, (.aload_n 0, .inl .null, 0, 0, 0, 0)), (1, (.iload_n 1, .inl .null, 0, 0, 0, 0)), (2, (.iload_n 2, .inl .null, 0, 0, 0, 0))]),
  (8, [(3, (.invokevirtual 343, .inl .null, 28, 0, 0, 0)), (6, (.istore_n 3, .inl .null, 0, 0, 0, 0)), (7, (.iload_n 3, .inl .null, 0, 0, 0, 0))]),
  (26, [(8, (.ifCond .eq 7, .inl .null, 0, 0, 0, 0)), (11, (.iload_n 3, .inl .null, 0, 0, 0, 0)), (12, (.goto 14, .inl .null, 0, 0, 0, 0))]),
  (100000, [(26, (.ireturn, .inl .null, 0, 0, 0, 0))])]
def zc_X4_won : zCd := [(3, [(0, (.aload_n 0, .inl .null, 0, 0, 0, 0)), (1, (.iload_n 1, .inl .null, 0, 0, 0, 0)), (2, (.iload_n 2, .inl .null, 0, 0, 0, 0))]),
  (8, [(3, (.invokevirtual 256, .inl .null, 27, 0, 0, 0)), (6, (.istore_n 3, .inl .null, 0, 0, 0, 0)), (7, (.iload_n 3, .inl .null, 0, 0, 0, 0))]),
  (13, [(8, (.ifCond .eq 9, .inl .null, 0, 0, 0, 0)), (11, (.aload_n 0, .inl .null, 0, 0, 0, 0)), (12, (.iload_n 3, .inl .null, 0, 0, 0, 0))]),
  (100000, [(13, (.invokevirtual 59, .inl .null, 2, 0, 0, 0)), (16, (.ireturn, .inl .null, 0, 0, 0, 0))])]
def zc_X5_won : zCd := [(3, [(0, (.aload_n 0, .inl .null, 0, 0, 0, 0)), (1, (.iload_n 1, .inl .null, 0, 0, 0, 0)), (2, (.iload_n 2, .inl .null, 0, 0, 0, 0))]),
  (8, [(3, (.invokevirtual 343, .inl .null, 28, 0, 0, 0)), (6, (.istore_n 3, .inl .null, 0, 0, 0, 0)), (7, (.iload_n 3, .inl .null, 0, 0, 0, 0))]),
  (100000, [(8, (.ifCond .eq 5, .inl .null, 0, 0, 0, 0)), (11, (.iload_n 3, .inl .null, 0, 0, 0, 0)), (12, (.ireturn, .inl .null, 0, 0, 0, 0))])]
def zc_X5_isBuyer : zCd := [(3, [(0, (.iload_n 1, .inl .null, 0, 0, 0, 0)), (1, (.i2l, .inl .null, 0, 0, 0, 0)), (2, (.lconst 0, .inl .null, 0, 0, 0, 0))]),
  (8, [(3, (.aload_n 0, .inl .null, 0, 0, 0, 0)), (4, (.getfield 89, .inl .null, 5, 23, 0, 0)), (7, (.iconst 1, .inl .null, 0, 0, 0, 0))]),
  (13, [(8, (.isub, .inl .null, 0, 0, 0, 0)), (9, (.i2l, .inl .null, 0, 0, 0, 0)), (10, (.invokestatic 85, .inl .null, 1, 0, 0, 0))]),
  (100000, [(13, (.ireturn, .inl .null, 0, 0, 0, 0))])]
def zc_X4_guess : zCd := [(11, [(0, (.iload_n 1, .inl .null, 0, 0, 0, 0)), (1, (.iconst 0, .inl .null, 0, 0, 0, 0)), (2, (.iconst 4, .inl .null, 0, 0, 0, 0)), (3, (.invokestatic 55, .inl .null, 0, 0, 0, 0)), (6, (.ifCond .eq 12, .inl .null, 0, 0, 0, 0)), (9, (.iload_n 2, .inl .null, 0, 0, 0, 0)), (10, (.iconst 0, .inl .null, 0, 0, 0, 0))]),
  (25, [(11, (.iconst 1, .inl .null, 0, 0, 0, 0)), (12, (.invokestatic 55, .inl .null, 0, 0, 0, 0)), (15, (.ifCond .ne 10, .inl .null, 0, 0, 0, 0)), (18, (.aload_n 0, .inl .null, 0, 0, 0, 0)), (19, (.bipush (-2), .inl .null, 0, 0, 0, 0)), (21, (.invokevirtual 59, .inl .null, 2, 0, 0, 0)), (24, (.ireturn, .inl .null, 0, 0, 0, 0))]),
  (36, [(25, (.iconst (-1), .inl .null, 0, 0, 0, 0)), (26, (.istore_n 3, .inl .null, 0, 0, 0, 0)), (27, (.iconst 0, .inl .null, 0, 0, 0, 0)), (28, (.istore 4, .inl .null, 0, 0, 0, 0)), (30, (.iload 4, .inl .null, 0, 0, 0, 0)), (32, (.aload_n 0, .inl .null, 0, 0, 0, 0)), (33, (.getfield 10, .inl .null, 4, 0, 0, 0))]),
  (52, [(36, (.getfield 116, .inl .null, 1, 0, 0, 0)), (39, (.if_icmp .gt 47, .inl .null, 0, 0, 0, 0)), (42, (.aload_n 0, .inl .null, 0, 0, 0, 0)), (43, (.getfield 10, .inl .null, 4, 0, 0, 0)), (46, (.iload 4, .inl .null, 0, 0, 0, 0)), (48, (.invokevirtual 246, .inl .null, 6, 0, 0, 0)), (51, (.iload_n 1, .inl .null, 0, 0, 0, 0))]),
  (67, [(52, (.if_icmp .ne 7, .inl .null, 0, 0, 0, 0)), (55, (.iconst 1, .inl .null, 0, 0, 0, 0)), (56, (.goto 4, .inl .null, 0, 0, 0, 0)), (59, (.iconst 0, .inl .null, 0, 0, 0, 0)), (60, (.istore 5, .inl .null, 0, 0, 0, 0)), (62, (.iload 5, .inl .null, 0, 0, 0, 0)), (64, (.ifCond .eq 16, .inl .null, 0, 0, 0, 0))]),
  (79, [(67, (.iload_n 3, .inl .null, 0, 0, 0, 0)), (68, (.iconst (-1), .inl .null, 0, 0, 0, 0)), (69, (.if_icmp .eq 8, .inl .null, 0, 0, 0, 0)), (72, (.iload_n 2, .inl .null, 0, 0, 0, 0)), (73, (.iconst 1, .inl .null, 0, 0, 0, 0)), (74, (.if_icmp .ne 6, .inl .null, 0, 0, 0, 0)), (77, (.iload 4, .inl .null, 0, 0, 0, 0))]),
  (101, [(79, (.istore_n 3, .inl .null, 0, 0, 0, 0)), (80, (.iinc 4 1, .inl .null, 0, 0, 0, 0)), (83, (.goto (-53), .inl .null, 0, 0, 0, 0)), (86, (.iload_n 3, .inl .null, 0, 0, 0, 0)), (87, (.iconst (-1), .inl .null, 0, 0, 0, 0)), (88, (.if_icmp .ne 12, .inl .null, 0, 0, 0, 0)), (100, (.iload_n 3, .inl .null, 0, 0, 0, 0))]),
  (100000, [(101, (.ireturn, .inl .null, 0, 0, 0, 0))])]
def zc_X5_guess : zCd := [(13, [(0, (.iload_n 1, .inl .null, 0, 0, 0, 0)), (1, (.i2l, .inl .null, 0, 0, 0, 0)), (2, (.lconst 0, .inl .null, 0, 0, 0, 0)), (3, (.ldc2_w 94, .inl (.long (4)), 0, 0, 0, 0)), (6, (.invokestatic 85, .inl .null, 1, 0, 0, 0)), (9, (.ifCond .eq 13, .inl .null, 0, 0, 0, 0)), (12, (.iload_n 2, .inl .null, 0, 0, 0, 0))]),
  (25, [(13, (.i2l, .inl .null, 0, 0, 0, 0)), (14, (.lconst 0, .inl .null, 0, 0, 0, 0)), (15, (.lconst 1, .inl .null, 0, 0, 0, 0)), (16, (.invokestatic 85, .inl .null, 1, 0, 0, 0)), (19, (.ifCond .ne 10, .inl .null, 0, 0, 0, 0)), (22, (.aload_n 0, .inl .null, 0, 0, 0, 0)), (23, (.bipush (-2), .inl .null, 0, 0, 0, 0))]),
  (35, [(25, (.invokevirtual 98, .inl .null, 3, 0, 0, 0)), (28, (.ireturn, .inl .null, 0, 0, 0, 0)), (29, (.iconst (-1), .inl .null, 0, 0, 0, 0)), (30, (.istore_n 3, .inl .null, 0, 0, 0, 0)), (31, (.iconst (-1), .inl .null, 0, 0, 0, 0)), (32, (.istore 4, .inl .null, 0, 0, 0, 0)), (34, (.iconst 0, .inl .null, 0, 0, 0, 0))]),
  (49, [(35, (.istore 5, .inl .null, 0, 0, 0, 0)), (37, (.iload 5, .inl .null, 0, 0, 0, 0)), (39, (.aload_n 0, .inl .null, 0, 0, 0, 0)), (40, (.getfield 37, .inl .null, 5, 9, 0, 0)), (43, (.if_icmp .gt 35, .inl .null, 0, 0, 0, 0)), (46, (.aload_n 0, .inl .null, 0, 0, 0, 0)), (47, (.iload 5, .inl .null, 0, 0, 0, 0))]),
  (63, [(49, (.invokevirtual 328, .inl .null, 7, 0, 0, 0)), (52, (.iload_n 1, .inl .null, 0, 0, 0, 0)), (53, (.if_icmp .ne 19, .inl .null, 0, 0, 0, 0)), (56, (.iload_n 3, .inl .null, 0, 0, 0, 0)), (57, (.iconst (-1), .inl .null, 0, 0, 0, 0)), (58, (.if_icmp .ne 8, .inl .null, 0, 0, 0, 0)), (61, (.iload 5, .inl .null, 0, 0, 0, 0))]),
  (78, [(63, (.goto 4, .inl .null, 0, 0, 0, 0)), (66, (.iload_n 3, .inl .null, 0, 0, 0, 0)), (67, (.istore_n 3, .inl .null, 0, 0, 0, 0)), (68, (.iload 5, .inl .null, 0, 0, 0, 0)), (70, (.istore 4, .inl .null, 0, 0, 0, 0)), (72, (.iinc 5 1, .inl .null, 0, 0, 0, 0)), (75, (.goto (-38), .inl .null, 0, 0, 0, 0))]),
  (98, [(78, (.iload_n 3, .inl .null, 0, 0, 0, 0)), (79, (.iconst (-1), .inl .null, 0, 0, 0, 0)), (80, (.if_icmp .ne 10, .inl .null, 0, 0, 0, 0)), (90, (.iload_n 2, .inl .null, 0, 0, 0, 0)), (91, (.ifCond .ne 7, .inl .null, 0, 0, 0, 0)), (94, (.iload_n 3, .inl .null, 0, 0, 0, 0)), (95, (.goto 5, .inl .null, 0, 0, 0, 0))]),
  (100000, [(98, (.iload 4, .inl .null, 0, 0, 0, 0)), (100, (.ireturn, .inl .null, 0, 0, 0, 0))])]
def zc_X1_countIn : zCd := [(4, [(0, (.aload_n 0, .inl .null, 0, 0, 0, 0)), (1, (.getfield 33, .inl .null, 1, 7, 0, 0))]),
  (100000, [(4, (.invokestatic 80, .inl .null, 46, 0, 0, 0)), (7, (.ireturn, .inl .null, 0, 0, 0, 0))])]
def zc_J13_bitCount_95d88 : zCd := [(9, [(0, (.lload_n 0, .inl .null, 0, 0, 0, 0)), (1, (.lload_n 0, .inl .null, 0, 0, 0, 0)), (2, (.iconst 1, .inl .null, 0, 0, 0, 0)), (3, (.lushr, .inl .null, 0, 0, 0, 0)), (4, (.ldc2_w 314, .inl (.long (6148914691236517205)), 0, 0, 0, 0)), (7, (.land, .inl .null, 0, 0, 0, 0)), (8, (.lsub, .inl .null, 0, 0, 0, 0))]),
  (18, [(9, (.lstore_n 0, .inl .null, 0, 0, 0, 0)), (10, (.lload_n 0, .inl .null, 0, 0, 0, 0)), (11, (.ldc2_w 316, .inl (.long (3689348814741910323)), 0, 0, 0, 0)), (14, (.land, .inl .null, 0, 0, 0, 0)), (15, (.lload_n 0, .inl .null, 0, 0, 0, 0)), (16, (.iconst 2, .inl .null, 0, 0, 0, 0)), (17, (.lushr, .inl .null, 0, 0, 0, 0))]),
  (27, [(18, (.ldc2_w 316, .inl (.long (3689348814741910323)), 0, 0, 0, 0)), (21, (.land, .inl .null, 0, 0, 0, 0)), (22, (.ladd, .inl .null, 0, 0, 0, 0)), (23, (.lstore_n 0, .inl .null, 0, 0, 0, 0)), (24, (.lload_n 0, .inl .null, 0, 0, 0, 0)), (25, (.lload_n 0, .inl .null, 0, 0, 0, 0)), (26, (.iconst 4, .inl .null, 0, 0, 0, 0))]),
  (36, [(27, (.lushr, .inl .null, 0, 0, 0, 0)), (28, (.ladd, .inl .null, 0, 0, 0, 0)), (29, (.ldc2_w 318, .inl (.long (1085102592571150095)), 0, 0, 0, 0)), (32, (.land, .inl .null, 0, 0, 0, 0)), (33, (.lstore_n 0, .inl .null, 0, 0, 0, 0)), (34, (.lload_n 0, .inl .null, 0, 0, 0, 0)), (35, (.lload_n 0, .inl .null, 0, 0, 0, 0))]),
  (45, [(36, (.bipush 8, .inl .null, 0, 0, 0, 0)), (38, (.lushr, .inl .null, 0, 0, 0, 0)), (39, (.ladd, .inl .null, 0, 0, 0, 0)), (40, (.lstore_n 0, .inl .null, 0, 0, 0, 0)), (41, (.lload_n 0, .inl .null, 0, 0, 0, 0)), (42, (.lload_n 0, .inl .null, 0, 0, 0, 0)), (43, (.bipush 16, .inl .null, 0, 0, 0, 0))]),
  (53, [(45, (.lushr, .inl .null, 0, 0, 0, 0)), (46, (.ladd, .inl .null, 0, 0, 0, 0)), (47, (.lstore_n 0, .inl .null, 0, 0, 0, 0)), (48, (.lload_n 0, .inl .null, 0, 0, 0, 0)), (49, (.lload_n 0, .inl .null, 0, 0, 0, 0)), (50, (.bipush 32, .inl .null, 0, 0, 0, 0)), (52, (.lushr, .inl .null, 0, 0, 0, 0))]),
  (100000, [(53, (.ladd, .inl .null, 0, 0, 0, 0)), (54, (.lstore_n 0, .inl .null, 0, 0, 0, 0)), (55, (.lload_n 0, .inl .null, 0, 0, 0, 0)), (56, (.l2i, .inl .null, 0, 0, 0, 0)), (57, (.bipush 127, .inl .null, 0, 0, 0, 0)), (59, (.iand, .inl .null, 0, 0, 0, 0)), (60, (.ireturn, .inl .null, 0, 0, 0, 0))])]
def zc_X5_noRow : zCd := [(9, [(0, (.iload_n 1, .inl .null, 0, 0, 0, 0)), (1, (.i2l, .inl .null, 0, 0, 0, 0)), (2, (.lconst 0, .inl .null, 0, 0, 0, 0)), (3, (.ldc2_w 92, .inl (.long (7)), 0, 0, 0, 0)), (6, (.invokestatic 85, .inl .null, 1, 0, 0, 0))]),
  (19, [(9, (.ifCond .ne 10, .inl .null, 0, 0, 0, 0)), (12, (.aload_n 0, .inl .null, 0, 0, 0, 0)), (13, (.bipush (-2), .inl .null, 0, 0, 0, 0)), (15, (.invokevirtual 98, .inl .null, 3, 0, 0, 0)), (18, (.ireturn, .inl .null, 0, 0, 0, 0))]),
  (26, [(19, (.aload_n 0, .inl .null, 0, 0, 0, 0)), (20, (.getfield 7, .inl .null, 5, 0, 0, 0)), (23, (.iload_n 1, .inl .null, 0, 0, 0, 0)), (24, (.iaload, .inl .null, 0, 0, 0, 0)), (25, (.iconst 2, .inl .null, 0, 0, 0, 0))]),
  (42, [(26, (.if_icmp .ne 10, .inl .null, 0, 0, 0, 0)), (36, (.aload_n 0, .inl .null, 0, 0, 0, 0)), (37, (.getfield 7, .inl .null, 5, 0, 0, 0)), (40, (.iload_n 1, .inl .null, 0, 0, 0, 0)), (41, (.iaload, .inl .null, 0, 0, 0, 0))]),
  (55, [(42, (.ifCond .ne 12, .inl .null, 0, 0, 0, 0)), (45, (.aload_n 0, .inl .null, 0, 0, 0, 0)), (46, (.bipush (-4), .inl .null, 0, 0, 0, 0)), (48, (.invokevirtual 98, .inl .null, 3, 0, 0, 0)), (51, (.goto 4, .inl .null, 0, 0, 0, 0))]),
  (100000, [(55, (.ireturn, .inl .null, 0, 0, 0, 0))])]
def zc_X5_inside : zCd := [(5, [(0, (.iconst 0, .inl .null, 0, 0, 0, 0)), (1, (.istore_n 1, .inl .null, 0, 0, 0, 0)), (2, (.iconst 1, .inl .null, 0, 0, 0, 0)), (3, (.istore_n 2, .inl .null, 0, 0, 0, 0)), (4, (.iload_n 2, .inl .null, 0, 0, 0, 0))]),
  (14, [(5, (.aload_n 0, .inl .null, 0, 0, 0, 0)), (6, (.getfield 37, .inl .null, 5, 9, 0, 0)), (9, (.if_icmp .gt 20, .inl .null, 0, 0, 0, 0)), (12, (.iload_n 1, .inl .null, 0, 0, 0, 0)), (13, (.iconst 1, .inl .null, 0, 0, 0, 0))]),
  (21, [(14, (.aload_n 0, .inl .null, 0, 0, 0, 0)), (15, (.getfield 53, .inl .null, 5, 16, 0, 0)), (18, (.iload_n 2, .inl .null, 0, 0, 0, 0)), (19, (.iaload, .inl .null, 0, 0, 0, 0)), (20, (.isub, .inl .null, 0, 0, 0, 0))]),
  (30, [(21, (.iadd, .inl .null, 0, 0, 0, 0)), (22, (.istore_n 1, .inl .null, 0, 0, 0, 0)), (23, (.iinc 2 1, .inl .null, 0, 0, 0, 0)), (26, (.goto (-22), .inl .null, 0, 0, 0, 0)), (29, (.iload_n 1, .inl .null, 0, 0, 0, 0))]),
  (100000, [(30, (.ireturn, .inl .null, 0, 0, 0, 0))])]
def zc_X1_putAllIn : zCd := [(3, [(0, (.aload_n 0, .inl .null, 0, 0, 0, 0)), (1, (.lconst 1, .inl .null, 0, 0, 0, 0)), (2, (.aload_n 0, .inl .null, 0, 0, 0, 0))]),
  (8, [(3, (.getfield 9, .inl .null, 1, 0, 0, 0)), (6, (.lshl, .inl .null, 0, 0, 0, 0)), (7, (.lconst 1, .inl .null, 0, 0, 0, 0))]),
  (11, [(8, (.lsub, .inl .null, 0, 0, 0, 0)), (9, (.iconst 1, .inl .null, 0, 0, 0, 0)), (10, (.lshl, .inl .null, 0, 0, 0, 0))]),
  (100000, [(11, (.putfield 33, .inl .null, 1, 7, 1, 0)), (14, (.return_, .inl .null, 0, 0, 0, 0))])]
def zc_X1_putSlips : zCd := [(2, [(0, (.aload_n 0, .inl .null, 0, 0, 0, 0)), (1, (.iload_n 1, .inl .null, 0, 0, 0, 0))]),
  (6, [(2, (.putfield 9, .inl .null, 1, 0, 0, 0)), (5, (.aload_n 0, .inl .null, 0, 0, 0, 0))]),
  (100000, [(6, (.invokevirtual 75, .inl .null, 49, 0, 0, 0)), (9, (.return_, .inl .null, 0, 0, 0, 0))])]
def zc_X5_isThing : zCd := [(3, [(0, (.iload_n 1, .inl .null, 0, 0, 0, 0)), (1, (.i2l, .inl .null, 0, 0, 0, 0)), (2, (.lconst 0, .inl .null, 0, 0, 0, 0))]),
  (8, [(3, (.aload_n 0, .inl .null, 0, 0, 0, 0)), (4, (.getfield 82, .inl .null, 5, 17, 0, 0)), (7, (.iconst 1, .inl .null, 0, 0, 0, 0))]),
  (13, [(8, (.isub, .inl .null, 0, 0, 0, 0)), (9, (.i2l, .inl .null, 0, 0, 0, 0)), (10, (.invokestatic 85, .inl .null, 1, 0, 0, 0))]),
  (100000, [(13, (.ireturn, .inl .null, 0, 0, 0, 0))])]
def zc_X4_wins : zCd := [(8, [(0, (.aload_n 0, .inl .null, 0, 0, 0, 0)), (1, (.getfield 10, .inl .null, 4, 0, 0, 0)), (4, (.iload_n 1, .inl .null, 0, 0, 0, 0)), (5, (.invokevirtual 132, .inl .null, 5, 0, 0, 0))]),
  (17, [(8, (.ifCond .ne 10, .inl .null, 0, 0, 0, 0)), (11, (.aload_n 0, .inl .null, 0, 0, 0, 0)), (12, (.bipush (-2), .inl .null, 0, 0, 0, 0)), (14, (.invokevirtual 59, .inl .null, 2, 0, 0, 0))]),
  (23, [(17, (.ireturn, .inl .null, 0, 0, 0, 0)), (18, (.aload_n 0, .inl .null, 0, 0, 0, 0)), (19, (.getfield 10, .inl .null, 4, 0, 0, 0)), (22, (.iload_n 1, .inl .null, 0, 0, 0, 0))]),
  (40, [(23, (.invokevirtual 206, .inl .null, 32, 0, 0, 0)), (26, (.ifCond .ne 10, .inl .null, 0, 0, 0, 0)), (36, (.aload_n 0, .inl .null, 0, 0, 0, 0)), (37, (.getfield 10, .inl .null, 4, 0, 0, 0))]),
  (100000, [(40, (.iload_n 1, .inl .null, 0, 0, 0, 0)), (41, (.invokevirtual 215, .inl .null, 55, 0, 0, 0)), (44, (.ireturn, .inl .null, 0, 0, 0, 0))])]
def zc_X5_wins : zCd := [(7, [(0, (.iload_n 1, .inl .null, 0, 0, 0, 0)), (1, (.i2l, .inl .null, 0, 0, 0, 0)), (2, (.lconst 1, .inl .null, 0, 0, 0, 0)), (3, (.aload_n 0, .inl .null, 0, 0, 0, 0)), (4, (.getfield 37, .inl .null, 5, 9, 0, 0))]),
  (17, [(7, (.i2l, .inl .null, 0, 0, 0, 0)), (8, (.invokestatic 85, .inl .null, 1, 0, 0, 0)), (11, (.ifCond .ne 10, .inl .null, 0, 0, 0, 0)), (14, (.aload_n 0, .inl .null, 0, 0, 0, 0)), (15, (.bipush (-2), .inl .null, 0, 0, 0, 0))]),
  (26, [(17, (.invokevirtual 98, .inl .null, 3, 0, 0, 0)), (20, (.ireturn, .inl .null, 0, 0, 0, 0)), (21, (.aload_n 0, .inl .null, 0, 0, 0, 0)), (22, (.iload_n 1, .inl .null, 0, 0, 0, 0)), (23, (.invokevirtual 268, .inl .null, 21, 0, 0, 0))]),
  (43, [(26, (.ifCond .eq 11, .inl .null, 0, 0, 0, 0)), (29, (.aload_n 0, .inl .null, 0, 0, 0, 0)), (30, (.iload_n 1, .inl .null, 0, 0, 0, 0)), (31, (.invokevirtual 277, .inl .null, 56, 0, 0, 0)), (34, (.goto 9, .inl .null, 0, 0, 0, 0))]),
  (100000, [(43, (.ireturn, .inl .null, 0, 0, 0, 0))])]
def zc_X1_init : zCd := [(14, [(0, (.aload_n 0, .inl .null, 0, 0, 0, 0)), (1, (.invokespecial 3, .inl .null, 0, 6, 0, 0)), (4, (.aload_n 0, .inl .null, 0, 0, 0, 0)), (5, (.iconst 0, .inl .null, 0, 0, 0, 0)), (6, (.putfield 9, .inl .null, 1, 0, 0, 0)), (9, (.aload_n 0, .inl .null, 0, 0, 0, 0)), (10, (.iconst 5, .inl .null, 0, 0, 0, 0)), (11, (.putfield 15, .inl .null, 1, 1, 0, 0))]),
  (28, [(14, (.aload_n 0, .inl .null, 0, 0, 0, 0)), (15, (.bipush 10, .inl .null, 0, 0, 0, 0)), (17, (.putfield 18, .inl .null, 1, 2, 0, 0)), (20, (.aload_n 0, .inl .null, 0, 0, 0, 0)), (21, (.bipush 40, .inl .null, 0, 0, 0, 0)), (23, (.putfield 21, .inl .null, 1, 3, 0, 0)), (26, (.aload_n 0, .inl .null, 0, 0, 0, 0)), (27, (.iconst 0, .inl .null, 0, 0, 0, 0))]),
  (42, [(28, (.putfield 24, .inl .null, 1, 4, 0, 0)), (31, (.aload_n 0, .inl .null, 0, 0, 0, 0)), (32, (.iconst 0, .inl .null, 0, 0, 0, 0)), (33, (.putfield 27, .inl .null, 1, 5, 0, 0)), (36, (.aload_n 0, .inl .null, 0, 0, 0, 0)), (37, (.iconst 1, .inl .null, 0, 0, 0, 0)), (38, (.putfield 30, .inl .null, 1, 6, 0, 0)), (41, (.aload_n 0, .inl .null, 0, 0, 0, 0))]),
  (56, [(42, (.lconst 0, .inl .null, 0, 0, 0, 0)), (43, (.putfield 33, .inl .null, 1, 7, 1, 0)), (46, (.aload_n 0, .inl .null, 0, 0, 0, 0)), (47, (.iconst 0, .inl .null, 0, 0, 0, 0)), (48, (.putfield 37, .inl .null, 1, 8, 0, 0)), (51, (.aload_n 0, .inl .null, 0, 0, 0, 0)), (52, (.bipush 8, .inl .null, 0, 0, 0, 0)), (54, (.newarray .int, .inl .null, 0, 0, 0, 0))]),
  (72, [(56, (.putfield 40, .inl .null, 1, 9, 2, 0)), (59, (.aload_n 0, .inl .null, 0, 0, 0, 0)), (60, (.bipush 8, .inl .null, 0, 0, 0, 0)), (62, (.newarray .int, .inl .null, 0, 0, 0, 0)), (64, (.putfield 44, .inl .null, 1, 10, 2, 0)), (67, (.aload_n 0, .inl .null, 0, 0, 0, 0)), (68, (.bipush 8, .inl .null, 0, 0, 0, 0)), (70, (.newarray .int, .inl .null, 0, 0, 0, 0))]),
  (88, [(72, (.putfield 47, .inl .null, 1, 11, 2, 0)), (75, (.aload_n 0, .inl .null, 0, 0, 0, 0)), (76, (.bipush 8, .inl .null, 0, 0, 0, 0)), (78, (.newarray .int, .inl .null, 0, 0, 0, 0)), (80, (.putfield 50, .inl .null, 1, 12, 2, 0)), (83, (.aload_n 0, .inl .null, 0, 0, 0, 0)), (84, (.bipush 8, .inl .null, 0, 0, 0, 0)), (86, (.newarray .int, .inl .null, 0, 0, 0, 0))]),
  (103, [(88, (.putfield 53, .inl .null, 1, 13, 2, 0)), (91, (.aload_n 0, .inl .null, 0, 0, 0, 0)), (92, (.iconst 0, .inl .null, 0, 0, 0, 0)), (93, (.putfield 56, .inl .null, 1, 14, 0, 0)), (96, (.aload_n 0, .inl .null, 0, 0, 0, 0)), (97, (.iconst 4, .inl .null, 0, 0, 0, 0)), (98, (.newarray .int, .inl .null, 0, 0, 0, 0)), (100, (.putfield 59, .inl .null, 1, 15, 2, 0))]),
  (100000, [(103, (.aload_n 0, .inl .null, 0, 0, 0, 0)), (104, (.bipush 32, .inl .null, 0, 0, 0, 0)), (106, (.newarray .int, .inl .null, 0, 0, 0, 0)), (108, (.putfield 62, .inl .null, 1, 16, 2, 0)), (111, (.aload_n 0, .inl .null, 0, 0, 0, 0)), (112, (.bipush 20, .inl .null, 0, 0, 0, 0)), (114, (.invokevirtual 65, .inl .null, 50, 0, 0, 0)), (117, (.return_, .inl .null, 0, 0, 0, 0))])]
def zc_X1_wonBySlip : zCd := [(5, [(0, (.aload_n 0, .inl .null, 0, 0, 0, 0)), (1, (.iload_n 1, .inl .null, 0, 0, 0, 0)), (2, (.invokevirtual 90, .inl .null, 19, 0, 0, 0))]),
  (8, [(5, (.istore_n 2, .inl .null, 0, 0, 0, 0)), (6, (.aload_n 0, .inl .null, 0, 0, 0, 0)), (7, (.iload_n 2, .inl .null, 0, 0, 0, 0))]),
  (15, [(8, (.invokevirtual 123, .inl .null, 26, 0, 0, 0)), (11, (.ifCond .ne 5, .inl .null, 0, 0, 0, 0)), (14, (.iconst 0, .inl .null, 0, 0, 0, 0))]),
  (100000, [(15, (.ireturn, .inl .null, 0, 0, 0, 0))])]
def zc_X5_winsBy : zCd := [(5, [(0, (.aload_n 0, .inl .null, 0, 0, 0, 0)), (1, (.iload_n 1, .inl .null, 0, 0, 0, 0)), (2, (.invokevirtual 152, .inl .null, 14, 0, 0, 0))]),
  (8, [(5, (.istore_n 2, .inl .null, 0, 0, 0, 0)), (6, (.iload_n 2, .inl .null, 0, 0, 0, 0)), (7, (.iconst (-1), .inl .null, 0, 0, 0, 0))]),
  (34, [(8, (.if_icmp .eq 13, .inl .null, 0, 0, 0, 0)), (21, (.iconst 0, .inl .null, 0, 0, 0, 0)), (22, (.goto 12, .inl .null, 0, 0, 0, 0))]),
  (100000, [(34, (.ireturn, .inl .null, 0, 0, 0, 0))])]
def zc_X1_takingsAt : zCd := [(10, [(0, (.iload_n 1, .inl .null, 0, 0, 0, 0)), (1, (.ifCond .gt 5, .inl .null, 0, 0, 0, 0)), (6, (.aload_n 0, .inl .null, 0, 0, 0, 0)), (7, (.invokevirtual 117, .inl .null, 45, 0, 0, 0))]),
  (14, [(10, (.istore_n 2, .inl .null, 0, 0, 0, 0)), (11, (.iconst 0, .inl .null, 0, 0, 0, 0)), (12, (.istore_n 3, .inl .null, 0, 0, 0, 0)), (13, (.iconst 0, .inl .null, 0, 0, 0, 0))]),
  (22, [(14, (.istore 4, .inl .null, 0, 0, 0, 0)), (16, (.iload 4, .inl .null, 0, 0, 0, 0)), (18, (.aload_n 0, .inl .null, 0, 0, 0, 0)), (19, (.getfield 56, .inl .null, 1, 14, 0, 0))]),
  (66, [(22, (.if_icmp .ge 41, .inl .null, 0, 0, 0, 0)), (63, (.iload_n 3, .inl .null, 0, 0, 0, 0)), (64, (.iload_n 1, .inl .null, 0, 0, 0, 0)), (65, (.imul, .inl .null, 0, 0, 0, 0))]),
  (100000, [(66, (.ireturn, .inl .null, 0, 0, 0, 0))])]
def zc_X5_takingsAt : zCd := [(6, [(0, (.aload_n 0, .inl .null, 0, 0, 0, 0)), (1, (.invokevirtual 130, .inl .null, 48, 0, 0, 0)), (4, (.istore_n 2, .inl .null, 0, 0, 0, 0)), (5, (.iconst 0, .inl .null, 0, 0, 0, 0))]),
  (12, [(6, (.istore_n 3, .inl .null, 0, 0, 0, 0)), (7, (.iconst 0, .inl .null, 0, 0, 0, 0)), (8, (.istore 4, .inl .null, 0, 0, 0, 0)), (10, (.iload 4, .inl .null, 0, 0, 0, 0))]),
  (80, [(12, (.aload_n 0, .inl .null, 0, 0, 0, 0)), (13, (.getfield 89, .inl .null, 5, 23, 0, 0)), (16, (.if_icmp .ge 63, .inl .null, 0, 0, 0, 0)), (79, (.iload_n 3, .inl .null, 0, 0, 0, 0))]),
  (100000, [(80, (.ireturn, .inl .null, 0, 0, 0, 0))])]
def zc_X4_status : zCd := [(76, [(0, (.iload_n 1, .inl .null, 0, 0, 0, 0)), (1, (.tableswitch 156 0 11 #[63, 71, 79, 87, 95, 103, 111, 119, 127, 135, 143, 148], .inl .null, 0, 0, 0, 0)), (64, (.aload_n 0, .inl .null, 0, 0, 0, 0)), (65, (.getfield 10, .inl .null, 4, 0, 0, 0)), (68, (.getfield 116, .inl .null, 1, 0, 0, 0)), (71, (.ireturn, .inl .null, 0, 0, 0, 0)), (72, (.aload_n 0, .inl .null, 0, 0, 0, 0)), (73, (.getfield 10, .inl .null, 4, 0, 0, 0))]),
  (92, [(76, (.getfield 123, .inl .null, 1, 1, 0, 0)), (79, (.ireturn, .inl .null, 0, 0, 0, 0)), (80, (.aload_n 0, .inl .null, 0, 0, 0, 0)), (81, (.getfield 10, .inl .null, 4, 0, 0, 0)), (84, (.invokevirtual 228, .inl .null, 45, 0, 0, 0)), (87, (.ireturn, .inl .null, 0, 0, 0, 0)), (88, (.aload_n 0, .inl .null, 0, 0, 0, 0)), (89, (.getfield 10, .inl .null, 4, 0, 0, 0))]),
  (108, [(92, (.getfield 284, .inl .null, 1, 4, 0, 0)), (95, (.ireturn, .inl .null, 0, 0, 0, 0)), (96, (.aload_n 0, .inl .null, 0, 0, 0, 0)), (97, (.getfield 10, .inl .null, 4, 0, 0, 0)), (100, (.getfield 113, .inl .null, 1, 8, 0, 0)), (103, (.ireturn, .inl .null, 0, 0, 0, 0)), (104, (.aload_n 0, .inl .null, 0, 0, 0, 0)), (105, (.getfield 10, .inl .null, 4, 0, 0, 0))]),
  (124, [(108, (.invokevirtual 196, .inl .null, 88, 0, 0, 0)), (111, (.ireturn, .inl .null, 0, 0, 0, 0)), (112, (.aload_n 0, .inl .null, 0, 0, 0, 0)), (113, (.getfield 10, .inl .null, 4, 0, 0, 0)), (116, (.getfield 145, .inl .null, 1, 14, 0, 0)), (119, (.ireturn, .inl .null, 0, 0, 0, 0)), (120, (.aload_n 0, .inl .null, 0, 0, 0, 0)), (121, (.getfield 10, .inl .null, 4, 0, 0, 0))]),
  (140, [(124, (.getfield 287, .inl .null, 1, 5, 0, 0)), (127, (.ireturn, .inl .null, 0, 0, 0, 0)), (128, (.aload_n 0, .inl .null, 0, 0, 0, 0)), (129, (.getfield 32, .inl .null, 4, 4, 0, 0)), (132, (.getfield 164, .inl .null, 2, 1, 0, 0)), (135, (.ireturn, .inl .null, 0, 0, 0, 0)), (136, (.aload_n 0, .inl .null, 0, 0, 0, 0)), (137, (.getfield 10, .inl .null, 4, 0, 0, 0))]),
  (156, [(140, (.getfield 281, .inl .null, 1, 6, 0, 0)), (143, (.ireturn, .inl .null, 0, 0, 0, 0)), (144, (.aload_n 0, .inl .null, 0, 0, 0, 0)), (145, (.invokevirtual 290, .inl .null, 178, 0, 0, 0)), (148, (.ireturn, .inl .null, 0, 0, 0, 0)), (149, (.aload_n 0, .inl .null, 0, 0, 0, 0)), (150, (.getfield 10, .inl .null, 4, 0, 0, 0)), (153, (.invokevirtual 212, .inl .null, 115, 0, 0, 0))]),
  (172, [(156, (.ireturn, .inl .null, 0, 0, 0, 0)), (157, (.iload_n 1, .inl .null, 0, 0, 0, 0)), (158, (.bipush 12, .inl .null, 0, 0, 0, 0)), (160, (.bipush 16, .inl .null, 0, 0, 0, 0)), (162, (.invokestatic 55, .inl .null, 0, 0, 0, 0)), (165, (.ifCond .eq 15, .inl .null, 0, 0, 0, 0)), (168, (.aload_n 0, .inl .null, 0, 0, 0, 0)), (169, (.getfield 42, .inl .null, 4, 6, 0, 0))]),
  (100000, [(172, (.iload_n 1, .inl .null, 0, 0, 0, 0)), (173, (.bipush 12, .inl .null, 0, 0, 0, 0)), (175, (.isub, .inl .null, 0, 0, 0, 0)), (176, (.iaload, .inl .null, 0, 0, 0, 0)), (177, (.goto 4, .inl .null, 0, 0, 0, 0)), (180, (.iconst (-1), .inl .null, 0, 0, 0, 0)), (181, (.ireturn, .inl .null, 0, 0, 0, 0))])]
def zc_X5_status : zCd := [(70, [(0, (.iconst 0, .inl .null, 0, 0, 0, 0)), (1, (.istore_n 2, .inl .null, 0, 0, 0, 0)), (2, (.iload_n 1, .inl .null, 0, 0, 0, 0)), (3, (.tableswitch 149 0 11 #[61, 66, 71, 76, 81, 86, 91, 96, 101, 106, 111, 144], .inl .null, 0, 0, 0, 0)), (64, (.aload_n 0, .inl .null, 0, 0, 0, 0)), (65, (.getfield 37, .inl .null, 5, 9, 0, 0)), (68, (.ireturn, .inl .null, 0, 0, 0, 0)), (69, (.aload_n 0, .inl .null, 0, 0, 0, 0))]),
  (84, [(70, (.getfield 41, .inl .null, 5, 10, 0, 0)), (73, (.ireturn, .inl .null, 0, 0, 0, 0)), (74, (.aload_n 0, .inl .null, 0, 0, 0, 0)), (75, (.invokevirtual 130, .inl .null, 48, 0, 0, 0)), (78, (.ireturn, .inl .null, 0, 0, 0, 0)), (79, (.aload_n 0, .inl .null, 0, 0, 0, 0)), (80, (.getfield 127, .inl .null, 5, 13, 0, 0)), (83, (.ireturn, .inl .null, 0, 0, 0, 0))]),
  (98, [(84, (.aload_n 0, .inl .null, 0, 0, 0, 0)), (85, (.getfield 82, .inl .null, 5, 17, 0, 0)), (88, (.ireturn, .inl .null, 0, 0, 0, 0)), (89, (.aload_n 0, .inl .null, 0, 0, 0, 0)), (90, (.invokevirtual 119, .inl .null, 177, 0, 0, 0)), (93, (.ireturn, .inl .null, 0, 0, 0, 0)), (94, (.aload_n 0, .inl .null, 0, 0, 0, 0)), (95, (.getfield 89, .inl .null, 5, 23, 0, 0))]),
  (110, [(98, (.ireturn, .inl .null, 0, 0, 0, 0)), (99, (.aload_n 0, .inl .null, 0, 0, 0, 0)), (100, (.getfield 350, .inl .null, 5, 14, 0, 0)), (103, (.ireturn, .inl .null, 0, 0, 0, 0)), (104, (.aload_n 0, .inl .null, 0, 0, 0, 0)), (105, (.getfield 171, .inl .null, 5, 7, 0, 0)), (108, (.ireturn, .inl .null, 0, 0, 0, 0)), (109, (.aload_n 0, .inl .null, 0, 0, 0, 0))]),
  (123, [(110, (.getfield 50, .inl .null, 5, 15, 0, 0)), (113, (.ireturn, .inl .null, 0, 0, 0, 0)), (114, (.iconst 0, .inl .null, 0, 0, 0, 0)), (115, (.istore_n 3, .inl .null, 0, 0, 0, 0)), (116, (.iload_n 3, .inl .null, 0, 0, 0, 0)), (117, (.bipush 8, .inl .null, 0, 0, 0, 0)), (119, (.if_icmp .ge 26, .inl .null, 0, 0, 0, 0)), (122, (.iload_n 2, .inl .null, 0, 0, 0, 0))]),
  (139, [(123, (.aload_n 0, .inl .null, 0, 0, 0, 0)), (124, (.getfield 7, .inl .null, 5, 0, 0, 0)), (127, (.iload_n 3, .inl .null, 0, 0, 0, 0)), (128, (.iaload, .inl .null, 0, 0, 0, 0)), (129, (.ifCond .eq 7, .inl .null, 0, 0, 0, 0)), (136, (.iconst 0, .inl .null, 0, 0, 0, 0)), (137, (.iadd, .inl .null, 0, 0, 0, 0)), (138, (.istore_n 2, .inl .null, 0, 0, 0, 0))]),
  (153, [(139, (.iinc 3 1, .inl .null, 0, 0, 0, 0)), (142, (.goto (-26), .inl .null, 0, 0, 0, 0)), (145, (.iload_n 2, .inl .null, 0, 0, 0, 0)), (146, (.ireturn, .inl .null, 0, 0, 0, 0)), (147, (.aload_n 0, .inl .null, 0, 0, 0, 0)), (148, (.invokevirtual 271, .inl .null, 117, 0, 0, 0)), (151, (.ireturn, .inl .null, 0, 0, 0, 0)), (152, (.iload_n 1, .inl .null, 0, 0, 0, 0))]),
  (171, [(153, (.i2l, .inl .null, 0, 0, 0, 0)), (154, (.ldc2_w 379, .inl (.long (12)), 0, 0, 0, 0)), (157, (.ldc2_w 381, .inl (.long (16)), 0, 0, 0, 0)), (160, (.invokestatic 85, .inl .null, 1, 0, 0, 0)), (163, (.ifCond .eq 15, .inl .null, 0, 0, 0, 0)), (166, (.aload_n 0, .inl .null, 0, 0, 0, 0)), (167, (.getfield 34, .inl .null, 5, 8, 0, 0)), (170, (.iload_n 1, .inl .null, 0, 0, 0, 0))]),
  (100000, [(171, (.bipush 10, .inl .null, 0, 0, 0, 0)), (173, (.isub, .inl .null, 0, 0, 0, 0)), (174, (.iaload, .inl .null, 0, 0, 0, 0)), (175, (.goto 4, .inl .null, 0, 0, 0, 0)), (178, (.iconst (-1), .inl .null, 0, 0, 0, 0)), (179, (.ireturn, .inl .null, 0, 0, 0, 0))])]
def zc_X4_booked : zCd := [(5, [(0, (.aload_n 0, .inl .null, 0, 0, 0, 0)), (1, (.getfield 10, .inl .null, 4, 0, 0, 0)), (4, (.iload_n 3, .inl .null, 0, 0, 0, 0))]),
  (12, [(5, (.invokevirtual 151, .inl .null, 30, 0, 0, 0)), (8, (.ifCond .ne 10, .inl .null, 0, 0, 0, 0)), (11, (.aload_n 0, .inl .null, 0, 0, 0, 0))]),
  (100000, [(12, (.bipush (-2), .inl .null, 0, 0, 0, 0)), (14, (.invokevirtual 59, .inl .null, 2, 0, 0, 0)), (17, (.ireturn, .inl .null, 0, 0, 0, 0))])]
def zc_X5_booked : zCd := [(6, [(0, (.iload_n 1, .inl .null, 0, 0, 0, 0)), (1, (.i2l, .inl .null, 0, 0, 0, 0)), (2, (.lconst 0, .inl .null, 0, 0, 0, 0)), (3, (.ldc2_w 92, .inl (.long (7)), 0, 0, 0, 0))]),
  (14, [(6, (.invokestatic 85, .inl .null, 1, 0, 0, 0)), (9, (.ifCond .eq 23, .inl .null, 0, 0, 0, 0)), (12, (.iload_n 2, .inl .null, 0, 0, 0, 0)), (13, (.i2l, .inl .null, 0, 0, 0, 0))]),
  (24, [(14, (.lconst 0, .inl .null, 0, 0, 0, 0)), (15, (.ldc2_w 96, .inl (.long (40)), 0, 0, 0, 0)), (18, (.invokestatic 85, .inl .null, 1, 0, 0, 0)), (21, (.ifCond .eq 11, .inl .null, 0, 0, 0, 0))]),
  (32, [(24, (.aload_n 0, .inl .null, 0, 0, 0, 0)), (25, (.iload_n 3, .inl .null, 0, 0, 0, 0)), (26, (.invokevirtual 164, .inl .null, 42, 0, 0, 0)), (29, (.ifCond .ne 10, .inl .null, 0, 0, 0, 0))]),
  (100000, [(32, (.aload_n 0, .inl .null, 0, 0, 0, 0)), (33, (.bipush (-2), .inl .null, 0, 0, 0, 0)), (35, (.invokevirtual 98, .inl .null, 3, 0, 0, 0)), (38, (.ireturn, .inl .null, 0, 0, 0, 0))])]
def zc_X4_price : zCd := [(11, [(0, (.iload_n 1, .inl .null, 0, 0, 0, 0)), (1, (.ifCond .ne 31, .inl .null, 0, 0, 0, 0)), (4, (.iload_n 2, .inl .null, 0, 0, 0, 0)), (5, (.iconst 1, .inl .null, 0, 0, 0, 0)), (6, (.bipush 99, .inl .null, 0, 0, 0, 0)), (8, (.invokestatic 55, .inl .null, 0, 0, 0, 0))]),
  (23, [(11, (.ifCond .eq 21, .inl .null, 0, 0, 0, 0)), (14, (.aload_n 0, .inl .null, 0, 0, 0, 0)), (15, (.getfield 10, .inl .null, 4, 0, 0, 0)), (18, (.getfield 126, .inl .null, 1, 2, 0, 0)), (21, (.istore_n 3, .inl .null, 0, 0, 0, 0)), (22, (.aload_n 0, .inl .null, 0, 0, 0, 0))]),
  (33, [(23, (.getfield 10, .inl .null, 4, 0, 0, 0)), (26, (.iload_n 2, .inl .null, 0, 0, 0, 0)), (27, (.putfield 126, .inl .null, 1, 2, 0, 0)), (30, (.iload_n 3, .inl .null, 0, 0, 0, 0)), (31, (.ireturn, .inl .null, 0, 0, 0, 0)), (32, (.iload_n 1, .inl .null, 0, 0, 0, 0))]),
  (45, [(33, (.iconst 1, .inl .null, 0, 0, 0, 0)), (34, (.if_icmp .ne 32, .inl .null, 0, 0, 0, 0)), (37, (.iload_n 2, .inl .null, 0, 0, 0, 0)), (38, (.iconst 1, .inl .null, 0, 0, 0, 0)), (39, (.sipush 495, .inl .null, 0, 0, 0, 0)), (42, (.invokestatic 55, .inl .null, 0, 0, 0, 0))]),
  (57, [(45, (.ifCond .eq 21, .inl .null, 0, 0, 0, 0)), (48, (.aload_n 0, .inl .null, 0, 0, 0, 0)), (49, (.getfield 10, .inl .null, 4, 0, 0, 0)), (52, (.getfield 129, .inl .null, 1, 3, 0, 0)), (55, (.istore_n 3, .inl .null, 0, 0, 0, 0)), (56, (.aload_n 0, .inl .null, 0, 0, 0, 0))]),
  (67, [(57, (.getfield 10, .inl .null, 4, 0, 0, 0)), (60, (.iload_n 2, .inl .null, 0, 0, 0, 0)), (61, (.putfield 129, .inl .null, 1, 3, 0, 0)), (64, (.iload_n 3, .inl .null, 0, 0, 0, 0)), (65, (.ireturn, .inl .null, 0, 0, 0, 0)), (66, (.aload_n 0, .inl .null, 0, 0, 0, 0))]),
  (100000, [(67, (.bipush (-2), .inl .null, 0, 0, 0, 0)), (69, (.invokevirtual 59, .inl .null, 2, 0, 0, 0)), (72, (.ireturn, .inl .null, 0, 0, 0, 0))])]
def zc_X5_price : zCd := [(11, [(0, (.iload_n 1, .inl .null, 0, 0, 0, 0)), (1, (.i2l, .inl .null, 0, 0, 0, 0)), (2, (.lconst 0, .inl .null, 0, 0, 0, 0)), (3, (.lconst 1, .inl .null, 0, 0, 0, 0)), (4, (.invokestatic 85, .inl .null, 1, 0, 0, 0)), (7, (.ifCond .eq 25, .inl .null, 0, 0, 0, 0)), (10, (.iload_n 2, .inl .null, 0, 0, 0, 0))]),
  (26, [(11, (.i2l, .inl .null, 0, 0, 0, 0)), (12, (.lconst 1, .inl .null, 0, 0, 0, 0)), (13, (.iload_n 1, .inl .null, 0, 0, 0, 0)), (14, (.ifCond .ne 9, .inl .null, 0, 0, 0, 0)), (17, (.ldc2_w 143, .inl (.long (99)), 0, 0, 0, 0)), (20, (.goto 6, .inl .null, 0, 0, 0, 0)), (23, (.ldc2_w 145, .inl (.long (495)), 0, 0, 0, 0))]),
  (40, [(26, (.invokestatic 85, .inl .null, 1, 0, 0, 0)), (29, (.ifCond .ne 10, .inl .null, 0, 0, 0, 0)), (32, (.aload_n 0, .inl .null, 0, 0, 0, 0)), (33, (.bipush (-2), .inl .null, 0, 0, 0, 0)), (35, (.invokevirtual 98, .inl .null, 3, 0, 0, 0)), (38, (.ireturn, .inl .null, 0, 0, 0, 0)), (39, (.iload_n 1, .inl .null, 0, 0, 0, 0))]),
  (55, [(40, (.ifCond .ne 10, .inl .null, 0, 0, 0, 0)), (43, (.aload_n 0, .inl .null, 0, 0, 0, 0)), (44, (.getfield 44, .inl .null, 5, 11, 0, 0)), (47, (.goto 7, .inl .null, 0, 0, 0, 0)), (50, (.aload_n 0, .inl .null, 0, 0, 0, 0)), (51, (.getfield 47, .inl .null, 5, 12, 0, 0)), (54, (.istore_n 3, .inl .null, 0, 0, 0, 0))]),
  (68, [(55, (.aload_n 0, .inl .null, 0, 0, 0, 0)), (56, (.iload_n 1, .inl .null, 0, 0, 0, 0)), (57, (.ifCond .ne 7, .inl .null, 0, 0, 0, 0)), (60, (.iload_n 2, .inl .null, 0, 0, 0, 0)), (61, (.goto 7, .inl .null, 0, 0, 0, 0)), (64, (.aload_n 0, .inl .null, 0, 0, 0, 0)), (65, (.getfield 44, .inl .null, 5, 11, 0, 0))]),
  (83, [(68, (.putfield 44, .inl .null, 5, 11, 0, 0)), (71, (.aload_n 0, .inl .null, 0, 0, 0, 0)), (72, (.iload_n 1, .inl .null, 0, 0, 0, 0)), (73, (.ifCond .ne 10, .inl .null, 0, 0, 0, 0)), (76, (.aload_n 0, .inl .null, 0, 0, 0, 0)), (77, (.getfield 47, .inl .null, 5, 12, 0, 0)), (80, (.goto 4, .inl .null, 0, 0, 0, 0))]),
  (100000, [(83, (.iload_n 2, .inl .null, 0, 0, 0, 0)), (84, (.putfield 47, .inl .null, 5, 12, 0, 0)), (87, (.iload_n 3, .inl .null, 0, 0, 0, 0)), (88, (.ireturn, .inl .null, 0, 0, 0, 0))])]
def zc_X5_suspected : zCd := [(5, [(0, (.ldc_w 331, .inl (.int (1000000)), 0, 0, 0, 0)), (3, (.iload_n 0, .inl .null, 0, 0, 0, 0)), (4, (.imul, .inl .null, 0, 0, 0, 0))]),
  (8, [(5, (.iconst 2, .inl .null, 0, 0, 0, 0)), (6, (.iload_n 0, .inl .null, 0, 0, 0, 0)), (7, (.imul, .inl .null, 0, 0, 0, 0))]),
  (11, [(8, (.iload_n 1, .inl .null, 0, 0, 0, 0)), (9, (.isub, .inl .null, 0, 0, 0, 0)), (10, (.idiv, .inl .null, 0, 0, 0, 0))]),
  (100000, [(11, (.ireturn, .inl .null, 0, 0, 0, 0))])]
def zc_X4_sureness : zCd := [(4, [(0, (.iconst 2, .inl .null, 0, 0, 0, 0)), (1, (.iload_n 0, .inl .null, 0, 0, 0, 0)), (2, (.imul, .inl .null, 0, 0, 0, 0)), (3, (.iload_n 1, .inl .null, 0, 0, 0, 0))]),
  (14, [(4, (.isub, .inl .null, 0, 0, 0, 0)), (5, (.istore_n 2, .inl .null, 0, 0, 0, 0)), (6, (.iload_n 2, .inl .null, 0, 0, 0, 0)), (7, (.ifCond .gt 7, .inl .null, 0, 0, 0, 0))]),
  (19, [(14, (.ldc 252, .inl (.int (1000000)), 0, 0, 0, 0)), (16, (.iload_n 0, .inl .null, 0, 0, 0, 0)), (17, (.imul, .inl .null, 0, 0, 0, 0)), (18, (.iload_n 2, .inl .null, 0, 0, 0, 0))]),
  (100000, [(19, (.idiv, .inl .null, 0, 0, 0, 0)), (20, (.ireturn, .inl .null, 0, 0, 0, 0))])]
def zc_X4_set : zCd := [(10, [(0, (.iload_n 1, .inl .null, 0, 0, 0, 0)), (1, (.invokestatic 51, .inl .null, 4, 0, 0, 0)), (4, (.ifCond .ne 10, .inl .null, 0, 0, 0, 0)), (7, (.aload_n 0, .inl .null, 0, 0, 0, 0)), (8, (.bipush (-2), .inl .null, 0, 0, 0, 0))]),
  (19, [(10, (.invokevirtual 59, .inl .null, 2, 0, 0, 0)), (13, (.ireturn, .inl .null, 0, 0, 0, 0)), (14, (.aload_n 0, .inl .null, 0, 0, 0, 0)), (15, (.getfield 38, .inl .null, 4, 5, 0, 0)), (18, (.iload_n 1, .inl .null, 0, 0, 0, 0))]),
  (29, [(19, (.aaload, .inl .null, 0, 0, 0, 0)), (20, (.astore 5, .inl .null, 0, 0, 0, 0)), (22, (.aload 5, .inl .null, 0, 0, 0, 0)), (24, (.invokevirtual 67, .inl .null, 11, 0, 0, 0)), (27, (.istore 6, .inl .null, 0, 0, 0, 0))]),
  (40, [(29, (.iload 6, .inl .null, 0, 0, 0, 0)), (31, (.ifCond .eq 10, .inl .null, 0, 0, 0, 0)), (34, (.aload_n 0, .inl .null, 0, 0, 0, 0)), (35, (.iload 6, .inl .null, 0, 0, 0, 0)), (37, (.invokevirtual 59, .inl .null, 2, 0, 0, 0))]),
  (100000, [(40, (.ireturn, .inl .null, 0, 0, 0, 0))])]
def zc_X5_set : zCd := [(5, [(0, (.aload_n 0, .inl .null, 0, 0, 0, 0)), (1, (.iload_n 1, .inl .null, 0, 0, 0, 0)), (2, (.invokevirtual 102, .inl .null, 47, 0, 0, 0))]),
  (12, [(5, (.istore 5, .inl .null, 0, 0, 0, 0)), (7, (.iload 5, .inl .null, 0, 0, 0, 0)), (9, (.ifCond .eq 6, .inl .null, 0, 0, 0, 0))]),
  (100000, [(12, (.iload 5, .inl .null, 0, 0, 0, 0)), (14, (.ireturn, .inl .null, 0, 0, 0, 0))])]
def zc_X4_element : zCd := [(7, [(0, (.iload_n 1, .inl .null, 0, 0, 0, 0)), (1, (.invokestatic 51, .inl .null, 4, 0, 0, 0)), (4, (.ifCond .eq 16, .inl .null, 0, 0, 0, 0))]),
  (12, [(7, (.aload_n 0, .inl .null, 0, 0, 0, 0)), (8, (.getfield 38, .inl .null, 4, 5, 0, 0)), (11, (.iload_n 1, .inl .null, 0, 0, 0, 0))]),
  (17, [(12, (.aaload, .inl .null, 0, 0, 0, 0)), (13, (.iload_n 2, .inl .null, 0, 0, 0, 0)), (14, (.invokevirtual 71, .inl .null, 75, 0, 0, 0))]),
  (100000, [(17, (.ifCond .ne 5, .inl .null, 0, 0, 0, 0)), (20, (.lconst 0, .inl .null, 0, 0, 0, 0)), (21, (.lreturn, .inl .null, 0, 0, 0, 0))])]
def zc_X5_element : zCd := [(6, [(0, (.iload_n 1, .inl .null, 0, 0, 0, 0)), (1, (.i2l, .inl .null, 0, 0, 0, 0)), (2, (.lconst 0, .inl .null, 0, 0, 0, 0)), (3, (.ldc2_w 92, .inl (.long (7)), 0, 0, 0, 0))]),
  (16, [(6, (.invokestatic 85, .inl .null, 1, 0, 0, 0)), (9, (.ifCond .eq 42, .inl .null, 0, 0, 0, 0)), (12, (.aload_n 0, .inl .null, 0, 0, 0, 0)), (13, (.getfield 7, .inl .null, 5, 0, 0, 0))]),
  (51, [(16, (.iload_n 1, .inl .null, 0, 0, 0, 0)), (17, (.iaload, .inl .null, 0, 0, 0, 0)), (18, (.iconst 1, .inl .null, 0, 0, 0, 0)), (19, (.if_icmp .ne 32, .inl .null, 0, 0, 0, 0))]),
  (100000, [(51, (.lconst 0, .inl .null, 0, 0, 0, 0)), (52, (.lreturn, .inl .null, 0, 0, 0, 0))])]
def zc_X4_holds : zCd := [(7, [(0, (.iload_n 1, .inl .null, 0, 0, 0, 0)), (1, (.invokestatic 51, .inl .null, 4, 0, 0, 0)), (4, (.ifCond .eq 15, .inl .null, 0, 0, 0, 0))]),
  (12, [(7, (.aload_n 0, .inl .null, 0, 0, 0, 0)), (8, (.getfield 38, .inl .null, 4, 5, 0, 0)), (11, (.iload_n 1, .inl .null, 0, 0, 0, 0))]),
  (19, [(12, (.aaload, .inl .null, 0, 0, 0, 0)), (13, (.getfield 96, .inl .null, 0, 0, 0, 0)), (16, (.goto 4, .inl .null, 0, 0, 0, 0))]),
  (100000, [(19, (.iconst (-1), .inl .null, 0, 0, 0, 0)), (20, (.ireturn, .inl .null, 0, 0, 0, 0))])]
def zc_X5_holds : zCd := [(6, [(0, (.iload_n 1, .inl .null, 0, 0, 0, 0)), (1, (.i2l, .inl .null, 0, 0, 0, 0)), (2, (.lconst 0, .inl .null, 0, 0, 0, 0)), (3, (.ldc2_w 92, .inl (.long (7)), 0, 0, 0, 0))]),
  (16, [(6, (.invokestatic 85, .inl .null, 1, 0, 0, 0)), (9, (.ifCond .eq 12, .inl .null, 0, 0, 0, 0)), (12, (.aload_n 0, .inl .null, 0, 0, 0, 0)), (13, (.getfield 7, .inl .null, 5, 0, 0, 0))]),
  (22, [(16, (.iload_n 1, .inl .null, 0, 0, 0, 0)), (17, (.iaload, .inl .null, 0, 0, 0, 0)), (18, (.ifCond .ne 5, .inl .null, 0, 0, 0, 0)), (21, (.iconst (-1), .inl .null, 0, 0, 0, 0))]),
  (100000, [(22, (.ireturn, .inl .null, 0, 0, 0, 0))])]
def zc_X5_init : zCd := [(17, [(0, (.aload_n 0, .inl .null, 0, 0, 0, 0)), (1, (.invokespecial 1, .inl .null, 0, 6, 0, 0)), (4, (.aload_n 0, .inl .null, 0, 0, 0, 0)), (5, (.bipush 8, .inl .null, 0, 0, 0, 0)), (7, (.newarray .int, .inl .null, 0, 0, 0, 0)), (9, (.putfield 7, .inl .null, 5, 0, 2, 0)), (12, (.aload_n 0, .inl .null, 0, 0, 0, 0)), (13, (.bipush 8, .inl .null, 0, 0, 0, 0)), (15, (.newarray .int, .inl .null, 0, 0, 0, 0))]),
  (37, [(17, (.putfield 13, .inl .null, 5, 1, 2, 0)), (20, (.aload_n 0, .inl .null, 0, 0, 0, 0)), (21, (.bipush 8, .inl .null, 0, 0, 0, 0)), (23, (.newarray .int, .inl .null, 0, 0, 0, 0)), (25, (.putfield 16, .inl .null, 5, 2, 2, 0)), (28, (.aload_n 0, .inl .null, 0, 0, 0, 0)), (29, (.bipush 8, .inl .null, 0, 0, 0, 0)), (31, (.bipush 40, .inl .null, 0, 0, 0, 0)), (33, (.multianewarray 19 2, .inl .null, 1, 0, 0, 0))]),
  (56, [(37, (.putfield 21, .inl .null, 5, 3, 2, 0)), (40, (.aload_n 0, .inl .null, 0, 0, 0, 0)), (41, (.bipush 40, .inl .null, 0, 0, 0, 0)), (43, (.newarray .long, .inl .null, 0, 0, 0, 0)), (45, (.putfield 24, .inl .null, 5, 4, 2, 0)), (48, (.aload_n 0, .inl .null, 0, 0, 0, 0)), (49, (.bipush 8, .inl .null, 0, 0, 0, 0)), (51, (.newarray .int, .inl .null, 0, 0, 0, 0)), (53, (.putfield 28, .inl .null, 5, 5, 2, 0))]),
  (74, [(56, (.aload_n 0, .inl .null, 0, 0, 0, 0)), (57, (.sipush 250, .inl .null, 0, 0, 0, 0)), (60, (.newarray .int, .inl .null, 0, 0, 0, 0)), (62, (.putfield 31, .inl .null, 5, 6, 2, 0)), (65, (.aload_n 0, .inl .null, 0, 0, 0, 0)), (66, (.bipush 8, .inl .null, 0, 0, 0, 0)), (68, (.newarray .int, .inl .null, 0, 0, 0, 0)), (70, (.putfield 34, .inl .null, 5, 8, 2, 0)), (73, (.aload_n 0, .inl .null, 0, 0, 0, 0))]),
  (91, [(74, (.bipush 20, .inl .null, 0, 0, 0, 0)), (76, (.putfield 37, .inl .null, 5, 9, 0, 0)), (79, (.aload_n 0, .inl .null, 0, 0, 0, 0)), (80, (.iconst 5, .inl .null, 0, 0, 0, 0)), (81, (.putfield 41, .inl .null, 5, 10, 0, 0)), (84, (.aload_n 0, .inl .null, 0, 0, 0, 0)), (85, (.bipush 10, .inl .null, 0, 0, 0, 0)), (87, (.putfield 44, .inl .null, 5, 11, 0, 0)), (90, (.aload_n 0, .inl .null, 0, 0, 0, 0))]),
  (109, [(91, (.bipush 40, .inl .null, 0, 0, 0, 0)), (93, (.putfield 47, .inl .null, 5, 12, 0, 0)), (96, (.aload_n 0, .inl .null, 0, 0, 0, 0)), (97, (.iconst 1, .inl .null, 0, 0, 0, 0)), (98, (.putfield 50, .inl .null, 5, 15, 0, 0)), (101, (.aload_n 0, .inl .null, 0, 0, 0, 0)), (102, (.bipush 61, .inl .null, 0, 0, 0, 0)), (104, (.newarray .int, .inl .null, 0, 0, 0, 0)), (106, (.putfield 53, .inl .null, 5, 16, 2, 0))]),
  (126, [(109, (.aload_n 0, .inl .null, 0, 0, 0, 0)), (110, (.bipush 8, .inl .null, 0, 0, 0, 0)), (112, (.newarray .int, .inl .null, 0, 0, 0, 0)), (114, (.putfield 56, .inl .null, 5, 18, 2, 0)), (117, (.aload_n 0, .inl .null, 0, 0, 0, 0)), (118, (.bipush 8, .inl .null, 0, 0, 0, 0)), (120, (.newarray .int, .inl .null, 0, 0, 0, 0)), (122, (.putfield 59, .inl .null, 5, 19, 2, 0)), (125, (.aload_n 0, .inl .null, 0, 0, 0, 0))]),
  (144, [(126, (.bipush 8, .inl .null, 0, 0, 0, 0)), (128, (.newarray .int, .inl .null, 0, 0, 0, 0)), (130, (.putfield 62, .inl .null, 5, 20, 2, 0)), (133, (.aload_n 0, .inl .null, 0, 0, 0, 0)), (134, (.bipush 8, .inl .null, 0, 0, 0, 0)), (136, (.newarray .int, .inl .null, 0, 0, 0, 0)), (138, (.putfield 65, .inl .null, 5, 21, 2, 0)), (141, (.aload_n 0, .inl .null, 0, 0, 0, 0)), (142, (.bipush 8, .inl .null, 0, 0, 0, 0))]),
  (160, [(144, (.newarray .int, .inl .null, 0, 0, 0, 0)), (146, (.putfield 68, .inl .null, 5, 22, 2, 0)), (149, (.aload_n 0, .inl .null, 0, 0, 0, 0)), (150, (.iconst 4, .inl .null, 0, 0, 0, 0)), (151, (.newarray .int, .inl .null, 0, 0, 0, 0)), (153, (.putfield 71, .inl .null, 5, 24, 2, 0)), (156, (.aload_n 0, .inl .null, 0, 0, 0, 0)), (157, (.iconst 4, .inl .null, 0, 0, 0, 0)), (158, (.bipush 8, .inl .null, 0, 0, 0, 0))]),
  (100000, [(160, (.multianewarray 74 2, .inl .null, 0, 0, 0, 0)), (164, (.putfield 76, .inl .null, 5, 25, 2, 0)), (167, (.aload_n 0, .inl .null, 0, 0, 0, 0)), (168, (.iconst 3, .inl .null, 0, 0, 0, 0)), (169, (.newarray .int, .inl .null, 0, 0, 0, 0)), (171, (.putfield 79, .inl .null, 5, 33, 2, 0)), (174, (.return_, .inl .null, 0, 0, 0, 0))])]
def zc_X0_putRow : zCd := [(6, [(0, (.aload_n 0, .inl .null, 0, 0, 0, 0)), (1, (.iload_n 1, .inl .null, 0, 0, 0, 0)), (2, (.putfield 9, .inl .null, 0, 0, 0, 0)), (5, (.aload_n 0, .inl .null, 0, 0, 0, 0))]),
  (12, [(6, (.iload_n 2, .inl .null, 0, 0, 0, 0)), (7, (.putfield 15, .inl .null, 0, 1, 0, 0)), (10, (.iconst 0, .inl .null, 0, 0, 0, 0)), (11, (.istore_n 3, .inl .null, 0, 0, 0, 0))]),
  (19, [(12, (.iload_n 3, .inl .null, 0, 0, 0, 0)), (13, (.bipush 40, .inl .null, 0, 0, 0, 0)), (15, (.if_icmp .ge 16, .inl .null, 0, 0, 0, 0)), (18, (.aload_n 0, .inl .null, 0, 0, 0, 0))]),
  (25, [(19, (.getfield 18, .inl .null, 0, 2, 0, 0)), (22, (.iload_n 3, .inl .null, 0, 0, 0, 0)), (23, (.lconst 0, .inl .null, 0, 0, 0, 0)), (24, (.lastore, .inl .null, 0, 0, 0, 0))]),
  (100000, [(25, (.iinc 3 1, .inl .null, 0, 0, 0, 0)), (28, (.goto (-16), .inl .null, 0, 0, 0, 0)), (31, (.return_, .inl .null, 0, 0, 0, 0))])]
def zc_X0_hasElement : zCd := [(4, [(0, (.aload_n 0, .inl .null, 0, 0, 0, 0)), (1, (.invokevirtual 26, .inl .null, 10, 0, 0, 0))]),
  (26, [(4, (.ifCond .eq 21, .inl .null, 0, 0, 0, 0)), (25, (.iconst 0, .inl .null, 0, 0, 0, 0))]),
  (100000, [(26, (.ireturn, .inl .null, 0, 0, 0, 0))])]
def zc_X4_init : zCd := [(15, [(0, (.aload_n 0, .inl .null, 0, 0, 0, 0)), (1, (.invokespecial 1, .inl .null, 0, 6, 0, 0)), (4, (.aload_n 0, .inl .null, 0, 0, 0, 0)), (5, (.new 7, .inl .null, 1, 0, 0, 0)), (8, (.dup, .inl .null, 0, 0, 0, 0)), (9, (.invokespecial 9, .inl .null, 54, 0, 0, 0)), (12, (.putfield 10, .inl .null, 4, 0, 2, 0))]),
  (30, [(15, (.aload_n 0, .inl .null, 0, 0, 0, 0)), (16, (.new 7, .inl .null, 1, 0, 0, 0)), (19, (.dup, .inl .null, 0, 0, 0, 0)), (20, (.invokespecial 9, .inl .null, 54, 0, 0, 0)), (23, (.putfield 16, .inl .null, 4, 1, 2, 0)), (26, (.aload_n 0, .inl .null, 0, 0, 0, 0)), (27, (.new 7, .inl .null, 1, 0, 0, 0))]),
  (45, [(30, (.dup, .inl .null, 0, 0, 0, 0)), (31, (.invokespecial 9, .inl .null, 54, 0, 0, 0)), (34, (.putfield 19, .inl .null, 4, 2, 2, 0)), (37, (.aload_n 0, .inl .null, 0, 0, 0, 0)), (38, (.new 22, .inl .null, 3, 0, 0, 0)), (41, (.dup, .inl .null, 0, 0, 0, 0)), (42, (.invokespecial 24, .inl .null, 77, 1, 0, 0))]),
  (60, [(45, (.putfield 25, .inl .null, 4, 3, 2, 0)), (48, (.aload_n 0, .inl .null, 0, 0, 0, 0)), (49, (.new 29, .inl .null, 2, 0, 0, 0)), (52, (.dup, .inl .null, 0, 0, 0, 0)), (53, (.invokespecial 31, .inl .null, 78, 1, 0, 0)), (56, (.putfield 32, .inl .null, 4, 4, 2, 0)), (59, (.aload_n 0, .inl .null, 0, 0, 0, 0))]),
  (75, [(60, (.bipush 8, .inl .null, 0, 0, 0, 0)), (62, (.anewarray 36, .inl .null, 0, 0, 0, 0)), (65, (.putfield 38, .inl .null, 4, 5, 2, 0)), (68, (.aload_n 0, .inl .null, 0, 0, 0, 0)), (69, (.iconst 5, .inl .null, 0, 0, 0, 0)), (70, (.newarray .int, .inl .null, 0, 0, 0, 0)), (72, (.putfield 42, .inl .null, 4, 6, 2, 0))]),
  (85, [(75, (.aload_n 0, .inl .null, 0, 0, 0, 0)), (76, (.iconst 0, .inl .null, 0, 0, 0, 0)), (77, (.putfield 46, .inl .null, 4, 7, 3, 0)), (80, (.iconst 0, .inl .null, 0, 0, 0, 0)), (81, (.istore_n 1, .inl .null, 0, 0, 0, 0)), (82, (.iload_n 1, .inl .null, 0, 0, 0, 0)), (83, (.bipush 8, .inl .null, 0, 0, 0, 0))]),
  (100, [(85, (.if_icmp .ge 22, .inl .null, 0, 0, 0, 0)), (88, (.aload_n 0, .inl .null, 0, 0, 0, 0)), (89, (.getfield 38, .inl .null, 4, 5, 0, 0)), (92, (.iload_n 1, .inl .null, 0, 0, 0, 0)), (93, (.new 36, .inl .null, 0, 0, 0, 0)), (96, (.dup, .inl .null, 0, 0, 0, 0)), (97, (.invokespecial 50, .inl .null, 29, 1, 0, 0))]),
  (100000, [(100, (.aastore, .inl .null, 0, 0, 0, 0)), (101, (.iinc 1 1, .inl .null, 0, 0, 0, 0)), (104, (.goto (-22), .inl .null, 0, 0, 0, 0)), (107, (.return_, .inl .null, 0, 0, 0, 0))])]
def zc_X3_init : zCd := [(10, [(0, (.aload_n 0, .inl .null, 0, 0, 0, 0)), (1, (.invokespecial 3, .inl .null, 0, 6, 0, 0)), (4, (.aload_n 0, .inl .null, 0, 0, 0, 0)), (5, (.sipush 256, .inl .null, 0, 0, 0, 0)), (8, (.newarray .int, .inl .null, 0, 0, 0, 0))]),
  (22, [(10, (.putfield 9, .inl .null, 3, 0, 2, 0)), (13, (.aload_n 0, .inl .null, 0, 0, 0, 0)), (14, (.sipush 488, .inl .null, 0, 0, 0, 0)), (17, (.newarray .int, .inl .null, 0, 0, 0, 0)), (19, (.putfield 15, .inl .null, 3, 1, 2, 0))]),
  (32, [(22, (.aload_n 0, .inl .null, 0, 0, 0, 0)), (23, (.sipush 256, .inl .null, 0, 0, 0, 0)), (26, (.newarray .int, .inl .null, 0, 0, 0, 0)), (28, (.putfield 18, .inl .null, 3, 2, 2, 0)), (31, (.aload_n 0, .inl .null, 0, 0, 0, 0))]),
  (41, [(32, (.iconst 0, .inl .null, 0, 0, 0, 0)), (33, (.putfield 21, .inl .null, 3, 3, 0, 0)), (36, (.aload_n 0, .inl .null, 0, 0, 0, 0)), (37, (.iconst 0, .inl .null, 0, 0, 0, 0)), (38, (.putfield 25, .inl .null, 3, 4, 0, 0))]),
  (48, [(41, (.aload_n 0, .inl .null, 0, 0, 0, 0)), (42, (.iconst 0, .inl .null, 0, 0, 0, 0)), (43, (.putfield 28, .inl .null, 3, 5, 0, 0)), (46, (.aload_n 0, .inl .null, 0, 0, 0, 0)), (47, (.iconst 0, .inl .null, 0, 0, 0, 0))]),
  (100000, [(48, (.putfield 31, .inl .null, 3, 6, 0, 0)), (51, (.return_, .inl .null, 0, 0, 0, 0))])]
def zc_X2_init : zCd := [(10, [(0, (.aload_n 0, .inl .null, 0, 0, 0, 0)), (1, (.invokespecial 3, .inl .null, 0, 6, 0, 0)), (4, (.aload_n 0, .inl .null, 0, 0, 0, 0)), (5, (.sipush 250, .inl .null, 0, 0, 0, 0)), (8, (.newarray .int, .inl .null, 0, 0, 0, 0))]),
  (19, [(10, (.putfield 9, .inl .null, 2, 0, 2, 0)), (13, (.aload_n 0, .inl .null, 0, 0, 0, 0)), (14, (.iconst 0, .inl .null, 0, 0, 0, 0)), (15, (.putfield 15, .inl .null, 2, 1, 0, 0)), (18, (.aload_n 0, .inl .null, 0, 0, 0, 0))]),
  (28, [(19, (.iconst 0, .inl .null, 0, 0, 0, 0)), (20, (.putfield 19, .inl .null, 2, 2, 0, 0)), (23, (.aload_n 0, .inl .null, 0, 0, 0, 0)), (24, (.iconst 0, .inl .null, 0, 0, 0, 0)), (25, (.putfield 22, .inl .null, 2, 3, 0, 0))]),
  (35, [(28, (.aload_n 0, .inl .null, 0, 0, 0, 0)), (29, (.iconst 0, .inl .null, 0, 0, 0, 0)), (30, (.putfield 25, .inl .null, 2, 4, 0, 0)), (33, (.aload_n 0, .inl .null, 0, 0, 0, 0)), (34, (.iconst (-1), .inl .null, 0, 0, 0, 0))]),
  (100000, [(35, (.putfield 28, .inl .null, 2, 5, 0, 0)), (38, (.return_, .inl .null, 0, 0, 0, 0))])]
def zc_X2_isWord : zCd := [(5, [(0, (.aload_n 1, .inl .null, 0, 0, 0, 0)), (1, (.invokevirtual 138, .inl .null, 0, 8, 0, 0)), (4, (.istore_n 2, .inl .null, 0, 0, 0, 0))]),
  (10, [(5, (.aload_n 0, .inl .null, 0, 0, 0, 0)), (6, (.getfield 19, .inl .null, 2, 2, 0, 0)), (9, (.iconst 1, .inl .null, 0, 0, 0, 0))]),
  (100000, [(10, (.if_icmp .ne 16, .inl .null, 0, 0, 0, 0)), (26, (.iconst 0, .inl .null, 0, 0, 0, 0)), (27, (.ireturn, .inl .null, 0, 0, 0, 0))])]
def zc_X5_isWord : zCd := [(4, [(0, (.aload_n 0, .inl .null, 0, 0, 0, 0)), (1, (.getfield 183, .inl .null, 5, 29, 0, 0))]),
  (24, [(4, (.iconst 1, .inl .null, 0, 0, 0, 0)), (5, (.if_icmp .ne 19, .inl .null, 0, 0, 0, 0))]),
  (100000, [(24, (.iconst 0, .inl .null, 0, 0, 0, 0)), (25, (.ireturn, .inl .null, 0, 0, 0, 0))])]
def zc_X4_sure : zCd := [(10, [(0, (.iload_n 1, .inl .null, 0, 0, 0, 0)), (1, (.iconst 1, .inl .null, 0, 0, 0, 0)), (2, (.bipush 60, .inl .null, 0, 0, 0, 0)), (4, (.invokestatic 55, .inl .null, 0, 0, 0, 0)), (7, (.ifCond .eq 13, .inl .null, 0, 0, 0, 0))]),
  (20, [(10, (.iload_n 2, .inl .null, 0, 0, 0, 0)), (11, (.iconst 0, .inl .null, 0, 0, 0, 0)), (12, (.ldc 252, .inl (.int (1000000)), 0, 0, 0, 0)), (14, (.invokestatic 55, .inl .null, 0, 0, 0, 0)), (17, (.ifCond .ne 10, .inl .null, 0, 0, 0, 0))]),
  (28, [(20, (.aload_n 0, .inl .null, 0, 0, 0, 0)), (21, (.bipush (-2), .inl .null, 0, 0, 0, 0)), (23, (.invokevirtual 59, .inl .null, 2, 0, 0, 0)), (26, (.ireturn, .inl .null, 0, 0, 0, 0)), (27, (.iconst 0, .inl .null, 0, 0, 0, 0))]),
  (35, [(28, (.istore_n 3, .inl .null, 0, 0, 0, 0)), (29, (.iload_n 3, .inl .null, 0, 0, 0, 0)), (30, (.iload_n 1, .inl .null, 0, 0, 0, 0)), (31, (.if_icmp .ge 18, .inl .null, 0, 0, 0, 0)), (34, (.iload_n 1, .inl .null, 0, 0, 0, 0))]),
  (46, [(35, (.iload_n 3, .inl .null, 0, 0, 0, 0)), (36, (.invokestatic 249, .inl .null, 66, 0, 0, 0)), (39, (.iload_n 2, .inl .null, 0, 0, 0, 0)), (40, (.if_icmp .ge 9, .inl .null, 0, 0, 0, 0)), (43, (.iinc 3 1, .inl .null, 0, 0, 0, 0))]),
  (100000, [(46, (.goto (-17), .inl .null, 0, 0, 0, 0)), (49, (.iload_n 3, .inl .null, 0, 0, 0, 0)), (50, (.ireturn, .inl .null, 0, 0, 0, 0))])]
def zc_X5_sure : zCd := [(9, [(0, (.iload_n 1, .inl .null, 0, 0, 0, 0)), (1, (.i2l, .inl .null, 0, 0, 0, 0)), (2, (.lconst 1, .inl .null, 0, 0, 0, 0)), (3, (.ldc2_w 133, .inl (.long (60)), 0, 0, 0, 0)), (6, (.invokestatic 85, .inl .null, 1, 0, 0, 0))]),
  (18, [(9, (.ifCond .eq 15, .inl .null, 0, 0, 0, 0)), (12, (.iload_n 2, .inl .null, 0, 0, 0, 0)), (13, (.i2l, .inl .null, 0, 0, 0, 0)), (14, (.lconst 0, .inl .null, 0, 0, 0, 0)), (15, (.ldc2_w 335, .inl (.long (1000000)), 0, 0, 0, 0))]),
  (30, [(18, (.invokestatic 85, .inl .null, 1, 0, 0, 0)), (21, (.ifCond .ne 10, .inl .null, 0, 0, 0, 0)), (24, (.aload_n 0, .inl .null, 0, 0, 0, 0)), (25, (.bipush (-2), .inl .null, 0, 0, 0, 0)), (27, (.invokevirtual 98, .inl .null, 3, 0, 0, 0))]),
  (35, [(30, (.ireturn, .inl .null, 0, 0, 0, 0)), (31, (.iconst 0, .inl .null, 0, 0, 0, 0)), (32, (.istore_n 3, .inl .null, 0, 0, 0, 0)), (33, (.iload_n 1, .inl .null, 0, 0, 0, 0)), (34, (.iload_n 3, .inl .null, 0, 0, 0, 0))]),
  (48, [(35, (.invokestatic 332, .inl .null, 65, 0, 0, 0)), (38, (.iload_n 2, .inl .null, 0, 0, 0, 0)), (39, (.if_icmp .ge 9, .inl .null, 0, 0, 0, 0)), (42, (.iinc 3 1, .inl .null, 0, 0, 0, 0)), (45, (.goto (-12), .inl .null, 0, 0, 0, 0))]),
  (100000, [(48, (.iload_n 3, .inl .null, 0, 0, 0, 0)), (49, (.ireturn, .inl .null, 0, 0, 0, 0))])]
def zc_X4_suspect : zCd := [(7, [(0, (.iload_n 1, .inl .null, 0, 0, 0, 0)), (1, (.iconst 1, .inl .null, 0, 0, 0, 0)), (2, (.bipush 60, .inl .null, 0, 0, 0, 0)), (4, (.invokestatic 55, .inl .null, 0, 0, 0, 0))]),
  (13, [(7, (.ifCond .eq 12, .inl .null, 0, 0, 0, 0)), (10, (.iload_n 2, .inl .null, 0, 0, 0, 0)), (11, (.iconst 0, .inl .null, 0, 0, 0, 0)), (12, (.iload_n 1, .inl .null, 0, 0, 0, 0))]),
  (22, [(13, (.invokestatic 55, .inl .null, 0, 0, 0, 0)), (16, (.ifCond .ne 10, .inl .null, 0, 0, 0, 0)), (19, (.aload_n 0, .inl .null, 0, 0, 0, 0)), (20, (.bipush (-2), .inl .null, 0, 0, 0, 0))]),
  (28, [(22, (.invokevirtual 59, .inl .null, 2, 0, 0, 0)), (25, (.ireturn, .inl .null, 0, 0, 0, 0)), (26, (.iload_n 1, .inl .null, 0, 0, 0, 0)), (27, (.iload_n 2, .inl .null, 0, 0, 0, 0))]),
  (100000, [(28, (.invokestatic 249, .inl .null, 66, 0, 0, 0)), (31, (.ireturn, .inl .null, 0, 0, 0, 0))])]
def zc_X5_suspect : zCd := [(9, [(0, (.iload_n 1, .inl .null, 0, 0, 0, 0)), (1, (.i2l, .inl .null, 0, 0, 0, 0)), (2, (.lconst 1, .inl .null, 0, 0, 0, 0)), (3, (.ldc2_w 133, .inl (.long (60)), 0, 0, 0, 0)), (6, (.invokestatic 85, .inl .null, 1, 0, 0, 0))]),
  (16, [(9, (.ifCond .eq 22, .inl .null, 0, 0, 0, 0)), (12, (.iload_n 2, .inl .null, 0, 0, 0, 0)), (13, (.i2l, .inl .null, 0, 0, 0, 0)), (14, (.lconst 0, .inl .null, 0, 0, 0, 0)), (15, (.iload_n 1, .inl .null, 0, 0, 0, 0))]),
  (25, [(16, (.i2l, .inl .null, 0, 0, 0, 0)), (17, (.invokestatic 85, .inl .null, 1, 0, 0, 0)), (20, (.ifCond .eq 11, .inl .null, 0, 0, 0, 0)), (23, (.iload_n 1, .inl .null, 0, 0, 0, 0)), (24, (.iload_n 2, .inl .null, 0, 0, 0, 0))]),
  (37, [(25, (.invokestatic 332, .inl .null, 65, 0, 0, 0)), (28, (.goto 9, .inl .null, 0, 0, 0, 0)), (31, (.aload_n 0, .inl .null, 0, 0, 0, 0)), (32, (.bipush (-2), .inl .null, 0, 0, 0, 0)), (34, (.invokevirtual 98, .inl .null, 3, 0, 0, 0))]),
  (100000, [(37, (.ireturn, .inl .null, 0, 0, 0, 0))])]
def zc_X1_isFreeForThing : zCd := [(5, [(0, (.aload_n 0, .inl .null, 0, 0, 0, 0)), (1, (.iload_n 1, .inl .null, 0, 0, 0, 0)), (2, (.invokevirtual 86, .inl .null, 24, 0, 0, 0))]),
  (10, [(5, (.ifCond .eq 16, .inl .null, 0, 0, 0, 0)), (8, (.aload_n 0, .inl .null, 0, 0, 0, 0)), (9, (.iload_n 1, .inl .null, 0, 0, 0, 0))]),
  (17, [(10, (.invokevirtual 90, .inl .null, 19, 0, 0, 0)), (13, (.iconst (-1), .inl .null, 0, 0, 0, 0)), (14, (.if_icmp .ne 7, .inl .null, 0, 0, 0, 0))]),
  (100000, [(17, (.iconst 1, .inl .null, 0, 0, 0, 0)), (18, (.goto 4, .inl .null, 0, 0, 0, 0)), (22, (.ireturn, .inl .null, 0, 0, 0, 0))])]
def zc_X1_addThing : zCd := [(15, [(0, (.aload_n 0, .inl .null, 0, 0, 0, 0)), (1, (.getfield 37, .inl .null, 1, 8, 0, 0)), (4, (.istore 4, .inl .null, 0, 0, 0, 0)), (6, (.iload 4, .inl .null, 0, 0, 0, 0)), (8, (.bipush 8, .inl .null, 0, 0, 0, 0)), (10, (.if_icmp .lt 5, .inl .null, 0, 0, 0, 0))]),
  (24, [(15, (.aload_n 0, .inl .null, 0, 0, 0, 0)), (16, (.getfield 40, .inl .null, 1, 9, 0, 0)), (19, (.iload 4, .inl .null, 0, 0, 0, 0)), (21, (.iload_n 1, .inl .null, 0, 0, 0, 0)), (22, (.iastore, .inl .null, 0, 0, 0, 0)), (23, (.aload_n 0, .inl .null, 0, 0, 0, 0))]),
  (35, [(24, (.getfield 44, .inl .null, 1, 10, 0, 0)), (27, (.iload 4, .inl .null, 0, 0, 0, 0)), (29, (.iload_n 2, .inl .null, 0, 0, 0, 0)), (30, (.iastore, .inl .null, 0, 0, 0, 0)), (31, (.aload_n 0, .inl .null, 0, 0, 0, 0)), (32, (.getfield 47, .inl .null, 1, 11, 0, 0))]),
  (45, [(35, (.iload 4, .inl .null, 0, 0, 0, 0)), (37, (.iload_n 3, .inl .null, 0, 0, 0, 0)), (38, (.iastore, .inl .null, 0, 0, 0, 0)), (39, (.aload_n 0, .inl .null, 0, 0, 0, 0)), (40, (.getfield 50, .inl .null, 1, 12, 0, 0)), (43, (.iload 4, .inl .null, 0, 0, 0, 0))]),
  (54, [(45, (.iconst 0, .inl .null, 0, 0, 0, 0)), (46, (.iastore, .inl .null, 0, 0, 0, 0)), (47, (.aload_n 0, .inl .null, 0, 0, 0, 0)), (48, (.getfield 53, .inl .null, 1, 13, 0, 0)), (51, (.iload 4, .inl .null, 0, 0, 0, 0)), (53, (.iconst (-1), .inl .null, 0, 0, 0, 0))]),
  (62, [(54, (.iastore, .inl .null, 0, 0, 0, 0)), (55, (.aload_n 0, .inl .null, 0, 0, 0, 0)), (56, (.dup, .inl .null, 0, 0, 0, 0)), (57, (.getfield 37, .inl .null, 1, 8, 0, 0)), (60, (.iconst 1, .inl .null, 0, 0, 0, 0)), (61, (.iadd, .inl .null, 0, 0, 0, 0))]),
  (100000, [(62, (.putfield 37, .inl .null, 1, 8, 0, 0)), (65, (.iload 4, .inl .null, 0, 0, 0, 0)), (67, (.ireturn, .inl .null, 0, 0, 0, 0))])]
def zc_X5_addThing : zCd := [(11, [(0, (.aload_n 0, .inl .null, 0, 0, 0, 0)), (1, (.getfield 56, .inl .null, 5, 18, 0, 0)), (4, (.aload_n 0, .inl .null, 0, 0, 0, 0)), (5, (.getfield 82, .inl .null, 5, 17, 0, 0)), (8, (.iload_n 1, .inl .null, 0, 0, 0, 0)), (9, (.iastore, .inl .null, 0, 0, 0, 0)), (10, (.aload_n 0, .inl .null, 0, 0, 0, 0))]),
  (24, [(11, (.getfield 59, .inl .null, 5, 19, 0, 0)), (14, (.aload_n 0, .inl .null, 0, 0, 0, 0)), (15, (.getfield 82, .inl .null, 5, 17, 0, 0)), (18, (.iload_n 2, .inl .null, 0, 0, 0, 0)), (19, (.iastore, .inl .null, 0, 0, 0, 0)), (20, (.aload_n 0, .inl .null, 0, 0, 0, 0)), (21, (.getfield 62, .inl .null, 5, 20, 0, 0))]),
  (35, [(24, (.aload_n 0, .inl .null, 0, 0, 0, 0)), (25, (.getfield 82, .inl .null, 5, 17, 0, 0)), (28, (.iload_n 3, .inl .null, 0, 0, 0, 0)), (29, (.iastore, .inl .null, 0, 0, 0, 0)), (30, (.aload_n 0, .inl .null, 0, 0, 0, 0)), (31, (.getfield 65, .inl .null, 5, 21, 0, 0)), (34, (.aload_n 0, .inl .null, 0, 0, 0, 0))]),
  (48, [(35, (.getfield 82, .inl .null, 5, 17, 0, 0)), (38, (.iconst 0, .inl .null, 0, 0, 0, 0)), (39, (.iastore, .inl .null, 0, 0, 0, 0)), (40, (.aload_n 0, .inl .null, 0, 0, 0, 0)), (41, (.getfield 68, .inl .null, 5, 22, 0, 0)), (44, (.aload_n 0, .inl .null, 0, 0, 0, 0)), (45, (.getfield 82, .inl .null, 5, 17, 0, 0))]),
  (59, [(48, (.iconst (-1), .inl .null, 0, 0, 0, 0)), (49, (.iastore, .inl .null, 0, 0, 0, 0)), (50, (.iconst 0, .inl .null, 0, 0, 0, 0)), (51, (.istore 4, .inl .null, 0, 0, 0, 0)), (53, (.iload 4, .inl .null, 0, 0, 0, 0)), (55, (.iconst 4, .inl .null, 0, 0, 0, 0)), (56, (.if_icmp .ge 22, .inl .null, 0, 0, 0, 0))]),
  (71, [(59, (.aload_n 0, .inl .null, 0, 0, 0, 0)), (60, (.getfield 76, .inl .null, 5, 25, 0, 0)), (63, (.iload 4, .inl .null, 0, 0, 0, 0)), (65, (.aaload, .inl .null, 0, 0, 0, 0)), (66, (.aload_n 0, .inl .null, 0, 0, 0, 0)), (67, (.getfield 82, .inl .null, 5, 17, 0, 0)), (70, (.iconst 0, .inl .null, 0, 0, 0, 0))]),
  (84, [(71, (.iastore, .inl .null, 0, 0, 0, 0)), (72, (.iinc 4 1, .inl .null, 0, 0, 0, 0)), (75, (.goto (-22), .inl .null, 0, 0, 0, 0)), (78, (.aload_n 0, .inl .null, 0, 0, 0, 0)), (79, (.dup, .inl .null, 0, 0, 0, 0)), (80, (.getfield 82, .inl .null, 5, 17, 0, 0)), (83, (.iconst 1, .inl .null, 0, 0, 0, 0))]),
  (100000, [(84, (.iadd, .inl .null, 0, 0, 0, 0)), (85, (.putfield 82, .inl .null, 5, 17, 0, 0)), (88, (.return_, .inl .null, 0, 0, 0, 0))])]
def zc_X1_standing : zCd := [(2, [(0, (.aload_n 0, .inl .null, 0, 0, 0, 0)), (1, (.iconst (-1), .inl .null, 0, 0, 0, 0))]),
  (100000, [(2, (.invokevirtual 97, .inl .null, 89, 0, 0, 0)), (5, (.ireturn, .inl .null, 0, 0, 0, 0))])]
def zc_X1_thingsOwnedBy : zCd := [(3, [(0, (.iconst 0, .inl .null, 0, 0, 0, 0)), (1, (.istore_n 2, .inl .null, 0, 0, 0, 0)), (2, (.iconst 0, .inl .null, 0, 0, 0, 0))]),
  (6, [(3, (.istore_n 3, .inl .null, 0, 0, 0, 0)), (4, (.iload_n 3, .inl .null, 0, 0, 0, 0)), (5, (.aload_n 0, .inl .null, 0, 0, 0, 0))]),
  (35, [(6, (.getfield 37, .inl .null, 1, 8, 0, 0)), (9, (.if_icmp .ge 25, .inl .null, 0, 0, 0, 0)), (34, (.iload_n 2, .inl .null, 0, 0, 0, 0))]),
  (100000, [(35, (.ireturn, .inl .null, 0, 0, 0, 0))])]
def zc_X4_slips : zCd := [(10, [(0, (.iload_n 1, .inl .null, 0, 0, 0, 0)), (1, (.iconst 1, .inl .null, 0, 0, 0, 0)), (2, (.bipush 60, .inl .null, 0, 0, 0, 0)), (4, (.invokestatic 55, .inl .null, 0, 0, 0, 0)), (7, (.ifCond .ne 10, .inl .null, 0, 0, 0, 0))]),
  (18, [(10, (.aload_n 0, .inl .null, 0, 0, 0, 0)), (11, (.bipush (-2), .inl .null, 0, 0, 0, 0)), (13, (.invokevirtual 59, .inl .null, 2, 0, 0, 0)), (16, (.ireturn, .inl .null, 0, 0, 0, 0)), (17, (.aload_n 0, .inl .null, 0, 0, 0, 0))]),
  (38, [(18, (.getfield 10, .inl .null, 4, 0, 0, 0)), (21, (.getfield 113, .inl .null, 1, 8, 0, 0)), (24, (.ifCond .le 10, .inl .null, 0, 0, 0, 0)), (34, (.aload_n 0, .inl .null, 0, 0, 0, 0)), (35, (.getfield 10, .inl .null, 4, 0, 0, 0))]),
  (47, [(38, (.getfield 116, .inl .null, 1, 0, 0, 0)), (41, (.istore_n 2, .inl .null, 0, 0, 0, 0)), (42, (.aload_n 0, .inl .null, 0, 0, 0, 0)), (43, (.getfield 10, .inl .null, 4, 0, 0, 0)), (46, (.iload_n 1, .inl .null, 0, 0, 0, 0))]),
  (100000, [(47, (.invokevirtual 119, .inl .null, 50, 0, 0, 0)), (50, (.iload_n 2, .inl .null, 0, 0, 0, 0)), (51, (.ireturn, .inl .null, 0, 0, 0, 0))])]
def zc_X5_slips : zCd := [(9, [(0, (.iload_n 1, .inl .null, 0, 0, 0, 0)), (1, (.i2l, .inl .null, 0, 0, 0, 0)), (2, (.lconst 1, .inl .null, 0, 0, 0, 0)), (3, (.ldc2_w 133, .inl (.long (60)), 0, 0, 0, 0)), (6, (.invokestatic 85, .inl .null, 1, 0, 0, 0))]),
  (19, [(9, (.ifCond .ne 10, .inl .null, 0, 0, 0, 0)), (12, (.aload_n 0, .inl .null, 0, 0, 0, 0)), (13, (.bipush (-2), .inl .null, 0, 0, 0, 0)), (15, (.invokevirtual 98, .inl .null, 3, 0, 0, 0)), (18, (.ireturn, .inl .null, 0, 0, 0, 0))]),
  (37, [(19, (.aload_n 0, .inl .null, 0, 0, 0, 0)), (20, (.getfield 82, .inl .null, 5, 17, 0, 0)), (23, (.ifCond .le 10, .inl .null, 0, 0, 0, 0)), (33, (.aload_n 0, .inl .null, 0, 0, 0, 0)), (34, (.getfield 37, .inl .null, 5, 9, 0, 0))]),
  (44, [(37, (.istore_n 2, .inl .null, 0, 0, 0, 0)), (38, (.aload_n 0, .inl .null, 0, 0, 0, 0)), (39, (.iload_n 1, .inl .null, 0, 0, 0, 0)), (40, (.invokevirtual 135, .inl .null, 143, 0, 0, 0)), (43, (.iload_n 2, .inl .null, 0, 0, 0, 0))]),
  (100000, [(44, (.ireturn, .inl .null, 0, 0, 0, 0))])]
def zc_X4_rule : zCd := [(10, [(0, (.iload_n 1, .inl .null, 0, 0, 0, 0)), (1, (.iconst 2, .inl .null, 0, 0, 0, 0)), (2, (.bipush 10, .inl .null, 0, 0, 0, 0)), (4, (.invokestatic 55, .inl .null, 0, 0, 0, 0)), (7, (.ifCond .ne 10, .inl .null, 0, 0, 0, 0))]),
  (18, [(10, (.aload_n 0, .inl .null, 0, 0, 0, 0)), (11, (.bipush (-2), .inl .null, 0, 0, 0, 0)), (13, (.invokevirtual 59, .inl .null, 2, 0, 0, 0)), (16, (.ireturn, .inl .null, 0, 0, 0, 0)), (17, (.aload_n 0, .inl .null, 0, 0, 0, 0))]),
  (38, [(18, (.getfield 10, .inl .null, 4, 0, 0, 0)), (21, (.getfield 113, .inl .null, 1, 8, 0, 0)), (24, (.ifCond .le 10, .inl .null, 0, 0, 0, 0)), (34, (.aload_n 0, .inl .null, 0, 0, 0, 0)), (35, (.getfield 10, .inl .null, 4, 0, 0, 0))]),
  (47, [(38, (.getfield 123, .inl .null, 1, 1, 0, 0)), (41, (.istore_n 2, .inl .null, 0, 0, 0, 0)), (42, (.aload_n 0, .inl .null, 0, 0, 0, 0)), (43, (.getfield 10, .inl .null, 4, 0, 0, 0)), (46, (.iload_n 1, .inl .null, 0, 0, 0, 0))]),
  (100000, [(47, (.putfield 123, .inl .null, 1, 1, 0, 0)), (50, (.iload_n 2, .inl .null, 0, 0, 0, 0)), (51, (.ireturn, .inl .null, 0, 0, 0, 0))])]
def zc_X5_rule : zCd := [(11, [(0, (.iload_n 1, .inl .null, 0, 0, 0, 0)), (1, (.i2l, .inl .null, 0, 0, 0, 0)), (2, (.ldc2_w 139, .inl (.long (2)), 0, 0, 0, 0)), (5, (.ldc2_w 141, .inl (.long (10)), 0, 0, 0, 0)), (8, (.invokestatic 85, .inl .null, 1, 0, 0, 0))]),
  (21, [(11, (.ifCond .ne 10, .inl .null, 0, 0, 0, 0)), (14, (.aload_n 0, .inl .null, 0, 0, 0, 0)), (15, (.bipush (-2), .inl .null, 0, 0, 0, 0)), (17, (.invokevirtual 98, .inl .null, 3, 0, 0, 0)), (20, (.ireturn, .inl .null, 0, 0, 0, 0))]),
  (39, [(21, (.aload_n 0, .inl .null, 0, 0, 0, 0)), (22, (.getfield 82, .inl .null, 5, 17, 0, 0)), (25, (.ifCond .le 10, .inl .null, 0, 0, 0, 0)), (35, (.aload_n 0, .inl .null, 0, 0, 0, 0)), (36, (.getfield 41, .inl .null, 5, 10, 0, 0))]),
  (46, [(39, (.istore_n 2, .inl .null, 0, 0, 0, 0)), (40, (.aload_n 0, .inl .null, 0, 0, 0, 0)), (41, (.iload_n 1, .inl .null, 0, 0, 0, 0)), (42, (.putfield 41, .inl .null, 5, 10, 0, 0)), (45, (.iload_n 2, .inl .null, 0, 0, 0, 0))]),
  (100000, [(46, (.ireturn, .inl .null, 0, 0, 0, 0))])]
def zc_X4_buyer : zCd := [(8, [(0, (.iload_n 1, .inl .null, 0, 0, 0, 0)), (1, (.iconst 0, .inl .null, 0, 0, 0, 0)), (2, (.sipush 9999, .inl .null, 0, 0, 0, 0)), (5, (.invokestatic 55, .inl .null, 0, 0, 0, 0))]),
  (17, [(8, (.ifCond .ne 10, .inl .null, 0, 0, 0, 0)), (11, (.aload_n 0, .inl .null, 0, 0, 0, 0)), (12, (.bipush (-2), .inl .null, 0, 0, 0, 0)), (14, (.invokevirtual 59, .inl .null, 2, 0, 0, 0))]),
  (25, [(17, (.ireturn, .inl .null, 0, 0, 0, 0)), (18, (.aload_n 0, .inl .null, 0, 0, 0, 0)), (19, (.getfield 10, .inl .null, 4, 0, 0, 0)), (22, (.getfield 145, .inl .null, 1, 14, 0, 0))]),
  (40, [(25, (.iconst 4, .inl .null, 0, 0, 0, 0)), (26, (.if_icmp .lt 10, .inl .null, 0, 0, 0, 0)), (36, (.aload_n 0, .inl .null, 0, 0, 0, 0)), (37, (.getfield 10, .inl .null, 4, 0, 0, 0))]),
  (100000, [(40, (.iload_n 1, .inl .null, 0, 0, 0, 0)), (41, (.invokevirtual 148, .inl .null, 144, 0, 0, 0)), (44, (.ireturn, .inl .null, 0, 0, 0, 0))])]
def zc_X5_buyer : zCd := [(9, [(0, (.iload_n 1, .inl .null, 0, 0, 0, 0)), (1, (.i2l, .inl .null, 0, 0, 0, 0)), (2, (.lconst 0, .inl .null, 0, 0, 0, 0)), (3, (.ldc2_w 159, .inl (.long (9999)), 0, 0, 0, 0)), (6, (.invokestatic 85, .inl .null, 1, 0, 0, 0))]),
  (19, [(9, (.ifCond .ne 10, .inl .null, 0, 0, 0, 0)), (12, (.aload_n 0, .inl .null, 0, 0, 0, 0)), (13, (.bipush (-2), .inl .null, 0, 0, 0, 0)), (15, (.invokevirtual 98, .inl .null, 3, 0, 0, 0)), (18, (.ireturn, .inl .null, 0, 0, 0, 0))]),
  (35, [(19, (.aload_n 0, .inl .null, 0, 0, 0, 0)), (20, (.getfield 89, .inl .null, 5, 23, 0, 0)), (23, (.iconst 4, .inl .null, 0, 0, 0, 0)), (24, (.if_icmp .ne 10, .inl .null, 0, 0, 0, 0)), (34, (.aload_n 0, .inl .null, 0, 0, 0, 0))]),
  (44, [(35, (.iload_n 1, .inl .null, 0, 0, 0, 0)), (36, (.invokevirtual 161, .inl .null, 145, 0, 0, 0)), (39, (.aload_n 0, .inl .null, 0, 0, 0, 0)), (40, (.getfield 89, .inl .null, 5, 23, 0, 0)), (43, (.iconst 1, .inl .null, 0, 0, 0, 0))]),
  (100000, [(44, (.isub, .inl .null, 0, 0, 0, 0)), (45, (.ireturn, .inl .null, 0, 0, 0, 0))])]
def zc_X4_feed : zCd := [(12, [(0, (.iload_n 1, .inl .null, 0, 0, 0, 0)), (1, (.iconst 0, .inl .null, 0, 0, 0, 0)), (2, (.sipush 255, .inl .null, 0, 0, 0, 0)), (5, (.invokestatic 55, .inl .null, 0, 0, 0, 0)), (8, (.ifCond .ne 10, .inl .null, 0, 0, 0, 0)), (11, (.aload_n 0, .inl .null, 0, 0, 0, 0))]),
  (25, [(12, (.bipush (-2), .inl .null, 0, 0, 0, 0)), (14, (.invokevirtual 59, .inl .null, 2, 0, 0, 0)), (17, (.ireturn, .inl .null, 0, 0, 0, 0)), (18, (.aload_n 0, .inl .null, 0, 0, 0, 0)), (19, (.getfield 32, .inl .null, 4, 4, 0, 0)), (22, (.getfield 164, .inl .null, 2, 1, 0, 0))]),
  (46, [(25, (.sipush 250, .inl .null, 0, 0, 0, 0)), (28, (.if_icmp .lt 10, .inl .null, 0, 0, 0, 0)), (38, (.aload_n 0, .inl .null, 0, 0, 0, 0)), (39, (.getfield 32, .inl .null, 4, 4, 0, 0)), (42, (.getfield 167, .inl .null, 2, 0, 0, 0)), (45, (.aload_n 0, .inl .null, 0, 0, 0, 0))]),
  (58, [(46, (.getfield 32, .inl .null, 4, 4, 0, 0)), (49, (.getfield 164, .inl .null, 2, 1, 0, 0)), (52, (.iload_n 1, .inl .null, 0, 0, 0, 0)), (53, (.iastore, .inl .null, 0, 0, 0, 0)), (54, (.aload_n 0, .inl .null, 0, 0, 0, 0)), (55, (.getfield 32, .inl .null, 4, 4, 0, 0))]),
  (68, [(58, (.dup, .inl .null, 0, 0, 0, 0)), (59, (.getfield 164, .inl .null, 2, 1, 0, 0)), (62, (.iconst 1, .inl .null, 0, 0, 0, 0)), (63, (.iadd, .inl .null, 0, 0, 0, 0)), (64, (.putfield 164, .inl .null, 2, 1, 0, 0)), (67, (.aload_n 0, .inl .null, 0, 0, 0, 0))]),
  (100000, [(68, (.getfield 32, .inl .null, 4, 4, 0, 0)), (71, (.getfield 164, .inl .null, 2, 1, 0, 0)), (74, (.ireturn, .inl .null, 0, 0, 0, 0))])]
def zc_X5_feed : zCd := [(9, [(0, (.iload_n 1, .inl .null, 0, 0, 0, 0)), (1, (.i2l, .inl .null, 0, 0, 0, 0)), (2, (.lconst 0, .inl .null, 0, 0, 0, 0)), (3, (.ldc2_w 169, .inl (.long (255)), 0, 0, 0, 0)), (6, (.invokestatic 85, .inl .null, 1, 0, 0, 0))]),
  (19, [(9, (.ifCond .ne 10, .inl .null, 0, 0, 0, 0)), (12, (.aload_n 0, .inl .null, 0, 0, 0, 0)), (13, (.bipush (-2), .inl .null, 0, 0, 0, 0)), (15, (.invokevirtual 98, .inl .null, 3, 0, 0, 0)), (18, (.ireturn, .inl .null, 0, 0, 0, 0))]),
  (37, [(19, (.aload_n 0, .inl .null, 0, 0, 0, 0)), (20, (.getfield 171, .inl .null, 5, 7, 0, 0)), (23, (.sipush 250, .inl .null, 0, 0, 0, 0)), (26, (.if_icmp .ne 10, .inl .null, 0, 0, 0, 0)), (36, (.aload_n 0, .inl .null, 0, 0, 0, 0))]),
  (46, [(37, (.getfield 31, .inl .null, 5, 6, 0, 0)), (40, (.aload_n 0, .inl .null, 0, 0, 0, 0)), (41, (.dup, .inl .null, 0, 0, 0, 0)), (42, (.getfield 171, .inl .null, 5, 7, 0, 0)), (45, (.dup_x1, .inl .null, 0, 0, 0, 0))]),
  (53, [(46, (.iconst 1, .inl .null, 0, 0, 0, 0)), (47, (.iadd, .inl .null, 0, 0, 0, 0)), (48, (.putfield 171, .inl .null, 5, 7, 0, 0)), (51, (.iload_n 1, .inl .null, 0, 0, 0, 0)), (52, (.iastore, .inl .null, 0, 0, 0, 0))]),
  (100000, [(53, (.aload_n 0, .inl .null, 0, 0, 0, 0)), (54, (.getfield 171, .inl .null, 5, 7, 0, 0)), (57, (.ireturn, .inl .null, 0, 0, 0, 0))])]
def zc_X5_takeFrom : zCd := [(17, [(0, (.aload_n 0, .inl .null, 0, 0, 0, 0)), (1, (.aload_n 1, .inl .null, 0, 0, 0, 0)), (2, (.getfield 37, .inl .null, 5, 9, 0, 0)), (5, (.putfield 37, .inl .null, 5, 9, 0, 0)), (8, (.aload_n 0, .inl .null, 0, 0, 0, 0)), (9, (.aload_n 1, .inl .null, 0, 0, 0, 0)), (10, (.getfield 41, .inl .null, 5, 10, 0, 0)), (13, (.putfield 41, .inl .null, 5, 10, 0, 0)), (16, (.aload_n 0, .inl .null, 0, 0, 0, 0))]),
  (34, [(17, (.aload_n 1, .inl .null, 0, 0, 0, 0)), (18, (.getfield 44, .inl .null, 5, 11, 0, 0)), (21, (.putfield 44, .inl .null, 5, 11, 0, 0)), (24, (.aload_n 0, .inl .null, 0, 0, 0, 0)), (25, (.aload_n 1, .inl .null, 0, 0, 0, 0)), (26, (.getfield 47, .inl .null, 5, 12, 0, 0)), (29, (.putfield 47, .inl .null, 5, 12, 0, 0)), (32, (.aload_n 0, .inl .null, 0, 0, 0, 0)), (33, (.aload_n 1, .inl .null, 0, 0, 0, 0))]),
  (53, [(34, (.getfield 127, .inl .null, 5, 13, 0, 0)), (37, (.putfield 127, .inl .null, 5, 13, 0, 0)), (40, (.aload_n 0, .inl .null, 0, 0, 0, 0)), (41, (.aload_n 1, .inl .null, 0, 0, 0, 0)), (42, (.getfield 350, .inl .null, 5, 14, 0, 0)), (45, (.putfield 350, .inl .null, 5, 14, 0, 0)), (48, (.aload_n 0, .inl .null, 0, 0, 0, 0)), (49, (.aload_n 1, .inl .null, 0, 0, 0, 0)), (50, (.getfield 50, .inl .null, 5, 15, 0, 0))]),
  (72, [(53, (.putfield 50, .inl .null, 5, 15, 0, 0)), (56, (.aload_n 1, .inl .null, 0, 0, 0, 0)), (57, (.getfield 53, .inl .null, 5, 16, 0, 0)), (60, (.aload_n 0, .inl .null, 0, 0, 0, 0)), (61, (.getfield 53, .inl .null, 5, 16, 0, 0)), (64, (.invokestatic 372, .inl .null, 33, 0, 0, 0)), (67, (.aload_n 0, .inl .null, 0, 0, 0, 0)), (68, (.aload_n 1, .inl .null, 0, 0, 0, 0)), (69, (.getfield 82, .inl .null, 5, 17, 0, 0))]),
  (91, [(72, (.putfield 82, .inl .null, 5, 17, 0, 0)), (75, (.aload_n 1, .inl .null, 0, 0, 0, 0)), (76, (.getfield 56, .inl .null, 5, 18, 0, 0)), (79, (.aload_n 0, .inl .null, 0, 0, 0, 0)), (80, (.getfield 56, .inl .null, 5, 18, 0, 0)), (83, (.invokestatic 372, .inl .null, 33, 0, 0, 0)), (86, (.aload_n 1, .inl .null, 0, 0, 0, 0)), (87, (.getfield 59, .inl .null, 5, 19, 0, 0)), (90, (.aload_n 0, .inl .null, 0, 0, 0, 0))]),
  (112, [(91, (.getfield 59, .inl .null, 5, 19, 0, 0)), (94, (.invokestatic 372, .inl .null, 33, 0, 0, 0)), (97, (.aload_n 1, .inl .null, 0, 0, 0, 0)), (98, (.getfield 62, .inl .null, 5, 20, 0, 0)), (101, (.aload_n 0, .inl .null, 0, 0, 0, 0)), (102, (.getfield 62, .inl .null, 5, 20, 0, 0)), (105, (.invokestatic 372, .inl .null, 33, 0, 0, 0)), (108, (.aload_n 1, .inl .null, 0, 0, 0, 0)), (109, (.getfield 65, .inl .null, 5, 21, 0, 0))]),
  (131, [(112, (.aload_n 0, .inl .null, 0, 0, 0, 0)), (113, (.getfield 65, .inl .null, 5, 21, 0, 0)), (116, (.invokestatic 372, .inl .null, 33, 0, 0, 0)), (119, (.aload_n 1, .inl .null, 0, 0, 0, 0)), (120, (.getfield 68, .inl .null, 5, 22, 0, 0)), (123, (.aload_n 0, .inl .null, 0, 0, 0, 0)), (124, (.getfield 68, .inl .null, 5, 22, 0, 0)), (127, (.invokestatic 372, .inl .null, 33, 0, 0, 0)), (130, (.aload_n 0, .inl .null, 0, 0, 0, 0))]),
  (150, [(131, (.aload_n 1, .inl .null, 0, 0, 0, 0)), (132, (.getfield 89, .inl .null, 5, 23, 0, 0)), (135, (.putfield 89, .inl .null, 5, 23, 0, 0)), (138, (.aload_n 1, .inl .null, 0, 0, 0, 0)), (139, (.getfield 71, .inl .null, 5, 24, 0, 0)), (142, (.aload_n 0, .inl .null, 0, 0, 0, 0)), (143, (.getfield 71, .inl .null, 5, 24, 0, 0)), (146, (.invokestatic 372, .inl .null, 33, 0, 0, 0)), (149, (.iconst 0, .inl .null, 0, 0, 0, 0))]),
  (163, [(150, (.istore_n 2, .inl .null, 0, 0, 0, 0)), (151, (.iload_n 2, .inl .null, 0, 0, 0, 0)), (152, (.iconst 4, .inl .null, 0, 0, 0, 0)), (153, (.if_icmp .ge 24, .inl .null, 0, 0, 0, 0)), (156, (.aload_n 1, .inl .null, 0, 0, 0, 0)), (157, (.getfield 76, .inl .null, 5, 25, 0, 0)), (160, (.iload_n 2, .inl .null, 0, 0, 0, 0)), (161, (.aaload, .inl .null, 0, 0, 0, 0)), (162, (.aload_n 0, .inl .null, 0, 0, 0, 0))]),
  (100000, [(163, (.getfield 76, .inl .null, 5, 25, 0, 0)), (166, (.iload_n 2, .inl .null, 0, 0, 0, 0)), (167, (.aaload, .inl .null, 0, 0, 0, 0)), (168, (.invokestatic 372, .inl .null, 33, 0, 0, 0)), (171, (.iinc 2 1, .inl .null, 0, 0, 0, 0)), (174, (.goto (-23), .inl .null, 0, 0, 0, 0)), (177, (.return_, .inl .null, 0, 0, 0, 0))])]
def zc_J6_bitCount_0f7a4 : zCd := [(8, [(0, (.iload_n 0, .inl .null, 0, 0, 0, 0)), (1, (.iload_n 0, .inl .null, 0, 0, 0, 0)), (2, (.iconst 1, .inl .null, 0, 0, 0, 0)), (3, (.iushr, .inl .null, 0, 0, 0, 0)), (4, (.ldc_w 265, .inl (.int (1431655765)), 0, 0, 0, 0)), (7, (.iand, .inl .null, 0, 0, 0, 0))]),
  (16, [(8, (.isub, .inl .null, 0, 0, 0, 0)), (9, (.istore_n 0, .inl .null, 0, 0, 0, 0)), (10, (.iload_n 0, .inl .null, 0, 0, 0, 0)), (11, (.ldc_w 266, .inl (.int (858993459)), 0, 0, 0, 0)), (14, (.iand, .inl .null, 0, 0, 0, 0)), (15, (.iload_n 0, .inl .null, 0, 0, 0, 0))]),
  (24, [(16, (.iconst 2, .inl .null, 0, 0, 0, 0)), (17, (.iushr, .inl .null, 0, 0, 0, 0)), (18, (.ldc_w 266, .inl (.int (858993459)), 0, 0, 0, 0)), (21, (.iand, .inl .null, 0, 0, 0, 0)), (22, (.iadd, .inl .null, 0, 0, 0, 0)), (23, (.istore_n 0, .inl .null, 0, 0, 0, 0))]),
  (32, [(24, (.iload_n 0, .inl .null, 0, 0, 0, 0)), (25, (.iload_n 0, .inl .null, 0, 0, 0, 0)), (26, (.iconst 4, .inl .null, 0, 0, 0, 0)), (27, (.iushr, .inl .null, 0, 0, 0, 0)), (28, (.iadd, .inl .null, 0, 0, 0, 0)), (29, (.ldc_w 267, .inl (.int (252645135)), 0, 0, 0, 0))]),
  (39, [(32, (.iand, .inl .null, 0, 0, 0, 0)), (33, (.istore_n 0, .inl .null, 0, 0, 0, 0)), (34, (.iload_n 0, .inl .null, 0, 0, 0, 0)), (35, (.iload_n 0, .inl .null, 0, 0, 0, 0)), (36, (.bipush 8, .inl .null, 0, 0, 0, 0)), (38, (.iushr, .inl .null, 0, 0, 0, 0))]),
  (46, [(39, (.iadd, .inl .null, 0, 0, 0, 0)), (40, (.istore_n 0, .inl .null, 0, 0, 0, 0)), (41, (.iload_n 0, .inl .null, 0, 0, 0, 0)), (42, (.iload_n 0, .inl .null, 0, 0, 0, 0)), (43, (.bipush 16, .inl .null, 0, 0, 0, 0)), (45, (.iushr, .inl .null, 0, 0, 0, 0))]),
  (100000, [(46, (.iadd, .inl .null, 0, 0, 0, 0)), (47, (.istore_n 0, .inl .null, 0, 0, 0, 0)), (48, (.iload_n 0, .inl .null, 0, 0, 0, 0)), (49, (.bipush 63, .inl .null, 0, 0, 0, 0)), (51, (.iand, .inl .null, 0, 0, 0, 0)), (52, (.ireturn, .inl .null, 0, 0, 0, 0))])]
def zc_X4_takings : zCd := [(7, [(0, (.iload_n 1, .inl .null, 0, 0, 0, 0)), (1, (.iconst 1, .inl .null, 0, 0, 0, 0)), (2, (.bipush 99, .inl .null, 0, 0, 0, 0)), (4, (.invokestatic 55, .inl .null, 0, 0, 0, 0))]),
  (15, [(7, (.ifCond .eq 14, .inl .null, 0, 0, 0, 0)), (10, (.aload_n 0, .inl .null, 0, 0, 0, 0)), (11, (.getfield 10, .inl .null, 4, 0, 0, 0)), (14, (.iload_n 1, .inl .null, 0, 0, 0, 0))]),
  (24, [(15, (.invokevirtual 243, .inl .null, 57, 0, 0, 0)), (18, (.goto 9, .inl .null, 0, 0, 0, 0)), (21, (.aload_n 0, .inl .null, 0, 0, 0, 0)), (22, (.bipush (-2), .inl .null, 0, 0, 0, 0))]),
  (100000, [(24, (.invokevirtual 59, .inl .null, 2, 0, 0, 0)), (27, (.ireturn, .inl .null, 0, 0, 0, 0))])]
def zc_X5_takings : zCd := [(6, [(0, (.iload_n 1, .inl .null, 0, 0, 0, 0)), (1, (.i2l, .inl .null, 0, 0, 0, 0)), (2, (.lconst 1, .inl .null, 0, 0, 0, 0)), (3, (.ldc2_w 143, .inl (.long (99)), 0, 0, 0, 0))]),
  (14, [(6, (.invokestatic 85, .inl .null, 1, 0, 0, 0)), (9, (.ifCond .eq 11, .inl .null, 0, 0, 0, 0)), (12, (.aload_n 0, .inl .null, 0, 0, 0, 0)), (13, (.iload_n 1, .inl .null, 0, 0, 0, 0))]),
  (23, [(14, (.invokevirtual 325, .inl .null, 58, 0, 0, 0)), (17, (.goto 9, .inl .null, 0, 0, 0, 0)), (20, (.aload_n 0, .inl .null, 0, 0, 0, 0)), (21, (.bipush (-2), .inl .null, 0, 0, 0, 0))]),
  (100000, [(23, (.invokevirtual 98, .inl .null, 3, 0, 0, 0)), (26, (.ireturn, .inl .null, 0, 0, 0, 0))])]
def zc_X4_left : zCd := [(10, [(0, (.aload_n 0, .inl .null, 0, 0, 0, 0)), (1, (.getfield 10, .inl .null, 4, 0, 0, 0)), (4, (.invokevirtual 228, .inl .null, 45, 0, 0, 0)), (7, (.istore_n 2, .inl .null, 0, 0, 0, 0)), (8, (.iload_n 1, .inl .null, 0, 0, 0, 0)), (9, (.iconst 0, .inl .null, 0, 0, 0, 0))]),
  (23, [(10, (.iload_n 2, .inl .null, 0, 0, 0, 0)), (11, (.invokestatic 55, .inl .null, 0, 0, 0, 0)), (14, (.ifCond .ne 10, .inl .null, 0, 0, 0, 0)), (17, (.aload_n 0, .inl .null, 0, 0, 0, 0)), (18, (.bipush (-2), .inl .null, 0, 0, 0, 0)), (20, (.invokevirtual 59, .inl .null, 2, 0, 0, 0))]),
  (33, [(23, (.ireturn, .inl .null, 0, 0, 0, 0)), (24, (.aload_n 0, .inl .null, 0, 0, 0, 0)), (25, (.getfield 10, .inl .null, 4, 0, 0, 0)), (28, (.invokevirtual 196, .inl .null, 88, 0, 0, 0)), (31, (.istore_n 3, .inl .null, 0, 0, 0, 0)), (32, (.iload_n 3, .inl .null, 0, 0, 0, 0))]),
  (45, [(33, (.aload_n 0, .inl .null, 0, 0, 0, 0)), (34, (.getfield 10, .inl .null, 4, 0, 0, 0)), (37, (.iconst 4, .inl .null, 0, 0, 0, 0)), (38, (.invokevirtual 253, .inl .null, 130, 0, 0, 0)), (41, (.aload_n 0, .inl .null, 0, 0, 0, 0)), (42, (.getfield 10, .inl .null, 4, 0, 0, 0))]),
  (62, [(45, (.iconst 3, .inl .null, 0, 0, 0, 0)), (46, (.invokevirtual 253, .inl .null, 130, 0, 0, 0)), (49, (.ior, .inl .null, 0, 0, 0, 0)), (50, (.iand, .inl .null, 0, 0, 0, 0)), (51, (.ifCond .eq 10, .inl .null, 0, 0, 0, 0)), (61, (.iload_n 2, .inl .null, 0, 0, 0, 0))]),
  (78, [(62, (.ifCond .ne 7, .inl .null, 0, 0, 0, 0)), (69, (.sipush 1000, .inl .null, 0, 0, 0, 0)), (72, (.iload_n 3, .inl .null, 0, 0, 0, 0)), (73, (.invokestatic 231, .inl .null, 99, 0, 0, 0)), (76, (.imul, .inl .null, 0, 0, 0, 0)), (77, (.iload_n 2, .inl .null, 0, 0, 0, 0))]),
  (100000, [(78, (.iload_n 1, .inl .null, 0, 0, 0, 0)), (79, (.isub, .inl .null, 0, 0, 0, 0)), (80, (.imul, .inl .null, 0, 0, 0, 0)), (81, (.iload_n 2, .inl .null, 0, 0, 0, 0)), (82, (.idiv, .inl .null, 0, 0, 0, 0)), (83, (.ireturn, .inl .null, 0, 0, 0, 0))])]
def zc_X5_left : zCd := [(8, [(0, (.aload_n 0, .inl .null, 0, 0, 0, 0)), (1, (.invokevirtual 130, .inl .null, 48, 0, 0, 0)), (4, (.istore_n 2, .inl .null, 0, 0, 0, 0)), (5, (.iload_n 1, .inl .null, 0, 0, 0, 0)), (6, (.i2l, .inl .null, 0, 0, 0, 0)), (7, (.lconst 0, .inl .null, 0, 0, 0, 0))]),
  (19, [(8, (.iload_n 2, .inl .null, 0, 0, 0, 0)), (9, (.i2l, .inl .null, 0, 0, 0, 0)), (10, (.invokestatic 85, .inl .null, 1, 0, 0, 0)), (13, (.ifCond .ne 10, .inl .null, 0, 0, 0, 0)), (16, (.aload_n 0, .inl .null, 0, 0, 0, 0)), (17, (.bipush (-2), .inl .null, 0, 0, 0, 0))]),
  (28, [(19, (.invokevirtual 98, .inl .null, 3, 0, 0, 0)), (22, (.ireturn, .inl .null, 0, 0, 0, 0)), (23, (.iconst 0, .inl .null, 0, 0, 0, 0)), (24, (.istore_n 3, .inl .null, 0, 0, 0, 0)), (25, (.iconst 0, .inl .null, 0, 0, 0, 0)), (26, (.istore 4, .inl .null, 0, 0, 0, 0))]),
  (105, [(28, (.iload 4, .inl .null, 0, 0, 0, 0)), (30, (.aload_n 0, .inl .null, 0, 0, 0, 0)), (31, (.getfield 82, .inl .null, 5, 17, 0, 0)), (34, (.if_icmp .ge 63, .inl .null, 0, 0, 0, 0)), (97, (.iload_n 2, .inl .null, 0, 0, 0, 0)), (98, (.ifCond .ne 7, .inl .null, 0, 0, 0, 0))]),
  (113, [(105, (.sipush 1000, .inl .null, 0, 0, 0, 0)), (108, (.iload_n 3, .inl .null, 0, 0, 0, 0)), (109, (.imul, .inl .null, 0, 0, 0, 0)), (110, (.iload_n 2, .inl .null, 0, 0, 0, 0)), (111, (.iload_n 1, .inl .null, 0, 0, 0, 0)), (112, (.isub, .inl .null, 0, 0, 0, 0))]),
  (100000, [(113, (.imul, .inl .null, 0, 0, 0, 0)), (114, (.iload_n 2, .inl .null, 0, 0, 0, 0)), (115, (.idiv, .inl .null, 0, 0, 0, 0)), (116, (.ireturn, .inl .null, 0, 0, 0, 0))])]
def zc_X4_fete : zCd := [(8, [(0, (.iload_n 1, .inl .null, 0, 0, 0, 0)), (1, (.iconst 0, .inl .null, 0, 0, 0, 0)), (2, (.sipush 1000, .inl .null, 0, 0, 0, 0)), (5, (.invokestatic 55, .inl .null, 0, 0, 0, 0))]),
  (16, [(8, (.ifCond .eq 14, .inl .null, 0, 0, 0, 0)), (11, (.aload_n 0, .inl .null, 0, 0, 0, 0)), (12, (.getfield 10, .inl .null, 4, 0, 0, 0)), (15, (.iload_n 1, .inl .null, 0, 0, 0, 0))]),
  (25, [(16, (.invokevirtual 278, .inl .null, 170, 0, 0, 0)), (19, (.goto 9, .inl .null, 0, 0, 0, 0)), (22, (.aload_n 0, .inl .null, 0, 0, 0, 0)), (23, (.bipush (-2), .inl .null, 0, 0, 0, 0))]),
  (100000, [(25, (.invokevirtual 59, .inl .null, 2, 0, 0, 0)), (28, (.ireturn, .inl .null, 0, 0, 0, 0))])]
def zc_X5_fete : zCd := [(12, [(0, (.iload_n 1, .inl .null, 0, 0, 0, 0)), (1, (.i2l, .inl .null, 0, 0, 0, 0)), (2, (.lconst 0, .inl .null, 0, 0, 0, 0)), (3, (.ldc2_w 310, .inl (.long (1000)), 0, 0, 0, 0)), (6, (.invokestatic 85, .inl .null, 1, 0, 0, 0)), (9, (.ifCond .ne 10, .inl .null, 0, 0, 0, 0))]),
  (21, [(12, (.aload_n 0, .inl .null, 0, 0, 0, 0)), (13, (.bipush (-2), .inl .null, 0, 0, 0, 0)), (15, (.invokevirtual 98, .inl .null, 3, 0, 0, 0)), (18, (.ireturn, .inl .null, 0, 0, 0, 0)), (19, (.iconst 0, .inl .null, 0, 0, 0, 0)), (20, (.istore_n 2, .inl .null, 0, 0, 0, 0))]),
  (32, [(21, (.iload_n 2, .inl .null, 0, 0, 0, 0)), (22, (.bipush 60, .inl .null, 0, 0, 0, 0)), (24, (.if_icmp .gt 16, .inl .null, 0, 0, 0, 0)), (27, (.aload_n 0, .inl .null, 0, 0, 0, 0)), (28, (.getfield 53, .inl .null, 5, 16, 0, 0)), (31, (.iload_n 2, .inl .null, 0, 0, 0, 0))]),
  (42, [(32, (.iconst 0, .inl .null, 0, 0, 0, 0)), (33, (.iastore, .inl .null, 0, 0, 0, 0)), (34, (.iinc 2 1, .inl .null, 0, 0, 0, 0)), (37, (.goto (-16), .inl .null, 0, 0, 0, 0)), (40, (.aload_n 0, .inl .null, 0, 0, 0, 0)), (41, (.iconst 0, .inl .null, 0, 0, 0, 0))]),
  (50, [(42, (.putfield 127, .inl .null, 5, 13, 0, 0)), (45, (.iconst 0, .inl .null, 0, 0, 0, 0)), (46, (.istore_n 2, .inl .null, 0, 0, 0, 0)), (47, (.iconst 0, .inl .null, 0, 0, 0, 0)), (48, (.istore_n 3, .inl .null, 0, 0, 0, 0)), (49, (.iload_n 3, .inl .null, 0, 0, 0, 0))]),
  (100000, [(50, (.aload_n 0, .inl .null, 0, 0, 0, 0)), (51, (.getfield 82, .inl .null, 5, 17, 0, 0)), (54, (.if_icmp .ge 56, .inl .null, 0, 0, 0, 0)), (110, (.iload_n 2, .inl .null, 0, 0, 0, 0)), (111, (.ireturn, .inl .null, 0, 0, 0, 0))])]
def zc_X4_likes : zCd := [(5, [(0, (.aload_n 0, .inl .null, 0, 0, 0, 0)), (1, (.getfield 10, .inl .null, 4, 0, 0, 0)), (4, (.iload_n 1, .inl .null, 0, 0, 0, 0))]),
  (34, [(5, (.invokevirtual 151, .inl .null, 30, 0, 0, 0)), (8, (.ifCond .eq 25, .inl .null, 0, 0, 0, 0)), (33, (.aload_n 0, .inl .null, 0, 0, 0, 0))]),
  (100000, [(34, (.bipush (-2), .inl .null, 0, 0, 0, 0)), (36, (.invokevirtual 59, .inl .null, 2, 0, 0, 0)), (39, (.ireturn, .inl .null, 0, 0, 0, 0))])]
def zc_X5_likes : zCd := [(5, [(0, (.aload_n 0, .inl .null, 0, 0, 0, 0)), (1, (.iload_n 1, .inl .null, 0, 0, 0, 0)), (2, (.invokevirtual 164, .inl .null, 42, 0, 0, 0))]),
  (31, [(5, (.ifCond .eq 23, .inl .null, 0, 0, 0, 0)), (28, (.aload_n 0, .inl .null, 0, 0, 0, 0)), (29, (.bipush (-2), .inl .null, 0, 0, 0, 0))]),
  (100000, [(31, (.invokevirtual 98, .inl .null, 3, 0, 0, 0)), (34, (.ireturn, .inl .null, 0, 0, 0, 0))])]
def zc_X4_purse : zCd := [(5, [(0, (.aload_n 0, .inl .null, 0, 0, 0, 0)), (1, (.getfield 10, .inl .null, 4, 0, 0, 0)), (4, (.iload_n 1, .inl .null, 0, 0, 0, 0))]),
  (23, [(5, (.invokevirtual 151, .inl .null, 30, 0, 0, 0)), (8, (.ifCond .eq 14, .inl .null, 0, 0, 0, 0)), (22, (.aload_n 0, .inl .null, 0, 0, 0, 0))]),
  (100000, [(23, (.bipush (-2), .inl .null, 0, 0, 0, 0)), (25, (.invokevirtual 59, .inl .null, 2, 0, 0, 0)), (28, (.ireturn, .inl .null, 0, 0, 0, 0))])]
def zc_X5_purse : zCd := [(5, [(0, (.aload_n 0, .inl .null, 0, 0, 0, 0)), (1, (.iload_n 1, .inl .null, 0, 0, 0, 0)), (2, (.invokevirtual 164, .inl .null, 42, 0, 0, 0))]),
  (23, [(5, (.ifCond .eq 15, .inl .null, 0, 0, 0, 0)), (20, (.aload_n 0, .inl .null, 0, 0, 0, 0)), (21, (.bipush (-2), .inl .null, 0, 0, 0, 0))]),
  (100000, [(23, (.invokevirtual 98, .inl .null, 3, 0, 0, 0)), (26, (.ireturn, .inl .null, 0, 0, 0, 0))])]
def zc_X1_become : zCd := [(18, [(0, (.aload_n 0, .inl .null, 0, 0, 0, 0)), (1, (.aload_n 1, .inl .null, 0, 0, 0, 0)), (2, (.getfield 9, .inl .null, 1, 0, 0, 0)), (5, (.putfield 9, .inl .null, 1, 0, 0, 0)), (8, (.aload_n 0, .inl .null, 0, 0, 0, 0)), (9, (.aload_n 1, .inl .null, 0, 0, 0, 0)), (10, (.getfield 15, .inl .null, 1, 1, 0, 0)), (13, (.putfield 15, .inl .null, 1, 1, 0, 0)), (16, (.aload_n 0, .inl .null, 0, 0, 0, 0)), (17, (.aload_n 1, .inl .null, 0, 0, 0, 0))]),
  (40, [(18, (.getfield 18, .inl .null, 1, 2, 0, 0)), (21, (.putfield 18, .inl .null, 1, 2, 0, 0)), (24, (.aload_n 0, .inl .null, 0, 0, 0, 0)), (25, (.aload_n 1, .inl .null, 0, 0, 0, 0)), (26, (.getfield 21, .inl .null, 1, 3, 0, 0)), (29, (.putfield 21, .inl .null, 1, 3, 0, 0)), (32, (.aload_n 0, .inl .null, 0, 0, 0, 0)), (33, (.aload_n 1, .inl .null, 0, 0, 0, 0)), (34, (.getfield 24, .inl .null, 1, 4, 0, 0)), (37, (.putfield 24, .inl .null, 1, 4, 0, 0))]),
  (58, [(40, (.aload_n 0, .inl .null, 0, 0, 0, 0)), (41, (.aload_n 1, .inl .null, 0, 0, 0, 0)), (42, (.getfield 27, .inl .null, 1, 5, 0, 0)), (45, (.putfield 27, .inl .null, 1, 5, 0, 0)), (48, (.aload_n 0, .inl .null, 0, 0, 0, 0)), (49, (.aload_n 1, .inl .null, 0, 0, 0, 0)), (50, (.getfield 30, .inl .null, 1, 6, 0, 0)), (53, (.putfield 30, .inl .null, 1, 6, 0, 0)), (56, (.aload_n 0, .inl .null, 0, 0, 0, 0)), (57, (.aload_n 1, .inl .null, 0, 0, 0, 0))]),
  (78, [(58, (.getfield 33, .inl .null, 1, 7, 0, 0)), (61, (.putfield 33, .inl .null, 1, 7, 1, 0)), (64, (.aload_n 0, .inl .null, 0, 0, 0, 0)), (65, (.aload_n 1, .inl .null, 0, 0, 0, 0)), (66, (.getfield 37, .inl .null, 1, 8, 0, 0)), (69, (.putfield 37, .inl .null, 1, 8, 0, 0)), (72, (.aload_n 1, .inl .null, 0, 0, 0, 0)), (73, (.getfield 40, .inl .null, 1, 9, 0, 0)), (76, (.iconst 0, .inl .null, 0, 0, 0, 0)), (77, (.aload_n 0, .inl .null, 0, 0, 0, 0))]),
  (97, [(78, (.getfield 40, .inl .null, 1, 9, 0, 0)), (81, (.iconst 0, .inl .null, 0, 0, 0, 0)), (82, (.bipush 8, .inl .null, 0, 0, 0, 0)), (84, (.invokestatic 69, .inl .null, 0, 7, 0, 0)), (87, (.aload_n 1, .inl .null, 0, 0, 0, 0)), (88, (.getfield 44, .inl .null, 1, 10, 0, 0)), (91, (.iconst 0, .inl .null, 0, 0, 0, 0)), (92, (.aload_n 0, .inl .null, 0, 0, 0, 0)), (93, (.getfield 44, .inl .null, 1, 10, 0, 0)), (96, (.iconst 0, .inl .null, 0, 0, 0, 0))]),
  (117, [(97, (.bipush 8, .inl .null, 0, 0, 0, 0)), (99, (.invokestatic 69, .inl .null, 0, 7, 0, 0)), (102, (.aload_n 1, .inl .null, 0, 0, 0, 0)), (103, (.getfield 47, .inl .null, 1, 11, 0, 0)), (106, (.iconst 0, .inl .null, 0, 0, 0, 0)), (107, (.aload_n 0, .inl .null, 0, 0, 0, 0)), (108, (.getfield 47, .inl .null, 1, 11, 0, 0)), (111, (.iconst 0, .inl .null, 0, 0, 0, 0)), (112, (.bipush 8, .inl .null, 0, 0, 0, 0)), (114, (.invokestatic 69, .inl .null, 0, 7, 0, 0))]),
  (136, [(117, (.aload_n 1, .inl .null, 0, 0, 0, 0)), (118, (.getfield 50, .inl .null, 1, 12, 0, 0)), (121, (.iconst 0, .inl .null, 0, 0, 0, 0)), (122, (.aload_n 0, .inl .null, 0, 0, 0, 0)), (123, (.getfield 50, .inl .null, 1, 12, 0, 0)), (126, (.iconst 0, .inl .null, 0, 0, 0, 0)), (127, (.bipush 8, .inl .null, 0, 0, 0, 0)), (129, (.invokestatic 69, .inl .null, 0, 7, 0, 0)), (132, (.aload_n 1, .inl .null, 0, 0, 0, 0)), (133, (.getfield 53, .inl .null, 1, 13, 0, 0))]),
  (155, [(136, (.iconst 0, .inl .null, 0, 0, 0, 0)), (137, (.aload_n 0, .inl .null, 0, 0, 0, 0)), (138, (.getfield 53, .inl .null, 1, 13, 0, 0)), (141, (.iconst 0, .inl .null, 0, 0, 0, 0)), (142, (.bipush 8, .inl .null, 0, 0, 0, 0)), (144, (.invokestatic 69, .inl .null, 0, 7, 0, 0)), (147, (.aload_n 0, .inl .null, 0, 0, 0, 0)), (148, (.aload_n 1, .inl .null, 0, 0, 0, 0)), (149, (.getfield 56, .inl .null, 1, 14, 0, 0)), (152, (.putfield 56, .inl .null, 1, 14, 0, 0))]),
  (173, [(155, (.aload_n 1, .inl .null, 0, 0, 0, 0)), (156, (.getfield 59, .inl .null, 1, 15, 0, 0)), (159, (.iconst 0, .inl .null, 0, 0, 0, 0)), (160, (.aload_n 0, .inl .null, 0, 0, 0, 0)), (161, (.getfield 59, .inl .null, 1, 15, 0, 0)), (164, (.iconst 0, .inl .null, 0, 0, 0, 0)), (165, (.iconst 4, .inl .null, 0, 0, 0, 0)), (166, (.invokestatic 69, .inl .null, 0, 7, 0, 0)), (169, (.aload_n 1, .inl .null, 0, 0, 0, 0)), (170, (.getfield 62, .inl .null, 1, 16, 0, 0))]),
  (100000, [(173, (.iconst 0, .inl .null, 0, 0, 0, 0)), (174, (.aload_n 0, .inl .null, 0, 0, 0, 0)), (175, (.getfield 62, .inl .null, 1, 16, 0, 0)), (178, (.iconst 0, .inl .null, 0, 0, 0, 0)), (179, (.bipush 32, .inl .null, 0, 0, 0, 0)), (181, (.invokestatic 69, .inl .null, 0, 7, 0, 0)), (184, (.return_, .inl .null, 0, 0, 0, 0))])]
def zc_X4_thingOf : zCd := [(5, [(0, (.aload_n 0, .inl .null, 0, 0, 0, 0)), (1, (.getfield 10, .inl .null, 4, 0, 0, 0)), (4, (.iload_n 1, .inl .null, 0, 0, 0, 0))]),
  (12, [(5, (.invokevirtual 100, .inl .null, 20, 0, 0, 0)), (8, (.ifCond .ne 10, .inl .null, 0, 0, 0, 0)), (11, (.aload_n 0, .inl .null, 0, 0, 0, 0))]),
  (100000, [(12, (.bipush (-2), .inl .null, 0, 0, 0, 0)), (14, (.invokevirtual 59, .inl .null, 2, 0, 0, 0)), (17, (.ireturn, .inl .null, 0, 0, 0, 0))])]
def zc_X5_thingOf : zCd := [(5, [(0, (.aload_n 0, .inl .null, 0, 0, 0, 0)), (1, (.iload_n 1, .inl .null, 0, 0, 0, 0)), (2, (.invokevirtual 109, .inl .null, 51, 0, 0, 0))]),
  (11, [(5, (.ifCond .ne 10, .inl .null, 0, 0, 0, 0)), (8, (.aload_n 0, .inl .null, 0, 0, 0, 0)), (9, (.bipush (-2), .inl .null, 0, 0, 0, 0))]),
  (100000, [(11, (.invokevirtual 98, .inl .null, 3, 0, 0, 0)), (14, (.ireturn, .inl .null, 0, 0, 0, 0))])]
def zc_X4_buyerOf : zCd := [(5, [(0, (.aload_n 0, .inl .null, 0, 0, 0, 0)), (1, (.getfield 10, .inl .null, 4, 0, 0, 0)), (4, (.iload_n 1, .inl .null, 0, 0, 0, 0))]),
  (12, [(5, (.invokevirtual 151, .inl .null, 30, 0, 0, 0)), (8, (.ifCond .ne 10, .inl .null, 0, 0, 0, 0)), (11, (.aload_n 0, .inl .null, 0, 0, 0, 0))]),
  (100000, [(12, (.bipush (-2), .inl .null, 0, 0, 0, 0)), (14, (.invokevirtual 59, .inl .null, 2, 0, 0, 0)), (17, (.ireturn, .inl .null, 0, 0, 0, 0))])]
def zc_X5_buyerOf : zCd := [(5, [(0, (.aload_n 0, .inl .null, 0, 0, 0, 0)), (1, (.iload_n 1, .inl .null, 0, 0, 0, 0)), (2, (.invokevirtual 164, .inl .null, 42, 0, 0, 0))]),
  (11, [(5, (.ifCond .ne 10, .inl .null, 0, 0, 0, 0)), (8, (.aload_n 0, .inl .null, 0, 0, 0, 0)), (9, (.bipush (-2), .inl .null, 0, 0, 0, 0))]),
  (100000, [(11, (.invokevirtual 98, .inl .null, 3, 0, 0, 0)), (14, (.ireturn, .inl .null, 0, 0, 0, 0))])]
def zc_X1_countDrawable : zCd := [(6, [(0, (.aload_n 0, .inl .null, 0, 0, 0, 0)), (1, (.invokevirtual 117, .inl .null, 45, 0, 0, 0)), (4, (.istore_n 1, .inl .null, 0, 0, 0, 0)), (5, (.iload_n 1, .inl .null, 0, 0, 0, 0))]),
  (12, [(6, (.aload_n 0, .inl .null, 0, 0, 0, 0)), (7, (.invokevirtual 104, .inl .null, 88, 0, 0, 0)), (10, (.aload_n 0, .inl .null, 0, 0, 0, 0)), (11, (.aload_n 0, .inl .null, 0, 0, 0, 0))]),
  (20, [(12, (.getfield 24, .inl .null, 1, 4, 0, 0)), (15, (.iload_n 1, .inl .null, 0, 0, 0, 0)), (16, (.invokevirtual 126, .inl .null, 116, 0, 0, 0)), (19, (.iconst (-1), .inl .null, 0, 0, 0, 0))]),
  (26, [(20, (.ixor, .inl .null, 0, 0, 0, 0)), (21, (.iand, .inl .null, 0, 0, 0, 0)), (22, (.invokestatic 129, .inl .null, 99, 0, 0, 0)), (25, (.isub, .inl .null, 0, 0, 0, 0))]),
  (100000, [(26, (.ireturn, .inl .null, 0, 0, 0, 0))])]
def zc_X1_thingsReady : zCd := [(4, [(0, (.iconst 2, .inl .null, 0, 0, 0, 0)), (1, (.iload_n 2, .inl .null, 0, 0, 0, 0)), (2, (.imul, .inl .null, 0, 0, 0, 0)), (3, (.aload_n 0, .inl .null, 0, 0, 0, 0))]),
  (16, [(4, (.getfield 9, .inl .null, 1, 0, 0, 0)), (7, (.if_icmp .gt 7, .inl .null, 0, 0, 0, 0)), (14, (.iconst 0, .inl .null, 0, 0, 0, 0)), (15, (.istore_n 3, .inl .null, 0, 0, 0, 0))]),
  (22, [(16, (.iconst 0, .inl .null, 0, 0, 0, 0)), (17, (.istore 4, .inl .null, 0, 0, 0, 0)), (19, (.iconst 0, .inl .null, 0, 0, 0, 0)), (20, (.istore 5, .inl .null, 0, 0, 0, 0))]),
  (115, [(22, (.iload 5, .inl .null, 0, 0, 0, 0)), (24, (.aload_n 0, .inl .null, 0, 0, 0, 0)), (25, (.getfield 37, .inl .null, 1, 8, 0, 0)), (28, (.if_icmp .ge 87, .inl .null, 0, 0, 0, 0))]),
  (100000, [(115, (.iload 4, .inl .null, 0, 0, 0, 0)), (117, (.ireturn, .inl .null, 0, 0, 0, 0))])]
def zc_X5_drawableMany : zCd := [(5, [(0, (.iconst 0, .inl .null, 0, 0, 0, 0)), (1, (.istore_n 1, .inl .null, 0, 0, 0, 0)), (2, (.iconst 1, .inl .null, 0, 0, 0, 0)), (3, (.istore_n 2, .inl .null, 0, 0, 0, 0)), (4, (.iload_n 2, .inl .null, 0, 0, 0, 0))]),
  (14, [(5, (.aload_n 0, .inl .null, 0, 0, 0, 0)), (6, (.getfield 37, .inl .null, 5, 9, 0, 0)), (9, (.if_icmp .gt 25, .inl .null, 0, 0, 0, 0)), (12, (.iload_n 1, .inl .null, 0, 0, 0, 0)), (13, (.aload_n 0, .inl .null, 0, 0, 0, 0))]),
  (26, [(14, (.iload_n 2, .inl .null, 0, 0, 0, 0)), (15, (.invokevirtual 268, .inl .null, 21, 0, 0, 0)), (18, (.ifCond .eq 7, .inl .null, 0, 0, 0, 0)), (21, (.iconst 1, .inl .null, 0, 0, 0, 0)), (22, (.goto 4, .inl .null, 0, 0, 0, 0))]),
  (35, [(26, (.iadd, .inl .null, 0, 0, 0, 0)), (27, (.istore_n 1, .inl .null, 0, 0, 0, 0)), (28, (.iinc 2 1, .inl .null, 0, 0, 0, 0)), (31, (.goto (-27), .inl .null, 0, 0, 0, 0)), (34, (.iload_n 1, .inl .null, 0, 0, 0, 0))]),
  (100000, [(35, (.ireturn, .inl .null, 0, 0, 0, 0))])]
def zc_X4_worth : zCd := [(5, [(0, (.aload_n 0, .inl .null, 0, 0, 0, 0)), (1, (.getfield 10, .inl .null, 4, 0, 0, 0)), (4, (.iload_n 1, .inl .null, 0, 0, 0, 0))]),
  (23, [(5, (.invokevirtual 151, .inl .null, 30, 0, 0, 0)), (8, (.ifCond .eq 14, .inl .null, 0, 0, 0, 0)), (22, (.aload_n 0, .inl .null, 0, 0, 0, 0))]),
  (100000, [(23, (.bipush (-2), .inl .null, 0, 0, 0, 0)), (25, (.invokevirtual 59, .inl .null, 2, 0, 0, 0)), (28, (.ireturn, .inl .null, 0, 0, 0, 0))])]
def zc_X5_worth : zCd := [(5, [(0, (.aload_n 0, .inl .null, 0, 0, 0, 0)), (1, (.iload_n 1, .inl .null, 0, 0, 0, 0)), (2, (.invokevirtual 164, .inl .null, 42, 0, 0, 0))]),
  (19, [(5, (.ifCond .eq 11, .inl .null, 0, 0, 0, 0)), (16, (.aload_n 0, .inl .null, 0, 0, 0, 0)), (17, (.bipush (-2), .inl .null, 0, 0, 0, 0))]),
  (100000, [(19, (.invokevirtual 98, .inl .null, 3, 0, 0, 0)), (22, (.ireturn, .inl .null, 0, 0, 0, 0))])]
def zc_X4_plan : zCd := [(5, [(0, (.aload_n 0, .inl .null, 0, 0, 0, 0)), (1, (.getfield 10, .inl .null, 4, 0, 0, 0)), (4, (.iload_n 1, .inl .null, 0, 0, 0, 0))]),
  (12, [(5, (.invokevirtual 151, .inl .null, 30, 0, 0, 0)), (8, (.ifCond .ne 10, .inl .null, 0, 0, 0, 0)), (11, (.aload_n 0, .inl .null, 0, 0, 0, 0))]),
  (100000, [(12, (.bipush (-2), .inl .null, 0, 0, 0, 0)), (14, (.invokevirtual 59, .inl .null, 2, 0, 0, 0)), (17, (.ireturn, .inl .null, 0, 0, 0, 0))])]
def zc_X5_plan : zCd := [(5, [(0, (.aload_n 0, .inl .null, 0, 0, 0, 0)), (1, (.iload_n 1, .inl .null, 0, 0, 0, 0)), (2, (.invokevirtual 164, .inl .null, 42, 0, 0, 0))]),
  (19, [(5, (.ifCond .eq 11, .inl .null, 0, 0, 0, 0)), (16, (.aload_n 0, .inl .null, 0, 0, 0, 0)), (17, (.bipush (-2), .inl .null, 0, 0, 0, 0))]),
  (100000, [(19, (.invokevirtual 98, .inl .null, 3, 0, 0, 0)), (22, (.ireturn, .inl .null, 0, 0, 0, 0))])]
def zc_X4_till : zCd := [(5, [(0, (.aload_n 0, .inl .null, 0, 0, 0, 0)), (1, (.getfield 10, .inl .null, 4, 0, 0, 0)), (4, (.iload_n 1, .inl .null, 0, 0, 0, 0))]),
  (12, [(5, (.invokevirtual 151, .inl .null, 30, 0, 0, 0)), (8, (.ifCond .ne 10, .inl .null, 0, 0, 0, 0)), (11, (.aload_n 0, .inl .null, 0, 0, 0, 0))]),
  (100000, [(12, (.bipush (-2), .inl .null, 0, 0, 0, 0)), (14, (.invokevirtual 59, .inl .null, 2, 0, 0, 0)), (17, (.ireturn, .inl .null, 0, 0, 0, 0))])]
def zc_X5_till : zCd := [(5, [(0, (.aload_n 0, .inl .null, 0, 0, 0, 0)), (1, (.iload_n 1, .inl .null, 0, 0, 0, 0)), (2, (.invokevirtual 164, .inl .null, 42, 0, 0, 0))]),
  (11, [(5, (.ifCond .ne 10, .inl .null, 0, 0, 0, 0)), (8, (.aload_n 0, .inl .null, 0, 0, 0, 0)), (9, (.bipush (-2), .inl .null, 0, 0, 0, 0))]),
  (100000, [(11, (.invokevirtual 98, .inl .null, 3, 0, 0, 0)), (14, (.ireturn, .inl .null, 0, 0, 0, 0))])]
def zc_X4_atOnce : zCd := [(5, [(0, (.aload_n 0, .inl .null, 0, 0, 0, 0)), (1, (.getfield 10, .inl .null, 4, 0, 0, 0)), (4, (.iload_n 1, .inl .null, 0, 0, 0, 0))]),
  (13, [(5, (.invokevirtual 151, .inl .null, 30, 0, 0, 0)), (8, (.ifCond .ne 13, .inl .null, 0, 0, 0, 0)), (11, (.ldc 239, .inl (.int (-10000000)), 0, 0, 0, 0))]),
  (19, [(13, (.aload_n 0, .inl .null, 0, 0, 0, 0)), (14, (.bipush (-2), .inl .null, 0, 0, 0, 0)), (16, (.invokevirtual 59, .inl .null, 2, 0, 0, 0))]),
  (100000, [(19, (.iadd, .inl .null, 0, 0, 0, 0)), (20, (.ireturn, .inl .null, 0, 0, 0, 0))])]
def zc_X5_atOnce : zCd := [(5, [(0, (.aload_n 0, .inl .null, 0, 0, 0, 0)), (1, (.iload_n 1, .inl .null, 0, 0, 0, 0)), (2, (.invokevirtual 164, .inl .null, 42, 0, 0, 0))]),
  (12, [(5, (.ifCond .ne 14, .inl .null, 0, 0, 0, 0)), (8, (.ldc_w 324, .inl (.int (-10000000)), 0, 0, 0, 0)), (11, (.aload_n 0, .inl .null, 0, 0, 0, 0))]),
  (18, [(12, (.bipush (-2), .inl .null, 0, 0, 0, 0)), (14, (.invokevirtual 98, .inl .null, 3, 0, 0, 0)), (17, (.iadd, .inl .null, 0, 0, 0, 0))]),
  (100000, [(18, (.ireturn, .inl .null, 0, 0, 0, 0))])]
def zc_X4_mean : zCd := [(5, [(0, (.aload_n 0, .inl .null, 0, 0, 0, 0)), (1, (.getfield 10, .inl .null, 4, 0, 0, 0)), (4, (.iload_n 1, .inl .null, 0, 0, 0, 0))]),
  (22, [(5, (.invokevirtual 151, .inl .null, 30, 0, 0, 0)), (8, (.ifCond .eq 13, .inl .null, 0, 0, 0, 0)), (21, (.aload_n 0, .inl .null, 0, 0, 0, 0))]),
  (100000, [(22, (.bipush (-2), .inl .null, 0, 0, 0, 0)), (24, (.invokevirtual 59, .inl .null, 2, 0, 0, 0)), (27, (.ireturn, .inl .null, 0, 0, 0, 0))])]
def zc_X5_mean : zCd := [(5, [(0, (.aload_n 0, .inl .null, 0, 0, 0, 0)), (1, (.iload_n 1, .inl .null, 0, 0, 0, 0)), (2, (.invokevirtual 164, .inl .null, 42, 0, 0, 0))]),
  (33, [(5, (.ifCond .eq 25, .inl .null, 0, 0, 0, 0)), (30, (.aload_n 0, .inl .null, 0, 0, 0, 0)), (31, (.bipush (-2), .inl .null, 0, 0, 0, 0))]),
  (100000, [(33, (.invokevirtual 98, .inl .null, 3, 0, 0, 0)), (36, (.ireturn, .inl .null, 0, 0, 0, 0))])]
def zc_X4_all : zCd := [(5, [(0, (.aload_n 0, .inl .null, 0, 0, 0, 0)), (1, (.getfield 10, .inl .null, 4, 0, 0, 0)), (4, (.iload_n 1, .inl .null, 0, 0, 0, 0))]),
  (13, [(5, (.invokevirtual 151, .inl .null, 30, 0, 0, 0)), (8, (.ifCond .ne 13, .inl .null, 0, 0, 0, 0)), (11, (.ldc 239, .inl (.int (-10000000)), 0, 0, 0, 0))]),
  (19, [(13, (.aload_n 0, .inl .null, 0, 0, 0, 0)), (14, (.bipush (-2), .inl .null, 0, 0, 0, 0)), (16, (.invokevirtual 59, .inl .null, 2, 0, 0, 0))]),
  (100000, [(19, (.iadd, .inl .null, 0, 0, 0, 0)), (20, (.ireturn, .inl .null, 0, 0, 0, 0))])]
def zc_X5_all : zCd := [(5, [(0, (.aload_n 0, .inl .null, 0, 0, 0, 0)), (1, (.iload_n 1, .inl .null, 0, 0, 0, 0)), (2, (.invokevirtual 164, .inl .null, 42, 0, 0, 0))]),
  (12, [(5, (.ifCond .ne 14, .inl .null, 0, 0, 0, 0)), (8, (.ldc_w 324, .inl (.int (-10000000)), 0, 0, 0, 0)), (11, (.aload_n 0, .inl .null, 0, 0, 0, 0))]),
  (18, [(12, (.bipush (-2), .inl .null, 0, 0, 0, 0)), (14, (.invokevirtual 98, .inl .null, 3, 0, 0, 0)), (17, (.iadd, .inl .null, 0, 0, 0, 0))]),
  (100000, [(18, (.ireturn, .inl .null, 0, 0, 0, 0))])]
def zc_X1_thingsUnder : zCd := [(3, [(0, (.iconst 0, .inl .null, 0, 0, 0, 0)), (1, (.istore_n 2, .inl .null, 0, 0, 0, 0)), (2, (.iconst 0, .inl .null, 0, 0, 0, 0))]),
  (6, [(3, (.istore_n 3, .inl .null, 0, 0, 0, 0)), (4, (.iload_n 3, .inl .null, 0, 0, 0, 0)), (5, (.aload_n 0, .inl .null, 0, 0, 0, 0))]),
  (38, [(6, (.getfield 37, .inl .null, 1, 8, 0, 0)), (9, (.if_icmp .ge 28, .inl .null, 0, 0, 0, 0)), (37, (.iload_n 2, .inl .null, 0, 0, 0, 0))]),
  (100000, [(38, (.ireturn, .inl .null, 0, 0, 0, 0))])]
def zc_X4_chain : zCd := [(5, [(0, (.aload_n 0, .inl .null, 0, 0, 0, 0)), (1, (.getfield 10, .inl .null, 4, 0, 0, 0)), (4, (.iload_n 1, .inl .null, 0, 0, 0, 0))]),
  (12, [(5, (.invokevirtual 100, .inl .null, 20, 0, 0, 0)), (8, (.ifCond .ne 10, .inl .null, 0, 0, 0, 0)), (11, (.aload_n 0, .inl .null, 0, 0, 0, 0))]),
  (100000, [(12, (.bipush (-2), .inl .null, 0, 0, 0, 0)), (14, (.invokevirtual 59, .inl .null, 2, 0, 0, 0)), (17, (.ireturn, .inl .null, 0, 0, 0, 0))])]
def zc_X5_chain : zCd := [(5, [(0, (.aload_n 0, .inl .null, 0, 0, 0, 0)), (1, (.iload_n 1, .inl .null, 0, 0, 0, 0)), (2, (.invokevirtual 109, .inl .null, 51, 0, 0, 0))]),
  (11, [(5, (.ifCond .ne 10, .inl .null, 0, 0, 0, 0)), (8, (.aload_n 0, .inl .null, 0, 0, 0, 0)), (9, (.bipush (-2), .inl .null, 0, 0, 0, 0))]),
  (100000, [(11, (.invokevirtual 98, .inl .null, 3, 0, 0, 0)), (14, (.ireturn, .inl .null, 0, 0, 0, 0))])]
def zc_X4_dearest : zCd := [(5, [(0, (.aload_n 0, .inl .null, 0, 0, 0, 0)), (1, (.getfield 10, .inl .null, 4, 0, 0, 0)), (4, (.iload_n 1, .inl .null, 0, 0, 0, 0))]),
  (12, [(5, (.invokevirtual 151, .inl .null, 30, 0, 0, 0)), (8, (.ifCond .ne 10, .inl .null, 0, 0, 0, 0)), (11, (.aload_n 0, .inl .null, 0, 0, 0, 0))]),
  (100000, [(12, (.bipush (-2), .inl .null, 0, 0, 0, 0)), (14, (.invokevirtual 59, .inl .null, 2, 0, 0, 0)), (17, (.ireturn, .inl .null, 0, 0, 0, 0))])]
def zc_X5_dearest : zCd := [(5, [(0, (.aload_n 0, .inl .null, 0, 0, 0, 0)), (1, (.iload_n 1, .inl .null, 0, 0, 0, 0)), (2, (.invokevirtual 164, .inl .null, 42, 0, 0, 0))]),
  (11, [(5, (.ifCond .ne 10, .inl .null, 0, 0, 0, 0)), (8, (.aload_n 0, .inl .null, 0, 0, 0, 0)), (9, (.bipush (-2), .inl .null, 0, 0, 0, 0))]),
  (100000, [(11, (.invokevirtual 98, .inl .null, 3, 0, 0, 0)), (14, (.ireturn, .inl .null, 0, 0, 0, 0))])]
def zc_X4_fondest : zCd := [(5, [(0, (.aload_n 0, .inl .null, 0, 0, 0, 0)), (1, (.getfield 10, .inl .null, 4, 0, 0, 0)), (4, (.iload_n 1, .inl .null, 0, 0, 0, 0))]),
  (12, [(5, (.invokevirtual 100, .inl .null, 20, 0, 0, 0)), (8, (.ifCond .ne 10, .inl .null, 0, 0, 0, 0)), (11, (.aload_n 0, .inl .null, 0, 0, 0, 0))]),
  (100000, [(12, (.bipush (-2), .inl .null, 0, 0, 0, 0)), (14, (.invokevirtual 59, .inl .null, 2, 0, 0, 0)), (17, (.ireturn, .inl .null, 0, 0, 0, 0))])]
def zc_X5_fondest : zCd := [(5, [(0, (.aload_n 0, .inl .null, 0, 0, 0, 0)), (1, (.iload_n 1, .inl .null, 0, 0, 0, 0)), (2, (.invokevirtual 109, .inl .null, 51, 0, 0, 0))]),
  (11, [(5, (.ifCond .ne 10, .inl .null, 0, 0, 0, 0)), (8, (.aload_n 0, .inl .null, 0, 0, 0, 0)), (9, (.bipush (-2), .inl .null, 0, 0, 0, 0))]),
  (100000, [(11, (.invokevirtual 98, .inl .null, 3, 0, 0, 0)), (14, (.ireturn, .inl .null, 0, 0, 0, 0))])]
def zc_X4_go : zCd := [(5, [(0, (.aload_n 0, .inl .null, 0, 0, 0, 0)), (1, (.getfield 10, .inl .null, 4, 0, 0, 0)), (4, (.iload_n 1, .inl .null, 0, 0, 0, 0))]),
  (12, [(5, (.invokevirtual 151, .inl .null, 30, 0, 0, 0)), (8, (.ifCond .ne 10, .inl .null, 0, 0, 0, 0)), (11, (.aload_n 0, .inl .null, 0, 0, 0, 0))]),
  (100000, [(12, (.bipush (-2), .inl .null, 0, 0, 0, 0)), (14, (.invokevirtual 59, .inl .null, 2, 0, 0, 0)), (17, (.ireturn, .inl .null, 0, 0, 0, 0))])]
def zc_X5_go : zCd := [(5, [(0, (.aload_n 0, .inl .null, 0, 0, 0, 0)), (1, (.iload_n 1, .inl .null, 0, 0, 0, 0)), (2, (.invokevirtual 164, .inl .null, 42, 0, 0, 0))]),
  (11, [(5, (.ifCond .ne 10, .inl .null, 0, 0, 0, 0)), (8, (.aload_n 0, .inl .null, 0, 0, 0, 0)), (9, (.bipush (-2), .inl .null, 0, 0, 0, 0))]),
  (100000, [(11, (.invokevirtual 98, .inl .null, 3, 0, 0, 0)), (14, (.ireturn, .inl .null, 0, 0, 0, 0))])]
def zc_X4_five : zCd := [(5, [(0, (.aload_n 0, .inl .null, 0, 0, 0, 0)), (1, (.getfield 10, .inl .null, 4, 0, 0, 0)), (4, (.iload_n 1, .inl .null, 0, 0, 0, 0))]),
  (12, [(5, (.invokevirtual 151, .inl .null, 30, 0, 0, 0)), (8, (.ifCond .ne 10, .inl .null, 0, 0, 0, 0)), (11, (.aload_n 0, .inl .null, 0, 0, 0, 0))]),
  (100000, [(12, (.bipush (-2), .inl .null, 0, 0, 0, 0)), (14, (.invokevirtual 59, .inl .null, 2, 0, 0, 0)), (17, (.ireturn, .inl .null, 0, 0, 0, 0))])]
def zc_X5_five : zCd := [(5, [(0, (.aload_n 0, .inl .null, 0, 0, 0, 0)), (1, (.iload_n 1, .inl .null, 0, 0, 0, 0)), (2, (.invokevirtual 164, .inl .null, 42, 0, 0, 0))]),
  (11, [(5, (.ifCond .ne 10, .inl .null, 0, 0, 0, 0)), (8, (.aload_n 0, .inl .null, 0, 0, 0, 0)), (9, (.bipush (-2), .inl .null, 0, 0, 0, 0))]),
  (100000, [(11, (.invokevirtual 98, .inl .null, 3, 0, 0, 0)), (14, (.ireturn, .inl .null, 0, 0, 0, 0))])]
def zc_X4_plays : zCd := [(5, [(0, (.aload_n 0, .inl .null, 0, 0, 0, 0)), (1, (.getfield 10, .inl .null, 4, 0, 0, 0)), (4, (.iload_n 1, .inl .null, 0, 0, 0, 0))]),
  (12, [(5, (.invokevirtual 151, .inl .null, 30, 0, 0, 0)), (8, (.ifCond .ne 10, .inl .null, 0, 0, 0, 0)), (11, (.aload_n 0, .inl .null, 0, 0, 0, 0))]),
  (100000, [(12, (.bipush (-2), .inl .null, 0, 0, 0, 0)), (14, (.invokevirtual 59, .inl .null, 2, 0, 0, 0)), (17, (.ireturn, .inl .null, 0, 0, 0, 0))])]
def zc_X5_plays : zCd := [(5, [(0, (.aload_n 0, .inl .null, 0, 0, 0, 0)), (1, (.iload_n 1, .inl .null, 0, 0, 0, 0)), (2, (.invokevirtual 164, .inl .null, 42, 0, 0, 0))]),
  (11, [(5, (.ifCond .ne 10, .inl .null, 0, 0, 0, 0)), (8, (.aload_n 0, .inl .null, 0, 0, 0, 0)), (9, (.bipush (-2), .inl .null, 0, 0, 0, 0))]),
  (100000, [(11, (.invokevirtual 98, .inl .null, 3, 0, 0, 0)), (14, (.ireturn, .inl .null, 0, 0, 0, 0))])]
def zc_X5_becomeSlips : zCd := [(6, [(0, (.aload_n 0, .inl .null, 0, 0, 0, 0)), (1, (.iload_n 1, .inl .null, 0, 0, 0, 0)), (2, (.putfield 37, .inl .null, 5, 9, 0, 0)), (5, (.iconst 0, .inl .null, 0, 0, 0, 0))]),
  (13, [(6, (.istore_n 2, .inl .null, 0, 0, 0, 0)), (7, (.iload_n 2, .inl .null, 0, 0, 0, 0)), (8, (.bipush 60, .inl .null, 0, 0, 0, 0)), (10, (.if_icmp .gt 16, .inl .null, 0, 0, 0, 0))]),
  (19, [(13, (.aload_n 0, .inl .null, 0, 0, 0, 0)), (14, (.getfield 53, .inl .null, 5, 16, 0, 0)), (17, (.iload_n 2, .inl .null, 0, 0, 0, 0)), (18, (.iconst 0, .inl .null, 0, 0, 0, 0))]),
  (100000, [(19, (.iastore, .inl .null, 0, 0, 0, 0)), (20, (.iinc 2 1, .inl .null, 0, 0, 0, 0)), (23, (.goto (-16), .inl .null, 0, 0, 0, 0)), (26, (.return_, .inl .null, 0, 0, 0, 0))])]
def zc_X1_addBuyer : zCd := [(6, [(0, (.aload_n 0, .inl .null, 0, 0, 0, 0)), (1, (.getfield 56, .inl .null, 1, 14, 0, 0)), (4, (.istore_n 2, .inl .null, 0, 0, 0, 0)), (5, (.iload_n 2, .inl .null, 0, 0, 0, 0))]),
  (16, [(6, (.iconst 4, .inl .null, 0, 0, 0, 0)), (7, (.if_icmp .lt 5, .inl .null, 0, 0, 0, 0)), (12, (.aload_n 0, .inl .null, 0, 0, 0, 0)), (13, (.getfield 59, .inl .null, 1, 15, 0, 0))]),
  (20, [(16, (.iload_n 2, .inl .null, 0, 0, 0, 0)), (17, (.iload_n 1, .inl .null, 0, 0, 0, 0)), (18, (.iastore, .inl .null, 0, 0, 0, 0)), (19, (.aload_n 0, .inl .null, 0, 0, 0, 0))]),
  (26, [(20, (.dup, .inl .null, 0, 0, 0, 0)), (21, (.getfield 56, .inl .null, 1, 14, 0, 0)), (24, (.iconst 1, .inl .null, 0, 0, 0, 0)), (25, (.iadd, .inl .null, 0, 0, 0, 0))]),
  (100000, [(26, (.putfield 56, .inl .null, 1, 14, 0, 0)), (29, (.iload_n 2, .inl .null, 0, 0, 0, 0)), (30, (.ireturn, .inl .null, 0, 0, 0, 0))])]
def zc_X5_addBuyer : zCd := [(9, [(0, (.aload_n 0, .inl .null, 0, 0, 0, 0)), (1, (.getfield 71, .inl .null, 5, 24, 0, 0)), (4, (.aload_n 0, .inl .null, 0, 0, 0, 0)), (5, (.getfield 89, .inl .null, 5, 23, 0, 0)), (8, (.iload_n 1, .inl .null, 0, 0, 0, 0))]),
  (15, [(9, (.iastore, .inl .null, 0, 0, 0, 0)), (10, (.iconst 0, .inl .null, 0, 0, 0, 0)), (11, (.istore_n 2, .inl .null, 0, 0, 0, 0)), (12, (.iload_n 2, .inl .null, 0, 0, 0, 0)), (13, (.bipush 8, .inl .null, 0, 0, 0, 0))]),
  (26, [(15, (.if_icmp .ge 21, .inl .null, 0, 0, 0, 0)), (18, (.aload_n 0, .inl .null, 0, 0, 0, 0)), (19, (.getfield 76, .inl .null, 5, 25, 0, 0)), (22, (.aload_n 0, .inl .null, 0, 0, 0, 0)), (23, (.getfield 89, .inl .null, 5, 23, 0, 0))]),
  (33, [(26, (.aaload, .inl .null, 0, 0, 0, 0)), (27, (.iload_n 2, .inl .null, 0, 0, 0, 0)), (28, (.iconst 0, .inl .null, 0, 0, 0, 0)), (29, (.iastore, .inl .null, 0, 0, 0, 0)), (30, (.iinc 2 1, .inl .null, 0, 0, 0, 0))]),
  (42, [(33, (.goto (-21), .inl .null, 0, 0, 0, 0)), (36, (.aload_n 0, .inl .null, 0, 0, 0, 0)), (37, (.dup, .inl .null, 0, 0, 0, 0)), (38, (.getfield 89, .inl .null, 5, 23, 0, 0)), (41, (.iconst 1, .inl .null, 0, 0, 0, 0))]),
  (100000, [(42, (.iadd, .inl .null, 0, 0, 0, 0)), (43, (.putfield 89, .inl .null, 5, 23, 0, 0)), (46, (.return_, .inl .null, 0, 0, 0, 0))])]
def zc_X4_wipe : zCd := [(7, [(0, (.aload_n 0, .inl .null, 0, 0, 0, 0)), (1, (.getfield 32, .inl .null, 4, 4, 0, 0)), (4, (.getfield 164, .inl .null, 2, 1, 0, 0))]),
  (12, [(7, (.istore_n 1, .inl .null, 0, 0, 0, 0)), (8, (.aload_n 0, .inl .null, 0, 0, 0, 0)), (9, (.getfield 32, .inl .null, 4, 4, 0, 0))]),
  (17, [(12, (.iconst 0, .inl .null, 0, 0, 0, 0)), (13, (.putfield 164, .inl .null, 2, 1, 0, 0)), (16, (.iload_n 1, .inl .null, 0, 0, 0, 0))]),
  (100000, [(17, (.ireturn, .inl .null, 0, 0, 0, 0))])]
def zc_X5_wipe : zCd := [(5, [(0, (.aload_n 0, .inl .null, 0, 0, 0, 0)), (1, (.getfield 171, .inl .null, 5, 7, 0, 0)), (4, (.istore_n 1, .inl .null, 0, 0, 0, 0))]),
  (10, [(5, (.aload_n 0, .inl .null, 0, 0, 0, 0)), (6, (.iconst 0, .inl .null, 0, 0, 0, 0)), (7, (.putfield 171, .inl .null, 5, 7, 0, 0))]),
  (100000, [(10, (.iload_n 1, .inl .null, 0, 0, 0, 0)), (11, (.ireturn, .inl .null, 0, 0, 0, 0))])]
def zc_X4_stall : zCd := [(11, [(0, (.aload_n 0, .inl .null, 0, 0, 0, 0)), (1, (.getfield 19, .inl .null, 4, 2, 0, 0)), (4, (.aload_n 0, .inl .null, 0, 0, 0, 0)), (5, (.getfield 10, .inl .null, 4, 0, 0, 0)), (8, (.invokevirtual 170, .inl .null, 110, 0, 0, 0))]),
  (22, [(11, (.aload_n 0, .inl .null, 0, 0, 0, 0)), (12, (.getfield 32, .inl .null, 4, 4, 0, 0)), (15, (.aload_n 0, .inl .null, 0, 0, 0, 0)), (16, (.getfield 19, .inl .null, 4, 2, 0, 0)), (19, (.invokevirtual 174, .inl .null, 149, 0, 0, 0))]),
  (31, [(22, (.istore_n 1, .inl .null, 0, 0, 0, 0)), (23, (.aload_n 0, .inl .null, 0, 0, 0, 0)), (24, (.getfield 32, .inl .null, 4, 4, 0, 0)), (27, (.iconst 0, .inl .null, 0, 0, 0, 0)), (28, (.putfield 164, .inl .null, 2, 1, 0, 0))]),
  (41, [(31, (.iload_n 1, .inl .null, 0, 0, 0, 0)), (32, (.ifCond .ge 12, .inl .null, 0, 0, 0, 0)), (35, (.aload_n 0, .inl .null, 0, 0, 0, 0)), (36, (.bipush (-2), .inl .null, 0, 0, 0, 0)), (38, (.invokevirtual 59, .inl .null, 2, 0, 0, 0))]),
  (100000, [(41, (.pop, .inl .null, 0, 0, 0, 0)), (42, (.iload_n 1, .inl .null, 0, 0, 0, 0)), (43, (.ireturn, .inl .null, 0, 0, 0, 0))])]
def zc_X2_readInto : zCd := [(9, [(0, (.aload_n 0, .inl .null, 0, 0, 0, 0)), (1, (.iconst 0, .inl .null, 0, 0, 0, 0)), (2, (.putfield 25, .inl .null, 2, 4, 0, 0)), (5, (.aload_n 0, .inl .null, 0, 0, 0, 0)), (6, (.invokevirtual 31, .inl .null, 150, 0, 0, 0))]),
  (14, [(9, (.iconst 0, .inl .null, 0, 0, 0, 0)), (10, (.istore_n 2, .inl .null, 0, 0, 0, 0)), (11, (.iconst 0, .inl .null, 0, 0, 0, 0)), (12, (.istore_n 3, .inl .null, 0, 0, 0, 0)), (13, (.iload_n 3, .inl .null, 0, 0, 0, 0))]),
  (25, [(14, (.sipush 250, .inl .null, 0, 0, 0, 0)), (17, (.if_icmp .gt 57, .inl .null, 0, 0, 0, 0)), (20, (.aload_n 0, .inl .null, 0, 0, 0, 0)), (21, (.aload_n 1, .inl .null, 0, 0, 0, 0)), (22, (.invokevirtual 34, .inl .null, 151, 0, 0, 0))]),
  (35, [(25, (.ifCond .ne 11, .inl .null, 0, 0, 0, 0)), (28, (.bipush (-20), .inl .null, 0, 0, 0, 0)), (30, (.aload_n 0, .inl .null, 0, 0, 0, 0)), (31, (.getfield 22, .inl .null, 2, 3, 0, 0)), (34, (.isub, .inl .null, 0, 0, 0, 0))]),
  (100000, [(35, (.ireturn, .inl .null, 0, 0, 0, 0))])]
def zc_X2_step : zCd := [(13, [(0, (.aload_n 0, .inl .null, 0, 0, 0, 0)), (1, (.aload_n 0, .inl .null, 0, 0, 0, 0)), (2, (.getfield 25, .inl .null, 2, 4, 0, 0)), (5, (.putfield 22, .inl .null, 2, 3, 0, 0)), (8, (.aload_n 0, .inl .null, 0, 0, 0, 0)), (9, (.getfield 22, .inl .null, 2, 3, 0, 0)), (12, (.aload_n 0, .inl .null, 0, 0, 0, 0))]),
  (55, [(13, (.getfield 15, .inl .null, 2, 1, 0, 0)), (16, (.if_icmp .ge 32, .inl .null, 0, 0, 0, 0)), (48, (.aload_n 0, .inl .null, 0, 0, 0, 0)), (49, (.aload_n 0, .inl .null, 0, 0, 0, 0)), (50, (.getfield 22, .inl .null, 2, 3, 0, 0)), (53, (.iconst 1, .inl .null, 0, 0, 0, 0)), (54, (.iadd, .inl .null, 0, 0, 0, 0))]),
  (70, [(55, (.aload_n 0, .inl .null, 0, 0, 0, 0)), (56, (.getfield 15, .inl .null, 2, 1, 0, 0)), (59, (.invokestatic 151, .inl .null, 0, 9, 0, 0)), (62, (.putfield 25, .inl .null, 2, 4, 0, 0)), (65, (.aload_n 0, .inl .null, 0, 0, 0, 0)), (66, (.aload_n 0, .inl .null, 0, 0, 0, 0)), (67, (.getfield 22, .inl .null, 2, 3, 0, 0))]),
  (100, [(70, (.aload_n 0, .inl .null, 0, 0, 0, 0)), (71, (.getfield 15, .inl .null, 2, 1, 0, 0)), (74, (.if_icmp .ge 18, .inl .null, 0, 0, 0, 0)), (92, (.iconst 0, .inl .null, 0, 0, 0, 0)), (93, (.putfield 19, .inl .null, 2, 2, 0, 0)), (96, (.aload_n 0, .inl .null, 0, 0, 0, 0)), (97, (.getfield 19, .inl .null, 2, 2, 0, 0))]),
  (117, [(100, (.iconst 1, .inl .null, 0, 0, 0, 0)), (101, (.if_icmp .eq 11, .inl .null, 0, 0, 0, 0)), (104, (.aload_n 0, .inl .null, 0, 0, 0, 0)), (105, (.getfield 19, .inl .null, 2, 2, 0, 0)), (108, (.iconst 2, .inl .null, 0, 0, 0, 0)), (109, (.if_icmp .ne 7, .inl .null, 0, 0, 0, 0)), (116, (.iconst 0, .inl .null, 0, 0, 0, 0))]),
  (171, [(117, (.istore_n 1, .inl .null, 0, 0, 0, 0)), (118, (.iload_n 1, .inl .null, 0, 0, 0, 0)), (119, (.ifCond .eq 46, .inl .null, 0, 0, 0, 0)), (165, (.aload_n 0, .inl .null, 0, 0, 0, 0)), (166, (.aload_n 0, .inl .null, 0, 0, 0, 0)), (167, (.getfield 19, .inl .null, 2, 2, 0, 0)), (170, (.iconst 2, .inl .null, 0, 0, 0, 0))]),
  (100000, [(171, (.if_icmp .ne 23, .inl .null, 0, 0, 0, 0)), (194, (.iconst (-1), .inl .null, 0, 0, 0, 0)), (195, (.putfield 28, .inl .null, 2, 5, 0, 0)), (198, (.return_, .inl .null, 0, 0, 0, 0))])]
def zc_X2_readStatement : zCd := [(16, [(0, (.aload_n 0, .inl .null, 0, 0, 0, 0)), (1, (.ldc 38, .inl (.ref 1000000), 0, 0, 0, 0)), (3, (.invokevirtual 40, .inl .null, 79, 0, 0, 0)), (6, (.ifCond .eq 9, .inl .null, 0, 0, 0, 0)), (15, (.aload_n 0, .inl .null, 0, 0, 0, 0))]),
  (33, [(16, (.ldc 47, .inl (.ref 1000001), 0, 0, 0, 0)), (18, (.invokevirtual 40, .inl .null, 79, 0, 0, 0)), (21, (.ifCond .eq 9, .inl .null, 0, 0, 0, 0)), (30, (.aload_n 0, .inl .null, 0, 0, 0, 0)), (31, (.ldc 52, .inl (.ref 1000002), 0, 0, 0, 0))]),
  (51, [(33, (.invokevirtual 40, .inl .null, 79, 0, 0, 0)), (36, (.ifCond .eq 9, .inl .null, 0, 0, 0, 0)), (45, (.aload_n 0, .inl .null, 0, 0, 0, 0)), (46, (.ldc 57, .inl (.ref 1000003), 0, 0, 0, 0)), (48, (.invokevirtual 40, .inl .null, 79, 0, 0, 0))]),
  (75, [(51, (.ifCond .eq 9, .inl .null, 0, 0, 0, 0)), (60, (.aload_n 0, .inl .null, 0, 0, 0, 0)), (61, (.ldc 62, .inl (.ref 1000004), 0, 0, 0, 0)), (63, (.invokevirtual 40, .inl .null, 79, 0, 0, 0)), (66, (.ifCond .eq 9, .inl .null, 0, 0, 0, 0))]),
  (91, [(75, (.aload_n 0, .inl .null, 0, 0, 0, 0)), (76, (.ldc 67, .inl (.ref 1000005), 0, 0, 0, 0)), (78, (.invokevirtual 40, .inl .null, 79, 0, 0, 0)), (81, (.ifCond .eq 9, .inl .null, 0, 0, 0, 0)), (90, (.aload_n 0, .inl .null, 0, 0, 0, 0))]),
  (100000, [(91, (.ldc 72, .inl (.ref 1000006), 0, 0, 0, 0)), (93, (.invokevirtual 40, .inl .null, 79, 0, 0, 0)), (96, (.ifCond .eq 15, .inl .null, 0, 0, 0, 0)), (111, (.iconst 0, .inl .null, 0, 0, 0, 0)), (112, (.ireturn, .inl .null, 0, 0, 0, 0))])]
def zc_X5_stall : zCd := [(9, [(0, (.aload_n 0, .inl .null, 0, 0, 0, 0)), (1, (.invokevirtual 248, .inl .null, 153, 0, 0, 0)), (4, (.astore_n 1, .inl .null, 0, 0, 0, 0)), (5, (.aload_n 0, .inl .null, 0, 0, 0, 0)), (6, (.invokevirtual 252, .inl .null, 154, 0, 0, 0))]),
  (16, [(9, (.istore_n 2, .inl .null, 0, 0, 0, 0)), (10, (.aload_n 0, .inl .null, 0, 0, 0, 0)), (11, (.iconst 0, .inl .null, 0, 0, 0, 0)), (12, (.putfield 171, .inl .null, 5, 7, 0, 0)), (15, (.iload_n 2, .inl .null, 0, 0, 0, 0))]),
  (25, [(16, (.ifCond .ne 23, .inl .null, 0, 0, 0, 0)), (19, (.aload_n 0, .inl .null, 0, 0, 0, 0)), (20, (.aload_n 1, .inl .null, 0, 0, 0, 0)), (21, (.invokevirtual 255, .inl .null, 98, 0, 0, 0)), (24, (.aload_n 0, .inl .null, 0, 0, 0, 0))]),
  (34, [(25, (.bipush (-2), .inl .null, 0, 0, 0, 0)), (27, (.invokevirtual 98, .inl .null, 3, 0, 0, 0)), (30, (.pop, .inl .null, 0, 0, 0, 0)), (31, (.bipush (-20), .inl .null, 0, 0, 0, 0)), (33, (.aload_n 0, .inl .null, 0, 0, 0, 0))]),
  (100000, [(34, (.getfield 193, .inl .null, 5, 32, 0, 0)), (37, (.isub, .inl .null, 0, 0, 0, 0)), (38, (.ireturn, .inl .null, 0, 0, 0, 0))])]
def zc_X5_fresh : zCd := [(8, [(0, (.aload_n 0, .inl .null, 0, 0, 0, 0)), (1, (.getfield 367, .inl .null, 5, 27, 0, 0)), (4, (.ifnonnull 14, .inl .null, 0, 0, 0, 0)), (7, (.aload_n 0, .inl .null, 0, 0, 0, 0))]),
  (18, [(8, (.new 8, .inl .null, 5, 0, 0, 0)), (11, (.dup, .inl .null, 0, 0, 0, 0)), (12, (.invokespecial 371, .inl .null, 73, 0, 0, 0)), (15, (.putfield 367, .inl .null, 5, 27, 2, 0))]),
  (26, [(18, (.aload_n 0, .inl .null, 0, 0, 0, 0)), (19, (.getfield 367, .inl .null, 5, 27, 0, 0)), (22, (.aload_n 0, .inl .null, 0, 0, 0, 0)), (23, (.invokevirtual 255, .inl .null, 98, 0, 0, 0))]),
  (100000, [(26, (.aload_n 0, .inl .null, 0, 0, 0, 0)), (27, (.getfield 367, .inl .null, 5, 27, 0, 0)), (30, (.areturn, .inl .null, 0, 0, 0, 0))])]
def zc_X5_readAll : zCd := [(6, [(0, (.aload_n 0, .inl .null, 0, 0, 0, 0)), (1, (.iconst 1, .inl .null, 0, 0, 0, 0)), (2, (.putfield 242, .inl .null, 5, 34, 0, 0)), (5, (.aload_n 0, .inl .null, 0, 0, 0, 0))]),
  (14, [(6, (.iconst 0, .inl .null, 0, 0, 0, 0)), (7, (.putfield 174, .inl .null, 5, 28, 0, 0)), (10, (.aload_n 0, .inl .null, 0, 0, 0, 0)), (11, (.invokevirtual 209, .inl .null, 155, 0, 0, 0))]),
  (22, [(14, (.aload_n 0, .inl .null, 0, 0, 0, 0)), (15, (.invokevirtual 245, .inl .null, 156, 0, 0, 0)), (18, (.ifCond .ne 5, .inl .null, 0, 0, 0, 0)), (21, (.iconst 0, .inl .null, 0, 0, 0, 0))]),
  (100000, [(22, (.ireturn, .inl .null, 0, 0, 0, 0))])]
def zc_X5_look : zCd := [(38, [(0, (.aload_n 0, .inl .null, 0, 0, 0, 0)), (1, (.getfield 174, .inl .null, 5, 28, 0, 0)), (4, (.aload_n 0, .inl .null, 0, 0, 0, 0)), (5, (.getfield 171, .inl .null, 5, 7, 0, 0)), (8, (.if_icmp .ge 30, .inl .null, 0, 0, 0, 0))]),
  (47, [(38, (.aload_n 0, .inl .null, 0, 0, 0, 0)), (39, (.aload_n 0, .inl .null, 0, 0, 0, 0)), (40, (.getfield 174, .inl .null, 5, 28, 0, 0)), (43, (.putfield 177, .inl .null, 5, 30, 0, 0)), (46, (.aload_n 0, .inl .null, 0, 0, 0, 0))]),
  (56, [(47, (.iconst 0, .inl .null, 0, 0, 0, 0)), (48, (.putfield 180, .inl .null, 5, 31, 0, 0)), (51, (.aload_n 0, .inl .null, 0, 0, 0, 0)), (52, (.getfield 174, .inl .null, 5, 28, 0, 0)), (55, (.aload_n 0, .inl .null, 0, 0, 0, 0))]),
  (67, [(56, (.getfield 171, .inl .null, 5, 7, 0, 0)), (59, (.if_icmp .ne 11, .inl .null, 0, 0, 0, 0)), (62, (.aload_n 0, .inl .null, 0, 0, 0, 0)), (63, (.iconst 0, .inl .null, 0, 0, 0, 0)), (64, (.putfield 183, .inl .null, 5, 29, 0, 0))]),
  (100000, [(67, (.goto 196, .inl .null, 0, 0, 0, 0)), (263, (.return_, .inl .null, 0, 0, 0, 0))])]
def zc_X5_statement : zCd := [(43, [(0, (.aload_n 0, .inl .null, 0, 0, 0, 0)), (1, (.ldc 224, .inl (.ref 1000000), 0, 0, 0, 0)), (3, (.invokevirtual 220, .inl .null, 80, 0, 0, 0)), (6, (.ifCond .eq 34, .inl .null, 0, 0, 0, 0)), (40, (.aload_n 0, .inl .null, 0, 0, 0, 0)), (41, (.ldc 225, .inl (.ref 1000001), 0, 0, 0, 0))]),
  (101, [(43, (.invokevirtual 220, .inl .null, 80, 0, 0, 0)), (46, (.ifCond .eq 41, .inl .null, 0, 0, 0, 0)), (87, (.aload_n 0, .inl .null, 0, 0, 0, 0)), (88, (.ldc 226, .inl (.ref 1000002), 0, 0, 0, 0)), (90, (.invokevirtual 220, .inl .null, 80, 0, 0, 0)), (93, (.ifCond .eq 8, .inl .null, 0, 0, 0, 0))]),
  (127, [(101, (.aload_n 0, .inl .null, 0, 0, 0, 0)), (102, (.ldc 230, .inl (.ref 1000003), 0, 0, 0, 0)), (104, (.invokevirtual 220, .inl .null, 80, 0, 0, 0)), (107, (.ifCond .eq 17, .inl .null, 0, 0, 0, 0)), (124, (.aload_n 0, .inl .null, 0, 0, 0, 0)), (125, (.ldc 235, .inl (.ref 1000004), 0, 0, 0, 0))]),
  (244, [(127, (.invokevirtual 220, .inl .null, 80, 0, 0, 0)), (130, (.ifCond .eq 36, .inl .null, 0, 0, 0, 0)), (166, (.aload_n 0, .inl .null, 0, 0, 0, 0)), (167, (.ldc 237, .inl (.ref 1000005), 0, 0, 0, 0)), (169, (.invokevirtual 220, .inl .null, 80, 0, 0, 0)), (172, (.ifCond .eq 72, .inl .null, 0, 0, 0, 0))]),
  (264, [(244, (.aload_n 0, .inl .null, 0, 0, 0, 0)), (245, (.ldc 238, .inl (.ref 1000006), 0, 0, 0, 0)), (247, (.invokevirtual 220, .inl .null, 80, 0, 0, 0)), (250, (.ifCond .eq 10, .inl .null, 0, 0, 0, 0)), (260, (.aload_n 0, .inl .null, 0, 0, 0, 0)), (261, (.invokevirtual 205, .inl .null, 157, 0, 0, 0))]),
  (100000, [(264, (.ireturn, .inl .null, 0, 0, 0, 0))])]
def zc_X5_wrong : zCd := [(2, [(0, (.aload_n 0, .inl .null, 0, 0, 0, 0)), (1, (.aload_n 0, .inl .null, 0, 0, 0, 0))]),
  (8, [(2, (.getfield 177, .inl .null, 5, 30, 0, 0)), (5, (.putfield 193, .inl .null, 5, 32, 0, 0))]),
  (100000, [(8, (.iconst 0, .inl .null, 0, 0, 0, 0)), (9, (.ireturn, .inl .null, 0, 0, 0, 0))])]
def zc_X4_drawable : zCd := [(4, [(0, (.aload_n 0, .inl .null, 0, 0, 0, 0)), (1, (.getfield 10, .inl .null, 4, 0, 0, 0))]),
  (100000, [(4, (.invokevirtual 212, .inl .null, 115, 0, 0, 0)), (7, (.ireturn, .inl .null, 0, 0, 0, 0))])]
def zc_X5_drawable : zCd := [(4, [(0, (.aload_n 0, .inl .null, 0, 0, 0, 0)), (1, (.invokevirtual 271, .inl .null, 117, 0, 0, 0))]),
  (100000, [(4, (.ireturn, .inl .null, 0, 0, 0, 0))])]
def zc_X4_bestPrice : zCd := [(7, [(0, (.iconst 5, .inl .null, 0, 0, 0, 0)), (1, (.istore_n 1, .inl .null, 0, 0, 0, 0)), (2, (.aload_n 0, .inl .null, 0, 0, 0, 0)), (3, (.getfield 10, .inl .null, 4, 0, 0, 0)), (6, (.iload_n 1, .inl .null, 0, 0, 0, 0))]),
  (15, [(7, (.invokevirtual 243, .inl .null, 57, 0, 0, 0)), (10, (.istore_n 2, .inl .null, 0, 0, 0, 0)), (11, (.bipush 10, .inl .null, 0, 0, 0, 0)), (13, (.istore_n 3, .inl .null, 0, 0, 0, 0)), (14, (.iload_n 3, .inl .null, 0, 0, 0, 0))]),
  (25, [(15, (.bipush 95, .inl .null, 0, 0, 0, 0)), (17, (.if_icmp .gt 30, .inl .null, 0, 0, 0, 0)), (20, (.aload_n 0, .inl .null, 0, 0, 0, 0)), (21, (.getfield 10, .inl .null, 4, 0, 0, 0)), (24, (.iload_n 3, .inl .null, 0, 0, 0, 0))]),
  (41, [(25, (.invokevirtual 243, .inl .null, 57, 0, 0, 0)), (28, (.istore 4, .inl .null, 0, 0, 0, 0)), (30, (.iload 4, .inl .null, 0, 0, 0, 0)), (32, (.iload_n 2, .inl .null, 0, 0, 0, 0)), (33, (.if_icmp .le 8, .inl .null, 0, 0, 0, 0))]),
  (100000, [(41, (.iinc 3 5, .inl .null, 0, 0, 0, 0)), (44, (.goto (-30), .inl .null, 0, 0, 0, 0)), (47, (.iload_n 1, .inl .null, 0, 0, 0, 0)), (48, (.ireturn, .inl .null, 0, 0, 0, 0))])]
def zc_X5_bestPrice : zCd := [(6, [(0, (.iconst 0, .inl .null, 0, 0, 0, 0)), (1, (.istore_n 1, .inl .null, 0, 0, 0, 0)), (2, (.iconst (-1), .inl .null, 0, 0, 0, 0)), (3, (.istore_n 2, .inl .null, 0, 0, 0, 0)), (4, (.iconst 5, .inl .null, 0, 0, 0, 0)), (5, (.istore_n 3, .inl .null, 0, 0, 0, 0))]),
  (17, [(6, (.iload_n 3, .inl .null, 0, 0, 0, 0)), (7, (.bipush 95, .inl .null, 0, 0, 0, 0)), (9, (.if_icmp .gt 41, .inl .null, 0, 0, 0, 0)), (12, (.aload_n 0, .inl .null, 0, 0, 0, 0)), (13, (.iload_n 3, .inl .null, 0, 0, 0, 0)), (14, (.invokevirtual 325, .inl .null, 58, 0, 0, 0))]),
  (29, [(17, (.istore 4, .inl .null, 0, 0, 0, 0)), (19, (.iload 4, .inl .null, 0, 0, 0, 0)), (21, (.iload_n 2, .inl .null, 0, 0, 0, 0)), (22, (.if_icmp .le 7, .inl .null, 0, 0, 0, 0)), (25, (.iload_n 3, .inl .null, 0, 0, 0, 0)), (26, (.goto 4, .inl .null, 0, 0, 0, 0))]),
  (39, [(29, (.iload_n 1, .inl .null, 0, 0, 0, 0)), (30, (.istore_n 1, .inl .null, 0, 0, 0, 0)), (31, (.iload 4, .inl .null, 0, 0, 0, 0)), (33, (.iload_n 2, .inl .null, 0, 0, 0, 0)), (34, (.if_icmp .le 8, .inl .null, 0, 0, 0, 0)), (37, (.iload 4, .inl .null, 0, 0, 0, 0))]),
  (51, [(39, (.goto 4, .inl .null, 0, 0, 0, 0)), (42, (.iload_n 2, .inl .null, 0, 0, 0, 0)), (43, (.istore_n 2, .inl .null, 0, 0, 0, 0)), (44, (.iinc 3 5, .inl .null, 0, 0, 0, 0)), (47, (.goto (-41), .inl .null, 0, 0, 0, 0)), (50, (.iload_n 1, .inl .null, 0, 0, 0, 0))]),
  (100000, [(51, (.ireturn, .inl .null, 0, 0, 0, 0))])]
def zc_X4_full : zCd := [(5, [(0, (.aload_n 0, .inl .null, 0, 0, 0, 0)), (1, (.getfield 10, .inl .null, 4, 0, 0, 0)), (4, (.aload_n 0, .inl .null, 0, 0, 0, 0))]),
  (14, [(5, (.getfield 10, .inl .null, 4, 0, 0, 0)), (8, (.invokevirtual 228, .inl .null, 45, 0, 0, 0)), (11, (.invokevirtual 246, .inl .null, 6, 0, 0, 0))]),
  (100000, [(14, (.ireturn, .inl .null, 0, 0, 0, 0))])]
def zc_X5_full : zCd := [(2, [(0, (.aload_n 0, .inl .null, 0, 0, 0, 0)), (1, (.aload_n 0, .inl .null, 0, 0, 0, 0))]),
  (8, [(2, (.invokevirtual 130, .inl .null, 48, 0, 0, 0)), (5, (.invokevirtual 328, .inl .null, 7, 0, 0, 0))]),
  (100000, [(8, (.ireturn, .inl .null, 0, 0, 0, 0))])]
def zc_X4_envy : zCd := [(3, [(0, (.iconst 0, .inl .null, 0, 0, 0, 0)), (1, (.istore_n 1, .inl .null, 0, 0, 0, 0)), (2, (.iconst 0, .inl .null, 0, 0, 0, 0))]),
  (6, [(3, (.istore_n 2, .inl .null, 0, 0, 0, 0)), (4, (.iload_n 2, .inl .null, 0, 0, 0, 0)), (5, (.aload_n 0, .inl .null, 0, 0, 0, 0))]),
  (83, [(6, (.getfield 10, .inl .null, 4, 0, 0, 0)), (9, (.getfield 145, .inl .null, 1, 14, 0, 0)), (12, (.if_icmp .ge 71, .inl .null, 0, 0, 0, 0))]),
  (100000, [(83, (.iload_n 1, .inl .null, 0, 0, 0, 0)), (84, (.ireturn, .inl .null, 0, 0, 0, 0))])]
def zc_X5_envy : zCd := [(3, [(0, (.iconst 0, .inl .null, 0, 0, 0, 0)), (1, (.istore_n 1, .inl .null, 0, 0, 0, 0)), (2, (.iconst 0, .inl .null, 0, 0, 0, 0))]),
  (6, [(3, (.istore_n 2, .inl .null, 0, 0, 0, 0)), (4, (.iload_n 2, .inl .null, 0, 0, 0, 0)), (5, (.aload_n 0, .inl .null, 0, 0, 0, 0))]),
  (71, [(6, (.getfield 89, .inl .null, 5, 23, 0, 0)), (9, (.if_icmp .ge 61, .inl .null, 0, 0, 0, 0)), (70, (.iload_n 1, .inl .null, 0, 0, 0, 0))]),
  (100000, [(71, (.ireturn, .inl .null, 0, 0, 0, 0))])]
def zc_X4_poorest : zCd := [(7, [(0, (.aload_n 0, .inl .null, 0, 0, 0, 0)), (1, (.getfield 10, .inl .null, 4, 0, 0, 0)), (4, (.getfield 145, .inl .null, 1, 14, 0, 0))]),
  (13, [(7, (.ifCond .ne 10, .inl .null, 0, 0, 0, 0)), (10, (.aload_n 0, .inl .null, 0, 0, 0, 0)), (11, (.bipush (-5), .inl .null, 0, 0, 0, 0))]),
  (100000, [(13, (.invokevirtual 59, .inl .null, 2, 0, 0, 0)), (16, (.ireturn, .inl .null, 0, 0, 0, 0))])]
def zc_X5_poorest : zCd := [(7, [(0, (.aload_n 0, .inl .null, 0, 0, 0, 0)), (1, (.getfield 89, .inl .null, 5, 23, 0, 0)), (4, (.ifCond .ne 10, .inl .null, 0, 0, 0, 0))]),
  (13, [(7, (.aload_n 0, .inl .null, 0, 0, 0, 0)), (8, (.bipush (-5), .inl .null, 0, 0, 0, 0)), (10, (.invokevirtual 98, .inl .null, 3, 0, 0, 0))]),
  (100000, [(13, (.ireturn, .inl .null, 0, 0, 0, 0))])]
def zc_X4_oldest : zCd := [(7, [(0, (.aload_n 0, .inl .null, 0, 0, 0, 0)), (1, (.getfield 10, .inl .null, 4, 0, 0, 0)), (4, (.getfield 113, .inl .null, 1, 8, 0, 0))]),
  (13, [(7, (.ifCond .ne 10, .inl .null, 0, 0, 0, 0)), (10, (.aload_n 0, .inl .null, 0, 0, 0, 0)), (11, (.bipush (-5), .inl .null, 0, 0, 0, 0))]),
  (100000, [(13, (.invokevirtual 59, .inl .null, 2, 0, 0, 0)), (16, (.ireturn, .inl .null, 0, 0, 0, 0))])]
def zc_X5_oldest : zCd := [(7, [(0, (.aload_n 0, .inl .null, 0, 0, 0, 0)), (1, (.getfield 82, .inl .null, 5, 17, 0, 0)), (4, (.ifCond .ne 10, .inl .null, 0, 0, 0, 0))]),
  (13, [(7, (.aload_n 0, .inl .null, 0, 0, 0, 0)), (8, (.bipush (-5), .inl .null, 0, 0, 0, 0)), (10, (.invokevirtual 98, .inl .null, 3, 0, 0, 0))]),
  (100000, [(13, (.ireturn, .inl .null, 0, 0, 0, 0))])]
def zc_X1_beginFete : zCd := [(6, [(0, (.aload_n 0, .inl .null, 0, 0, 0, 0)), (1, (.invokevirtual 75, .inl .null, 49, 0, 0, 0)), (4, (.aload_n 0, .inl .null, 0, 0, 0, 0)), (5, (.iconst 0, .inl .null, 0, 0, 0, 0))]),
  (12, [(6, (.putfield 24, .inl .null, 1, 4, 0, 0)), (9, (.iconst 0, .inl .null, 0, 0, 0, 0)), (10, (.istore_n 2, .inl .null, 0, 0, 0, 0)), (11, (.iconst 0, .inl .null, 0, 0, 0, 0))]),
  (18, [(12, (.istore_n 3, .inl .null, 0, 0, 0, 0)), (13, (.iload_n 3, .inl .null, 0, 0, 0, 0)), (14, (.aload_n 0, .inl .null, 0, 0, 0, 0)), (15, (.getfield 37, .inl .null, 1, 8, 0, 0))]),
  (100000, [(18, (.if_icmp .ge 52, .inl .null, 0, 0, 0, 0)), (70, (.iload_n 2, .inl .null, 0, 0, 0, 0)), (71, (.ireturn, .inl .null, 0, 0, 0, 0))])]
def zc_X4_seed : zCd := [(7, [(0, (.aload_n 0, .inl .null, 0, 0, 0, 0)), (1, (.getfield 10, .inl .null, 4, 0, 0, 0)), (4, (.getfield 281, .inl .null, 1, 6, 0, 0))]),
  (12, [(7, (.istore_n 2, .inl .null, 0, 0, 0, 0)), (8, (.aload_n 0, .inl .null, 0, 0, 0, 0)), (9, (.getfield 10, .inl .null, 4, 0, 0, 0))]),
  (17, [(12, (.iload_n 1, .inl .null, 0, 0, 0, 0)), (13, (.putfield 281, .inl .null, 1, 6, 0, 0)), (16, (.iload_n 2, .inl .null, 0, 0, 0, 0))]),
  (100000, [(17, (.ireturn, .inl .null, 0, 0, 0, 0))])]
def zc_X5_seed : zCd := [(5, [(0, (.aload_n 0, .inl .null, 0, 0, 0, 0)), (1, (.getfield 50, .inl .null, 5, 15, 0, 0)), (4, (.istore_n 2, .inl .null, 0, 0, 0, 0))]),
  (10, [(5, (.aload_n 0, .inl .null, 0, 0, 0, 0)), (6, (.iload_n 1, .inl .null, 0, 0, 0, 0)), (7, (.putfield 50, .inl .null, 5, 15, 0, 0))]),
  (100000, [(10, (.iload_n 2, .inl .null, 0, 0, 0, 0)), (11, (.ireturn, .inl .null, 0, 0, 0, 0))])]
def zc_X4_image : zCd := [(5, [(0, (.aload_n 0, .inl .null, 0, 0, 0, 0)), (1, (.getfield 16, .inl .null, 4, 1, 0, 0)), (4, (.aload_n 0, .inl .null, 0, 0, 0, 0))]),
  (12, [(5, (.getfield 10, .inl .null, 4, 0, 0, 0)), (8, (.invokevirtual 170, .inl .null, 110, 0, 0, 0)), (11, (.aload_n 0, .inl .null, 0, 0, 0, 0))]),
  (17, [(12, (.iconst 1, .inl .null, 0, 0, 0, 0)), (13, (.putfield 46, .inl .null, 4, 7, 3, 0)), (16, (.iconst 1, .inl .null, 0, 0, 0, 0))]),
  (100000, [(17, (.ireturn, .inl .null, 0, 0, 0, 0))])]
def zc_X5_image : zCd := [(8, [(0, (.aload_n 0, .inl .null, 0, 0, 0, 0)), (1, (.getfield 376, .inl .null, 5, 26, 0, 0)), (4, (.ifnonnull 14, .inl .null, 0, 0, 0, 0)), (7, (.aload_n 0, .inl .null, 0, 0, 0, 0))]),
  (18, [(8, (.new 8, .inl .null, 5, 0, 0, 0)), (11, (.dup, .inl .null, 0, 0, 0, 0)), (12, (.invokespecial 371, .inl .null, 73, 0, 0, 0)), (15, (.putfield 376, .inl .null, 5, 26, 2, 0))]),
  (26, [(18, (.aload_n 0, .inl .null, 0, 0, 0, 0)), (19, (.getfield 376, .inl .null, 5, 26, 0, 0)), (22, (.aload_n 0, .inl .null, 0, 0, 0, 0)), (23, (.invokevirtual 255, .inl .null, 98, 0, 0, 0))]),
  (100000, [(26, (.iconst 1, .inl .null, 0, 0, 0, 0)), (27, (.ireturn, .inl .null, 0, 0, 0, 0))])]
def zc_X4_back : zCd := [(7, [(0, (.aload_n 0, .inl .null, 0, 0, 0, 0)), (1, (.getfield 46, .inl .null, 4, 7, 0, 0)), (4, (.ifCond .ne 10, .inl .null, 0, 0, 0, 0))]),
  (13, [(7, (.aload_n 0, .inl .null, 0, 0, 0, 0)), (8, (.bipush (-5), .inl .null, 0, 0, 0, 0)), (10, (.invokevirtual 59, .inl .null, 2, 0, 0, 0))]),
  (100000, [(13, (.ireturn, .inl .null, 0, 0, 0, 0))])]
def zc_X5_back : zCd := [(7, [(0, (.aload_n 0, .inl .null, 0, 0, 0, 0)), (1, (.getfield 376, .inl .null, 5, 26, 0, 0)), (4, (.ifnonnull 10, .inl .null, 0, 0, 0, 0))]),
  (13, [(7, (.aload_n 0, .inl .null, 0, 0, 0, 0)), (8, (.bipush (-5), .inl .null, 0, 0, 0, 0)), (10, (.invokevirtual 98, .inl .null, 3, 0, 0, 0))]),
  (100000, [(13, (.ireturn, .inl .null, 0, 0, 0, 0))])]
def zc_X5_standing : zCd := [(3, [(0, (.iconst 0, .inl .null, 0, 0, 0, 0)), (1, (.istore_n 1, .inl .null, 0, 0, 0, 0)), (2, (.iconst 0, .inl .null, 0, 0, 0, 0))]),
  (6, [(3, (.istore_n 2, .inl .null, 0, 0, 0, 0)), (4, (.iload_n 2, .inl .null, 0, 0, 0, 0)), (5, (.aload_n 0, .inl .null, 0, 0, 0, 0))]),
  (39, [(6, (.getfield 82, .inl .null, 5, 17, 0, 0)), (9, (.if_icmp .ge 29, .inl .null, 0, 0, 0, 0)), (38, (.iload_n 1, .inl .null, 0, 0, 0, 0))]),
  (100000, [(39, (.ireturn, .inl .null, 0, 0, 0, 0))])]
def zc_X4_countShelvesInUse : zCd := [(4, [(0, (.iconst 0, .inl .null, 0, 0, 0, 0)), (1, (.istore_n 1, .inl .null, 0, 0, 0, 0)), (2, (.iconst 0, .inl .null, 0, 0, 0, 0)), (3, (.istore_n 2, .inl .null, 0, 0, 0, 0))]),
  (11, [(4, (.iload_n 2, .inl .null, 0, 0, 0, 0)), (5, (.bipush 8, .inl .null, 0, 0, 0, 0)), (7, (.if_icmp .ge 25, .inl .null, 0, 0, 0, 0)), (10, (.aload_n 0, .inl .null, 0, 0, 0, 0))]),
  (19, [(11, (.getfield 38, .inl .null, 4, 5, 0, 0)), (14, (.iload_n 2, .inl .null, 0, 0, 0, 0)), (15, (.aaload, .inl .null, 0, 0, 0, 0)), (16, (.getfield 96, .inl .null, 0, 0, 0, 0))]),
  (32, [(19, (.iconst (-1), .inl .null, 0, 0, 0, 0)), (20, (.if_icmp .eq 6, .inl .null, 0, 0, 0, 0)), (26, (.iinc 2 1, .inl .null, 0, 0, 0, 0)), (29, (.goto (-25), .inl .null, 0, 0, 0, 0))]),
  (100000, [(32, (.iload_n 1, .inl .null, 0, 0, 0, 0)), (33, (.ireturn, .inl .null, 0, 0, 0, 0))])]
def zc_L_law : zCd := [(269, zrL_0), (309, zrL_1), (346, zrL_2), (387, zrL_3), (421, zrL_4), (463, zrL_5), (509, zrL_6), (549, zrL_7), (599, zrL_8), (643, zrL_9), (683, zrL_10), (725, zrL_11), (765, zrL_12), (823, zrL_13), (867, zrL_14), (909, zrL_15), (963, zrL_16), (1011, zrL_17), (1059, zrL_18), (1101, zrL_19), (1163, zrL_20), (1203, zrL_21), (1245, zrL_22), (1291, zrL_23), (1333, zrL_24), (1373, zrL_25), (1419, zrL_26), (1477, zrL_27), (1533, zrL_28), (1581, zrL_29), (1643, zrL_30), (100000, zrL_31)]
abbrev ze_X4_isWithin : zE := (yX4_isWithin, cX4_isWithin, 3, (some .boolean), 3, 99, 0, 0, zc_X4_isWithin)
abbrev ze_X5_in : zE := (yX5_in, cX5_in, 6, (some .boolean), 3, 99, 0, 0, zc_X5_in)
abbrev ze_X4_refuse : zE := (yX4_refuse, cX4_refuse, 3, (some .int), 1, 4, 0, 0, zc_X4_refuse)
abbrev ze_X5_refuse : zE := (yX5_refuse, cX5_refuse, 2, (some .int), 1, 5, 0, 0, zc_X5_refuse)
abbrev ze_X4_isShelf : zE := (yX4_isShelf, cX4_isShelf, 1, (some .boolean), 1, 99, 0, 0, zc_X4_isShelf)
abbrev ze_X1_isSlip : zE := (yX1_isSlip, cX1_isSlip, 2, (some .boolean), 1, 1, 0, 0, zc_X1_isSlip)
abbrev ze_X1_quartersOf : zE := (yX1_quartersOf, cX1_quartersOf, 2, (some .int), 1, 1, 0, 0, zc_X1_quartersOf)
abbrev ze_X5_fullWith : zE := (yX5_fullWith, cX5_fullWith, 2, (some .int), 1, 5, 0, 0, zc_X5_fullWith)
abbrev ze_X4_thing : zE := (yX4_thing, cX4_thing, 4, (some .int), 3, 4, 0, 0, zc_X4_thing)
abbrev ze_X5_thing : zE := (yX5_thing, cX5_thing, 4, (some .int), 3, 5, 0, 0, zc_X5_thing)
abbrev ze_X0_holdsRow : zE := (yX0_holdsRow, cX0_holdsRow, 1, (some .boolean), 0, 0, 0, 0, zc_X0_holdsRow)
abbrev ze_X0_lackOfRow : zE := (yX0_lackOfRow, cX0_lackOfRow, 1, (some .int), 0, 0, 0, 0, zc_X0_lackOfRow)
abbrev ze_X4_slipOf : zE := (yX4_slipOf, cX4_slipOf, 3, (some .int), 2, 4, 0, 0, zc_X4_slipOf)
abbrev ze_X5_slipOf : zE := (yX5_slipOf, cX5_slipOf, 3, (some .int), 2, 5, 0, 0, zc_X5_slipOf)
abbrev ze_X5_thingOn : zE := (yX5_thingOn, cX5_thingOn, 3, (some .int), 1, 5, 0, 0, zc_X5_thingOn)
abbrev ze_X4_copy : zE := (yX4_copy, cX4_copy, 9, (some .int), 5, 4, 0, 0, zc_X4_copy)
abbrev ze_X5_copy : zE := (yX5_copy, cX5_copy, 7, (some .int), 5, 5, 0, 0, zc_X5_copy)
abbrev ze_X4_row : zE := (yX4_row, cX4_row, 4, (some .int), 3, 4, 0, 0, zc_X4_row)
abbrev ze_X5_row : zE := (yX5_row, cX5_row, 5, (some .int), 3, 5, 0, 0, zc_X5_row)
abbrev ze_X1_thingOn : zE := (yX1_thingOn, cX1_thingOn, 3, (some .int), 1, 1, 0, 0, zc_X1_thingOn)
abbrev ze_X1_isThing : zE := (yX1_isThing, cX1_isThing, 2, (some .boolean), 1, 1, 0, 0, zc_X1_isThing)
abbrev ze_X5_canDraw : zE := (yX5_canDraw, cX5_canDraw, 3, (some .boolean), 1, 5, 0, 0, zc_X5_canDraw)
abbrev ze_X5_isWinner : zE := (yX5_isWinner, cX5_isWinner, 2, (some .boolean), 1, 5, 0, 0, zc_X5_isWinner)
abbrev ze_X4_lackOfRows : zE := (yX4_lackOfRows, cX4_lackOfRows, 4, (some .int), 2, 99, 0, 0, zc_X4_lackOfRows)
abbrev ze_X1_isIn : zE := (yX1_isIn, cX1_isIn, 2, (some .boolean), 1, 1, 0, 0, zc_X1_isIn)
abbrev ze_X4_asNumber : zE := (yX4_asNumber, cX4_asNumber, 1, (some .int), 1, 99, 0, 0, zc_X4_asNumber)
abbrev ze_X1_stands : zE := (yX1_stands, cX1_stands, 2, (some .boolean), 1, 1, 0, 0, zc_X1_stands)
abbrev ze_X4_lackOfBook : zE := (yX4_lackOfBook, cX4_lackOfBook, 4, (some .int), 2, 4, 0, 0, zc_X4_lackOfBook)
abbrev ze_X5_noBook : zE := (yX5_noBook, cX5_noBook, 4, (some .int), 2, 5, 0, 0, zc_X5_noBook)
abbrev ze_X0_init : zE := (yX0_init, cX0_init, 1, none, 0, 0, 1, 40, zc_X0_init)
abbrev ze_X1_isBuyer : zE := (yX1_isBuyer, cX1_isBuyer, 2, (some .boolean), 1, 1, 0, 0, zc_X1_isBuyer)
abbrev ze_X1_isWinner : zE := (yX1_isWinner, cX1_isWinner, 2, (some .boolean), 1, 1, 0, 0, zc_X1_isWinner)
abbrev ze_X1_canBeDrawn : zE := (yX1_canBeDrawn, cX1_canBeDrawn, 3, (some .boolean), 1, 1, 0, 0, zc_X1_canBeDrawn)
abbrev ze_X5_over : zE := (yX5_over, cX5_over, 3, none, 2, 99, 0, 0, zc_X5_over)
abbrev ze_X4_show : zE := (yX4_show, cX4_show, 3, (some .int), 2, 4, 0, 0, zc_X4_show)
abbrev ze_X5_show : zE := (yX5_show, cX5_show, 3, (some .int), 2, 5, 0, 0, zc_X5_show)
abbrev ze_X4_says : zE := (yX4_says, cX4_says, 5, (some .int), 2, 4, 0, 0, zc_X4_says)
abbrev ze_X5_says : zE := (yX5_says, cX5_says, 6, (some .int), 2, 5, 0, 0, zc_X5_says)
abbrev ze_X4_judge : zE := (yX4_judge, cX4_judge, 4, (some .int), 2, 4, 0, 0, zc_X4_judge)
abbrev ze_X5_judge : zE := (yX5_judge, cX5_judge, 4, (some .int), 2, 5, 0, 0, zc_X5_judge)
abbrev ze_X4_won : zE := (yX4_won, cX4_won, 4, (some .int), 2, 4, 0, 0, zc_X4_won)
abbrev ze_X5_won : zE := (yX5_won, cX5_won, 4, (some .int), 2, 5, 0, 0, zc_X5_won)
abbrev ze_X5_isBuyer : zE := (yX5_isBuyer, cX5_isBuyer, 2, (some .boolean), 1, 5, 0, 0, zc_X5_isBuyer)
abbrev ze_X4_guess : zE := (yX4_guess, cX4_guess, 6, (some .int), 2, 4, 0, 0, zc_X4_guess)
abbrev ze_X5_guess : zE := (yX5_guess, cX5_guess, 6, (some .int), 2, 5, 0, 0, zc_X5_guess)
abbrev ze_X1_countIn : zE := (yX1_countIn, cX1_countIn, 1, (some .int), 0, 1, 0, 0, zc_X1_countIn)
abbrev ze_J13_bitCount_95d88 : zE := (yJ13_bitCount_95d88, cJ13_bitCount_95d88, 2, (some .int), 1, 99, 0, 0, zc_J13_bitCount_95d88)
abbrev ze_X5_noRow : zE := (yX5_noRow, cX5_noRow, 2, (some .int), 1, 5, 0, 0, zc_X5_noRow)
abbrev ze_X5_inside : zE := (yX5_inside, cX5_inside, 3, (some .int), 0, 5, 0, 0, zc_X5_inside)
abbrev ze_X1_putAllIn : zE := (yX1_putAllIn, cX1_putAllIn, 1, none, 0, 1, 0, 0, zc_X1_putAllIn)
abbrev ze_X1_putSlips : zE := (yX1_putSlips, cX1_putSlips, 2, none, 1, 1, 0, 0, zc_X1_putSlips)
abbrev ze_X5_isThing : zE := (yX5_isThing, cX5_isThing, 2, (some .boolean), 1, 5, 0, 0, zc_X5_isThing)
abbrev ze_X4_wins : zE := (yX4_wins, cX4_wins, 2, (some .int), 1, 4, 0, 0, zc_X4_wins)
abbrev ze_X5_wins : zE := (yX5_wins, cX5_wins, 2, (some .int), 1, 5, 0, 0, zc_X5_wins)
abbrev ze_X1_init : zE := (yX1_init, cX1_init, 1, none, 0, 1, 7, 76, zc_X1_init)
abbrev ze_X1_wonBySlip : zE := (yX1_wonBySlip, cX1_wonBySlip, 5, (some .int), 1, 1, 0, 0, zc_X1_wonBySlip)
abbrev ze_X5_winsBy : zE := (yX5_winsBy, cX5_winsBy, 3, (some .int), 1, 5, 0, 0, zc_X5_winsBy)
abbrev ze_X1_takingsAt : zE := (yX1_takingsAt, cX1_takingsAt, 5, (some .int), 1, 1, 0, 0, zc_X1_takingsAt)
abbrev ze_X5_takingsAt : zE := (yX5_takingsAt, cX5_takingsAt, 6, (some .int), 1, 5, 0, 0, zc_X5_takingsAt)
abbrev ze_X4_status : zE := (yX4_status, cX4_status, 2, (some .int), 1, 4, 0, 0, zc_X4_status)
abbrev ze_X5_status : zE := (yX5_status, cX5_status, 4, (some .int), 1, 5, 0, 0, zc_X5_status)
abbrev ze_X4_booked : zE := (yX4_booked, cX4_booked, 7, (some .int), 3, 4, 0, 0, zc_X4_booked)
abbrev ze_X5_booked : zE := (yX5_booked, cX5_booked, 6, (some .int), 3, 5, 0, 0, zc_X5_booked)
abbrev ze_X4_price : zE := (yX4_price, cX4_price, 4, (some .int), 2, 4, 0, 0, zc_X4_price)
abbrev ze_X5_price : zE := (yX5_price, cX5_price, 4, (some .int), 2, 5, 0, 0, zc_X5_price)
abbrev ze_X5_suspected : zE := (yX5_suspected, cX5_suspected, 2, (some .int), 2, 99, 0, 0, zc_X5_suspected)
abbrev ze_X4_sureness : zE := (yX4_sureness, cX4_sureness, 3, (some .int), 2, 99, 0, 0, zc_X4_sureness)
abbrev ze_X4_set : zE := (yX4_set, cX4_set, 7, (some .int), 3, 4, 0, 0, zc_X4_set)
abbrev ze_X5_set : zE := (yX5_set, cX5_set, 6, (some .int), 3, 5, 0, 0, zc_X5_set)
abbrev ze_X4_element : zE := (yX4_element, cX4_element, 3, (some .long), 2, 4, 0, 0, zc_X4_element)
abbrev ze_X5_element : zE := (yX5_element, cX5_element, 3, (some .long), 2, 5, 0, 0, zc_X5_element)
abbrev ze_X4_holds : zE := (yX4_holds, cX4_holds, 2, (some .int), 1, 4, 0, 0, zc_X4_holds)
abbrev ze_X5_holds : zE := (yX5_holds, cX5_holds, 2, (some .int), 1, 5, 0, 0, zc_X5_holds)
abbrev ze_X5_init : zE := (yX5_init, cX5_init, 1, none, 0, 5, 29, 802, zc_X5_init)
abbrev ze_X0_putRow : zE := (yX0_putRow, cX0_putRow, 4, none, 2, 0, 0, 0, zc_X0_putRow)
abbrev ze_X0_hasElement : zE := (yX0_hasElement, cX0_hasElement, 2, (some .boolean), 1, 0, 0, 0, zc_X0_hasElement)
abbrev ze_X4_init : zE := (yX4_init, cX4_init, 2, none, 0, 4, 48, 1899, zc_X4_init)
abbrev ze_X3_init : zE := (yX3_init, cX3_init, 1, none, 0, 3, 3, 1000, zc_X3_init)
abbrev ze_X2_init : zE := (yX2_init, cX2_init, 1, none, 0, 2, 1, 250, zc_X2_init)
abbrev ze_X2_isWord : zE := (yX2_isWord, cX2_isWord, 4, (some .boolean), 1, 2, 0, 0, zc_X2_isWord)
abbrev ze_X5_isWord : zE := (yX5_isWord, cX5_isWord, 3, (some .boolean), 1, 5, 0, 0, zc_X5_isWord)
abbrev ze_X4_sure : zE := (yX4_sure, cX4_sure, 4, (some .int), 2, 4, 0, 0, zc_X4_sure)
abbrev ze_X5_sure : zE := (yX5_sure, cX5_sure, 4, (some .int), 2, 5, 0, 0, zc_X5_sure)
abbrev ze_X4_suspect : zE := (yX4_suspect, cX4_suspect, 3, (some .int), 2, 4, 0, 0, zc_X4_suspect)
abbrev ze_X5_suspect : zE := (yX5_suspect, cX5_suspect, 3, (some .int), 2, 5, 0, 0, zc_X5_suspect)
abbrev ze_X1_isFreeForThing : zE := (yX1_isFreeForThing, cX1_isFreeForThing, 2, (some .boolean), 1, 1, 0, 0, zc_X1_isFreeForThing)
abbrev ze_X1_addThing : zE := (yX1_addThing, cX1_addThing, 5, (some .int), 3, 1, 0, 0, zc_X1_addThing)
abbrev ze_X5_addThing : zE := (yX5_addThing, cX5_addThing, 5, none, 3, 5, 0, 0, zc_X5_addThing)
abbrev ze_X1_standing : zE := (yX1_standing, cX1_standing, 1, (some .int), 0, 1, 0, 0, zc_X1_standing)
abbrev ze_X1_thingsOwnedBy : zE := (yX1_thingsOwnedBy, cX1_thingsOwnedBy, 4, (some .int), 1, 1, 0, 0, zc_X1_thingsOwnedBy)
abbrev ze_X4_slips : zE := (yX4_slips, cX4_slips, 3, (some .int), 1, 4, 0, 0, zc_X4_slips)
abbrev ze_X5_slips : zE := (yX5_slips, cX5_slips, 3, (some .int), 1, 5, 0, 0, zc_X5_slips)
abbrev ze_X4_rule : zE := (yX4_rule, cX4_rule, 3, (some .int), 1, 4, 0, 0, zc_X4_rule)
abbrev ze_X5_rule : zE := (yX5_rule, cX5_rule, 3, (some .int), 1, 5, 0, 0, zc_X5_rule)
abbrev ze_X4_buyer : zE := (yX4_buyer, cX4_buyer, 2, (some .int), 1, 4, 0, 0, zc_X4_buyer)
abbrev ze_X5_buyer : zE := (yX5_buyer, cX5_buyer, 2, (some .int), 1, 5, 0, 0, zc_X5_buyer)
abbrev ze_X4_feed : zE := (yX4_feed, cX4_feed, 2, (some .int), 1, 4, 0, 0, zc_X4_feed)
abbrev ze_X5_feed : zE := (yX5_feed, cX5_feed, 2, (some .int), 1, 5, 0, 0, zc_X5_feed)
abbrev ze_X5_takeFrom : zE := (yX5_takeFrom, cX5_takeFrom, 3, none, 1, 5, 0, 0, zc_X5_takeFrom)
abbrev ze_J6_bitCount_0f7a4 : zE := (yJ6_bitCount_0f7a4, cJ6_bitCount_0f7a4, 1, (some .int), 1, 99, 0, 0, zc_J6_bitCount_0f7a4)
abbrev ze_X4_takings : zE := (yX4_takings, cX4_takings, 2, (some .int), 1, 4, 0, 0, zc_X4_takings)
abbrev ze_X5_takings : zE := (yX5_takings, cX5_takings, 2, (some .int), 1, 5, 0, 0, zc_X5_takings)
abbrev ze_X4_left : zE := (yX4_left, cX4_left, 4, (some .int), 1, 4, 0, 0, zc_X4_left)
abbrev ze_X5_left : zE := (yX5_left, cX5_left, 5, (some .int), 1, 5, 0, 0, zc_X5_left)
abbrev ze_X4_fete : zE := (yX4_fete, cX4_fete, 2, (some .int), 1, 4, 0, 0, zc_X4_fete)
abbrev ze_X5_fete : zE := (yX5_fete, cX5_fete, 4, (some .int), 1, 5, 0, 0, zc_X5_fete)
abbrev ze_X4_likes : zE := (yX4_likes, cX4_likes, 5, (some .int), 3, 4, 0, 0, zc_X4_likes)
abbrev ze_X5_likes : zE := (yX5_likes, cX5_likes, 5, (some .int), 3, 5, 0, 0, zc_X5_likes)
abbrev ze_X4_purse : zE := (yX4_purse, cX4_purse, 4, (some .int), 2, 4, 0, 0, zc_X4_purse)
abbrev ze_X5_purse : zE := (yX5_purse, cX5_purse, 4, (some .int), 2, 5, 0, 0, zc_X5_purse)
abbrev ze_X1_become : zE := (yX1_become, cX1_become, 2, none, 1, 1, 0, 0, zc_X1_become)
abbrev ze_X4_thingOf : zE := (yX4_thingOf, cX4_thingOf, 3, (some .int), 2, 4, 0, 0, zc_X4_thingOf)
abbrev ze_X5_thingOf : zE := (yX5_thingOf, cX5_thingOf, 3, (some .int), 2, 5, 0, 0, zc_X5_thingOf)
abbrev ze_X4_buyerOf : zE := (yX4_buyerOf, cX4_buyerOf, 3, (some .int), 2, 4, 0, 0, zc_X4_buyerOf)
abbrev ze_X5_buyerOf : zE := (yX5_buyerOf, cX5_buyerOf, 3, (some .int), 2, 5, 0, 0, zc_X5_buyerOf)
abbrev ze_X1_countDrawable : zE := (yX1_countDrawable, cX1_countDrawable, 2, (some .int), 0, 1, 0, 0, zc_X1_countDrawable)
abbrev ze_X1_thingsReady : zE := (yX1_thingsReady, cX1_thingsReady, 8, (some .int), 2, 1, 0, 0, zc_X1_thingsReady)
abbrev ze_X5_drawableMany : zE := (yX5_drawableMany, cX5_drawableMany, 3, (some .int), 0, 5, 0, 0, zc_X5_drawableMany)
abbrev ze_X4_worth : zE := (yX4_worth, cX4_worth, 2, (some .int), 1, 4, 0, 0, zc_X4_worth)
abbrev ze_X5_worth : zE := (yX5_worth, cX5_worth, 2, (some .int), 1, 5, 0, 0, zc_X5_worth)
abbrev ze_X4_plan : zE := (yX4_plan, cX4_plan, 2, (some .int), 1, 4, 0, 0, zc_X4_plan)
abbrev ze_X5_plan : zE := (yX5_plan, cX5_plan, 2, (some .int), 1, 5, 0, 0, zc_X5_plan)
abbrev ze_X4_till : zE := (yX4_till, cX4_till, 5, (some .int), 1, 4, 0, 0, zc_X4_till)
abbrev ze_X5_till : zE := (yX5_till, cX5_till, 4, (some .int), 1, 5, 0, 0, zc_X5_till)
abbrev ze_X4_atOnce : zE := (yX4_atOnce, cX4_atOnce, 2, (some .int), 1, 4, 0, 0, zc_X4_atOnce)
abbrev ze_X5_atOnce : zE := (yX5_atOnce, cX5_atOnce, 2, (some .int), 1, 5, 0, 0, zc_X5_atOnce)
abbrev ze_X4_mean : zE := (yX4_mean, cX4_mean, 3, (some .int), 2, 4, 0, 0, zc_X4_mean)
abbrev ze_X5_mean : zE := (yX5_mean, cX5_mean, 3, (some .int), 2, 5, 0, 0, zc_X5_mean)
abbrev ze_X4_all : zE := (yX4_all, cX4_all, 2, (some .int), 1, 4, 0, 0, zc_X4_all)
abbrev ze_X5_all : zE := (yX5_all, cX5_all, 2, (some .int), 1, 5, 0, 0, zc_X5_all)
abbrev ze_X1_thingsUnder : zE := (yX1_thingsUnder, cX1_thingsUnder, 4, (some .int), 1, 1, 0, 0, zc_X1_thingsUnder)
abbrev ze_X4_chain : zE := (yX4_chain, cX4_chain, 2, (some .int), 1, 4, 0, 0, zc_X4_chain)
abbrev ze_X5_chain : zE := (yX5_chain, cX5_chain, 7, (some .int), 1, 5, 0, 0, zc_X5_chain)
abbrev ze_X4_dearest : zE := (yX4_dearest, cX4_dearest, 5, (some .int), 1, 4, 0, 0, zc_X4_dearest)
abbrev ze_X5_dearest : zE := (yX5_dearest, cX5_dearest, 4, (some .int), 1, 5, 0, 0, zc_X5_dearest)
abbrev ze_X4_fondest : zE := (yX4_fondest, cX4_fondest, 4, (some .int), 1, 4, 0, 0, zc_X4_fondest)
abbrev ze_X5_fondest : zE := (yX5_fondest, cX5_fondest, 4, (some .int), 1, 5, 0, 0, zc_X5_fondest)
abbrev ze_X4_go : zE := (yX4_go, cX4_go, 3, (some .int), 1, 4, 0, 0, zc_X4_go)
abbrev ze_X5_go : zE := (yX5_go, cX5_go, 2, (some .int), 1, 5, 0, 0, zc_X5_go)
abbrev ze_X4_five : zE := (yX4_five, cX4_five, 4, (some .int), 1, 4, 0, 0, zc_X4_five)
abbrev ze_X5_five : zE := (yX5_five, cX5_five, 4, (some .int), 1, 5, 0, 0, zc_X5_five)
abbrev ze_X4_plays : zE := (yX4_plays, cX4_plays, 3, (some .int), 1, 4, 0, 0, zc_X4_plays)
abbrev ze_X5_plays : zE := (yX5_plays, cX5_plays, 3, (some .int), 1, 5, 0, 0, zc_X5_plays)
abbrev ze_X5_becomeSlips : zE := (yX5_becomeSlips, cX5_becomeSlips, 3, none, 1, 5, 0, 0, zc_X5_becomeSlips)
abbrev ze_X1_addBuyer : zE := (yX1_addBuyer, cX1_addBuyer, 3, (some .int), 1, 1, 0, 0, zc_X1_addBuyer)
abbrev ze_X5_addBuyer : zE := (yX5_addBuyer, cX5_addBuyer, 3, none, 1, 5, 0, 0, zc_X5_addBuyer)
abbrev ze_X4_wipe : zE := (yX4_wipe, cX4_wipe, 2, (some .int), 0, 4, 0, 0, zc_X4_wipe)
abbrev ze_X5_wipe : zE := (yX5_wipe, cX5_wipe, 2, (some .int), 0, 5, 0, 0, zc_X5_wipe)
abbrev ze_X4_stall : zE := (yX4_stall, cX4_stall, 2, (some .int), 0, 4, 0, 0, zc_X4_stall)
abbrev ze_X2_readInto : zE := (yX2_readInto, cX2_readInto, 4, (some .int), 1, 2, 0, 0, zc_X2_readInto)
abbrev ze_X2_step : zE := (yX2_step, cX2_step, 2, none, 0, 2, 0, 0, zc_X2_step)
abbrev ze_X2_readStatement : zE := (yX2_readStatement, cX2_readStatement, 2, (some .boolean), 1, 2, 0, 0, zc_X2_readStatement)
abbrev ze_X5_stall : zE := (yX5_stall, cX5_stall, 3, (some .int), 0, 5, 30, 843, zc_X5_stall)
abbrev ze_X5_fresh : zE := (yX5_fresh, cX5_fresh, 1, (some (.object "EndsInFiveModel")), 0, 5, 30, 843, zc_X5_fresh)
abbrev ze_X5_readAll : zE := (yX5_readAll, cX5_readAll, 1, (some .boolean), 0, 5, 0, 0, zc_X5_readAll)
abbrev ze_X5_look : zE := (yX5_look, cX5_look, 1, none, 0, 5, 0, 0, zc_X5_look)
abbrev ze_X5_statement : zE := (yX5_statement, cX5_statement, 2, (some .boolean), 0, 5, 0, 0, zc_X5_statement)
abbrev ze_X5_wrong : zE := (yX5_wrong, cX5_wrong, 1, (some .boolean), 0, 5, 0, 0, zc_X5_wrong)
abbrev ze_X4_drawable : zE := (yX4_drawable, cX4_drawable, 1, (some .int), 0, 4, 0, 0, zc_X4_drawable)
abbrev ze_X5_drawable : zE := (yX5_drawable, cX5_drawable, 1, (some .int), 0, 5, 0, 0, zc_X5_drawable)
abbrev ze_X4_bestPrice : zE := (yX4_bestPrice, cX4_bestPrice, 5, (some .int), 0, 4, 0, 0, zc_X4_bestPrice)
abbrev ze_X5_bestPrice : zE := (yX5_bestPrice, cX5_bestPrice, 5, (some .int), 0, 5, 0, 0, zc_X5_bestPrice)
abbrev ze_X4_full : zE := (yX4_full, cX4_full, 1, (some .int), 0, 4, 0, 0, zc_X4_full)
abbrev ze_X5_full : zE := (yX5_full, cX5_full, 1, (some .int), 0, 5, 0, 0, zc_X5_full)
abbrev ze_X4_envy : zE := (yX4_envy, cX4_envy, 5, (some .int), 0, 4, 0, 0, zc_X4_envy)
abbrev ze_X5_envy : zE := (yX5_envy, cX5_envy, 4, (some .int), 0, 5, 0, 0, zc_X5_envy)
abbrev ze_X4_poorest : zE := (yX4_poorest, cX4_poorest, 3, (some .int), 0, 4, 0, 0, zc_X4_poorest)
abbrev ze_X5_poorest : zE := (yX5_poorest, cX5_poorest, 3, (some .int), 0, 5, 0, 0, zc_X5_poorest)
abbrev ze_X4_oldest : zE := (yX4_oldest, cX4_oldest, 3, (some .int), 0, 4, 0, 0, zc_X4_oldest)
abbrev ze_X5_oldest : zE := (yX5_oldest, cX5_oldest, 3, (some .int), 0, 5, 0, 0, zc_X5_oldest)
abbrev ze_X1_beginFete : zE := (yX1_beginFete, cX1_beginFete, 4, (some .int), 1, 1, 0, 0, zc_X1_beginFete)
abbrev ze_X4_seed : zE := (yX4_seed, cX4_seed, 3, (some .int), 1, 4, 0, 0, zc_X4_seed)
abbrev ze_X5_seed : zE := (yX5_seed, cX5_seed, 3, (some .int), 1, 5, 0, 0, zc_X5_seed)
abbrev ze_X4_image : zE := (yX4_image, cX4_image, 1, (some .int), 0, 4, 0, 0, zc_X4_image)
abbrev ze_X5_image : zE := (yX5_image, cX5_image, 1, (some .int), 0, 5, 30, 843, zc_X5_image)
abbrev ze_X4_back : zE := (yX4_back, cX4_back, 2, (some .int), 0, 4, 0, 0, zc_X4_back)
abbrev ze_X5_back : zE := (yX5_back, cX5_back, 2, (some .int), 0, 5, 0, 0, zc_X5_back)
abbrev ze_X5_standing : zE := (yX5_standing, cX5_standing, 3, (some .int), 0, 5, 0, 0, zc_X5_standing)
abbrev ze_X4_countShelvesInUse : zE := (yX4_countShelvesInUse, cX4_countShelvesInUse, 3, (some .int), 0, 4, 0, 0, zc_X4_countShelvesInUse)
abbrev ze_L_law : zE := (yL_law, cL_law, 4, (some .boolean), 1, 99, 0, 0, zc_L_law)
def zprogL : List zE := [ze_X4_isWithin, ze_X5_in, ze_X4_refuse, ze_X5_refuse, ze_X4_isShelf, ze_X1_isSlip, ze_X1_quartersOf, ze_X5_fullWith, ze_X4_thing, ze_X5_thing, ze_X0_holdsRow, ze_X0_lackOfRow, ze_X4_slipOf, ze_X5_slipOf, ze_X5_thingOn, ze_X4_copy, ze_X5_copy, ze_X4_row, ze_X5_row, ze_X1_thingOn, ze_X1_isThing, ze_X5_canDraw, ze_X5_isWinner, ze_X4_lackOfRows, ze_X1_isIn, ze_X4_asNumber, ze_X1_stands, ze_X4_lackOfBook, ze_X5_noBook, ze_X0_init, ze_X1_isBuyer, ze_X1_isWinner, ze_X1_canBeDrawn, ze_X5_over, ze_X4_show, ze_X5_show, ze_X4_says, ze_X5_says, ze_X4_judge, ze_X5_judge, ze_X4_won, ze_X5_won, ze_X5_isBuyer, ze_X4_guess, ze_X5_guess, ze_X1_countIn, ze_J13_bitCount_95d88, ze_X5_noRow, ze_X5_inside, ze_X1_putAllIn, ze_X1_putSlips, ze_X5_isThing, ze_X4_wins, ze_X5_wins, ze_X1_init, ze_X1_wonBySlip, ze_X5_winsBy, ze_X1_takingsAt, ze_X5_takingsAt, ze_X4_status, ze_X5_status, ze_X4_booked, ze_X5_booked, ze_X4_price, ze_X5_price, ze_X5_suspected, ze_X4_sureness, ze_X4_set, ze_X5_set, ze_X4_element, ze_X5_element, ze_X4_holds, ze_X5_holds, ze_X5_init, ze_X0_putRow, ze_X0_hasElement, ze_X4_init, ze_X3_init, ze_X2_init, ze_X2_isWord, ze_X5_isWord, ze_X4_sure, ze_X5_sure, ze_X4_suspect, ze_X5_suspect, ze_X1_isFreeForThing, ze_X1_addThing, ze_X5_addThing, ze_X1_standing, ze_X1_thingsOwnedBy, ze_X4_slips, ze_X5_slips, ze_X4_rule, ze_X5_rule, ze_X4_buyer, ze_X5_buyer, ze_X4_feed, ze_X5_feed, ze_X5_takeFrom, ze_J6_bitCount_0f7a4, ze_X4_takings, ze_X5_takings, ze_X4_left, ze_X5_left, ze_X4_fete, ze_X5_fete, ze_X4_likes, ze_X5_likes, ze_X4_purse, ze_X5_purse, ze_X1_become, ze_X4_thingOf, ze_X5_thingOf, ze_X4_buyerOf, ze_X5_buyerOf, ze_X1_countDrawable, ze_X1_thingsReady, ze_X5_drawableMany, ze_X4_worth, ze_X5_worth, ze_X4_plan, ze_X5_plan, ze_X4_till, ze_X5_till, ze_X4_atOnce, ze_X5_atOnce, ze_X4_mean, ze_X5_mean, ze_X4_all, ze_X5_all, ze_X1_thingsUnder, ze_X4_chain, ze_X5_chain, ze_X4_dearest, ze_X5_dearest, ze_X4_fondest, ze_X5_fondest, ze_X4_go, ze_X5_go, ze_X4_five, ze_X5_five, ze_X4_plays, ze_X5_plays, ze_X5_becomeSlips, ze_X1_addBuyer, ze_X5_addBuyer, ze_X4_wipe, ze_X5_wipe, ze_X4_stall, ze_X2_readInto, ze_X2_step, ze_X2_readStatement, ze_X5_stall, ze_X5_fresh, ze_X5_readAll, ze_X5_look, ze_X5_statement, ze_X5_wrong, ze_X4_drawable, ze_X5_drawable, ze_X4_bestPrice, ze_X5_bestPrice, ze_X4_full, ze_X5_full, ze_X4_envy, ze_X5_envy, ze_X4_poorest, ze_X5_poorest, ze_X4_oldest, ze_X5_oldest, ze_X1_beginFete, ze_X4_seed, ze_X5_seed, ze_X4_image, ze_X5_image, ze_X4_back, ze_X5_back, ze_X5_standing, ze_X4_countShelvesInUse]
def zprog (j : Nat) : Option zE := zprogL[j]?
end
section
def zisN : Cond → Bool
  | .methodLinkNest .. => true
  | _ => false
def zTG : List Cond := lw_tbl.filter goodWord
def zTN : List Cond := lw_tbl.filter zisN
theorem zGood_TG : zGood zTG := fun w hw => good_of_word (List.mem_filter.mp hw).2
theorem zTNok_TN : zTNok zTN := by
  intro w hw
  have h := (List.mem_filter.mp hw).2
  cases w <;> first | exact ⟨_, _, _, _, rfl⟩ | exact absurd h Bool.false_ne_true
def zst : zSt := [("EndsInFive$Tape", 38, "slips", 0), ("EndsInFive$Tape", 47, "rule", 1), ("EndsInFive$Tape", 52, "price", 2), ("EndsInFive$Tape", 94, "five", 7), ("EndsInFive$Tape", 57, "thing", 3), ("EndsInFive$Tape", 62, "buyer", 4), ("EndsInFive$Tape", 67, "likes", 5), ("EndsInFive$Tape", 72, "out", 6), ("EndsInFiveModel", 224, "slips", 0), ("EndsInFiveModel", 225, "rule", 1), ("EndsInFiveModel", 226, "price", 2), ("EndsInFiveModel", 219, "five", 7), ("EndsInFiveModel", 230, "thing", 3), ("EndsInFiveModel", 235, "buyer", 4), ("EndsInFiveModel", 237, "likes", 5), ("EndsInFiveModel", 238, "out", 6)]
def zsiteL (E : zE) : List (Nat × zI) := (zEd E).flatMap (fun q => q.2)
def zallW (E : zE) : List Cond := (zsiteL E).flatMap (fun r => zwords zprog E.1.cls r.2.1 r.2.2.1 r.2.2.2.1 r.2.2.2.2.1)
def zallN (E : zE) : List Cond := (zsiteL E).flatMap (fun r => zwordsN zprog E.1.cls r.2.1 r.2.2.2.1 r.2.2.2.2.1)
def zchk (E : zE) : Bool := (zsiteL E).all (fun r => zdec E.2.1 r.1 r.2.1 && zside zprog E.1 zst r.2.1 r.2.2.1 r.2.2.2.1 r.2.2.2.2.1 r.2.2.2.2.2.1)
theorem zft_mem {cd : zCd} {pc : Nat} {i : zI} (h : zft cd pc = some i) : (pc, i) ∈ cd.flatMap (fun q => q.2) := by
  unfold zft at h
  split at h
  · next q hq =>
    split at h
    · next r hr =>
      cases h
      have h1 := List.mem_of_find?_eq_some hr
      have h2 := List.find?_some hr
      have h3 : r.1 = pc := Nat.eq_of_beq_eq_true h2
      refine List.mem_flatMap.mpr ⟨q, List.mem_of_find?_eq_some hq, ?_⟩
      rw [← h3]
      exact h1
    · cases h
  · cases h
theorem zplaces {ws : List Cond} (ps : List Nat) (h : ws = ps.filterMap (fun i => lw_tbl[i]?)) : ∀ w ∈ ws, w ∈ lw_tbl := by
  intro w hw
  rw [h] at hw
  obtain ⟨i, -, hi⟩ := List.mem_filterMap.mp hw
  exact List.mem_of_getElem? hi
theorem zOkC_of {E : zE} (h1 : zchk E = true) (ps : List Nat) (h2 : zallW E = ps.filterMap (fun i => lw_tbl[i]?)) (h3 : (zallW E).all goodWord = true) (qs : List Nat) (h4 : zallN E = qs.filterMap (fun i => lw_tbl[i]?)) (h5 : (zallN E).all zisN = true) : zOkC zprog zst zTG zTN E := by
  intro pc i hi
  have hm := zft_mem hi
  have h6 := List.all_eq_true.mp h1 _ hm
  obtain ⟨a1, a2⟩ := z_and h6
  refine ⟨a1, a2, fun w hw => ?_, fun w hw => ?_⟩
  · have hw2 : w ∈ zallW E := List.mem_flatMap.mpr ⟨_, hm, hw⟩
    exact List.mem_filter.mpr ⟨zplaces ps h2 w hw2, List.all_eq_true.mp h3 w hw2⟩
  · have hw2 : w ∈ zallN E := List.mem_flatMap.mpr ⟨_, hm, hw⟩
    exact List.mem_filter.mpr ⟨zplaces qs h4 w hw2, List.all_eq_true.mp h5 w hw2⟩
def zckC (E : zE) (rows : List (Nat × zI)) : Prop := ∀ r ∈ rows, zdec E.2.1 r.1 r.2.1 = true ∧ zside zprog E.1 zst r.2.1 r.2.2.1 r.2.2.2.1 r.2.2.2.2.1 r.2.2.2.2.2.1 = true ∧ (∀ w ∈ zwords zprog E.1.cls r.2.1 r.2.2.1 r.2.2.2.1 r.2.2.2.2.1, w ∈ zTG) ∧ (∀ w ∈ zwordsN zprog E.1.cls r.2.1 r.2.2.2.1 r.2.2.2.2.1, w ∈ zTN)
theorem zckC_of {E : zE} {rows : List (Nat × zI)} (h1 : rows.all (fun r => zdec E.2.1 r.1 r.2.1 && zside zprog E.1 zst r.2.1 r.2.2.1 r.2.2.2.1 r.2.2.2.2.1 r.2.2.2.2.2.1) = true) (ps : List Nat) (h2 : rows.flatMap (fun r => zwords zprog E.1.cls r.2.1 r.2.2.1 r.2.2.2.1 r.2.2.2.2.1) = ps.filterMap (fun i => lw_tbl[i]?)) (h3 : (rows.flatMap (fun r => zwords zprog E.1.cls r.2.1 r.2.2.1 r.2.2.2.1 r.2.2.2.2.1)).all goodWord = true) (h4 : rows.flatMap (fun r => zwordsN zprog E.1.cls r.2.1 r.2.2.2.1 r.2.2.2.2.1) = []) : zckC E rows := by
  intro r hm
  have h6 := List.all_eq_true.mp h1 _ hm
  obtain ⟨a1, a2⟩ := z_and h6
  refine ⟨a1, a2, fun w hw => ?_, fun w hw => ?_⟩
  · have hw2 : w ∈ rows.flatMap (fun r => zwords zprog E.1.cls r.2.1 r.2.2.1 r.2.2.2.1 r.2.2.2.2.1) := List.mem_flatMap.mpr ⟨_, hm, hw⟩
    exact List.mem_filter.mpr ⟨zplaces ps h2 w hw2, List.all_eq_true.mp h3 w hw2⟩
  · have hw2 : w ∈ rows.flatMap (fun r => zwordsN zprog E.1.cls r.2.1 r.2.2.2.1 r.2.2.2.2.1) := List.mem_flatMap.mpr ⟨_, hm, hw⟩
    rw [h4] at hw2
    cases hw2
theorem zOkC_chunks {E : zE} (h : ∀ q ∈ zEd E, zckC E q.2) : zOkC zprog zst zTG zTN E := by
  intro pc i hi
  have hm := zft_mem hi
  obtain ⟨q, hq, hm⟩ := List.mem_flatMap.mp hm
  exact h q hq _ hm
theorem zmw_of {E : zE} (i : Nat) (h1 : lw_tbl[i]? = some (.code E.1 E.2.1 E.2.2.1 E.2.2.2.1)) (ps : List Nat) (h2 : (zmwords E).tail = ps.filterMap (fun i => lw_tbl[i]?)) (h3 : (zmwords E).tail.all goodWord = true) : ∀ w ∈ zmwords E, w ∈ zTG := by
  have e : zmwords E = .code E.1 E.2.1 E.2.2.1 E.2.2.2.1 :: (zmwords E).tail := by
    unfold zmwords
    split
    · rfl
    · split <;> rfl
  intro w hw
  rw [e] at hw
  rcases List.mem_cons.mp hw with rfl | hw
  · exact List.mem_filter.mpr ⟨List.mem_of_getElem? h1, rfl⟩
  · exact List.mem_filter.mpr ⟨zplaces ps h2 w hw, List.all_eq_true.mp h3 w hw⟩
end
section
theorem zk_X4_isWithin : zOkC zprog zst zTG zTN ze_X4_isWithin := zOkC_of (by decide +kernel) [] (by decide +kernel) (by decide +kernel) [] (by decide +kernel) (by decide +kernel)
theorem zs_X4_isWithin : zmside ze_X4_isWithin = true := by decide +kernel
set_option maxRecDepth 100000 in
theorem zm_X4_isWithin : ∀ w ∈ zmwords ze_X4_isWithin, w ∈ zTG := zmw_of 276 rfl [275, 53] (by decide +kernel) (by decide +kernel)
theorem zk_X5_in : zOkC zprog zst zTG zTN ze_X5_in := zOkC_of (by decide +kernel) [] (by decide +kernel) (by decide +kernel) [] (by decide +kernel) (by decide +kernel)
theorem zs_X5_in : zmside ze_X5_in = true := by decide +kernel
set_option maxRecDepth 100000 in
theorem zm_X5_in : ∀ w ∈ zmwords ze_X5_in, w ∈ zTG := zmw_of 1071 rfl [1070, 58] (by decide +kernel) (by decide +kernel)
theorem zk_X4_refuse : zOkC zprog zst zTG zTN ze_X4_refuse := zOkC_of (by decide +kernel) [274, 248] (by decide +kernel) (by decide +kernel) [] (by decide +kernel) (by decide +kernel)
theorem zs_X4_refuse : zmside ze_X4_refuse = true := by decide +kernel
set_option maxRecDepth 100000 in
theorem zm_X4_refuse : ∀ w ∈ zmwords ze_X4_refuse, w ∈ zTG := zmw_of 280 rfl [279, 0, 53] (by decide +kernel) (by decide +kernel)
theorem zk_X5_refuse : zOkC zprog zst zTG zTN ze_X5_refuse := zOkC_of (by decide +kernel) [948] (by decide +kernel) (by decide +kernel) [] (by decide +kernel) (by decide +kernel)
theorem zs_X5_refuse : zmside ze_X5_refuse = true := by decide +kernel
set_option maxRecDepth 100000 in
theorem zm_X5_refuse : ∀ w ∈ zmwords ze_X5_refuse, w ∈ zTG := zmw_of 1077 rfl [1076, 6, 58] (by decide +kernel) (by decide +kernel)
theorem zk_X4_isShelf : zOkC zprog zst zTG zTN ze_X4_isShelf := zOkC_of (by decide +kernel) [274] (by decide +kernel) (by decide +kernel) [] (by decide +kernel) (by decide +kernel)
theorem zs_X4_isShelf : zmside ze_X4_isShelf = true := by decide +kernel
set_option maxRecDepth 100000 in
theorem zm_X4_isShelf : ∀ w ∈ zmwords ze_X4_isShelf, w ∈ zTG := zmw_of 273 rfl [272, 53] (by decide +kernel) (by decide +kernel)
theorem zk_X1_isSlip : zOkC zprog zst zTG zTN ze_X1_isSlip := zOkC_of (by decide +kernel) [89] (by decide +kernel) (by decide +kernel) [] (by decide +kernel) (by decide +kernel)
theorem zs_X1_isSlip : zmside ze_X1_isSlip = true := by decide +kernel
set_option maxRecDepth 100000 in
theorem zm_X1_isSlip : ∀ w ∈ zmwords ze_X1_isSlip, w ∈ zTG := zmw_of 428 rfl [426, 427, 54] (by decide +kernel) (by decide +kernel)
theorem zk_X1_quartersOf : zOkC zprog zst zTG zTN ze_X1_quartersOf := zOkC_of (by decide +kernel) [89, 89, 89] (by decide +kernel) (by decide +kernel) [] (by decide +kernel) (by decide +kernel)
theorem zs_X1_quartersOf : zmside ze_X1_quartersOf = true := by decide +kernel
set_option maxRecDepth 100000 in
theorem zm_X1_quartersOf : ∀ w ∈ zmwords ze_X1_quartersOf, w ∈ zTG := zmw_of 789 rfl [787, 788, 54] (by decide +kernel) (by decide +kernel)
theorem zk_X5_fullWith : zOkC zprog zst zTG zTN ze_X5_fullWith := zOkC_of (by decide +kernel) [949, 949] (by decide +kernel) (by decide +kernel) [] (by decide +kernel) (by decide +kernel)
theorem zs_X5_fullWith : zmside ze_X5_fullWith = true := by decide +kernel
set_option maxRecDepth 100000 in
theorem zm_X5_fullWith : ∀ w ∈ zmwords ze_X5_fullWith, w ∈ zTG := zmw_of 1394 rfl [1393, 44, 58] (by decide +kernel) (by decide +kernel)
theorem zk_X4_thing : zOkC zprog zst zTG zTN ze_X4_thing := zOkC_of (by decide +kernel) [274, 274, 242, 425, 242, 429, 277, 242, 433, 242, 113, 242, 445] (by decide +kernel) (by decide +kernel) [] (by decide +kernel) (by decide +kernel)
theorem zs_X4_thing : zmside ze_X4_thing = true := by decide +kernel
set_option maxRecDepth 100000 in
theorem zm_X4_thing : ∀ w ∈ zmwords ze_X4_thing, w ∈ zTG := zmw_of 424 rfl [422, 423, 53] (by decide +kernel) (by decide +kernel)
theorem zk_X5_thing : zOkC zprog zst zTG zTN ze_X5_thing := zOkC_of (by decide +kernel) [1113, 1069, 1154, 1158, 1069, 1074, 956, 1159, 957, 1163, 957] (by decide +kernel) (by decide +kernel) [] (by decide +kernel) (by decide +kernel)
theorem zs_X5_thing : zmside ze_X5_thing = true := by decide +kernel
set_option maxRecDepth 100000 in
theorem zm_X5_thing : ∀ w ∈ zmwords ze_X5_thing, w ∈ zTG := zmw_of 1153 rfl [1151, 1152, 58] (by decide +kernel) (by decide +kernel)
theorem zk_X0_holdsRow : zOkC zprog zst zTG zTN ze_X0_holdsRow := zOkC_of (by decide +kernel) [228] (by decide +kernel) (by decide +kernel) [297] (by decide +kernel) (by decide +kernel)
theorem zs_X0_holdsRow : zmside ze_X0_holdsRow = true := by decide +kernel
set_option maxRecDepth 100000 in
theorem zm_X0_holdsRow : ∀ w ∈ zmwords ze_X0_holdsRow, w ∈ zTG := zmw_of 296 rfl [294, 295, 57] (by decide +kernel) (by decide +kernel)
theorem zk_X0_lackOfRow : zOkC zprog zst zTG zTN ze_X0_lackOfRow := zOkC_of (by decide +kernel) [293, 228] (by decide +kernel) (by decide +kernel) [] (by decide +kernel) (by decide +kernel)
theorem zs_X0_lackOfRow : zmside ze_X0_lackOfRow = true := by decide +kernel
set_option maxRecDepth 100000 in
theorem zm_X0_lackOfRow : ∀ w ∈ zmwords ze_X0_lackOfRow, w ∈ zTG := zmw_of 292 rfl [290, 291, 57] (by decide +kernel) (by decide +kernel)
theorem zk_X4_slipOf : zOkC zprog zst zTG zTN ze_X4_slipOf := zOkC_of (by decide +kernel) [242, 425, 277, 242, 636, 357, 242, 429, 357, 242, 637, 357, 242, 647, 277] (by decide +kernel) (by decide +kernel) [] (by decide +kernel) (by decide +kernel)
theorem zs_X4_slipOf : zmside ze_X4_slipOf = true := by decide +kernel
set_option maxRecDepth 100000 in
theorem zm_X4_slipOf : ∀ w ∈ zmwords ze_X4_slipOf, w ∈ zTG := zmw_of 635 rfl [633, 634, 53] (by decide +kernel) (by decide +kernel)
theorem zk_X5_slipOf : zOkC zprog zst zTG zTN ze_X5_slipOf := zOkC_of (by decide +kernel) [949, 1069, 1074, 956, 950, 1296, 1159, 1074] (by decide +kernel) (by decide +kernel) [] (by decide +kernel) (by decide +kernel)
theorem zs_X5_slipOf : zmside ze_X5_slipOf = true := by decide +kernel
set_option maxRecDepth 100000 in
theorem zm_X5_slipOf : ∀ w ∈ zmwords ze_X5_slipOf, w ∈ zTG := zmw_of 1307 rfl [1305, 1306, 58] (by decide +kernel) (by decide +kernel)
theorem zk_X5_thingOn : zOkC zprog zst zTG zTN ze_X5_thingOn := zOkC_of (by decide +kernel) [957] (by decide +kernel) (by decide +kernel) [] (by decide +kernel) (by decide +kernel)
theorem zs_X5_thingOn : zmside ze_X5_thingOn = true := by decide +kernel
set_option maxRecDepth 100000 in
theorem zm_X5_thingOn : ∀ w ∈ zmwords ze_X5_thingOn, w ∈ zTG := zmw_of 1162 rfl [1161, 14, 58] (by decide +kernel) (by decide +kernel)
theorem zk_X4_copy : zOkC zprog zst zTG zTN ze_X4_copy := zOkC_of (by decide +kernel) [271, 271, 277, 247, 247, 313, 277] (by decide +kernel) (by decide +kernel) [] (by decide +kernel) (by decide +kernel)
theorem zs_X4_copy : zmside ze_X4_copy = true := by decide +kernel
set_option maxRecDepth 100000 in
theorem zm_X4_copy : ∀ w ∈ zmwords ze_X4_copy, w ∈ zTG := zmw_of 312 rfl [310, 311, 53] (by decide +kernel) (by decide +kernel)
theorem zk_X5_copy : zOkC zprog zst zTG zTN ze_X5_copy := zOkC_of (by decide +kernel) [1068, 1069, 1068, 1069, 1074, 940, 940, 940, 940, 1074] (by decide +kernel) (by decide +kernel) [] (by decide +kernel) (by decide +kernel)
theorem zs_X5_copy : zmside ze_X5_copy = true := by decide +kernel
set_option maxRecDepth 100000 in
theorem zm_X5_copy : ∀ w ∈ zmwords ze_X5_copy, w ∈ zTG := zmw_of 1092 rfl [1090, 1091, 58] (by decide +kernel) (by decide +kernel)
theorem zk_X4_row : zOkC zprog zst zTG zTN ze_X4_row := zOkC_of (by decide +kernel) [271, 274, 274, 277, 247, 281] (by decide +kernel) (by decide +kernel) [] (by decide +kernel) (by decide +kernel)
theorem zs_X4_row : zmside ze_X4_row = true := by decide +kernel
set_option maxRecDepth 100000 in
theorem zm_X4_row : ∀ w ∈ zmwords ze_X4_row, w ∈ zTG := zmw_of 270 rfl [268, 269, 53] (by decide +kernel) (by decide +kernel)
theorem zk_X5_row : zOkC zprog zst zTG zTN ze_X5_row := zOkC_of (by decide +kernel) [1068, 1069, 1072, 1069, 1073, 1069, 1074, 940, 941, 942, 943] (by decide +kernel) (by decide +kernel) [] (by decide +kernel) (by decide +kernel)
theorem zs_X5_row : zmside ze_X5_row = true := by decide +kernel
set_option maxRecDepth 100000 in
theorem zm_X5_row : ∀ w ∈ zmwords ze_X5_row, w ∈ zTG := zmw_of 1067 rfl [1065, 1066, 58] (by decide +kernel) (by decide +kernel)
theorem zk_X1_thingOn : zOkC zprog zst zTG zTN ze_X1_thingOn := zOkC_of (by decide +kernel) [110] (by decide +kernel) (by decide +kernel) [] (by decide +kernel) (by decide +kernel)
theorem zs_X1_thingOn : zmside ze_X1_thingOn = true := by decide +kernel
set_option maxRecDepth 100000 in
theorem zm_X1_thingOn : ∀ w ∈ zmwords ze_X1_thingOn, w ∈ zTG := zmw_of 444 rfl [442, 443, 54] (by decide +kernel) (by decide +kernel)
theorem zk_X1_isThing : zOkC zprog zst zTG zTN ze_X1_isThing := zOkC_of (by decide +kernel) [110] (by decide +kernel) (by decide +kernel) [] (by decide +kernel) (by decide +kernel)
theorem zs_X1_isThing : zmside ze_X1_isThing = true := by decide +kernel
set_option maxRecDepth 100000 in
theorem zm_X1_isThing : ∀ w ∈ zmwords ze_X1_isThing, w ∈ zTG := zmw_of 338 rfl [336, 337, 54] (by decide +kernel) (by decide +kernel)
theorem zk_X5_canDraw : zOkC zprog zst zTG zTN ze_X5_canDraw := zOkC_of (by decide +kernel) [949, 1069, 956, 1159] (by decide +kernel) (by decide +kernel) [] (by decide +kernel) (by decide +kernel)
theorem zs_X5_canDraw : zmside ze_X5_canDraw = true := by decide +kernel
set_option maxRecDepth 100000 in
theorem zm_X5_canDraw : ∀ w ∈ zmwords ze_X5_canDraw, w ∈ zTG := zmw_of 1299 rfl [1298, 33, 58] (by decide +kernel) (by decide +kernel)
theorem zk_X5_isWinner : zOkC zprog zst zTG zTN ze_X5_isWinner := zOkC_of (by decide +kernel) [949, 1069, 950] (by decide +kernel) (by decide +kernel) [] (by decide +kernel) (by decide +kernel)
theorem zs_X5_isWinner : zmside ze_X5_isWinner = true := by decide +kernel
set_option maxRecDepth 100000 in
theorem zm_X5_isWinner : ∀ w ∈ zmwords ze_X5_isWinner, w ∈ zTG := zmw_of 1157 rfl [1156, 13, 58] (by decide +kernel) (by decide +kernel)
theorem zk_X4_lackOfRows : zOkC zprog zst zTG zTN ze_X4_lackOfRows := zOkC_of (by decide +kernel) [289, 289] (by decide +kernel) (by decide +kernel) [] (by decide +kernel) (by decide +kernel)
theorem zs_X4_lackOfRows : zmside ze_X4_lackOfRows = true := by decide +kernel
set_option maxRecDepth 100000 in
theorem zm_X4_lackOfRows : ∀ w ∈ zmwords ze_X4_lackOfRows, w ∈ zTG := zmw_of 315 rfl [314, 53] (by decide +kernel) (by decide +kernel)
theorem zk_X1_isIn : zOkC zprog zst zTG zTN ze_X1_isIn := zOkC_of (by decide +kernel) [109] (by decide +kernel) (by decide +kernel) [] (by decide +kernel) (by decide +kernel)
theorem zs_X1_isIn : zmside ze_X1_isIn = true := by decide +kernel
set_option maxRecDepth 100000 in
theorem zm_X1_isIn : ∀ w ∈ zmwords ze_X1_isIn, w ∈ zTG := zmw_of 440 rfl [438, 439, 54] (by decide +kernel) (by decide +kernel)
theorem zk_X4_asNumber : zOkC zprog zst zTG zTN ze_X4_asNumber := zOkC_of (by decide +kernel) [] (by decide +kernel) (by decide +kernel) [] (by decide +kernel) (by decide +kernel)
theorem zs_X4_asNumber : zmside ze_X4_asNumber = true := by decide +kernel
set_option maxRecDepth 100000 in
theorem zm_X4_asNumber : ∀ w ∈ zmwords ze_X4_asNumber, w ∈ zTG := zmw_of 308 rfl [307, 53] (by decide +kernel) (by decide +kernel)
theorem zk_X1_stands : zOkC zprog zst zTG zTN ze_X1_stands := zOkC_of (by decide +kernel) [356] (by decide +kernel) (by decide +kernel) [] (by decide +kernel) (by decide +kernel)
theorem zs_X1_stands : zmside ze_X1_stands = true := by decide +kernel
set_option maxRecDepth 100000 in
theorem zm_X1_stands : ∀ w ∈ zmwords ze_X1_stands, w ∈ zTG := zmw_of 355 rfl [353, 354, 54] (by decide +kernel) (by decide +kernel)
theorem zk_X4_lackOfBook : zOkC zprog zst zTG zTN ze_X4_lackOfBook := zOkC_of (by decide +kernel) [271, 274, 247, 289] (by decide +kernel) (by decide +kernel) [] (by decide +kernel) (by decide +kernel)
theorem zs_X4_lackOfBook : zmside ze_X4_lackOfBook = true := by decide +kernel
set_option maxRecDepth 100000 in
theorem zm_X4_lackOfBook : ∀ w ∈ zmwords ze_X4_lackOfBook, w ∈ zTG := zmw_of 818 rfl [817, 3, 53] (by decide +kernel) (by decide +kernel)
theorem zk_X5_noBook : zOkC zprog zst zTG zTN ze_X5_noBook := zOkC_of (by decide +kernel) [1068, 1069, 1073, 1069, 1074, 1082] (by decide +kernel) (by decide +kernel) [] (by decide +kernel) (by decide +kernel)
theorem zs_X5_noBook : zmside ze_X5_noBook = true := by decide +kernel
set_option maxRecDepth 100000 in
theorem zm_X5_noBook : ∀ w ∈ zmwords ze_X5_noBook, w ∈ zTG := zmw_of 1423 rfl [1422, 45, 58] (by decide +kernel) (by decide +kernel)
theorem zk_X0_init : zOkC zprog zst zTG zTN ze_X0_init := zOkC_of (by decide +kernel) [227, 228, 230, 241, 232] (by decide +kernel) (by decide +kernel) [] (by decide +kernel) (by decide +kernel)
theorem zs_X0_init : zmside ze_X0_init = true := by decide +kernel
set_option maxRecDepth 100000 in
theorem zm_X0_init : ∀ w ∈ zmwords ze_X0_init, w ∈ zTG := zmw_of 226 rfl [225, 57] (by decide +kernel) (by decide +kernel)
theorem zk_X1_isBuyer : zOkC zprog zst zTG zTN ze_X1_isBuyer := zOkC_of (by decide +kernel) [124] (by decide +kernel) (by decide +kernel) [] (by decide +kernel) (by decide +kernel)
theorem zs_X1_isBuyer : zmside ze_X1_isBuyer = true := by decide +kernel
set_option maxRecDepth 100000 in
theorem zm_X1_isBuyer : ∀ w ∈ zmwords ze_X1_isBuyer, w ∈ zTG := zmw_of 407 rfl [405, 406, 54] (by decide +kernel) (by decide +kernel)
theorem zk_X1_isWinner : zOkC zprog zst zTG zTN ze_X1_isWinner := zOkC_of (by decide +kernel) [92, 92] (by decide +kernel) (by decide +kernel) [] (by decide +kernel) (by decide +kernel)
theorem zs_X1_isWinner : zmside ze_X1_isWinner = true := by decide +kernel
set_option maxRecDepth 100000 in
theorem zm_X1_isWinner : ∀ w ∈ zmwords ze_X1_isWinner, w ∈ zTG := zmw_of 432 rfl [430, 431, 54] (by decide +kernel) (by decide +kernel)
theorem zk_X1_canBeDrawn : zOkC zprog zst zTG zTN ze_X1_canBeDrawn := zOkC_of (by decide +kernel) [641, 437, 441, 642] (by decide +kernel) (by decide +kernel) [] (by decide +kernel) (by decide +kernel)
theorem zs_X1_canBeDrawn : zmside ze_X1_canBeDrawn = true := by decide +kernel
set_option maxRecDepth 100000 in
theorem zm_X1_canBeDrawn : ∀ w ∈ zmwords ze_X1_canBeDrawn, w ∈ zTG := zmw_of 640 rfl [638, 639, 54] (by decide +kernel) (by decide +kernel)
theorem zk_X5_over : zOkC zprog zst zTG zTN ze_X5_over := zOkC_of (by decide +kernel) [] (by decide +kernel) (by decide +kernel) [] (by decide +kernel) (by decide +kernel)
theorem zs_X5_over : zmside ze_X5_over = true := by decide +kernel
set_option maxRecDepth 100000 in
theorem zm_X5_over : ∀ w ∈ zmwords ze_X5_over, w ∈ zTG := zmw_of 1214 rfl [1213, 58] (by decide +kernel) (by decide +kernel)
theorem zk_X4_show : zOkC zprog zst zTG zTN ze_X4_show := zOkC_of (by decide +kernel) [271, 242, 335, 277, 247, 229] (by decide +kernel) (by decide +kernel) [] (by decide +kernel) (by decide +kernel)
theorem zs_X4_show : zmside ze_X4_show = true := by decide +kernel
set_option maxRecDepth 100000 in
theorem zm_X4_show : ∀ w ∈ zmwords ze_X4_show, w ∈ zTG := zmw_of 334 rfl [332, 333, 53] (by decide +kernel) (by decide +kernel)
theorem zk_X5_show : zOkC zprog zst zTG zTN ze_X5_show := zOkC_of (by decide +kernel) [1068, 1069, 1105, 1074, 940, 945] (by decide +kernel) (by decide +kernel) [] (by decide +kernel) (by decide +kernel)
theorem zs_X5_show : zmside ze_X5_show = true := by decide +kernel
set_option maxRecDepth 100000 in
theorem zm_X5_show : ∀ w ∈ zmwords ze_X5_show, w ∈ zTG := zmw_of 1104 rfl [1102, 1103, 58] (by decide +kernel) (by decide +kernel)
theorem zk_X4_says : zOkC zprog zst zTG zTN ze_X4_says := zOkC_of (by decide +kernel) [271, 274, 277, 247, 229, 277] (by decide +kernel) (by decide +kernel) [] (by decide +kernel) (by decide +kernel)
theorem zs_X4_says : zmside ze_X4_says = true := by decide +kernel
set_option maxRecDepth 100000 in
theorem zm_X4_says : ∀ w ∈ zmwords ze_X4_says, w ∈ zTG := zmw_of 342 rfl [340, 341, 53] (by decide +kernel) (by decide +kernel)
theorem zk_X5_says : zOkC zprog zst zTG zTN ze_X5_says := zOkC_of (by decide +kernel) [1068, 1069, 1113, 1069, 1074, 940, 940, 940, 1074] (by decide +kernel) (by decide +kernel) [] (by decide +kernel) (by decide +kernel)
theorem zs_X5_says : zmside ze_X5_says = true := by decide +kernel
set_option maxRecDepth 100000 in
theorem zm_X5_says : ∀ w ∈ zmwords ze_X5_says, w ∈ zTG := zmw_of 1112 rfl [1110, 1111, 58] (by decide +kernel) (by decide +kernel)
theorem zk_X4_judge : zOkC zprog zst zTG zTN ze_X4_judge := zOkC_of (by decide +kernel) [815, 277] (by decide +kernel) (by decide +kernel) [] (by decide +kernel) (by decide +kernel)
theorem zs_X4_judge : zmside ze_X4_judge = true := by decide +kernel
set_option maxRecDepth 100000 in
theorem zm_X4_judge : ∀ w ∈ zmwords ze_X4_judge, w ∈ zTG := zmw_of 814 rfl [812, 813, 53] (by decide +kernel) (by decide +kernel)
theorem zk_X5_judge : zOkC zprog zst zTG zTN ze_X5_judge := zOkC_of (by decide +kernel) [1420] (by decide +kernel) (by decide +kernel) [] (by decide +kernel) (by decide +kernel)
theorem zs_X5_judge : zmside ze_X5_judge = true := by decide +kernel
set_option maxRecDepth 100000 in
theorem zm_X5_judge : ∀ w ∈ zmwords ze_X5_judge, w ∈ zTG := zmw_of 1419 rfl [1417, 1418, 58] (by decide +kernel) (by decide +kernel)
theorem zk_X4_won : zOkC zprog zst zTG zTN ze_X4_won := zOkC_of (by decide +kernel) [815, 277] (by decide +kernel) (by decide +kernel) [] (by decide +kernel) (by decide +kernel)
theorem zs_X4_won : zmside ze_X4_won = true := by decide +kernel
set_option maxRecDepth 100000 in
theorem zm_X4_won : ∀ w ∈ zmwords ze_X4_won, w ∈ zTG := zmw_of 837 rfl [835, 836, 53] (by decide +kernel) (by decide +kernel)
theorem zk_X5_won : zOkC zprog zst zTG zTN ze_X5_won := zOkC_of (by decide +kernel) [1420] (by decide +kernel) (by decide +kernel) [] (by decide +kernel) (by decide +kernel)
theorem zs_X5_won : zmside ze_X5_won = true := by decide +kernel
set_option maxRecDepth 100000 in
theorem zm_X5_won : ∀ w ∈ zmwords ze_X5_won, w ∈ zTG := zmw_of 1435 rfl [1433, 1434, 58] (by decide +kernel) (by decide +kernel)
theorem zk_X5_isBuyer : zOkC zprog zst zTG zTN ze_X5_isBuyer := zOkC_of (by decide +kernel) [963, 1069] (by decide +kernel) (by decide +kernel) [] (by decide +kernel) (by decide +kernel)
theorem zs_X5_isBuyer : zmside ze_X5_isBuyer = true := by decide +kernel
set_option maxRecDepth 100000 in
theorem zm_X5_isBuyer : ∀ w ∈ zmwords ze_X5_isBuyer, w ∈ zTG := zmw_of 1183 rfl [1182, 17, 58] (by decide +kernel) (by decide +kernel)
theorem zk_X4_guess : zOkC zprog zst zTG zTN ze_X4_guess := zOkC_of (by decide +kernel) [274, 274, 277, 242, 91, 242, 786] (by decide +kernel) (by decide +kernel) [] (by decide +kernel) (by decide +kernel)
theorem zs_X4_guess : zmside ze_X4_guess = true := by decide +kernel
set_option maxRecDepth 100000 in
theorem zm_X4_guess : ∀ w ∈ zmwords ze_X4_guess, w ∈ zTG := zmw_of 793 rfl [791, 792, 53] (by decide +kernel) (by decide +kernel)
theorem zk_X5_guess : zOkC zprog zst zTG zTN ze_X5_guess := zOkC_of (by decide +kernel) [1072, 1069, 1069, 1074, 949, 1391] (by decide +kernel) (by decide +kernel) [] (by decide +kernel) (by decide +kernel)
theorem zs_X5_guess : zmside ze_X5_guess = true := by decide +kernel
set_option maxRecDepth 100000 in
theorem zm_X5_guess : ∀ w ∈ zmwords ze_X5_guess, w ∈ zTG := zmw_of 1398 rfl [1396, 1397, 58] (by decide +kernel) (by decide +kernel)
theorem zk_X1_countIn : zOkC zprog zst zTG zTN ze_X1_countIn := zOkC_of (by decide +kernel) [109, 390] (by decide +kernel) (by decide +kernel) [] (by decide +kernel) (by decide +kernel)
theorem zs_X1_countIn : zmside ze_X1_countIn = true := by decide +kernel
set_option maxRecDepth 100000 in
theorem zm_X1_countIn : ∀ w ∈ zmwords ze_X1_countIn, w ∈ zTG := zmw_of 389 rfl [387, 388, 54] (by decide +kernel) (by decide +kernel)
theorem zk_J13_bitCount_95d88 : zOkC zprog zst zTG zTN ze_J13_bitCount_95d88 := zOkC_of (by decide +kernel) [393, 394, 394, 395] (by decide +kernel) (by decide +kernel) [] (by decide +kernel) (by decide +kernel)
theorem zs_J13_bitCount_95d88 : zmside ze_J13_bitCount_95d88 = true := by decide +kernel
set_option maxRecDepth 100000 in
theorem zm_J13_bitCount_95d88 : ∀ w ∈ zmwords ze_J13_bitCount_95d88, w ∈ zTG := zmw_of 392 rfl [391, 61] (by decide +kernel) (by decide +kernel)
theorem zk_X5_noRow : zOkC zprog zst zTG zTN ze_X5_noRow := zOkC_of (by decide +kernel) [1068, 1069, 1074, 940, 940, 1074] (by decide +kernel) (by decide +kernel) [] (by decide +kernel) (by decide +kernel)
theorem zs_X5_noRow : zmside ze_X5_noRow = true := by decide +kernel
set_option maxRecDepth 100000 in
theorem zm_X5_noRow : ∀ w ∈ zmwords ze_X5_noRow, w ∈ zTG := zmw_of 1085 rfl [1084, 7, 58] (by decide +kernel) (by decide +kernel)
theorem zk_X5_inside : zOkC zprog zst zTG zTN ze_X5_inside := zOkC_of (by decide +kernel) [949, 956] (by decide +kernel) (by decide +kernel) [] (by decide +kernel) (by decide +kernel)
theorem zs_X5_inside : zmside ze_X5_inside = true := by decide +kernel
set_option maxRecDepth 100000 in
theorem zm_X5_inside : ∀ w ∈ zmwords ze_X5_inside, w ∈ zTG := zmw_of 1128 rfl [1127, 11, 58] (by decide +kernel) (by decide +kernel)
theorem zk_X1_putAllIn : zOkC zprog zst zTG zTN ze_X1_putAllIn := zOkC_of (by decide +kernel) [89, 109] (by decide +kernel) (by decide +kernel) [] (by decide +kernel) (by decide +kernel)
theorem zs_X1_putAllIn : zmside ze_X1_putAllIn = true := by decide +kernel
set_option maxRecDepth 100000 in
theorem zm_X1_putAllIn : ∀ w ∈ zmwords ze_X1_putAllIn, w ∈ zTG := zmw_of 88 rfl [86, 87, 54] (by decide +kernel) (by decide +kernel)
theorem zk_X1_putSlips : zOkC zprog zst zTG zTN ze_X1_putSlips := zOkC_of (by decide +kernel) [89, 85] (by decide +kernel) (by decide +kernel) [] (by decide +kernel) (by decide +kernel)
theorem zs_X1_putSlips : zmside ze_X1_putSlips = true := by decide +kernel
set_option maxRecDepth 100000 in
theorem zm_X1_putSlips : ∀ w ∈ zmwords ze_X1_putSlips, w ∈ zTG := zmw_of 84 rfl [82, 83, 54] (by decide +kernel) (by decide +kernel)
theorem zk_X5_isThing : zOkC zprog zst zTG zTN ze_X5_isThing := zOkC_of (by decide +kernel) [957, 1069] (by decide +kernel) (by decide +kernel) [] (by decide +kernel) (by decide +kernel)
theorem zs_X5_isThing : zmside ze_X5_isThing = true := by decide +kernel
set_option maxRecDepth 100000 in
theorem zm_X5_isThing : ∀ w ∈ zmwords ze_X5_isThing, w ∈ zTG := zmw_of 1108 rfl [1107, 8, 58] (by decide +kernel) (by decide +kernel)
theorem zk_X4_wins : zOkC zprog zst zTG zTN ze_X4_wins := zOkC_of (by decide +kernel) [242, 425, 277, 242, 637, 242, 666] (by decide +kernel) (by decide +kernel) [] (by decide +kernel) (by decide +kernel)
theorem zs_X4_wins : zmside ze_X4_wins = true := by decide +kernel
set_option maxRecDepth 100000 in
theorem zm_X4_wins : ∀ w ∈ zmwords ze_X4_wins, w ∈ zTG := zmw_of 665 rfl [663, 664, 53] (by decide +kernel) (by decide +kernel)
theorem zk_X5_wins : zOkC zprog zst zTG zTN ze_X5_wins := zOkC_of (by decide +kernel) [949, 1069, 1074, 1296, 1312] (by decide +kernel) (by decide +kernel) [] (by decide +kernel) (by decide +kernel)
theorem zs_X5_wins : zmside ze_X5_wins = true := by decide +kernel
set_option maxRecDepth 100000 in
theorem zm_X5_wins : ∀ w ∈ zmwords ze_X5_wins, w ∈ zTG := zmw_of 1311 rfl [1309, 1310, 58] (by decide +kernel) (by decide +kernel)
theorem zk_X1_init : zOkC zprog zst zTG zTN ze_X1_init := zOkC_of (by decide +kernel) [80, 89, 92, 95, 99, 102, 105, 107, 109, 110, 165, 114, 165, 116, 165, 118, 165, 120, 165, 122, 124, 165, 127, 165, 129, 81] (by decide +kernel) (by decide +kernel) [] (by decide +kernel) (by decide +kernel)
theorem zs_X1_init : zmside ze_X1_init = true := by decide +kernel
set_option maxRecDepth 100000 in
theorem zm_X1_init : ∀ w ∈ zmwords ze_X1_init, w ∈ zTG := zmw_of 79 rfl [78, 54] (by decide +kernel) (by decide +kernel)
theorem zk_X1_wonBySlip : zOkC zprog zst zTG zTN ze_X1_wonBySlip := zOkC_of (by decide +kernel) [441, 642] (by decide +kernel) (by decide +kernel) [] (by decide +kernel) (by decide +kernel)
theorem zs_X1_wonBySlip : zmside ze_X1_wonBySlip = true := by decide +kernel
set_option maxRecDepth 100000 in
theorem zm_X1_wonBySlip : ∀ w ∈ zmwords ze_X1_wonBySlip, w ∈ zTG := zmw_of 669 rfl [667, 668, 54] (by decide +kernel) (by decide +kernel)
theorem zk_X5_winsBy : zOkC zprog zst zTG zTN ze_X5_winsBy := zOkC_of (by decide +kernel) [1159] (by decide +kernel) (by decide +kernel) [] (by decide +kernel) (by decide +kernel)
theorem zs_X5_winsBy : zmside ze_X5_winsBy = true := by decide +kernel
set_option maxRecDepth 100000 in
theorem zm_X5_winsBy : ∀ w ∈ zmwords ze_X5_winsBy, w ∈ zTG := zmw_of 1315 rfl [1314, 35, 58] (by decide +kernel) (by decide +kernel)
theorem zk_X1_takingsAt : zOkC zprog zst zTG zTN ze_X1_takingsAt := zOkC_of (by decide +kernel) [386, 124] (by decide +kernel) (by decide +kernel) [] (by decide +kernel) (by decide +kernel)
theorem zs_X1_takingsAt : zmside ze_X1_takingsAt = true := by decide +kernel
set_option maxRecDepth 100000 in
theorem zm_X1_takingsAt : ∀ w ∈ zmwords ze_X1_takingsAt, w ∈ zTG := zmw_of 775 rfl [773, 774, 54] (by decide +kernel) (by decide +kernel)
theorem zk_X5_takingsAt : zOkC zprog zst zTG zTN ze_X5_takingsAt := zOkC_of (by decide +kernel) [1125, 963] (by decide +kernel) (by decide +kernel) [] (by decide +kernel) (by decide +kernel)
theorem zs_X5_takingsAt : zmside ze_X5_takingsAt = true := by decide +kernel
set_option maxRecDepth 100000 in
theorem zm_X5_takingsAt : ∀ w ∈ zmwords ze_X5_takingsAt, w ∈ zTG := zmw_of 1382 rfl [1381, 43, 58] (by decide +kernel) (by decide +kernel)
theorem zk_X4_status : zOkC zprog zst zTG zTN ze_X4_status := zOkC_of (by decide +kernel) [242, 91, 242, 94, 242, 741, 242, 104, 242, 113, 242, 631, 242, 126, 242, 106, 246, 203, 242, 108, 926, 242, 652, 274, 248] (by decide +kernel) (by decide +kernel) [] (by decide +kernel) (by decide +kernel)
theorem zs_X4_status : zmside ze_X4_status = true := by decide +kernel
set_option maxRecDepth 100000 in
theorem zm_X4_status : ∀ w ∈ zmwords ze_X4_status, w ∈ zTG := zmw_of 925 rfl [923, 924, 53] (by decide +kernel) (by decide +kernel)
end
section
theorem zk_X5_status : zOkC zprog zst zTG zTN ze_X5_status := zOkC_of (by decide +kernel) [949, 950, 1125, 953, 957, 1117, 963, 954, 947, 955, 940, 1292, 1514, 1515, 1069, 948] (by decide +kernel) (by decide +kernel) [] (by decide +kernel) (by decide +kernel)
theorem zs_X5_status : zmside ze_X5_status = true := by decide +kernel
set_option maxRecDepth 100000 in
theorem zm_X5_status : ∀ w ∈ zmwords ze_X5_status, w ∈ zTG := zmw_of 1513 rfl [1511, 1512, 58] (by decide +kernel) (by decide +kernel)
theorem zk_X4_booked : zOkC zprog zst zTG zTN ze_X4_booked := zOkC_of (by decide +kernel) [242, 461, 277] (by decide +kernel) (by decide +kernel) [] (by decide +kernel) (by decide +kernel)
theorem zs_X4_booked : zmside ze_X4_booked = true := by decide +kernel
set_option maxRecDepth 100000 in
theorem zm_X4_booked : ∀ w ∈ zmwords ze_X4_booked, w ∈ zTG := zmw_of 841 rfl [839, 840, 53] (by decide +kernel) (by decide +kernel)
theorem zk_X5_booked : zOkC zprog zst zTG zTN ze_X5_booked := zOkC_of (by decide +kernel) [1068, 1069, 1073, 1069, 1180, 1074] (by decide +kernel) (by decide +kernel) [] (by decide +kernel) (by decide +kernel)
theorem zs_X5_booked : zmside ze_X5_booked = true := by decide +kernel
set_option maxRecDepth 100000 in
theorem zm_X5_booked : ∀ w ∈ zmwords ze_X5_booked, w ∈ zTG := zmw_of 1439 rfl [1437, 1438, 58] (by decide +kernel) (by decide +kernel)
theorem zk_X4_price : zOkC zprog zst zTG zTN ze_X4_price := zOkC_of (by decide +kernel) [274, 242, 98, 242, 98, 274, 242, 101, 242, 101, 277] (by decide +kernel) (by decide +kernel) [] (by decide +kernel) (by decide +kernel)
theorem zs_X4_price : zmside ze_X4_price = true := by decide +kernel
set_option maxRecDepth 100000 in
theorem zm_X4_price : ∀ w ∈ zmwords ze_X4_price, w ∈ zTG := zmw_of 420 rfl [418, 419, 53] (by decide +kernel) (by decide +kernel)
theorem zk_X5_price : zOkC zprog zst zTG zTN ze_X5_price := zOkC_of (by decide +kernel) [1069, 1148, 1149, 1069, 1074, 951, 952, 951, 951, 952, 952] (by decide +kernel) (by decide +kernel) [] (by decide +kernel) (by decide +kernel)
theorem zs_X5_price : zmside ze_X5_price = true := by decide +kernel
set_option maxRecDepth 100000 in
theorem zm_X5_price : ∀ w ∈ zmwords ze_X5_price, w ∈ zTG := zmw_of 1147 rfl [1145, 1146, 58] (by decide +kernel) (by decide +kernel)
theorem zk_X5_suspected : zOkC zprog zst zTG zTN ze_X5_suspected := zOkC_of (by decide +kernel) [1406] (by decide +kernel) (by decide +kernel) [] (by decide +kernel) (by decide +kernel)
theorem zs_X5_suspected : zmside ze_X5_suspected = true := by decide +kernel
set_option maxRecDepth 100000 in
theorem zm_X5_suspected : ∀ w ∈ zmwords ze_X5_suspected, w ∈ zTG := zmw_of 1405 rfl [1404, 58] (by decide +kernel) (by decide +kernel)
theorem zk_X4_sureness : zOkC zprog zst zTG zTN ze_X4_sureness := zOkC_of (by decide +kernel) [801] (by decide +kernel) (by decide +kernel) [] (by decide +kernel) (by decide +kernel)
theorem zs_X4_sureness : zmside ze_X4_sureness = true := by decide +kernel
set_option maxRecDepth 100000 in
theorem zm_X4_sureness : ∀ w ∈ zmwords ze_X4_sureness, w ∈ zTG := zmw_of 800 rfl [799, 53] (by decide +kernel) (by decide +kernel)
theorem zk_X4_set : zOkC zprog zst zTG zTN ze_X4_set := zOkC_of (by decide +kernel) [271, 277, 247, 289, 277] (by decide +kernel) (by decide +kernel) [] (by decide +kernel) (by decide +kernel)
theorem zs_X4_set : zmside ze_X4_set = true := by decide +kernel
set_option maxRecDepth 100000 in
theorem zm_X4_set : ∀ w ∈ zmwords ze_X4_set, w ∈ zTG := zmw_of 288 rfl [286, 287, 53] (by decide +kernel) (by decide +kernel)
theorem zk_X5_set : zOkC zprog zst zTG zTN ze_X5_set := zOkC_of (by decide +kernel) [1082] (by decide +kernel) (by decide +kernel) [] (by decide +kernel) (by decide +kernel)
theorem zs_X5_set : zmside ze_X5_set = true := by decide +kernel
set_option maxRecDepth 100000 in
theorem zm_X5_set : ∀ w ∈ zmwords ze_X5_set, w ∈ zTG := zmw_of 1081 rfl [1079, 1080, 58] (by decide +kernel) (by decide +kernel)
theorem zk_X4_element : zOkC zprog zst zTG zTN ze_X4_element := zOkC_of (by decide +kernel) [271, 247, 298] (by decide +kernel) (by decide +kernel) [] (by decide +kernel) (by decide +kernel)
theorem zs_X4_element : zmside ze_X4_element = true := by decide +kernel
set_option maxRecDepth 100000 in
theorem zm_X4_element : ∀ w ∈ zmwords ze_X4_element, w ∈ zTG := zmw_of 326 rfl [324, 325, 53] (by decide +kernel) (by decide +kernel)
theorem zk_X5_element : zOkC zprog zst zTG zTN ze_X5_element := zOkC_of (by decide +kernel) [1068, 1069, 940] (by decide +kernel) (by decide +kernel) [] (by decide +kernel) (by decide +kernel)
theorem zs_X5_element : zmside ze_X5_element = true := by decide +kernel
set_option maxRecDepth 100000 in
theorem zm_X5_element : ∀ w ∈ zmwords ze_X5_element, w ∈ zTG := zmw_of 1096 rfl [1094, 1095, 58] (by decide +kernel) (by decide +kernel)
theorem zk_X4_holds : zOkC zprog zst zTG zTN ze_X4_holds := zOkC_of (by decide +kernel) [271, 247, 229] (by decide +kernel) (by decide +kernel) [] (by decide +kernel) (by decide +kernel)
theorem zs_X4_holds : zmside ze_X4_holds = true := by decide +kernel
set_option maxRecDepth 100000 in
theorem zm_X4_holds : ∀ w ∈ zmwords ze_X4_holds, w ∈ zTG := zmw_of 330 rfl [328, 329, 53] (by decide +kernel) (by decide +kernel)
theorem zk_X5_holds : zOkC zprog zst zTG zTN ze_X5_holds := zOkC_of (by decide +kernel) [1068, 1069, 940] (by decide +kernel) (by decide +kernel) [] (by decide +kernel) (by decide +kernel)
theorem zs_X5_holds : zmside ze_X5_holds = true := by decide +kernel
set_option maxRecDepth 100000 in
theorem zm_X5_holds : ∀ w ∈ zmwords ze_X5_holds, w ∈ zTG := zmw_of 1100 rfl [1098, 1099, 58] (by decide +kernel) (by decide +kernel)
theorem zk_X5_init : zOkC zprog zst zTG zTN ze_X5_init := zOkC_of (by decide +kernel) [935, 165, 940, 165, 941, 165, 942, 936, 241, 943, 241, 944, 165, 945, 165, 946, 165, 948, 949, 950, 951, 952, 955, 165, 956, 165, 958, 165, 959, 165, 960, 165, 961, 165, 962, 165, 964, 938, 165, 965, 165, 973] (by decide +kernel) (by decide +kernel) [] (by decide +kernel) (by decide +kernel)
theorem zs_X5_init : zmside ze_X5_init = true := by decide +kernel
set_option maxRecDepth 100000 in
theorem zm_X5_init : ∀ w ∈ zmwords ze_X5_init, w ∈ zTG := zmw_of 934 rfl [933, 58] (by decide +kernel) (by decide +kernel)
theorem zk_X0_putRow : zOkC zprog zst zTG zTN ze_X0_putRow := zOkC_of (by decide +kernel) [228, 230, 232] (by decide +kernel) (by decide +kernel) [] (by decide +kernel) (by decide +kernel)
theorem zs_X0_putRow : zmside ze_X0_putRow = true := by decide +kernel
set_option maxRecDepth 100000 in
theorem zm_X0_putRow : ∀ w ∈ zmwords ze_X0_putRow, w ∈ zTG := zmw_of 284 rfl [282, 283, 57] (by decide +kernel) (by decide +kernel)
theorem zk_X0_hasElement : zOkC zprog zst zTG zTN ze_X0_hasElement := zOkC_of (by decide +kernel) [293] (by decide +kernel) (by decide +kernel) [] (by decide +kernel) (by decide +kernel)
theorem zs_X0_hasElement : zmside ze_X0_hasElement = true := by decide +kernel
set_option maxRecDepth 100000 in
theorem zm_X0_hasElement : ∀ w ∈ zmwords ze_X0_hasElement, w ∈ zTG := zmw_of 301 rfl [299, 300, 57] (by decide +kernel) (by decide +kernel)
theorem zk_X4_init : zOkC zprog zst zTG zTN ze_X4_init := zOkC_of (by decide +kernel) [72, 75, 76, 54, 77, 242, 75, 76, 54, 77, 243, 75, 76, 54, 77, 244, 166, 167, 55, 245, 194, 195, 56, 246, 221, 247, 165, 248, 249, 247, 221, 223, 57] (by decide +kernel) (by decide +kernel) [168, 196, 224] (by decide +kernel) (by decide +kernel)
theorem zs_X4_init : zmside ze_X4_init = true := by decide +kernel
set_option maxRecDepth 100000 in
theorem zm_X4_init : ∀ w ∈ zmwords ze_X4_init, w ∈ zTG := zmw_of 71 rfl [70, 53] (by decide +kernel) (by decide +kernel)
theorem zk_X3_init : zOkC zprog zst zTG zTN ze_X3_init := zOkC_of (by decide +kernel) [171, 165, 172, 165, 173, 165, 174, 175, 176, 177, 178] (by decide +kernel) (by decide +kernel) [] (by decide +kernel) (by decide +kernel)
theorem zs_X3_init : zmside ze_X3_init = true := by decide +kernel
set_option maxRecDepth 100000 in
theorem zm_X3_init : ∀ w ∈ zmwords ze_X3_init, w ∈ zTG := zmw_of 170 rfl [169, 55] (by decide +kernel) (by decide +kernel)
theorem zk_X2_init : zOkC zprog zst zTG zTN ze_X2_init := zOkC_of (by decide +kernel) [199, 165, 200, 202, 204, 205, 206, 207] (by decide +kernel) (by decide +kernel) [] (by decide +kernel) (by decide +kernel)
theorem zs_X2_init : zmside ze_X2_init = true := by decide +kernel
set_option maxRecDepth 100000 in
theorem zm_X2_init : ∀ w ∈ zmwords ze_X2_init, w ∈ zTG := zmw_of 198 rfl [197, 56] (by decide +kernel) (by decide +kernel)
theorem zk_X2_isWord : zOkC zprog zst zTG zTN ze_X2_isWord := zOkC_of (by decide +kernel) [515, 204] (by decide +kernel) (by decide +kernel) [] (by decide +kernel) (by decide +kernel)
theorem zs_X2_isWord : zmside ze_X2_isWord = true := by decide +kernel
set_option maxRecDepth 100000 in
theorem zm_X2_isWord : ∀ w ∈ zmwords ze_X2_isWord, w ∈ zTG := zmw_of 514 rfl [512, 513, 56] (by decide +kernel) (by decide +kernel)
theorem zk_X5_isWord : zOkC zprog zst zTG zTN ze_X5_isWord := zOkC_of (by decide +kernel) [969] (by decide +kernel) (by decide +kernel) [] (by decide +kernel) (by decide +kernel)
theorem zs_X5_isWord : zmside ze_X5_isWord = true := by decide +kernel
set_option maxRecDepth 100000 in
theorem zm_X5_isWord : ∀ w ∈ zmwords ze_X5_isWord, w ∈ zTG := zmw_of 1238 rfl [1237, 23, 58] (by decide +kernel) (by decide +kernel)
theorem zk_X4_sure : zOkC zprog zst zTG zTN ze_X4_sure := zOkC_of (by decide +kernel) [274, 801, 274, 277, 798] (by decide +kernel) (by decide +kernel) [] (by decide +kernel) (by decide +kernel)
theorem zs_X4_sure : zmside ze_X4_sure = true := by decide +kernel
set_option maxRecDepth 100000 in
theorem zm_X4_sure : ∀ w ∈ zmwords ze_X4_sure, w ∈ zTG := zmw_of 805 rfl [803, 804, 53] (by decide +kernel) (by decide +kernel)
theorem zk_X5_sure : zOkC zprog zst zTG zTN ze_X5_sure := zOkC_of (by decide +kernel) [1133, 1069, 1411, 1069, 1074, 1403] (by decide +kernel) (by decide +kernel) [] (by decide +kernel) (by decide +kernel)
theorem zs_X5_sure : zmside ze_X5_sure = true := by decide +kernel
set_option maxRecDepth 100000 in
theorem zm_X5_sure : ∀ w ∈ zmwords ze_X5_sure, w ∈ zTG := zmw_of 1410 rfl [1408, 1409, 58] (by decide +kernel) (by decide +kernel)
theorem zk_X4_suspect : zOkC zprog zst zTG zTN ze_X4_suspect := zOkC_of (by decide +kernel) [274, 274, 277, 798] (by decide +kernel) (by decide +kernel) [] (by decide +kernel) (by decide +kernel)
theorem zs_X4_suspect : zmside ze_X4_suspect = true := by decide +kernel
set_option maxRecDepth 100000 in
theorem zm_X4_suspect : ∀ w ∈ zmwords ze_X4_suspect, w ∈ zTG := zmw_of 797 rfl [795, 796, 53] (by decide +kernel) (by decide +kernel)
theorem zk_X5_suspect : zOkC zprog zst zTG zTN ze_X5_suspect := zOkC_of (by decide +kernel) [1133, 1069, 1069, 1403, 1074] (by decide +kernel) (by decide +kernel) [] (by decide +kernel) (by decide +kernel)
theorem zs_X5_suspect : zmside ze_X5_suspect = true := by decide +kernel
set_option maxRecDepth 100000 in
theorem zm_X5_suspect : ∀ w ∈ zmwords ze_X5_suspect, w ∈ zTG := zmw_of 1402 rfl [1400, 1401, 58] (by decide +kernel) (by decide +kernel)
theorem zk_X1_isFreeForThing : zOkC zprog zst zTG zTN ze_X1_isFreeForThing := zOkC_of (by decide +kernel) [437, 441] (by decide +kernel) (by decide +kernel) [] (by decide +kernel) (by decide +kernel)
theorem zs_X1_isFreeForThing : zmside ze_X1_isFreeForThing = true := by decide +kernel
set_option maxRecDepth 100000 in
theorem zm_X1_isFreeForThing : ∀ w ∈ zmwords ze_X1_isFreeForThing, w ∈ zTG := zmw_of 436 rfl [434, 435, 54] (by decide +kernel) (by decide +kernel)
theorem zk_X1_addThing : zOkC zprog zst zTG zTN ze_X1_addThing := zOkC_of (by decide +kernel) [110, 114, 116, 118, 120, 122, 110, 110] (by decide +kernel) (by decide +kernel) [] (by decide +kernel) (by decide +kernel)
theorem zs_X1_addThing : zmside ze_X1_addThing = true := by decide +kernel
set_option maxRecDepth 100000 in
theorem zm_X1_addThing : ∀ w ∈ zmwords ze_X1_addThing, w ∈ zTG := zmw_of 448 rfl [446, 447, 54] (by decide +kernel) (by decide +kernel)
theorem zk_X5_addThing : zOkC zprog zst zTG zTN ze_X5_addThing := zOkC_of (by decide +kernel) [958, 957, 959, 957, 960, 957, 961, 957, 962, 957, 965, 957, 957, 957] (by decide +kernel) (by decide +kernel) [] (by decide +kernel) (by decide +kernel)
theorem zs_X5_addThing : zmside ze_X5_addThing = true := by decide +kernel
set_option maxRecDepth 100000 in
theorem zm_X5_addThing : ∀ w ∈ zmwords ze_X5_addThing, w ∈ zTG := zmw_of 1166 rfl [1165, 15, 58] (by decide +kernel) (by decide +kernel)
theorem zk_X1_standing : zOkC zprog zst zTG zTN ze_X1_standing := zOkC_of (by decide +kernel) [366] (by decide +kernel) (by decide +kernel) [] (by decide +kernel) (by decide +kernel)
theorem zs_X1_standing : zmside ze_X1_standing = true := by decide +kernel
set_option maxRecDepth 100000 in
theorem zm_X1_standing : ∀ w ∈ zmwords ze_X1_standing, w ∈ zTG := zmw_of 365 rfl [363, 364, 54] (by decide +kernel) (by decide +kernel)
theorem zk_X1_thingsOwnedBy : zOkC zprog zst zTG zTN ze_X1_thingsOwnedBy := zOkC_of (by decide +kernel) [110] (by decide +kernel) (by decide +kernel) [] (by decide +kernel) (by decide +kernel)
theorem zs_X1_thingsOwnedBy : zmside ze_X1_thingsOwnedBy = true := by decide +kernel
set_option maxRecDepth 100000 in
theorem zm_X1_thingsOwnedBy : ∀ w ∈ zmwords ze_X1_thingsOwnedBy, w ∈ zTG := zmw_of 369 rfl [367, 368, 54] (by decide +kernel) (by decide +kernel)
theorem zk_X4_slips : zOkC zprog zst zTG zTN ze_X4_slips := zOkC_of (by decide +kernel) [274, 277, 242, 113, 242, 91, 242, 412] (by decide +kernel) (by decide +kernel) [] (by decide +kernel) (by decide +kernel)
theorem zs_X4_slips : zmside ze_X4_slips = true := by decide +kernel
set_option maxRecDepth 100000 in
theorem zm_X4_slips : ∀ w ∈ zmwords ze_X4_slips, w ∈ zTG := zmw_of 411 rfl [409, 410, 53] (by decide +kernel) (by decide +kernel)
theorem zk_X5_slips : zOkC zprog zst zTG zTN ze_X5_slips := zOkC_of (by decide +kernel) [1133, 1069, 1074, 957, 949, 1134] (by decide +kernel) (by decide +kernel) [] (by decide +kernel) (by decide +kernel)
theorem zs_X5_slips : zmside ze_X5_slips = true := by decide +kernel
set_option maxRecDepth 100000 in
theorem zm_X5_slips : ∀ w ∈ zmwords ze_X5_slips, w ∈ zTG := zmw_of 1132 rfl [1130, 1131, 58] (by decide +kernel) (by decide +kernel)
theorem zk_X4_rule : zOkC zprog zst zTG zTN ze_X4_rule := zOkC_of (by decide +kernel) [274, 277, 242, 113, 242, 94, 242, 94] (by decide +kernel) (by decide +kernel) [] (by decide +kernel) (by decide +kernel)
theorem zs_X4_rule : zmside ze_X4_rule = true := by decide +kernel
set_option maxRecDepth 100000 in
theorem zm_X4_rule : ∀ w ∈ zmwords ze_X4_rule, w ∈ zTG := zmw_of 416 rfl [414, 415, 53] (by decide +kernel) (by decide +kernel)
theorem zk_X5_rule : zOkC zprog zst zTG zTN ze_X5_rule := zOkC_of (by decide +kernel) [1142, 1143, 1069, 1074, 957, 950, 950] (by decide +kernel) (by decide +kernel) [] (by decide +kernel) (by decide +kernel)
theorem zs_X5_rule : zmside ze_X5_rule = true := by decide +kernel
set_option maxRecDepth 100000 in
theorem zm_X5_rule : ∀ w ∈ zmwords ze_X5_rule, w ∈ zTG := zmw_of 1141 rfl [1139, 1140, 58] (by decide +kernel) (by decide +kernel)
theorem zk_X4_buyer : zOkC zprog zst zTG zTN ze_X4_buyer := zOkC_of (by decide +kernel) [274, 277, 242, 126, 242, 453] (by decide +kernel) (by decide +kernel) [] (by decide +kernel) (by decide +kernel)
theorem zs_X4_buyer : zmside ze_X4_buyer = true := by decide +kernel
set_option maxRecDepth 100000 in
theorem zm_X4_buyer : ∀ w ∈ zmwords ze_X4_buyer, w ∈ zTG := zmw_of 452 rfl [450, 451, 53] (by decide +kernel) (by decide +kernel)
theorem zk_X5_buyer : zOkC zprog zst zTG zTN ze_X5_buyer := zOkC_of (by decide +kernel) [1171, 1069, 1074, 963, 1172, 963] (by decide +kernel) (by decide +kernel) [] (by decide +kernel) (by decide +kernel)
theorem zs_X5_buyer : zmside ze_X5_buyer = true := by decide +kernel
set_option maxRecDepth 100000 in
theorem zm_X5_buyer : ∀ w ∈ zmwords ze_X5_buyer, w ∈ zTG := zmw_of 1170 rfl [1168, 1169, 58] (by decide +kernel) (by decide +kernel)
theorem zk_X4_feed : zOkC zprog zst zTG zTN ze_X4_feed := zOkC_of (by decide +kernel) [274, 277, 246, 203, 246, 201, 246, 203, 246, 203, 203, 246, 203] (by decide +kernel) (by decide +kernel) [] (by decide +kernel) (by decide +kernel)
theorem zs_X4_feed : zmside ze_X4_feed = true := by decide +kernel
set_option maxRecDepth 100000 in
theorem zm_X4_feed : ∀ w ∈ zmwords ze_X4_feed, w ∈ zTG := zmw_of 474 rfl [472, 473, 53] (by decide +kernel) (by decide +kernel)
theorem zk_X5_feed : zOkC zprog zst zTG zTN ze_X5_feed := zOkC_of (by decide +kernel) [1193, 1069, 1074, 947, 946, 947, 947, 947] (by decide +kernel) (by decide +kernel) [] (by decide +kernel) (by decide +kernel)
theorem zs_X5_feed : zmside ze_X5_feed = true := by decide +kernel
set_option maxRecDepth 100000 in
theorem zm_X5_feed : ∀ w ∈ zmwords ze_X5_feed, w ∈ zTG := zmw_of 1192 rfl [1190, 1191, 58] (by decide +kernel) (by decide +kernel)
theorem zk_X5_takeFrom : zOkC zprog zst zTG zTN ze_X5_takeFrom := zOkC_of (by decide +kernel) [949, 949, 950, 950, 951, 951, 952, 952, 953, 953, 954, 954, 955, 955, 956, 956, 1212, 957, 957, 958, 958, 1212, 959, 959, 1212, 960, 960, 1212, 961, 961, 1212, 962, 962, 1212, 963, 963, 964, 964, 1212, 965, 965, 1212] (by decide +kernel) (by decide +kernel) [] (by decide +kernel) (by decide +kernel)
theorem zs_X5_takeFrom : zmside ze_X5_takeFrom = true := by decide +kernel
set_option maxRecDepth 100000 in
theorem zm_X5_takeFrom : ∀ w ∈ zmwords ze_X5_takeFrom, w ∈ zTG := zmw_of 1211 rfl [1210, 19, 58] (by decide +kernel) (by decide +kernel)
theorem zk_J6_bitCount_0f7a4 : zOkC zprog zst zTG zTN ze_J6_bitCount_0f7a4 := zOkC_of (by decide +kernel) [659, 660, 660, 661] (by decide +kernel) (by decide +kernel) [] (by decide +kernel) (by decide +kernel)
theorem zs_J6_bitCount_0f7a4 : zmside ze_J6_bitCount_0f7a4 = true := by decide +kernel
set_option maxRecDepth 100000 in
theorem zm_J6_bitCount_0f7a4 : ∀ w ∈ zmwords ze_J6_bitCount_0f7a4, w ∈ zTG := zmw_of 658 rfl [657, 66] (by decide +kernel) (by decide +kernel)
theorem zk_X4_takings : zOkC zprog zst zTG zTN ze_X4_takings := zOkC_of (by decide +kernel) [274, 242, 772, 277] (by decide +kernel) (by decide +kernel) [] (by decide +kernel) (by decide +kernel)
theorem zs_X4_takings : zmside ze_X4_takings = true := by decide +kernel
set_option maxRecDepth 100000 in
theorem zm_X4_takings : ∀ w ∈ zmwords ze_X4_takings, w ∈ zTG := zmw_of 771 rfl [769, 770, 53] (by decide +kernel) (by decide +kernel)
theorem zk_X5_takings : zOkC zprog zst zTG zTN ze_X5_takings := zOkC_of (by decide +kernel) [1148, 1069, 1379, 1074] (by decide +kernel) (by decide +kernel) [] (by decide +kernel) (by decide +kernel)
theorem zs_X5_takings : zmside ze_X5_takings = true := by decide +kernel
set_option maxRecDepth 100000 in
theorem zm_X5_takings : ∀ w ∈ zmwords ze_X5_takings, w ∈ zTG := zmw_of 1378 rfl [1376, 1377, 58] (by decide +kernel) (by decide +kernel)
theorem zk_X4_left : zOkC zprog zst zTG zTN ze_X4_left := zOkC_of (by decide +kernel) [242, 741, 274, 277, 242, 631, 242, 810, 242, 810, 742] (by decide +kernel) (by decide +kernel) [] (by decide +kernel) (by decide +kernel)
theorem zs_X4_left : zmside ze_X4_left = true := by decide +kernel
set_option maxRecDepth 100000 in
theorem zm_X4_left : ∀ w ∈ zmwords ze_X4_left, w ∈ zTG := zmw_of 809 rfl [807, 808, 53] (by decide +kernel) (by decide +kernel)
theorem zk_X5_left : zOkC zprog zst zTG zTN ze_X5_left := zOkC_of (by decide +kernel) [1125, 1069, 1074, 957] (by decide +kernel) (by decide +kernel) [] (by decide +kernel) (by decide +kernel)
theorem zs_X5_left : zmside ze_X5_left = true := by decide +kernel
set_option maxRecDepth 100000 in
theorem zm_X5_left : ∀ w ∈ zmwords ze_X5_left, w ∈ zTG := zmw_of 1415 rfl [1413, 1414, 58] (by decide +kernel) (by decide +kernel)
theorem zk_X4_fete : zOkC zprog zst zTG zTN ze_X4_fete := zOkC_of (by decide +kernel) [274, 242, 906, 277] (by decide +kernel) (by decide +kernel) [] (by decide +kernel) (by decide +kernel)
theorem zs_X4_fete : zmside ze_X4_fete = true := by decide +kernel
set_option maxRecDepth 100000 in
theorem zm_X4_fete : ∀ w ∈ zmwords ze_X4_fete, w ∈ zTG := zmw_of 905 rfl [903, 904, 53] (by decide +kernel) (by decide +kernel)
theorem zk_X5_fete : zOkC zprog zst zTG zTN ze_X5_fete := zOkC_of (by decide +kernel) [1352, 1069, 1074, 956, 953, 957] (by decide +kernel) (by decide +kernel) [] (by decide +kernel) (by decide +kernel)
theorem zs_X5_fete : zmside ze_X5_fete = true := by decide +kernel
set_option maxRecDepth 100000 in
theorem zm_X5_fete : ∀ w ∈ zmwords ze_X5_fete, w ∈ zTG := zmw_of 1497 rfl [1495, 1496, 58] (by decide +kernel) (by decide +kernel)
theorem zk_X4_likes : zOkC zprog zst zTG zTN ze_X4_likes := zOkC_of (by decide +kernel) [242, 461, 277] (by decide +kernel) (by decide +kernel) [] (by decide +kernel) (by decide +kernel)
theorem zs_X4_likes : zmside ze_X4_likes = true := by decide +kernel
set_option maxRecDepth 100000 in
theorem zm_X4_likes : ∀ w ∈ zmwords ze_X4_likes, w ∈ zTG := zmw_of 460 rfl [458, 459, 53] (by decide +kernel) (by decide +kernel)
theorem zk_X5_likes : zOkC zprog zst zTG zTN ze_X5_likes := zOkC_of (by decide +kernel) [1180, 1074] (by decide +kernel) (by decide +kernel) [] (by decide +kernel) (by decide +kernel)
theorem zs_X5_likes : zmside ze_X5_likes = true := by decide +kernel
set_option maxRecDepth 100000 in
theorem zm_X5_likes : ∀ w ∈ zmwords ze_X5_likes, w ∈ zTG := zmw_of 1179 rfl [1177, 1178, 58] (by decide +kernel) (by decide +kernel)
theorem zk_X4_purse : zOkC zprog zst zTG zTN ze_X4_purse := zOkC_of (by decide +kernel) [242, 461, 277] (by decide +kernel) (by decide +kernel) [] (by decide +kernel) (by decide +kernel)
theorem zs_X4_purse : zmside ze_X4_purse = true := by decide +kernel
set_option maxRecDepth 100000 in
theorem zm_X4_purse : ∀ w ∈ zmwords ze_X4_purse, w ∈ zTG := zmw_of 470 rfl [468, 469, 53] (by decide +kernel) (by decide +kernel)
theorem zk_X5_purse : zOkC zprog zst zTG zTN ze_X5_purse := zOkC_of (by decide +kernel) [1180, 1074] (by decide +kernel) (by decide +kernel) [] (by decide +kernel) (by decide +kernel)
theorem zs_X5_purse : zmside ze_X5_purse = true := by decide +kernel
set_option maxRecDepth 100000 in
theorem zm_X5_purse : ∀ w ∈ zmwords ze_X5_purse, w ∈ zTG := zmw_of 1188 rfl [1186, 1187, 58] (by decide +kernel) (by decide +kernel)
theorem zk_X1_become : zOkC zprog zst zTG zTN ze_X1_become := zOkC_of (by decide +kernel) [89, 89, 92, 92, 95, 95, 99, 99, 102, 102, 105, 105, 107, 107, 109, 109, 110, 110, 114, 114, 487, 116, 116, 487, 118, 118, 487, 120, 120, 487, 122, 122, 487, 124, 124, 127, 127, 487, 129, 129, 487] (by decide +kernel) (by decide +kernel) [] (by decide +kernel) (by decide +kernel)
theorem zs_X1_become : zmside ze_X1_become = true := by decide +kernel
set_option maxRecDepth 100000 in
theorem zm_X1_become : ∀ w ∈ zmwords ze_X1_become, w ∈ zTG := zmw_of 486 rfl [484, 485, 54] (by decide +kernel) (by decide +kernel)
theorem zk_X4_thingOf : zOkC zprog zst zTG zTN ze_X4_thingOf := zOkC_of (by decide +kernel) [242, 335, 277] (by decide +kernel) (by decide +kernel) [] (by decide +kernel) (by decide +kernel)
theorem zs_X4_thingOf : zmside ze_X4_thingOf = true := by decide +kernel
set_option maxRecDepth 100000 in
theorem zm_X4_thingOf : ∀ w ∈ zmwords ze_X4_thingOf, w ∈ zTG := zmw_of 621 rfl [619, 620, 53] (by decide +kernel) (by decide +kernel)
theorem zk_X5_thingOf : zOkC zprog zst zTG zTN ze_X5_thingOf := zOkC_of (by decide +kernel) [1105, 1074] (by decide +kernel) (by decide +kernel) [] (by decide +kernel) (by decide +kernel)
theorem zs_X5_thingOf : zmside ze_X5_thingOf = true := by decide +kernel
set_option maxRecDepth 100000 in
theorem zm_X5_thingOf : ∀ w ∈ zmwords ze_X5_thingOf, w ∈ zTG := zmw_of 1275 rfl [1273, 1274, 58] (by decide +kernel) (by decide +kernel)
theorem zk_X4_buyerOf : zOkC zprog zst zTG zTN ze_X4_buyerOf := zOkC_of (by decide +kernel) [242, 461, 277] (by decide +kernel) (by decide +kernel) [] (by decide +kernel) (by decide +kernel)
theorem zs_X4_buyerOf : zmside ze_X4_buyerOf = true := by decide +kernel
set_option maxRecDepth 100000 in
theorem zm_X4_buyerOf : ∀ w ∈ zmwords ze_X4_buyerOf, w ∈ zTG := zmw_of 625 rfl [623, 624, 53] (by decide +kernel) (by decide +kernel)
theorem zk_X5_buyerOf : zOkC zprog zst zTG zTN ze_X5_buyerOf := zOkC_of (by decide +kernel) [1180, 1074] (by decide +kernel) (by decide +kernel) [] (by decide +kernel) (by decide +kernel)
theorem zs_X5_buyerOf : zmside ze_X5_buyerOf = true := by decide +kernel
set_option maxRecDepth 100000 in
theorem zm_X5_buyerOf : ∀ w ∈ zmwords ze_X5_buyerOf, w ∈ zTG := zmw_of 1279 rfl [1277, 1278, 58] (by decide +kernel) (by decide +kernel)
theorem zk_X1_countDrawable : zOkC zprog zst zTG zTN ze_X1_countDrawable := zOkC_of (by decide +kernel) [386, 362, 102, 643, 656] (by decide +kernel) (by decide +kernel) [] (by decide +kernel) (by decide +kernel)
theorem zs_X1_countDrawable : zmside ze_X1_countDrawable = true := by decide +kernel
set_option maxRecDepth 100000 in
theorem zm_X1_countDrawable : ∀ w ∈ zmwords ze_X1_countDrawable, w ∈ zTG := zmw_of 655 rfl [653, 654, 54] (by decide +kernel) (by decide +kernel)
theorem zk_X1_thingsReady : zOkC zprog zst zTG zTN ze_X1_thingsReady := zOkC_of (by decide +kernel) [89, 110] (by decide +kernel) (by decide +kernel) [] (by decide +kernel) (by decide +kernel)
theorem zs_X1_thingsReady : zmside ze_X1_thingsReady = true := by decide +kernel
set_option maxRecDepth 100000 in
theorem zm_X1_thingsReady : ∀ w ∈ zmwords ze_X1_thingsReady, w ∈ zTG := zmw_of 646 rfl [644, 645, 54] (by decide +kernel) (by decide +kernel)
theorem zk_X5_drawableMany : zOkC zprog zst zTG zTN ze_X5_drawableMany := zOkC_of (by decide +kernel) [949, 1296] (by decide +kernel) (by decide +kernel) [] (by decide +kernel) (by decide +kernel)
theorem zs_X5_drawableMany : zmside ze_X5_drawableMany = true := by decide +kernel
set_option maxRecDepth 100000 in
theorem zm_X5_drawableMany : ∀ w ∈ zmwords ze_X5_drawableMany, w ∈ zTG := zmw_of 1295 rfl [1294, 32, 58] (by decide +kernel) (by decide +kernel)
theorem zk_X4_worth : zOkC zprog zst zTG zTN ze_X4_worth := zOkC_of (by decide +kernel) [242, 461, 277] (by decide +kernel) (by decide +kernel) [] (by decide +kernel) (by decide +kernel)
theorem zs_X4_worth : zmside ze_X4_worth = true := by decide +kernel
set_option maxRecDepth 100000 in
theorem zm_X4_worth : ∀ w ∈ zmwords ze_X4_worth, w ∈ zTG := zmw_of 674 rfl [672, 673, 53] (by decide +kernel) (by decide +kernel)
theorem zk_X5_worth : zOkC zprog zst zTG zTN ze_X5_worth := zOkC_of (by decide +kernel) [1180, 1074] (by decide +kernel) (by decide +kernel) [] (by decide +kernel) (by decide +kernel)
theorem zs_X5_worth : zmside ze_X5_worth = true := by decide +kernel
set_option maxRecDepth 100000 in
theorem zm_X5_worth : ∀ w ∈ zmwords ze_X5_worth, w ∈ zTG := zmw_of 1323 rfl [1321, 1322, 58] (by decide +kernel) (by decide +kernel)
end
section
theorem zk_X4_plan : zOkC zprog zst zTG zTN ze_X4_plan := zOkC_of (by decide +kernel) [242, 461, 277] (by decide +kernel) (by decide +kernel) [] (by decide +kernel) (by decide +kernel)
theorem zs_X4_plan : zmside ze_X4_plan = true := by decide +kernel
set_option maxRecDepth 100000 in
theorem zm_X4_plan : ∀ w ∈ zmwords ze_X4_plan, w ∈ zTG := zmw_of 685 rfl [683, 684, 53] (by decide +kernel) (by decide +kernel)
theorem zk_X5_plan : zOkC zprog zst zTG zTN ze_X5_plan := zOkC_of (by decide +kernel) [1180, 1074] (by decide +kernel) (by decide +kernel) [] (by decide +kernel) (by decide +kernel)
theorem zs_X5_plan : zmside ze_X5_plan = true := by decide +kernel
set_option maxRecDepth 100000 in
theorem zm_X5_plan : ∀ w ∈ zmwords ze_X5_plan, w ∈ zTG := zmw_of 1331 rfl [1329, 1330, 58] (by decide +kernel) (by decide +kernel)
theorem zk_X4_till : zOkC zprog zst zTG zTN ze_X4_till := zOkC_of (by decide +kernel) [242, 461, 277] (by decide +kernel) (by decide +kernel) [] (by decide +kernel) (by decide +kernel)
theorem zs_X4_till : zmside ze_X4_till = true := by decide +kernel
set_option maxRecDepth 100000 in
theorem zm_X4_till : ∀ w ∈ zmwords ze_X4_till, w ∈ zTG := zmw_of 740 rfl [738, 739, 53] (by decide +kernel) (by decide +kernel)
theorem zk_X5_till : zOkC zprog zst zTG zTN ze_X5_till := zOkC_of (by decide +kernel) [1180, 1074] (by decide +kernel) (by decide +kernel) [] (by decide +kernel) (by decide +kernel)
theorem zs_X5_till : zmside ze_X5_till = true := by decide +kernel
set_option maxRecDepth 100000 in
theorem zm_X5_till : ∀ w ∈ zmwords ze_X5_till, w ∈ zTG := zmw_of 1356 rfl [1354, 1355, 58] (by decide +kernel) (by decide +kernel)
theorem zk_X4_atOnce : zOkC zprog zst zTG zTN ze_X4_atOnce := zOkC_of (by decide +kernel) [242, 461, 751, 277] (by decide +kernel) (by decide +kernel) [] (by decide +kernel) (by decide +kernel)
theorem zs_X4_atOnce : zmside ze_X4_atOnce = true := by decide +kernel
set_option maxRecDepth 100000 in
theorem zm_X4_atOnce : ∀ w ∈ zmwords ze_X4_atOnce, w ∈ zTG := zmw_of 750 rfl [748, 749, 53] (by decide +kernel) (by decide +kernel)
theorem zk_X5_atOnce : zOkC zprog zst zTG zTN ze_X5_atOnce := zOkC_of (by decide +kernel) [1180, 1370, 1074] (by decide +kernel) (by decide +kernel) [] (by decide +kernel) (by decide +kernel)
theorem zs_X5_atOnce : zmside ze_X5_atOnce = true := by decide +kernel
set_option maxRecDepth 100000 in
theorem zm_X5_atOnce : ∀ w ∈ zmwords ze_X5_atOnce, w ∈ zTG := zmw_of 1369 rfl [1367, 1368, 58] (by decide +kernel) (by decide +kernel)
theorem zk_X4_mean : zOkC zprog zst zTG zTN ze_X4_mean := zOkC_of (by decide +kernel) [242, 461, 277] (by decide +kernel) (by decide +kernel) [] (by decide +kernel) (by decide +kernel)
theorem zs_X4_mean : zmside ze_X4_mean = true := by decide +kernel
set_option maxRecDepth 100000 in
theorem zm_X4_mean : ∀ w ∈ zmwords ze_X4_mean, w ∈ zTG := zmw_of 763 rfl [761, 762, 53] (by decide +kernel) (by decide +kernel)
theorem zk_X5_mean : zOkC zprog zst zTG zTN ze_X5_mean := zOkC_of (by decide +kernel) [1180, 1074] (by decide +kernel) (by decide +kernel) [] (by decide +kernel) (by decide +kernel)
theorem zs_X5_mean : zmside ze_X5_mean = true := by decide +kernel
set_option maxRecDepth 100000 in
theorem zm_X5_mean : ∀ w ∈ zmwords ze_X5_mean, w ∈ zTG := zmw_of 1360 rfl [1358, 1359, 58] (by decide +kernel) (by decide +kernel)
theorem zk_X4_all : zOkC zprog zst zTG zTN ze_X4_all := zOkC_of (by decide +kernel) [242, 461, 751, 277] (by decide +kernel) (by decide +kernel) [] (by decide +kernel) (by decide +kernel)
theorem zs_X4_all : zmside ze_X4_all = true := by decide +kernel
set_option maxRecDepth 100000 in
theorem zm_X4_all : ∀ w ∈ zmwords ze_X4_all, w ∈ zTG := zmw_of 767 rfl [765, 766, 53] (by decide +kernel) (by decide +kernel)
theorem zk_X5_all : zOkC zprog zst zTG zTN ze_X5_all := zOkC_of (by decide +kernel) [1180, 1370, 1074] (by decide +kernel) (by decide +kernel) [] (by decide +kernel) (by decide +kernel)
theorem zs_X5_all : zmside ze_X5_all = true := by decide +kernel
set_option maxRecDepth 100000 in
theorem zm_X5_all : ∀ w ∈ zmwords ze_X5_all, w ∈ zTG := zmw_of 1374 rfl [1372, 1373, 58] (by decide +kernel) (by decide +kernel)
theorem zk_X1_thingsUnder : zOkC zprog zst zTG zTN ze_X1_thingsUnder := zOkC_of (by decide +kernel) [110] (by decide +kernel) (by decide +kernel) [] (by decide +kernel) (by decide +kernel)
theorem zs_X1_thingsUnder : zmside ze_X1_thingsUnder = true := by decide +kernel
set_option maxRecDepth 100000 in
theorem zm_X1_thingsUnder : ∀ w ∈ zmwords ze_X1_thingsUnder, w ∈ zTG := zmw_of 373 rfl [371, 372, 54] (by decide +kernel) (by decide +kernel)
theorem zk_X4_chain : zOkC zprog zst zTG zTN ze_X4_chain := zOkC_of (by decide +kernel) [242, 335, 277] (by decide +kernel) (by decide +kernel) [] (by decide +kernel) (by decide +kernel)
theorem zs_X4_chain : zmside ze_X4_chain = true := by decide +kernel
set_option maxRecDepth 100000 in
theorem zm_X4_chain : ∀ w ∈ zmwords ze_X4_chain, w ∈ zTG := zmw_of 849 rfl [847, 848, 53] (by decide +kernel) (by decide +kernel)
theorem zk_X5_chain : zOkC zprog zst zTG zTN ze_X5_chain := zOkC_of (by decide +kernel) [1105, 1074] (by decide +kernel) (by decide +kernel) [] (by decide +kernel) (by decide +kernel)
theorem zs_X5_chain : zmside ze_X5_chain = true := by decide +kernel
set_option maxRecDepth 100000 in
theorem zm_X5_chain : ∀ w ∈ zmwords ze_X5_chain, w ∈ zTG := zmw_of 1443 rfl [1441, 1442, 58] (by decide +kernel) (by decide +kernel)
theorem zk_X4_dearest : zOkC zprog zst zTG zTN ze_X4_dearest := zOkC_of (by decide +kernel) [242, 461, 277] (by decide +kernel) (by decide +kernel) [] (by decide +kernel) (by decide +kernel)
theorem zs_X4_dearest : zmside ze_X4_dearest = true := by decide +kernel
set_option maxRecDepth 100000 in
theorem zm_X4_dearest : ∀ w ∈ zmwords ze_X4_dearest, w ∈ zTG := zmw_of 863 rfl [861, 862, 53] (by decide +kernel) (by decide +kernel)
theorem zk_X5_dearest : zOkC zprog zst zTG zTN ze_X5_dearest := zOkC_of (by decide +kernel) [1180, 1074] (by decide +kernel) (by decide +kernel) [] (by decide +kernel) (by decide +kernel)
theorem zs_X5_dearest : zmside ze_X5_dearest = true := by decide +kernel
set_option maxRecDepth 100000 in
theorem zm_X5_dearest : ∀ w ∈ zmwords ze_X5_dearest, w ∈ zTG := zmw_of 1452 rfl [1450, 1451, 58] (by decide +kernel) (by decide +kernel)
theorem zk_X4_fondest : zOkC zprog zst zTG zTN ze_X4_fondest := zOkC_of (by decide +kernel) [242, 335, 277] (by decide +kernel) (by decide +kernel) [] (by decide +kernel) (by decide +kernel)
theorem zs_X4_fondest : zmside ze_X4_fondest = true := by decide +kernel
set_option maxRecDepth 100000 in
theorem zm_X4_fondest : ∀ w ∈ zmwords ze_X4_fondest, w ∈ zTG := zmw_of 867 rfl [865, 866, 53] (by decide +kernel) (by decide +kernel)
theorem zk_X5_fondest : zOkC zprog zst zTG zTN ze_X5_fondest := zOkC_of (by decide +kernel) [1105, 1074] (by decide +kernel) (by decide +kernel) [] (by decide +kernel) (by decide +kernel)
theorem zs_X5_fondest : zmside ze_X5_fondest = true := by decide +kernel
set_option maxRecDepth 100000 in
theorem zm_X5_fondest : ∀ w ∈ zmwords ze_X5_fondest, w ∈ zTG := zmw_of 1456 rfl [1454, 1455, 58] (by decide +kernel) (by decide +kernel)
theorem zk_X4_go : zOkC zprog zst zTG zTN ze_X4_go := zOkC_of (by decide +kernel) [242, 461, 277] (by decide +kernel) (by decide +kernel) [] (by decide +kernel) (by decide +kernel)
theorem zs_X4_go : zmside ze_X4_go = true := by decide +kernel
set_option maxRecDepth 100000 in
theorem zm_X4_go : ∀ w ∈ zmwords ze_X4_go, w ∈ zTG := zmw_of 883 rfl [881, 882, 53] (by decide +kernel) (by decide +kernel)
theorem zk_X5_go : zOkC zprog zst zTG zTN ze_X5_go := zOkC_of (by decide +kernel) [1180, 1074] (by decide +kernel) (by decide +kernel) [] (by decide +kernel) (by decide +kernel)
theorem zs_X5_go : zmside ze_X5_go = true := by decide +kernel
set_option maxRecDepth 100000 in
theorem zm_X5_go : ∀ w ∈ zmwords ze_X5_go, w ∈ zTG := zmw_of 1472 rfl [1470, 1471, 58] (by decide +kernel) (by decide +kernel)
theorem zk_X4_five : zOkC zprog zst zTG zTN ze_X4_five := zOkC_of (by decide +kernel) [242, 461, 277] (by decide +kernel) (by decide +kernel) [] (by decide +kernel) (by decide +kernel)
theorem zs_X4_five : zmside ze_X4_five = true := by decide +kernel
set_option maxRecDepth 100000 in
theorem zm_X4_five : ∀ w ∈ zmwords ze_X4_five, w ∈ zTG := zmw_of 897 rfl [895, 896, 53] (by decide +kernel) (by decide +kernel)
theorem zk_X5_five : zOkC zprog zst zTG zTN ze_X5_five := zOkC_of (by decide +kernel) [1180, 1074] (by decide +kernel) (by decide +kernel) [] (by decide +kernel) (by decide +kernel)
theorem zs_X5_five : zmside ze_X5_five = true := by decide +kernel
set_option maxRecDepth 100000 in
theorem zm_X5_five : ∀ w ∈ zmwords ze_X5_five, w ∈ zTG := zmw_of 1489 rfl [1487, 1488, 58] (by decide +kernel) (by decide +kernel)
theorem zk_X4_plays : zOkC zprog zst zTG zTN ze_X4_plays := zOkC_of (by decide +kernel) [242, 461, 277] (by decide +kernel) (by decide +kernel) [] (by decide +kernel) (by decide +kernel)
theorem zs_X4_plays : zmside ze_X4_plays = true := by decide +kernel
set_option maxRecDepth 100000 in
theorem zm_X4_plays : ∀ w ∈ zmwords ze_X4_plays, w ∈ zTG := zmw_of 901 rfl [899, 900, 53] (by decide +kernel) (by decide +kernel)
theorem zk_X5_plays : zOkC zprog zst zTG zTN ze_X5_plays := zOkC_of (by decide +kernel) [1180, 1074] (by decide +kernel) (by decide +kernel) [] (by decide +kernel) (by decide +kernel)
theorem zs_X5_plays : zmside ze_X5_plays = true := by decide +kernel
set_option maxRecDepth 100000 in
theorem zm_X5_plays : ∀ w ∈ zmwords ze_X5_plays, w ∈ zTG := zmw_of 1493 rfl [1491, 1492, 58] (by decide +kernel) (by decide +kernel)
theorem zk_X5_becomeSlips : zOkC zprog zst zTG zTN ze_X5_becomeSlips := zOkC_of (by decide +kernel) [949, 956] (by decide +kernel) (by decide +kernel) [] (by decide +kernel) (by decide +kernel)
theorem zs_X5_becomeSlips : zmside ze_X5_becomeSlips = true := by decide +kernel
set_option maxRecDepth 100000 in
theorem zm_X5_becomeSlips : ∀ w ∈ zmwords ze_X5_becomeSlips, w ∈ zTG := zmw_of 1137 rfl [1136, 12, 58] (by decide +kernel) (by decide +kernel)
theorem zk_X1_addBuyer : zOkC zprog zst zTG zTN ze_X1_addBuyer := zOkC_of (by decide +kernel) [124, 127, 124, 124] (by decide +kernel) (by decide +kernel) [] (by decide +kernel) (by decide +kernel)
theorem zs_X1_addBuyer : zmside ze_X1_addBuyer = true := by decide +kernel
set_option maxRecDepth 100000 in
theorem zm_X1_addBuyer : ∀ w ∈ zmwords ze_X1_addBuyer, w ∈ zTG := zmw_of 456 rfl [454, 455, 54] (by decide +kernel) (by decide +kernel)
theorem zk_X5_addBuyer : zOkC zprog zst zTG zTN ze_X5_addBuyer := zOkC_of (by decide +kernel) [964, 963, 965, 963, 963, 963] (by decide +kernel) (by decide +kernel) [] (by decide +kernel) (by decide +kernel)
theorem zs_X5_addBuyer : zmside ze_X5_addBuyer = true := by decide +kernel
set_option maxRecDepth 100000 in
theorem zm_X5_addBuyer : ∀ w ∈ zmwords ze_X5_addBuyer, w ∈ zTG := zmw_of 1175 rfl [1174, 16, 58] (by decide +kernel) (by decide +kernel)
theorem zk_X4_wipe : zOkC zprog zst zTG zTN ze_X4_wipe := zOkC_of (by decide +kernel) [246, 203, 246, 203] (by decide +kernel) (by decide +kernel) [] (by decide +kernel) (by decide +kernel)
theorem zs_X4_wipe : zmside ze_X4_wipe = true := by decide +kernel
set_option maxRecDepth 100000 in
theorem zm_X4_wipe : ∀ w ∈ zmwords ze_X4_wipe, w ∈ zTG := zmw_of 478 rfl [476, 477, 53] (by decide +kernel) (by decide +kernel)
theorem zk_X5_wipe : zOkC zprog zst zTG zTN ze_X5_wipe := zOkC_of (by decide +kernel) [947, 947] (by decide +kernel) (by decide +kernel) [] (by decide +kernel) (by decide +kernel)
theorem zs_X5_wipe : zmside ze_X5_wipe = true := by decide +kernel
set_option maxRecDepth 100000 in
theorem zm_X5_wipe : ∀ w ∈ zmwords ze_X5_wipe, w ∈ zTG := zmw_of 1197 rfl [1195, 1196, 58] (by decide +kernel) (by decide +kernel)
theorem zk_X4_stall : zOkC zprog zst zTG zTN ze_X4_stall := zOkC_of (by decide +kernel) [244, 242, 483, 246, 244, 488, 246, 203, 277] (by decide +kernel) (by decide +kernel) [] (by decide +kernel) (by decide +kernel)
theorem zs_X4_stall : zmside ze_X4_stall = true := by decide +kernel
set_option maxRecDepth 100000 in
theorem zm_X4_stall : ∀ w ∈ zmwords ze_X4_stall, w ∈ zTG := zmw_of 482 rfl [480, 481, 53] (by decide +kernel) (by decide +kernel)
theorem zk_X2_readInto : zOkC zprog zst zTG zTN ze_X2_readInto := zOkC_of (by decide +kernel) [206, 492, 506, 205] (by decide +kernel) (by decide +kernel) [] (by decide +kernel) (by decide +kernel)
theorem zs_X2_readInto : zmside ze_X2_readInto = true := by decide +kernel
set_option maxRecDepth 100000 in
theorem zm_X2_readInto : ∀ w ∈ zmwords ze_X2_readInto, w ∈ zTG := zmw_of 491 rfl [489, 490, 56] (by decide +kernel) (by decide +kernel)
theorem zk_X2_step : zOkC zprog zst zTG zTN ze_X2_step := zOkC_of (by decide +kernel) [206, 205, 205, 202, 205, 202, 499, 206, 205, 202, 204, 204, 204, 204, 207] (by decide +kernel) (by decide +kernel) [] (by decide +kernel) (by decide +kernel)
theorem zs_X2_step : zmside ze_X2_step = true := by decide +kernel
set_option maxRecDepth 100000 in
theorem zm_X2_step : ∀ w ∈ zmwords ze_X2_step, w ∈ zTG := zmw_of 495 rfl [493, 494, 56] (by decide +kernel) (by decide +kernel)
theorem zk_X2_readStatement : zOkC zprog zst zTG zTN ze_X2_readStatement := zOkC_of (by decide +kernel) [511, 511, 511, 511, 511, 511, 511] (by decide +kernel) (by decide +kernel) [] (by decide +kernel) (by decide +kernel)
theorem zs_X2_readStatement : zmside ze_X2_readStatement = true := by decide +kernel
set_option maxRecDepth 100000 in
theorem zm_X2_readStatement : ∀ w ∈ zmwords ze_X2_readStatement, w ∈ zTG := zmw_of 509 rfl [507, 508, 56] (by decide +kernel) (by decide +kernel)
theorem zk_X5_stall : zOkC zprog zst zTG zTN ze_X5_stall := zOkC_of (by decide +kernel) [1202, 1215, 947, 1208, 1074, 972] (by decide +kernel) (by decide +kernel) [] (by decide +kernel) (by decide +kernel)
theorem zs_X5_stall : zmside ze_X5_stall = true := by decide +kernel
set_option maxRecDepth 100000 in
theorem zm_X5_stall : ∀ w ∈ zmwords ze_X5_stall, w ∈ zTG := zmw_of 1201 rfl [1199, 1200, 58] (by decide +kernel) (by decide +kernel)
theorem zk_X5_fresh : zOkC zprog zst zTG zTN ze_X5_fresh := zOkC_of (by decide +kernel) [967, 1206, 931, 58, 1207, 967, 967, 1208, 967] (by decide +kernel) (by decide +kernel) [] (by decide +kernel) (by decide +kernel)
theorem zs_X5_fresh : zmside ze_X5_fresh = true := by decide +kernel
set_option maxRecDepth 100000 in
theorem zm_X5_fresh : ∀ w ∈ zmwords ze_X5_fresh, w ∈ zTG := zmw_of 1205 rfl [1204, 18, 58] (by decide +kernel) (by decide +kernel)
theorem zk_X5_readAll : zOkC zprog zst zTG zTN ze_X5_readAll := zOkC_of (by decide +kernel) [974, 968, 1219, 1230] (by decide +kernel) (by decide +kernel) [] (by decide +kernel) (by decide +kernel)
theorem zs_X5_readAll : zmside ze_X5_readAll = true := by decide +kernel
set_option maxRecDepth 100000 in
theorem zm_X5_readAll : ∀ w ∈ zmwords ze_X5_readAll, w ∈ zTG := zmw_of 1218 rfl [1217, 20, 58] (by decide +kernel) (by decide +kernel)
theorem zk_X5_look : zOkC zprog zst zTG zTN ze_X5_look := zOkC_of (by decide +kernel) [968, 947, 968, 970, 971, 968, 947, 969] (by decide +kernel) (by decide +kernel) [] (by decide +kernel) (by decide +kernel)
theorem zs_X5_look : zmside ze_X5_look = true := by decide +kernel
set_option maxRecDepth 100000 in
theorem zm_X5_look : ∀ w ∈ zmwords ze_X5_look, w ∈ zTG := zmw_of 1222 rfl [1221, 21, 58] (by decide +kernel) (by decide +kernel)
theorem zk_X5_statement : zOkC zprog zst zTG zTN ze_X5_statement := zOkC_of (by decide +kernel) [1235, 1235, 1235, 1235, 1235, 1235, 1235, 1249] (by decide +kernel) (by decide +kernel) [] (by decide +kernel) (by decide +kernel)
theorem zs_X5_statement : zmside ze_X5_statement = true := by decide +kernel
set_option maxRecDepth 100000 in
theorem zm_X5_statement : ∀ w ∈ zmwords ze_X5_statement, w ∈ zTG := zmw_of 1233 rfl [1232, 22, 58] (by decide +kernel) (by decide +kernel)
theorem zk_X5_wrong : zOkC zprog zst zTG zTN ze_X5_wrong := zOkC_of (by decide +kernel) [970, 972] (by decide +kernel) (by decide +kernel) [] (by decide +kernel) (by decide +kernel)
theorem zs_X5_wrong : zmside ze_X5_wrong = true := by decide +kernel
set_option maxRecDepth 100000 in
theorem zm_X5_wrong : ∀ w ∈ zmwords ze_X5_wrong, w ∈ zTG := zmw_of 1252 rfl [1251, 26, 58] (by decide +kernel) (by decide +kernel)
theorem zk_X4_drawable : zOkC zprog zst zTG zTN ze_X4_drawable := zOkC_of (by decide +kernel) [242, 652] (by decide +kernel) (by decide +kernel) [] (by decide +kernel) (by decide +kernel)
theorem zs_X4_drawable : zmside ze_X4_drawable = true := by decide +kernel
set_option maxRecDepth 100000 in
theorem zm_X4_drawable : ∀ w ∈ zmwords ze_X4_drawable, w ∈ zTG := zmw_of 651 rfl [649, 650, 53] (by decide +kernel) (by decide +kernel)
theorem zk_X5_drawable : zOkC zprog zst zTG zTN ze_X5_drawable := zOkC_of (by decide +kernel) [1292] (by decide +kernel) (by decide +kernel) [] (by decide +kernel) (by decide +kernel)
theorem zs_X5_drawable : zmside ze_X5_drawable = true := by decide +kernel
set_option maxRecDepth 100000 in
theorem zm_X5_drawable : ∀ w ∈ zmwords ze_X5_drawable, w ∈ zTG := zmw_of 1291 rfl [1289, 1290, 58] (by decide +kernel) (by decide +kernel)
theorem zk_X4_bestPrice : zOkC zprog zst zTG zTN ze_X4_bestPrice := zOkC_of (by decide +kernel) [242, 772, 242, 772] (by decide +kernel) (by decide +kernel) [] (by decide +kernel) (by decide +kernel)
theorem zs_X4_bestPrice : zmside ze_X4_bestPrice = true := by decide +kernel
set_option maxRecDepth 100000 in
theorem zm_X4_bestPrice : ∀ w ∈ zmwords ze_X4_bestPrice, w ∈ zTG := zmw_of 781 rfl [779, 780, 53] (by decide +kernel) (by decide +kernel)
theorem zk_X5_bestPrice : zOkC zprog zst zTG zTN ze_X5_bestPrice := zOkC_of (by decide +kernel) [1379] (by decide +kernel) (by decide +kernel) [] (by decide +kernel) (by decide +kernel)
theorem zs_X5_bestPrice : zmside ze_X5_bestPrice = true := by decide +kernel
set_option maxRecDepth 100000 in
theorem zm_X5_bestPrice : ∀ w ∈ zmwords ze_X5_bestPrice, w ∈ zTG := zmw_of 1386 rfl [1384, 1385, 58] (by decide +kernel) (by decide +kernel)
theorem zk_X4_full : zOkC zprog zst zTG zTN ze_X4_full := zOkC_of (by decide +kernel) [242, 242, 741, 786] (by decide +kernel) (by decide +kernel) [] (by decide +kernel) (by decide +kernel)
theorem zs_X4_full : zmside ze_X4_full = true := by decide +kernel
set_option maxRecDepth 100000 in
theorem zm_X4_full : ∀ w ∈ zmwords ze_X4_full, w ∈ zTG := zmw_of 785 rfl [783, 784, 53] (by decide +kernel) (by decide +kernel)
theorem zk_X5_full : zOkC zprog zst zTG zTN ze_X5_full := zOkC_of (by decide +kernel) [1125, 1391] (by decide +kernel) (by decide +kernel) [] (by decide +kernel) (by decide +kernel)
theorem zs_X5_full : zmside ze_X5_full = true := by decide +kernel
set_option maxRecDepth 100000 in
theorem zm_X5_full : ∀ w ∈ zmwords ze_X5_full, w ∈ zTG := zmw_of 1390 rfl [1388, 1389, 58] (by decide +kernel) (by decide +kernel)
theorem zk_X4_envy : zOkC zprog zst zTG zTN ze_X4_envy := zOkC_of (by decide +kernel) [242, 126] (by decide +kernel) (by decide +kernel) [] (by decide +kernel) (by decide +kernel)
theorem zs_X4_envy : zmside ze_X4_envy = true := by decide +kernel
set_option maxRecDepth 100000 in
theorem zm_X4_envy : ∀ w ∈ zmwords ze_X4_envy, w ∈ zTG := zmw_of 871 rfl [869, 870, 53] (by decide +kernel) (by decide +kernel)
theorem zk_X5_envy : zOkC zprog zst zTG zTN ze_X5_envy := zOkC_of (by decide +kernel) [963] (by decide +kernel) (by decide +kernel) [] (by decide +kernel) (by decide +kernel)
theorem zs_X5_envy : zmside ze_X5_envy = true := by decide +kernel
set_option maxRecDepth 100000 in
theorem zm_X5_envy : ∀ w ∈ zmwords ze_X5_envy, w ∈ zTG := zmw_of 1460 rfl [1458, 1459, 58] (by decide +kernel) (by decide +kernel)
theorem zk_X4_poorest : zOkC zprog zst zTG zTN ze_X4_poorest := zOkC_of (by decide +kernel) [242, 126, 277] (by decide +kernel) (by decide +kernel) [] (by decide +kernel) (by decide +kernel)
theorem zs_X4_poorest : zmside ze_X4_poorest = true := by decide +kernel
set_option maxRecDepth 100000 in
theorem zm_X4_poorest : ∀ w ∈ zmwords ze_X4_poorest, w ∈ zTG := zmw_of 875 rfl [873, 874, 53] (by decide +kernel) (by decide +kernel)
theorem zk_X5_poorest : zOkC zprog zst zTG zTN ze_X5_poorest := zOkC_of (by decide +kernel) [963, 1074] (by decide +kernel) (by decide +kernel) [] (by decide +kernel) (by decide +kernel)
theorem zs_X5_poorest : zmside ze_X5_poorest = true := by decide +kernel
set_option maxRecDepth 100000 in
theorem zm_X5_poorest : ∀ w ∈ zmwords ze_X5_poorest, w ∈ zTG := zmw_of 1464 rfl [1462, 1463, 58] (by decide +kernel) (by decide +kernel)
theorem zk_X4_oldest : zOkC zprog zst zTG zTN ze_X4_oldest := zOkC_of (by decide +kernel) [242, 113, 277] (by decide +kernel) (by decide +kernel) [] (by decide +kernel) (by decide +kernel)
theorem zs_X4_oldest : zmside ze_X4_oldest = true := by decide +kernel
set_option maxRecDepth 100000 in
theorem zm_X4_oldest : ∀ w ∈ zmwords ze_X4_oldest, w ∈ zTG := zmw_of 879 rfl [877, 878, 53] (by decide +kernel) (by decide +kernel)
theorem zk_X5_oldest : zOkC zprog zst zTG zTN ze_X5_oldest := zOkC_of (by decide +kernel) [957, 1074] (by decide +kernel) (by decide +kernel) [] (by decide +kernel) (by decide +kernel)
theorem zs_X5_oldest : zmside ze_X5_oldest = true := by decide +kernel
set_option maxRecDepth 100000 in
theorem zm_X5_oldest : ∀ w ∈ zmwords ze_X5_oldest, w ∈ zTG := zmw_of 1468 rfl [1466, 1467, 58] (by decide +kernel) (by decide +kernel)
theorem zk_X1_beginFete : zOkC zprog zst zTG zTN ze_X1_beginFete := zOkC_of (by decide +kernel) [85, 102, 110] (by decide +kernel) (by decide +kernel) [] (by decide +kernel) (by decide +kernel)
theorem zs_X1_beginFete : zmside ze_X1_beginFete = true := by decide +kernel
set_option maxRecDepth 100000 in
theorem zm_X1_beginFete : ∀ w ∈ zmwords ze_X1_beginFete, w ∈ zTG := zmw_of 909 rfl [907, 908, 54] (by decide +kernel) (by decide +kernel)
theorem zk_X4_seed : zOkC zprog zst zTG zTN ze_X4_seed := zOkC_of (by decide +kernel) [242, 108, 242, 108] (by decide +kernel) (by decide +kernel) [] (by decide +kernel) (by decide +kernel)
theorem zs_X4_seed : zmside ze_X4_seed = true := by decide +kernel
set_option maxRecDepth 100000 in
theorem zm_X4_seed : ∀ w ∈ zmwords ze_X4_seed, w ∈ zTG := zmw_of 913 rfl [911, 912, 53] (by decide +kernel) (by decide +kernel)
theorem zk_X5_seed : zOkC zprog zst zTG zTN ze_X5_seed := zOkC_of (by decide +kernel) [955, 955] (by decide +kernel) (by decide +kernel) [] (by decide +kernel) (by decide +kernel)
theorem zs_X5_seed : zmside ze_X5_seed = true := by decide +kernel
set_option maxRecDepth 100000 in
theorem zm_X5_seed : ∀ w ∈ zmwords ze_X5_seed, w ∈ zTG := zmw_of 1501 rfl [1499, 1500, 58] (by decide +kernel) (by decide +kernel)
theorem zk_X4_image : zOkC zprog zst zTG zTN ze_X4_image := zOkC_of (by decide +kernel) [243, 242, 483, 249] (by decide +kernel) (by decide +kernel) [] (by decide +kernel) (by decide +kernel)
theorem zs_X4_image : zmside ze_X4_image = true := by decide +kernel
set_option maxRecDepth 100000 in
theorem zm_X4_image : ∀ w ∈ zmwords ze_X4_image, w ∈ zTG := zmw_of 917 rfl [915, 916, 53] (by decide +kernel) (by decide +kernel)
theorem zk_X5_image : zOkC zprog zst zTG zTN ze_X5_image := zOkC_of (by decide +kernel) [966, 1206, 931, 58, 1207, 966, 966, 1208] (by decide +kernel) (by decide +kernel) [] (by decide +kernel) (by decide +kernel)
theorem zs_X5_image : zmside ze_X5_image = true := by decide +kernel
set_option maxRecDepth 100000 in
theorem zm_X5_image : ∀ w ∈ zmwords ze_X5_image, w ∈ zTG := zmw_of 1505 rfl [1503, 1504, 58] (by decide +kernel) (by decide +kernel)
theorem zk_X4_back : zOkC zprog zst zTG zTN ze_X4_back := zOkC_of (by decide +kernel) [249, 277] (by decide +kernel) (by decide +kernel) [] (by decide +kernel) (by decide +kernel)
theorem zs_X4_back : zmside ze_X4_back = true := by decide +kernel
set_option maxRecDepth 100000 in
theorem zm_X4_back : ∀ w ∈ zmwords ze_X4_back, w ∈ zTG := zmw_of 921 rfl [919, 920, 53] (by decide +kernel) (by decide +kernel)
theorem zk_X5_back : zOkC zprog zst zTG zTN ze_X5_back := zOkC_of (by decide +kernel) [966, 1074] (by decide +kernel) (by decide +kernel) [] (by decide +kernel) (by decide +kernel)
theorem zs_X5_back : zmside ze_X5_back = true := by decide +kernel
set_option maxRecDepth 100000 in
theorem zm_X5_back : ∀ w ∈ zmwords ze_X5_back, w ∈ zTG := zmw_of 1509 rfl [1507, 1508, 58] (by decide +kernel) (by decide +kernel)
theorem zk_X5_standing : zOkC zprog zst zTG zTN ze_X5_standing := zOkC_of (by decide +kernel) [957] (by decide +kernel) (by decide +kernel) [] (by decide +kernel) (by decide +kernel)
theorem zs_X5_standing : zmside ze_X5_standing = true := by decide +kernel
set_option maxRecDepth 100000 in
theorem zm_X5_standing : ∀ w ∈ zmwords ze_X5_standing, w ∈ zTG := zmw_of 1120 rfl [1119, 9, 58] (by decide +kernel) (by decide +kernel)
theorem zk_X4_countShelvesInUse : zOkC zprog zst zTG zTN ze_X4_countShelvesInUse := zOkC_of (by decide +kernel) [247, 229] (by decide +kernel) (by decide +kernel) [] (by decide +kernel) (by decide +kernel)
theorem zs_X4_countShelvesInUse : zmside ze_X4_countShelvesInUse = true := by decide +kernel
set_option maxRecDepth 100000 in
theorem zm_X4_countShelvesInUse : ∀ w ∈ zmwords ze_X4_countShelvesInUse, w ∈ zTG := zmw_of 929 rfl [928, 5, 53] (by decide +kernel) (by decide +kernel)
end
section
theorem zkL_0 : zckC ze_L_law zrL_0 := zckC_of (by decide +kernel) [67, 68, 53, 69, 930, 931, 58, 932] (by decide +kernel) (by decide +kernel) (by decide +kernel)
theorem zkL_1 : zckC ze_L_law zrL_1 := zckC_of (by decide +kernel) [267, 1064] (by decide +kernel) (by decide +kernel) (by decide +kernel)
theorem zkL_2 : zckC ze_L_law zrL_2 := zckC_of (by decide +kernel) [1516, 285] (by decide +kernel) (by decide +kernel) (by decide +kernel)
theorem zkL_3 : zckC ze_L_law zrL_3 := zckC_of (by decide +kernel) [1516, 1078] (by decide +kernel) (by decide +kernel) (by decide +kernel)
theorem zkL_4 : zckC ze_L_law zrL_4 := zckC_of (by decide +kernel) [309] (by decide +kernel) (by decide +kernel) (by decide +kernel)
theorem zkL_5 : zckC ze_L_law zrL_5 := zckC_of (by decide +kernel) [1089, 323, 1093] (by decide +kernel) (by decide +kernel) (by decide +kernel)
theorem zkL_6 : zckC ze_L_law zrL_6 := zckC_of (by decide +kernel) [327, 1097, 331] (by decide +kernel) (by decide +kernel) (by decide +kernel)
theorem zkL_7 : zckC ze_L_law zrL_7 := zckC_of (by decide +kernel) [1101, 339] (by decide +kernel) (by decide +kernel) (by decide +kernel)
theorem zkL_8 : zckC ze_L_law zrL_8 := zckC_of (by decide +kernel) [1109, 408, 1129, 413, 1138] (by decide +kernel) (by decide +kernel) (by decide +kernel)
theorem zkL_9 : zckC ze_L_law zrL_9 := zckC_of (by decide +kernel) [417, 1144] (by decide +kernel) (by decide +kernel) (by decide +kernel)
theorem zkL_10 : zckC ze_L_law zrL_10 := zckC_of (by decide +kernel) [421, 1150] (by decide +kernel) (by decide +kernel) (by decide +kernel)
theorem zkL_11 : zckC ze_L_law zrL_11 := zckC_of (by decide +kernel) [449, 1167, 457] (by decide +kernel) (by decide +kernel) (by decide +kernel)
theorem zkL_12 : zckC ze_L_law zrL_12 := zckC_of (by decide +kernel) [1176, 467] (by decide +kernel) (by decide +kernel) (by decide +kernel)
theorem zkL_13 : zckC ze_L_law zrL_13 := zckC_of (by decide +kernel) [1185, 471, 1189, 475, 1194, 479, 1198] (by decide +kernel) (by decide +kernel) (by decide +kernel)
theorem zkL_14 : zckC ze_L_law zrL_14 := zckC_of (by decide +kernel) [618, 1272] (by decide +kernel) (by decide +kernel) (by decide +kernel)
theorem zkL_15 : zckC ze_L_law zrL_15 := zckC_of (by decide +kernel) [622, 1276, 632] (by decide +kernel) (by decide +kernel) (by decide +kernel)
theorem zkL_16 : zckC ze_L_law zrL_16 := zckC_of (by decide +kernel) [1304, 648, 1288, 662, 1308] (by decide +kernel) (by decide +kernel) (by decide +kernel)
theorem zkL_17 : zckC ze_L_law zrL_17 := zckC_of (by decide +kernel) [671, 1320, 682, 1328] (by decide +kernel) (by decide +kernel) (by decide +kernel)
theorem zkL_18 : zckC ze_L_law zrL_18 := zckC_of (by decide +kernel) [737, 1353, 747, 1366] (by decide +kernel) (by decide +kernel) (by decide +kernel)
theorem zkL_19 : zckC ze_L_law zrL_19 := zckC_of (by decide +kernel) [760, 1357, 764] (by decide +kernel) (by decide +kernel) (by decide +kernel)
theorem zkL_20 : zckC ze_L_law zrL_20 := zckC_of (by decide +kernel) [1371, 768, 1375, 778, 1383, 782, 1387] (by decide +kernel) (by decide +kernel) (by decide +kernel)
theorem zkL_21 : zckC ze_L_law zrL_21 := zckC_of (by decide +kernel) [790, 1395] (by decide +kernel) (by decide +kernel) (by decide +kernel)
theorem zkL_22 : zckC ze_L_law zrL_22 := zckC_of (by decide +kernel) [794, 1399, 802] (by decide +kernel) (by decide +kernel) (by decide +kernel)
theorem zkL_23 : zckC ze_L_law zrL_23 := zckC_of (by decide +kernel) [1407, 806, 1412] (by decide +kernel) (by decide +kernel) (by decide +kernel)
theorem zkL_24 : zckC ze_L_law zrL_24 := zckC_of (by decide +kernel) [811, 1416, 834] (by decide +kernel) (by decide +kernel) (by decide +kernel)
theorem zkL_25 : zckC ze_L_law zrL_25 := zckC_of (by decide +kernel) [1432, 838] (by decide +kernel) (by decide +kernel) (by decide +kernel)
theorem zkL_26 : zckC ze_L_law zrL_26 := zckC_of (by decide +kernel) [1436, 846, 1440] (by decide +kernel) (by decide +kernel) (by decide +kernel)
theorem zkL_27 : zckC ze_L_law zrL_27 := zckC_of (by decide +kernel) [860, 1449, 864, 1453, 868, 1457, 872] (by decide +kernel) (by decide +kernel) (by decide +kernel)
theorem zkL_28 : zckC ze_L_law zrL_28 := zckC_of (by decide +kernel) [1461, 876, 1465, 880, 1469, 894] (by decide +kernel) (by decide +kernel) (by decide +kernel)
theorem zkL_29 : zckC ze_L_law zrL_29 := zckC_of (by decide +kernel) [1486, 898, 1490, 902] (by decide +kernel) (by decide +kernel) (by decide +kernel)
theorem zkL_30 : zckC ze_L_law zrL_30 := zckC_of (by decide +kernel) [1494, 910, 1498, 914, 1502, 918, 1506] (by decide +kernel) (by decide +kernel) (by decide +kernel)
theorem zkL_31 : zckC ze_L_law zrL_31 := zckC_of (by decide +kernel) [922, 1510] (by decide +kernel) (by decide +kernel) (by decide +kernel)
theorem zk_L_law : zOkC zprog zst zTG zTN ze_L_law := zOkC_chunks (List.forall_mem_cons.mpr ⟨zkL_0, List.forall_mem_cons.mpr ⟨zkL_1, List.forall_mem_cons.mpr ⟨zkL_2, List.forall_mem_cons.mpr ⟨zkL_3, List.forall_mem_cons.mpr ⟨zkL_4, List.forall_mem_cons.mpr ⟨zkL_5, List.forall_mem_cons.mpr ⟨zkL_6, List.forall_mem_cons.mpr ⟨zkL_7, List.forall_mem_cons.mpr ⟨zkL_8, List.forall_mem_cons.mpr ⟨zkL_9, List.forall_mem_cons.mpr ⟨zkL_10, List.forall_mem_cons.mpr ⟨zkL_11, List.forall_mem_cons.mpr ⟨zkL_12, List.forall_mem_cons.mpr ⟨zkL_13, List.forall_mem_cons.mpr ⟨zkL_14, List.forall_mem_cons.mpr ⟨zkL_15, List.forall_mem_cons.mpr ⟨zkL_16, List.forall_mem_cons.mpr ⟨zkL_17, List.forall_mem_cons.mpr ⟨zkL_18, List.forall_mem_cons.mpr ⟨zkL_19, List.forall_mem_cons.mpr ⟨zkL_20, List.forall_mem_cons.mpr ⟨zkL_21, List.forall_mem_cons.mpr ⟨zkL_22, List.forall_mem_cons.mpr ⟨zkL_23, List.forall_mem_cons.mpr ⟨zkL_24, List.forall_mem_cons.mpr ⟨zkL_25, List.forall_mem_cons.mpr ⟨zkL_26, List.forall_mem_cons.mpr ⟨zkL_27, List.forall_mem_cons.mpr ⟨zkL_28, List.forall_mem_cons.mpr ⟨zkL_29, List.forall_mem_cons.mpr ⟨zkL_30, List.forall_mem_cons.mpr ⟨zkL_31, fun _ h => absurd h List.not_mem_nil⟩⟩⟩⟩⟩⟩⟩⟩⟩⟩⟩⟩⟩⟩⟩⟩⟩⟩⟩⟩⟩⟩⟩⟩⟩⟩⟩⟩⟩⟩⟩⟩)
end
section
set_option maxRecDepth 100000 in
theorem z_all : ∀ E ∈ zprogL, zOkC zprog zst zTG zTN E ∧ zmside E = true ∧ ∀ w ∈ zmwords E, w ∈ zTG :=
  List.forall_mem_cons.mpr ⟨⟨zk_X4_isWithin, zs_X4_isWithin, zm_X4_isWithin⟩,
  List.forall_mem_cons.mpr ⟨⟨zk_X5_in, zs_X5_in, zm_X5_in⟩,
  List.forall_mem_cons.mpr ⟨⟨zk_X4_refuse, zs_X4_refuse, zm_X4_refuse⟩,
  List.forall_mem_cons.mpr ⟨⟨zk_X5_refuse, zs_X5_refuse, zm_X5_refuse⟩,
  List.forall_mem_cons.mpr ⟨⟨zk_X4_isShelf, zs_X4_isShelf, zm_X4_isShelf⟩,
  List.forall_mem_cons.mpr ⟨⟨zk_X1_isSlip, zs_X1_isSlip, zm_X1_isSlip⟩,
  List.forall_mem_cons.mpr ⟨⟨zk_X1_quartersOf, zs_X1_quartersOf, zm_X1_quartersOf⟩,
  List.forall_mem_cons.mpr ⟨⟨zk_X5_fullWith, zs_X5_fullWith, zm_X5_fullWith⟩,
  List.forall_mem_cons.mpr ⟨⟨zk_X4_thing, zs_X4_thing, zm_X4_thing⟩,
  List.forall_mem_cons.mpr ⟨⟨zk_X5_thing, zs_X5_thing, zm_X5_thing⟩,
  List.forall_mem_cons.mpr ⟨⟨zk_X0_holdsRow, zs_X0_holdsRow, zm_X0_holdsRow⟩,
  List.forall_mem_cons.mpr ⟨⟨zk_X0_lackOfRow, zs_X0_lackOfRow, zm_X0_lackOfRow⟩,
  List.forall_mem_cons.mpr ⟨⟨zk_X4_slipOf, zs_X4_slipOf, zm_X4_slipOf⟩,
  List.forall_mem_cons.mpr ⟨⟨zk_X5_slipOf, zs_X5_slipOf, zm_X5_slipOf⟩,
  List.forall_mem_cons.mpr ⟨⟨zk_X5_thingOn, zs_X5_thingOn, zm_X5_thingOn⟩,
  List.forall_mem_cons.mpr ⟨⟨zk_X4_copy, zs_X4_copy, zm_X4_copy⟩,
  List.forall_mem_cons.mpr ⟨⟨zk_X5_copy, zs_X5_copy, zm_X5_copy⟩,
  List.forall_mem_cons.mpr ⟨⟨zk_X4_row, zs_X4_row, zm_X4_row⟩,
  List.forall_mem_cons.mpr ⟨⟨zk_X5_row, zs_X5_row, zm_X5_row⟩,
  List.forall_mem_cons.mpr ⟨⟨zk_X1_thingOn, zs_X1_thingOn, zm_X1_thingOn⟩,
  List.forall_mem_cons.mpr ⟨⟨zk_X1_isThing, zs_X1_isThing, zm_X1_isThing⟩,
  List.forall_mem_cons.mpr ⟨⟨zk_X5_canDraw, zs_X5_canDraw, zm_X5_canDraw⟩,
  List.forall_mem_cons.mpr ⟨⟨zk_X5_isWinner, zs_X5_isWinner, zm_X5_isWinner⟩,
  List.forall_mem_cons.mpr ⟨⟨zk_X4_lackOfRows, zs_X4_lackOfRows, zm_X4_lackOfRows⟩,
  List.forall_mem_cons.mpr ⟨⟨zk_X1_isIn, zs_X1_isIn, zm_X1_isIn⟩,
  List.forall_mem_cons.mpr ⟨⟨zk_X4_asNumber, zs_X4_asNumber, zm_X4_asNumber⟩,
  List.forall_mem_cons.mpr ⟨⟨zk_X1_stands, zs_X1_stands, zm_X1_stands⟩,
  List.forall_mem_cons.mpr ⟨⟨zk_X4_lackOfBook, zs_X4_lackOfBook, zm_X4_lackOfBook⟩,
  List.forall_mem_cons.mpr ⟨⟨zk_X5_noBook, zs_X5_noBook, zm_X5_noBook⟩,
  List.forall_mem_cons.mpr ⟨⟨zk_X0_init, zs_X0_init, zm_X0_init⟩,
  List.forall_mem_cons.mpr ⟨⟨zk_X1_isBuyer, zs_X1_isBuyer, zm_X1_isBuyer⟩,
  List.forall_mem_cons.mpr ⟨⟨zk_X1_isWinner, zs_X1_isWinner, zm_X1_isWinner⟩,
  List.forall_mem_cons.mpr ⟨⟨zk_X1_canBeDrawn, zs_X1_canBeDrawn, zm_X1_canBeDrawn⟩,
  List.forall_mem_cons.mpr ⟨⟨zk_X5_over, zs_X5_over, zm_X5_over⟩,
  List.forall_mem_cons.mpr ⟨⟨zk_X4_show, zs_X4_show, zm_X4_show⟩,
  List.forall_mem_cons.mpr ⟨⟨zk_X5_show, zs_X5_show, zm_X5_show⟩,
  List.forall_mem_cons.mpr ⟨⟨zk_X4_says, zs_X4_says, zm_X4_says⟩,
  List.forall_mem_cons.mpr ⟨⟨zk_X5_says, zs_X5_says, zm_X5_says⟩,
  List.forall_mem_cons.mpr ⟨⟨zk_X4_judge, zs_X4_judge, zm_X4_judge⟩,
  List.forall_mem_cons.mpr ⟨⟨zk_X5_judge, zs_X5_judge, zm_X5_judge⟩,
  List.forall_mem_cons.mpr ⟨⟨zk_X4_won, zs_X4_won, zm_X4_won⟩,
  List.forall_mem_cons.mpr ⟨⟨zk_X5_won, zs_X5_won, zm_X5_won⟩,
  List.forall_mem_cons.mpr ⟨⟨zk_X5_isBuyer, zs_X5_isBuyer, zm_X5_isBuyer⟩,
  List.forall_mem_cons.mpr ⟨⟨zk_X4_guess, zs_X4_guess, zm_X4_guess⟩,
  List.forall_mem_cons.mpr ⟨⟨zk_X5_guess, zs_X5_guess, zm_X5_guess⟩,
  List.forall_mem_cons.mpr ⟨⟨zk_X1_countIn, zs_X1_countIn, zm_X1_countIn⟩,
  List.forall_mem_cons.mpr ⟨⟨zk_J13_bitCount_95d88, zs_J13_bitCount_95d88, zm_J13_bitCount_95d88⟩,
  List.forall_mem_cons.mpr ⟨⟨zk_X5_noRow, zs_X5_noRow, zm_X5_noRow⟩,
  List.forall_mem_cons.mpr ⟨⟨zk_X5_inside, zs_X5_inside, zm_X5_inside⟩,
  List.forall_mem_cons.mpr ⟨⟨zk_X1_putAllIn, zs_X1_putAllIn, zm_X1_putAllIn⟩,
  List.forall_mem_cons.mpr ⟨⟨zk_X1_putSlips, zs_X1_putSlips, zm_X1_putSlips⟩,
  List.forall_mem_cons.mpr ⟨⟨zk_X5_isThing, zs_X5_isThing, zm_X5_isThing⟩,
  List.forall_mem_cons.mpr ⟨⟨zk_X4_wins, zs_X4_wins, zm_X4_wins⟩,
  List.forall_mem_cons.mpr ⟨⟨zk_X5_wins, zs_X5_wins, zm_X5_wins⟩,
  List.forall_mem_cons.mpr ⟨⟨zk_X1_init, zs_X1_init, zm_X1_init⟩,
  List.forall_mem_cons.mpr ⟨⟨zk_X1_wonBySlip, zs_X1_wonBySlip, zm_X1_wonBySlip⟩,
  List.forall_mem_cons.mpr ⟨⟨zk_X5_winsBy, zs_X5_winsBy, zm_X5_winsBy⟩,
  List.forall_mem_cons.mpr ⟨⟨zk_X1_takingsAt, zs_X1_takingsAt, zm_X1_takingsAt⟩,
  List.forall_mem_cons.mpr ⟨⟨zk_X5_takingsAt, zs_X5_takingsAt, zm_X5_takingsAt⟩,
  List.forall_mem_cons.mpr ⟨⟨zk_X4_status, zs_X4_status, zm_X4_status⟩,
  List.forall_mem_cons.mpr ⟨⟨zk_X5_status, zs_X5_status, zm_X5_status⟩,
  List.forall_mem_cons.mpr ⟨⟨zk_X4_booked, zs_X4_booked, zm_X4_booked⟩,
  List.forall_mem_cons.mpr ⟨⟨zk_X5_booked, zs_X5_booked, zm_X5_booked⟩,
  List.forall_mem_cons.mpr ⟨⟨zk_X4_price, zs_X4_price, zm_X4_price⟩,
  List.forall_mem_cons.mpr ⟨⟨zk_X5_price, zs_X5_price, zm_X5_price⟩,
  List.forall_mem_cons.mpr ⟨⟨zk_X5_suspected, zs_X5_suspected, zm_X5_suspected⟩,
  List.forall_mem_cons.mpr ⟨⟨zk_X4_sureness, zs_X4_sureness, zm_X4_sureness⟩,
  List.forall_mem_cons.mpr ⟨⟨zk_X4_set, zs_X4_set, zm_X4_set⟩,
  List.forall_mem_cons.mpr ⟨⟨zk_X5_set, zs_X5_set, zm_X5_set⟩,
  List.forall_mem_cons.mpr ⟨⟨zk_X4_element, zs_X4_element, zm_X4_element⟩,
  List.forall_mem_cons.mpr ⟨⟨zk_X5_element, zs_X5_element, zm_X5_element⟩,
  List.forall_mem_cons.mpr ⟨⟨zk_X4_holds, zs_X4_holds, zm_X4_holds⟩,
  List.forall_mem_cons.mpr ⟨⟨zk_X5_holds, zs_X5_holds, zm_X5_holds⟩,
  List.forall_mem_cons.mpr ⟨⟨zk_X5_init, zs_X5_init, zm_X5_init⟩,
  List.forall_mem_cons.mpr ⟨⟨zk_X0_putRow, zs_X0_putRow, zm_X0_putRow⟩,
  List.forall_mem_cons.mpr ⟨⟨zk_X0_hasElement, zs_X0_hasElement, zm_X0_hasElement⟩,
  List.forall_mem_cons.mpr ⟨⟨zk_X4_init, zs_X4_init, zm_X4_init⟩,
  List.forall_mem_cons.mpr ⟨⟨zk_X3_init, zs_X3_init, zm_X3_init⟩,
  List.forall_mem_cons.mpr ⟨⟨zk_X2_init, zs_X2_init, zm_X2_init⟩,
  List.forall_mem_cons.mpr ⟨⟨zk_X2_isWord, zs_X2_isWord, zm_X2_isWord⟩,
  List.forall_mem_cons.mpr ⟨⟨zk_X5_isWord, zs_X5_isWord, zm_X5_isWord⟩,
  List.forall_mem_cons.mpr ⟨⟨zk_X4_sure, zs_X4_sure, zm_X4_sure⟩,
  List.forall_mem_cons.mpr ⟨⟨zk_X5_sure, zs_X5_sure, zm_X5_sure⟩,
  List.forall_mem_cons.mpr ⟨⟨zk_X4_suspect, zs_X4_suspect, zm_X4_suspect⟩,
  List.forall_mem_cons.mpr ⟨⟨zk_X5_suspect, zs_X5_suspect, zm_X5_suspect⟩,
  List.forall_mem_cons.mpr ⟨⟨zk_X1_isFreeForThing, zs_X1_isFreeForThing, zm_X1_isFreeForThing⟩,
  List.forall_mem_cons.mpr ⟨⟨zk_X1_addThing, zs_X1_addThing, zm_X1_addThing⟩,
  List.forall_mem_cons.mpr ⟨⟨zk_X5_addThing, zs_X5_addThing, zm_X5_addThing⟩,
  List.forall_mem_cons.mpr ⟨⟨zk_X1_standing, zs_X1_standing, zm_X1_standing⟩,
  List.forall_mem_cons.mpr ⟨⟨zk_X1_thingsOwnedBy, zs_X1_thingsOwnedBy, zm_X1_thingsOwnedBy⟩,
  List.forall_mem_cons.mpr ⟨⟨zk_X4_slips, zs_X4_slips, zm_X4_slips⟩,
  List.forall_mem_cons.mpr ⟨⟨zk_X5_slips, zs_X5_slips, zm_X5_slips⟩,
  List.forall_mem_cons.mpr ⟨⟨zk_X4_rule, zs_X4_rule, zm_X4_rule⟩,
  List.forall_mem_cons.mpr ⟨⟨zk_X5_rule, zs_X5_rule, zm_X5_rule⟩,
  List.forall_mem_cons.mpr ⟨⟨zk_X4_buyer, zs_X4_buyer, zm_X4_buyer⟩,
  List.forall_mem_cons.mpr ⟨⟨zk_X5_buyer, zs_X5_buyer, zm_X5_buyer⟩,
  List.forall_mem_cons.mpr ⟨⟨zk_X4_feed, zs_X4_feed, zm_X4_feed⟩,
  List.forall_mem_cons.mpr ⟨⟨zk_X5_feed, zs_X5_feed, zm_X5_feed⟩,
  List.forall_mem_cons.mpr ⟨⟨zk_X5_takeFrom, zs_X5_takeFrom, zm_X5_takeFrom⟩,
  List.forall_mem_cons.mpr ⟨⟨zk_J6_bitCount_0f7a4, zs_J6_bitCount_0f7a4, zm_J6_bitCount_0f7a4⟩,
  List.forall_mem_cons.mpr ⟨⟨zk_X4_takings, zs_X4_takings, zm_X4_takings⟩,
  List.forall_mem_cons.mpr ⟨⟨zk_X5_takings, zs_X5_takings, zm_X5_takings⟩,
  List.forall_mem_cons.mpr ⟨⟨zk_X4_left, zs_X4_left, zm_X4_left⟩,
  List.forall_mem_cons.mpr ⟨⟨zk_X5_left, zs_X5_left, zm_X5_left⟩,
  List.forall_mem_cons.mpr ⟨⟨zk_X4_fete, zs_X4_fete, zm_X4_fete⟩,
  List.forall_mem_cons.mpr ⟨⟨zk_X5_fete, zs_X5_fete, zm_X5_fete⟩,
  List.forall_mem_cons.mpr ⟨⟨zk_X4_likes, zs_X4_likes, zm_X4_likes⟩,
  List.forall_mem_cons.mpr ⟨⟨zk_X5_likes, zs_X5_likes, zm_X5_likes⟩,
  List.forall_mem_cons.mpr ⟨⟨zk_X4_purse, zs_X4_purse, zm_X4_purse⟩,
  List.forall_mem_cons.mpr ⟨⟨zk_X5_purse, zs_X5_purse, zm_X5_purse⟩,
  List.forall_mem_cons.mpr ⟨⟨zk_X1_become, zs_X1_become, zm_X1_become⟩,
  List.forall_mem_cons.mpr ⟨⟨zk_X4_thingOf, zs_X4_thingOf, zm_X4_thingOf⟩,
  List.forall_mem_cons.mpr ⟨⟨zk_X5_thingOf, zs_X5_thingOf, zm_X5_thingOf⟩,
  List.forall_mem_cons.mpr ⟨⟨zk_X4_buyerOf, zs_X4_buyerOf, zm_X4_buyerOf⟩,
  List.forall_mem_cons.mpr ⟨⟨zk_X5_buyerOf, zs_X5_buyerOf, zm_X5_buyerOf⟩,
  List.forall_mem_cons.mpr ⟨⟨zk_X1_countDrawable, zs_X1_countDrawable, zm_X1_countDrawable⟩,
  List.forall_mem_cons.mpr ⟨⟨zk_X1_thingsReady, zs_X1_thingsReady, zm_X1_thingsReady⟩,
  List.forall_mem_cons.mpr ⟨⟨zk_X5_drawableMany, zs_X5_drawableMany, zm_X5_drawableMany⟩,
  List.forall_mem_cons.mpr ⟨⟨zk_X4_worth, zs_X4_worth, zm_X4_worth⟩,
  List.forall_mem_cons.mpr ⟨⟨zk_X5_worth, zs_X5_worth, zm_X5_worth⟩,
  List.forall_mem_cons.mpr ⟨⟨zk_X4_plan, zs_X4_plan, zm_X4_plan⟩,
  List.forall_mem_cons.mpr ⟨⟨zk_X5_plan, zs_X5_plan, zm_X5_plan⟩,
  List.forall_mem_cons.mpr ⟨⟨zk_X4_till, zs_X4_till, zm_X4_till⟩,
  List.forall_mem_cons.mpr ⟨⟨zk_X5_till, zs_X5_till, zm_X5_till⟩,
  List.forall_mem_cons.mpr ⟨⟨zk_X4_atOnce, zs_X4_atOnce, zm_X4_atOnce⟩,
  List.forall_mem_cons.mpr ⟨⟨zk_X5_atOnce, zs_X5_atOnce, zm_X5_atOnce⟩,
  List.forall_mem_cons.mpr ⟨⟨zk_X4_mean, zs_X4_mean, zm_X4_mean⟩,
  List.forall_mem_cons.mpr ⟨⟨zk_X5_mean, zs_X5_mean, zm_X5_mean⟩,
  List.forall_mem_cons.mpr ⟨⟨zk_X4_all, zs_X4_all, zm_X4_all⟩,
  List.forall_mem_cons.mpr ⟨⟨zk_X5_all, zs_X5_all, zm_X5_all⟩,
  List.forall_mem_cons.mpr ⟨⟨zk_X1_thingsUnder, zs_X1_thingsUnder, zm_X1_thingsUnder⟩,
  List.forall_mem_cons.mpr ⟨⟨zk_X4_chain, zs_X4_chain, zm_X4_chain⟩,
  List.forall_mem_cons.mpr ⟨⟨zk_X5_chain, zs_X5_chain, zm_X5_chain⟩,
  List.forall_mem_cons.mpr ⟨⟨zk_X4_dearest, zs_X4_dearest, zm_X4_dearest⟩,
  List.forall_mem_cons.mpr ⟨⟨zk_X5_dearest, zs_X5_dearest, zm_X5_dearest⟩,
  List.forall_mem_cons.mpr ⟨⟨zk_X4_fondest, zs_X4_fondest, zm_X4_fondest⟩,
  List.forall_mem_cons.mpr ⟨⟨zk_X5_fondest, zs_X5_fondest, zm_X5_fondest⟩,
  List.forall_mem_cons.mpr ⟨⟨zk_X4_go, zs_X4_go, zm_X4_go⟩,
  List.forall_mem_cons.mpr ⟨⟨zk_X5_go, zs_X5_go, zm_X5_go⟩,
  List.forall_mem_cons.mpr ⟨⟨zk_X4_five, zs_X4_five, zm_X4_five⟩,
  List.forall_mem_cons.mpr ⟨⟨zk_X5_five, zs_X5_five, zm_X5_five⟩,
  List.forall_mem_cons.mpr ⟨⟨zk_X4_plays, zs_X4_plays, zm_X4_plays⟩,
  List.forall_mem_cons.mpr ⟨⟨zk_X5_plays, zs_X5_plays, zm_X5_plays⟩,
  List.forall_mem_cons.mpr ⟨⟨zk_X5_becomeSlips, zs_X5_becomeSlips, zm_X5_becomeSlips⟩,
  List.forall_mem_cons.mpr ⟨⟨zk_X1_addBuyer, zs_X1_addBuyer, zm_X1_addBuyer⟩,
  List.forall_mem_cons.mpr ⟨⟨zk_X5_addBuyer, zs_X5_addBuyer, zm_X5_addBuyer⟩,
  List.forall_mem_cons.mpr ⟨⟨zk_X4_wipe, zs_X4_wipe, zm_X4_wipe⟩,
  List.forall_mem_cons.mpr ⟨⟨zk_X5_wipe, zs_X5_wipe, zm_X5_wipe⟩,
  List.forall_mem_cons.mpr ⟨⟨zk_X4_stall, zs_X4_stall, zm_X4_stall⟩,
  List.forall_mem_cons.mpr ⟨⟨zk_X2_readInto, zs_X2_readInto, zm_X2_readInto⟩,
  List.forall_mem_cons.mpr ⟨⟨zk_X2_step, zs_X2_step, zm_X2_step⟩,
  List.forall_mem_cons.mpr ⟨⟨zk_X2_readStatement, zs_X2_readStatement, zm_X2_readStatement⟩,
  List.forall_mem_cons.mpr ⟨⟨zk_X5_stall, zs_X5_stall, zm_X5_stall⟩,
  List.forall_mem_cons.mpr ⟨⟨zk_X5_fresh, zs_X5_fresh, zm_X5_fresh⟩,
  List.forall_mem_cons.mpr ⟨⟨zk_X5_readAll, zs_X5_readAll, zm_X5_readAll⟩,
  List.forall_mem_cons.mpr ⟨⟨zk_X5_look, zs_X5_look, zm_X5_look⟩,
  List.forall_mem_cons.mpr ⟨⟨zk_X5_statement, zs_X5_statement, zm_X5_statement⟩,
  List.forall_mem_cons.mpr ⟨⟨zk_X5_wrong, zs_X5_wrong, zm_X5_wrong⟩,
  List.forall_mem_cons.mpr ⟨⟨zk_X4_drawable, zs_X4_drawable, zm_X4_drawable⟩,
  List.forall_mem_cons.mpr ⟨⟨zk_X5_drawable, zs_X5_drawable, zm_X5_drawable⟩,
  List.forall_mem_cons.mpr ⟨⟨zk_X4_bestPrice, zs_X4_bestPrice, zm_X4_bestPrice⟩,
  List.forall_mem_cons.mpr ⟨⟨zk_X5_bestPrice, zs_X5_bestPrice, zm_X5_bestPrice⟩,
  List.forall_mem_cons.mpr ⟨⟨zk_X4_full, zs_X4_full, zm_X4_full⟩,
  List.forall_mem_cons.mpr ⟨⟨zk_X5_full, zs_X5_full, zm_X5_full⟩,
  List.forall_mem_cons.mpr ⟨⟨zk_X4_envy, zs_X4_envy, zm_X4_envy⟩,
  List.forall_mem_cons.mpr ⟨⟨zk_X5_envy, zs_X5_envy, zm_X5_envy⟩,
  List.forall_mem_cons.mpr ⟨⟨zk_X4_poorest, zs_X4_poorest, zm_X4_poorest⟩,
  List.forall_mem_cons.mpr ⟨⟨zk_X5_poorest, zs_X5_poorest, zm_X5_poorest⟩,
  List.forall_mem_cons.mpr ⟨⟨zk_X4_oldest, zs_X4_oldest, zm_X4_oldest⟩,
  List.forall_mem_cons.mpr ⟨⟨zk_X5_oldest, zs_X5_oldest, zm_X5_oldest⟩,
  List.forall_mem_cons.mpr ⟨⟨zk_X1_beginFete, zs_X1_beginFete, zm_X1_beginFete⟩,
  List.forall_mem_cons.mpr ⟨⟨zk_X4_seed, zs_X4_seed, zm_X4_seed⟩,
  List.forall_mem_cons.mpr ⟨⟨zk_X5_seed, zs_X5_seed, zm_X5_seed⟩,
  List.forall_mem_cons.mpr ⟨⟨zk_X4_image, zs_X4_image, zm_X4_image⟩,
  List.forall_mem_cons.mpr ⟨⟨zk_X5_image, zs_X5_image, zm_X5_image⟩,
  List.forall_mem_cons.mpr ⟨⟨zk_X4_back, zs_X4_back, zm_X4_back⟩,
  List.forall_mem_cons.mpr ⟨⟨zk_X5_back, zs_X5_back, zm_X5_back⟩,
  List.forall_mem_cons.mpr ⟨⟨zk_X5_standing, zs_X5_standing, zm_X5_standing⟩,
  List.forall_mem_cons.mpr ⟨⟨zk_X4_countShelvesInUse, zs_X4_countShelvesInUse, zm_X4_countShelvesInUse⟩,
  fun _ h => absurd h List.not_mem_nil⟩⟩⟩⟩⟩⟩⟩⟩⟩⟩⟩⟩⟩⟩⟩⟩⟩⟩⟩⟩⟩⟩⟩⟩⟩⟩⟩⟩⟩⟩⟩⟩⟩⟩⟩⟩⟩⟩⟩⟩⟩⟩⟩⟩⟩⟩⟩⟩⟩⟩⟩⟩⟩⟩⟩⟩⟩⟩⟩⟩⟩⟩⟩⟩⟩⟩⟩⟩⟩⟩⟩⟩⟩⟩⟩⟩⟩⟩⟩⟩⟩⟩⟩⟩⟩⟩⟩⟩⟩⟩⟩⟩⟩⟩⟩⟩⟩⟩⟩⟩⟩⟩⟩⟩⟩⟩⟩⟩⟩⟩⟩⟩⟩⟩⟩⟩⟩⟩⟩⟩⟩⟩⟩⟩⟩⟩⟩⟩⟩⟩⟩⟩⟩⟩⟩⟩⟩⟩⟩⟩⟩⟩⟩⟩⟩⟩⟩⟩⟩⟩⟩⟩⟩⟩⟩⟩⟩⟩⟩⟩⟩⟩⟩⟩⟩⟩⟩⟩⟩⟩⟩⟩⟩⟩⟩⟩⟩⟩⟩
theorem z_okP : zOkP zprog zst zTG zTN := fun j E hE => z_all E (List.mem_of_getElem? hE)
theorem z_inTG {ws : List Cond} (ps : List Nat) (h : ws = ps.filterMap (fun i => lw_tbl[i]?)) (h2 : ws.all goodWord = true) : ∀ w ∈ ws, w ∈ zTG := fun w hw => List.mem_filter.mpr ⟨zplaces ps h w hw, List.all_eq_true.mp h2 w hw⟩
theorem z_glob : ∀ w ∈ zglob, w ∈ zTG := z_inTG [73, 74, 322, 321, 59, 500, 60, 501] (by decide +kernel) (by decide +kernel)
theorem z_slw : ∀ w ∈ zslw, w ∈ zTG := z_inTG [1517, 519, 520, 521, 62, 522, 523, 1518] (by decide +kernel) (by decide +kernel)
theorem z_eslw : ∀ w ∈ zmwords zESL, w ∈ zTG := z_inTG [518, 516, 517, 62] (by decide +kernel) (by decide +kernel)
theorem z_uwsin : ∀ w ∈ zuws, w ∈ zTG := z_inTG [234, 236, 238, 130, 132, 134, 136, 138, 140, 142, 144, 146, 148, 150, 152, 154, 156, 158, 160, 162, 208, 210, 212, 214, 216, 218, 179, 181, 183, 185, 187, 189, 191, 250, 252, 254, 256, 258, 260, 262, 264, 981, 983, 985, 987, 989, 991, 993, 995, 997, 999, 1001, 1003, 1005, 1007, 1009, 1011, 1013, 1015, 1017, 1019, 1021, 1023, 1025, 1027, 1029, 1031, 1033, 1035, 1037, 1039, 1041, 1043, 1045, 1047, 1049, 1051, 1053, 1055, 1057, 1059, 1061] (by decide +kernel) (by decide +kernel)
end
section
def zixs : List Nat := [38, 47, 52, 57, 62, 67, 72, 94]
def ztm (i : Nat) : Term := Term.string "EndsInFive$Tape" (zixs.getD i 0)
abbrev zFl : List Cond := flatC (Jvm.Cond.and given_1 narrow_1)
theorem zn1 : ∀ i, i < 8 → Cond.exactly (ztm i) "java/lang/String" ∈ zFl := by decide +kernel
theorem zn2 : ∀ i, i < 8 → Cond.eq (.field (ztm i) "java/lang/String" "coder" "B") (.int 0) ∈ zFl := by decide +kernel
theorem zn3 : ∀ i, i < 8 → Cond.arrayOf (.field (ztm i) "java/lang/String" "value" "[B") .byte ∈ zFl := by decide +kernel
theorem zn4 : ∀ i, i < 8 → Cond.eq (.length (.field (ztm i) "java/lang/String" "value" "[B")) (.int (Int32.ofNat (zlens.getD i 0))) ∈ zFl := by decide +kernel
theorem zn5 : ∀ i, i < 8 → ∀ j, j < zlens.getD i 0 → Cond.eq (.elem (.field (ztm i) "java/lang/String" "value" "[B") (.int (Int32.ofNat j))) (.int ((zbyts.getD i []).getD j 0)) ∈ zFl := by decide +kernel
theorem zn6 : ∀ i, i < 8 → ∀ j, j < 8 → i ≠ j → Cond.not (Cond.eq (ztm i) (ztm j)) ∈ zFl ∨ Cond.not (Cond.eq (ztm j) (ztm i)) ∈ zFl := by decide +kernel
theorem zn7 : Cond.eq (.static "java/lang/String" "COMPACT_STRINGS" "Z") (.int 1) ∈ zFl := by decide +kernel
theorem zn8 : ∀ q ∈ zst, q.2.2.2 < 8 ∧ Cond.stringRef q.1 q.2.1 q.2.2.1 ∈ lw_tbl ∧ ((q.1 = "EndsInFive$Tape" ∧ q.2.1 = zixs.getD q.2.2.2 0) ∨ Cond.eq (ztm q.2.2.2) (.string q.1 q.2.1) ∈ zFl) := by decide +kernel
theorem zn9 : Cond.laysStatic "java/lang/String" "COMPACT_STRINGS" "Z" ∈ lw_tbl ∧ Cond.initialized "java/lang/String" ∈ lw_tbl := by decide +kernel
theorem zn10 : Cond.arrayOver (.object RX0) ∈ lw_tbl ∧ Cond.arrayOver (.array .long) ∈ lw_tbl ∧ Cond.arrayOver (.array .int) ∈ lw_tbl ∧ Cond.arrayClass .int ∈ lw_tbl ∧ Cond.arrayClass .long ∈ lw_tbl := by decide +kernel
theorem zn11 : ∀ a, a < 6 → Cond.instantiable (zRf a) (zNf a) ∈ lw_tbl := by decide +kernel
theorem z_arrc {s : State} {args : Array Value} {ty : FieldType} (hne : ∀ C, ty ≠ .object C) (h : (Cond.arrayClass ty).before args s = true) : ∃ c : ClassId, ArrOfT s c ty ∧ va_RA s c ty := by
  obtain ⟨c, k, comp, h1, h2, h3⟩ := Cond.arrayClass_spec h
  refine ⟨c, fun n z => ⟨fun k h => (by cases h), k, h2, comp, h3⟩, ?_⟩
  cases ty <;> first | exact h1 | exact absurd rfl (hne _)
theorem z_arro {s : State} {C : String} (h : va_AO C s) : ∃ c : ClassId, ArrOfT s c (.object C) ∧ va_RA s c (.object C) := by
  obtain ⟨comp, c, k, h1, h2, h3, h4, h5⟩ := Cond.arrayOver_spec h
  exact ⟨c, fun n z => ⟨fun k h => (by cases h), k, h3, comp, h4⟩, k, comp, h3, h4, h1, h5⟩
theorem z_arra {s : State} {ty : FieldType} (h : va_AOA ty s) : ∃ c : ClassId, ArrOfT s c (.array ty) ∧ va_RA s c (.array ty) := by
  obtain ⟨comp, c, k, h1, h2, h3, h4, h5⟩ := va_AOA.spec h
  exact ⟨c, fun n z => ⟨fun k h => (by cases h), k, h3, comp, h4⟩, h5⟩
theorem z_eqR {args : Array Value} {s : State} {t u : Term} {a : Nat} (h : (Cond.eq t u).before args s = true) (ht : t.eval args s none [] s = some (.ref a)) : u.eval args s none [] s = some (.ref a) := by
  cases hu : u.eval args s none [] s with
  | none => simp [Cond.before, Cond.holds, Cond.value, ht, hu] at h
  | some w =>
    cases w <;> simp [Cond.before, Cond.holds, Cond.value, ht, hu] at h
    rw [h]
def zext (b : Nat) (adK : Nat → Nat) (k : Nat) : Option Nat := if k = 10000000 then some b else if 1000000 ≤ k ∧ k < 1000008 then some (adK (k - 1000000)) else none
theorem z_start {s : State} {b : Nat} (hts : ∀ w ∈ lw_tbl, w.before #[Value.ref b] s = true) (hgv : (Jvm.Cond.and given_1 narrow_1).before #[Value.ref b] s = true) (hbl : b < s.heap.size) :
    ∃ (D : va_G) (ct : Nat → ClassId) (adK adV : Nat → Nat), va_K D vwCl (ztys ct) s ∧ (∀ w ∈ zTN, va_Nw w s) ∧ va_AO RX0 s ∧ va_AOA .long s ∧ va_AOA .int s ∧
      ∀ (scr : List zV) (xs : Nat → Int32), va_X b scr.length xs s s.heap → (∀ (j : Nat) (v : zV), scr[j]? = some v → zisI v = true ∧ zg (fun _ => none) v (.int (xs j))) → zFacts zst scr adK adV (zext b adK) (fun q : Nat => s.heap.size ≤ q) s s.heap := by
  have hs : ∀ c ∈ zFl, c.before #[Value.ref b] s = true := flat_of_before _ hgv
  have hA : ∀ a : Nat, a < s.heap.size → ¬ (fun q : Nat => s.heap.size ≤ q) a := fun a h q => absurd q (Nat.not_le.mpr h)
  have hO : va_AO RX0 s := va_AO.of (hts _ zn10.1)
  have hO1 : va_AOA .long s := hts _ zn10.2.1
  have hO2 : va_AOA .int s := hts _ zn10.2.2.1
  have hkn : ∀ a, a < 6 → ∃ (cC : ClassId) (iS : Nat → Nat), u_Kn s (zRf a) (zTf a) (zNf a) cC iS := fun a ha => u_known hts (fun w hw => (List.mem_filter.mp (z_uwsin w (z_uws ha w hw))).1) (hts _ (zn11 a ha))
  have hkn2 : ∀ a : Nat, ∃ q : ClassId × (Nat → Nat), a < 6 → u_Kn s (zRf a) (zTf a) (zNf a) q.1 q.2 := fun a => by
    by_cases ha : a < 6
    · obtain ⟨c, i, h⟩ := hkn a ha
      exact ⟨(c, i), fun _ => h⟩
    · exact ⟨(0, fun _ => 0), fun h => absurd h ha⟩
  obtain ⟨kf, hkf⟩ := Classical.axiomOfChoice hkn2
  obtain ⟨c0, a01, a02⟩ := z_arrc (ty := .int) (fun C h => by cases h) (hts _ zn10.2.2.2.1)
  obtain ⟨c1, a11, a12⟩ := z_arrc (ty := .long) (fun C h => by cases h) (hts _ zn10.2.2.2.2)
  obtain ⟨c2, a21, a22⟩ := z_arro hO
  obtain ⟨c3, a31, a32⟩ := z_arra hO1
  obtain ⟨c4, a41, a42⟩ := z_arra hO2
  have hN : ∀ i : Nat, i < 8 → zlens.getD i 0 < 2 ^ 31 := by decide +kernel
  obtain ⟨adK, adV, hSt, hev⟩ := vk_Sof (N := 8) (tm := ztm) (len := zlens) (byt := zbyts) (A := fun q : Nat => s.heap.size ≤ q) hN (fun i hi => hs _ (zn1 i hi)) (fun i hi => hs _ (zn2 i hi)) (fun i hi => hs _ (zn3 i hi)) (fun i hi => hs _ (zn4 i hi)) (fun i hi j hj => hs _ (zn5 i hi j hj)) (fun i j hi hj hij => (zn6 i hi j hj hij).elim (fun h => Or.inl (hs _ h)) (fun h => Or.inr (hs _ h))) hA
  refine ⟨(fun a => (kf a).1, fun a => (kf a).2), fun t => if t = 0 then c0 else if t = 1 then c1 else if t = 2 then c2 else if t = 3 then c3 else c4, adK, adV, ⟨?_, ?_⟩, fun w hw => ?_, hO, hO1, hO2, fun scr xs hX hscr => ?_⟩
  · intro c q hq
    have hc : c < 6 := (List.getElem?_eq_some_iff.mp hq).1
    have h1 := z_cl hc
    rw [hq] at h1
    cases h1
    exact hkf c hc
  · intro k q hq
    have hk : k < 5 := (List.getElem?_eq_some_iff.mp hq).1
    match k, hk, hq with
    | 0, _, hq => cases hq; exact ⟨a01, a02⟩
    | 1, _, hq => cases hq; exact ⟨a11, a12⟩
    | 2, _, hq => cases hq; exact ⟨a21, a22⟩
    | 3, _, hq => cases hq; exact ⟨a31, a32⟩
    | 4, _, hq => cases hq; exact ⟨a41, a42⟩
  · obtain ⟨_, _, _, _, rfl⟩ := zTNok_TN w hw
    exact va_Nw.of rfl (hts _ (List.mem_filter.mp hw).1)
  · refine ⟨fun q hq => ?_, fun i hi => ?_, hSt, va_Zof (hts _ zn9.1) (hts _ zn9.2) (va_eqt (hs _ zn7)) hA, b, xs, ?_, Nat.not_le.mpr hbl, hbl, hX, hscr⟩
    · obtain ⟨q1, q2, q3⟩ := zn8 q hq
      refine ⟨vk_R.of (hts _ q2) ?_, q1⟩
      rcases q3 with ⟨e1, e2⟩ | q3
      · have h1 := hev _ q1
        unfold ztm at h1
        rw [e1, e2]
        exact h1
      · exact z_eqR (hs _ q3) (hev _ q1)
    · unfold zext
      rw [if_neg (by omega), if_pos (by omega), show 1000000 + i - 1000000 = i by omega]
    · unfold zext
      rw [if_pos rfl]
end
section
/-! THE CLAIM OUT OF ONE WALK OF THE LAW'S BODY. Your part is whole_start (and what it stands on); all else here is the same for every law, but numbers. -/
def R_law : String := "EndsInFiveLaw"
def lw_P (b : Addr) (xs : List Int32) (args : Array Value) (s : State) : Prop := args = #[.ref b] ∧ s.IntsAt b xs ∧ xs.length ≤ 6 ∧ (Jvm.Cond.and given_1 narrow_1).before args s = true
def lw_Q (_ : Array Value) (s : State) (o : Outcome) (t : State) : Prop := o = .returned (some (.int 1)) ∧ Framed s o t [] 600000 7302250
def lw_Z (below : List Frame) (a : Array Value) (s : State) : State → Prop := fun t => ∃ o, t.status = .running ∧ Ended t below o ∧ lw_Q a s o t
/-- the law's own end, with 1 on the stack, nothing written that was there before, its room as the claim has it -/
theorem lw_ret {p : Program} {l : Launch} {e : Env} {s : State} {m : MethodId} {below : List Frame} {meth : Method} {c : Code} {b : Nat} (hx : p.tables.exec = Jvm.exec) (hb : c.code = code) (hr : meth.sig.returnType = ret) (hlocks : meth.locks = false) {pc : Nat} {H : Heap} {ls : Array Slot} (hdg : decode code pc = .ok (.ireturn, 1)) : W p l e room_1 s m #[Value.ref b] below meth c H [] 600000 7302250 (lw_Z below #[Value.ref b] s) (F0 m pc ls [.int 1]) := by
  intro T hT X
  obtain ⟨fs, hret, hrun, hended, hW, hframe⟩ := X.leave (v := some (.int 1)) (hlocks := hlocks) (fun h => by rw [hr] at h; cases h)
  have hmeth' : T.vm.method? m = some meth := X.method'
  refine ⟨T.setFrames fs, ?_, .returned (some (.int 1)), hrun, hended, rfl, ⟨_, rfl⟩, hW, hframe⟩
  jvm_step X.here [X.here.top, hx, hb, hdg, hmeth', hr, ret, narrow_b1]
  (try refine ⟨rfl, ?_⟩); (try refine ⟨rfl, ?_⟩)
  first | (intro acts; rw [hret _ acts rfl rfl rfl]) | rw [hret _ _ rfl rfl rfl]
  exact Steps.refl _
/-- what holds at the law's entry: the machine, the code, the tables' words (any of lw_tbl by 'hts w (by decide +kernel)'), the script of L ints xs at the cell b, what the Statement gives of the start (any of its parts by flat_of_before) -/
def lw_At (p : Program) (s : State) (m : MethodId) (meth : Method) (c : Code) (b L : Nat) (xs : Nat → Int32) : Prop :=
  p.tables.exec = Jvm.exec ∧ c.code = code ∧ meth.sig.returnType = ret ∧ c.maxLocals = 4 ∧ s.vm.findClass R_law = some m.cls ∧ (∀ w ∈ lw_tbl, w.before #[Value.ref b] s = true) ∧ va_X b L xs s s.heap ∧ b < s.heap.size ∧ meth.locks = false ∧ (Jvm.Cond.and given_1 narrow_1).before #[Value.ref b] s = true
end
section
def zh0 : zH := [(4, [.inl (.ref 1), .inl (.ref 9), .inl (.ref 17), .inl (.ref 25), .inl (.ref 29), .inl (.ref 31), .inl (.ref 32), .inl (.int 0)]),
  (1, [.inl (.int 20), .inl (.int 5), .inl (.int 10), .inl (.int 40), .inl (.int 0), .inl (.int 0), .inl (.int 1), .inl (.long 2097150), .inl (.int 0), .inl (.ref 2), .inl (.ref 3), .inl (.ref 4), .inl (.ref 5), .inl (.ref 6), .inl (.int 0), .inl (.ref 7), .inl (.ref 8)]),
  (10, List.replicate 8 (.inl (.int 0))),
  (10, List.replicate 8 (.inl (.int 0))),
  (10, List.replicate 8 (.inl (.int 0))),
  (10, List.replicate 8 (.inl (.int 0))),
  (10, List.replicate 8 (.inl (.int 0))),
  (10, List.replicate 4 (.inl (.int 0))),
  (10, List.replicate 32 (.inl (.int 0))),
  (1, [.inl (.int 20), .inl (.int 5), .inl (.int 10), .inl (.int 40), .inl (.int 0), .inl (.int 0), .inl (.int 1), .inl (.long 2097150), .inl (.int 0), .inl (.ref 10), .inl (.ref 11), .inl (.ref 12), .inl (.ref 13), .inl (.ref 14), .inl (.int 0), .inl (.ref 15), .inl (.ref 16)]),
  (10, List.replicate 8 (.inl (.int 0))),
  (10, List.replicate 8 (.inl (.int 0))),
  (10, List.replicate 8 (.inl (.int 0))),
  (10, List.replicate 8 (.inl (.int 0))),
  (10, List.replicate 8 (.inl (.int 0))),
  (10, List.replicate 4 (.inl (.int 0))),
  (10, List.replicate 32 (.inl (.int 0))),
  (1, [.inl (.int 20), .inl (.int 5), .inl (.int 10), .inl (.int 40), .inl (.int 0), .inl (.int 0), .inl (.int 1), .inl (.long 2097150), .inl (.int 0), .inl (.ref 18), .inl (.ref 19), .inl (.ref 20), .inl (.ref 21), .inl (.ref 22), .inl (.int 0), .inl (.ref 23), .inl (.ref 24)]),
  (10, List.replicate 8 (.inl (.int 0))),
  (10, List.replicate 8 (.inl (.int 0))),
  (10, List.replicate 8 (.inl (.int 0))),
  (10, List.replicate 8 (.inl (.int 0))),
  (10, List.replicate 8 (.inl (.int 0))),
  (10, List.replicate 4 (.inl (.int 0))),
  (10, List.replicate 32 (.inl (.int 0))),
  (3, [.inl (.ref 26), .inl (.ref 27), .inl (.ref 28), .inl (.int 0), .inl (.int 0), .inl (.int 0), .inl (.int 0)]),
  (10, List.replicate 256 (.inl (.int 0))),
  (10, List.replicate 488 (.inl (.int 0))),
  (10, List.replicate 256 (.inl (.int 0))),
  (2, [.inl (.ref 30), .inl (.int 0), .inl (.int 0), .inl (.int 0), .inl (.int 0), .inl (.int (-1))]),
  (10, List.replicate 250 (.inl (.int 0))),
  (12, [.inl (.ref 33), .inl (.ref 35), .inl (.ref 37), .inl (.ref 39), .inl (.ref 41), .inl (.ref 43), .inl (.ref 45), .inl (.ref 47)]),
  (10, List.replicate 5 (.inl (.int 0))),
  (0, [.inl (.int (-1)), .inl (.int 0), .inl (.ref 34)]),
  (11, List.replicate 40 (.inl (.long 0))),
  (0, [.inl (.int (-1)), .inl (.int 0), .inl (.ref 36)]),
  (11, List.replicate 40 (.inl (.long 0))),
  (0, [.inl (.int (-1)), .inl (.int 0), .inl (.ref 38)]),
  (11, List.replicate 40 (.inl (.long 0))),
  (0, [.inl (.int (-1)), .inl (.int 0), .inl (.ref 40)]),
  (11, List.replicate 40 (.inl (.long 0))),
  (0, [.inl (.int (-1)), .inl (.int 0), .inl (.ref 42)]),
  (11, List.replicate 40 (.inl (.long 0))),
  (0, [.inl (.int (-1)), .inl (.int 0), .inl (.ref 44)]),
  (11, List.replicate 40 (.inl (.long 0))),
  (0, [.inl (.int (-1)), .inl (.int 0), .inl (.ref 46)]),
  (11, List.replicate 40 (.inl (.long 0))),
  (0, [.inl (.int (-1)), .inl (.int 0), .inl (.ref 48)]),
  (11, List.replicate 40 (.inl (.long 0))),
  (5, [.inl (.ref 50), .inl (.ref 51), .inl (.ref 52), .inl (.ref 53), .inl (.ref 62), .inl (.ref 63), .inl (.ref 64), .inl (.int 0), .inl (.ref 65), .inl (.int 20), .inl (.int 5), .inl (.int 10), .inl (.int 40), .inl (.int 0), .inl (.int 0), .inl (.int 1), .inl (.ref 66), .inl (.int 0), .inl (.ref 67), .inl (.ref 68), .inl (.ref 69), .inl (.ref 70), .inl (.ref 71), .inl (.int 0), .inl (.ref 72), .inl (.ref 73), .inl .null, .inl .null, .inl (.int 0), .inl (.int 0), .inl (.int 0), .inl (.int 0), .inl (.int 0), .inl (.ref 78), .inl (.int 0), .inl .null, .inl (.int 0), .inl (.int 0), .inl (.int 0), .inl (.int 0), .inl (.int 0)]),
  (10, List.replicate 8 (.inl (.int 0))),
  (10, List.replicate 8 (.inl (.int 0))),
  (10, List.replicate 8 (.inl (.int 0))),
  (13, [.inl (.ref 54), .inl (.ref 55), .inl (.ref 56), .inl (.ref 57), .inl (.ref 58), .inl (.ref 59), .inl (.ref 60), .inl (.ref 61)]),
  (11, List.replicate 40 (.inl (.long 0))),
  (11, List.replicate 40 (.inl (.long 0))),
  (11, List.replicate 40 (.inl (.long 0))),
  (11, List.replicate 40 (.inl (.long 0))),
  (11, List.replicate 40 (.inl (.long 0))),
  (11, List.replicate 40 (.inl (.long 0))),
  (11, List.replicate 40 (.inl (.long 0))),
  (11, List.replicate 40 (.inl (.long 0))),
  (11, List.replicate 40 (.inl (.long 0))),
  (10, List.replicate 8 (.inl (.int 0))),
  (10, List.replicate 250 (.inl (.int 0))),
  (10, List.replicate 8 (.inl (.int 0))),
  (10, List.replicate 61 (.inl (.int 0))),
  (10, List.replicate 8 (.inl (.int 0))),
  (10, List.replicate 8 (.inl (.int 0))),
  (10, List.replicate 8 (.inl (.int 0))),
  (10, List.replicate 8 (.inl (.int 0))),
  (10, List.replicate 8 (.inl (.int 0))),
  (10, List.replicate 4 (.inl (.int 0))),
  (14, [.inl (.ref 74), .inl (.ref 75), .inl (.ref 76), .inl (.ref 77)]),
  (10, List.replicate 8 (.inl (.int 0))),
  (10, List.replicate 8 (.inl (.int 0))),
  (10, List.replicate 8 (.inl (.int 0))),
  (10, List.replicate 8 (.inl (.int 0))),
  (10, [.inl (.int 0), .inl (.int 0), .inl (.int 0)])]
def zl0s : zL := [(3, .inl (.int 0)), (2, .inl (.ref 49)), (1, .inl (.ref 0)), (0, .inl (.ref 10000000))]
noncomputable def zop1 (pc : Nat) (scr : List zV) : Bool := zrun zNf zdfl zslen zprog ze_L_law scr 600000 7302250 (zdeep zNf zdfl zslen zprog scr 10) (fun _ _ => false) (fun r _ => decide (r = some (.inl (.int 1)))) 2000 (pc, zl0s, [], zh0, 79, 2750)
def zscr (t : List zV) : List zV := zI0 :: (t ++ List.replicate (5 - t.length) zI0)
def zallT : List (List (Int × Int)) → (List zV → Bool) → Bool
  | [], f => f []
  | P :: Ps, f => P.all (fun q => zallT Ps (fun t => f (zmk q.1 q.2 :: t)))
def zcovF : Int → List (Int × Int) → Bool
  | lo, [] => decide (2147483647 < lo)
  | lo, q :: r => decide (q.1 = lo) && zcovF (q.2 + 1) r
def zcov (P : List (Int × Int)) : Bool := zcovF (-2147483648) P
theorem zcovF_sp : ∀ (P : List (Int × Int)) (lo : Int), zcovF lo P = true → ∀ x : Int, lo ≤ x → x ≤ 2147483647 → ∃ q ∈ P, q.1 ≤ x ∧ x ≤ q.2
  | [], lo, h, x, h1, h2 => by
    have h3 : 2147483647 < lo := of_decide_eq_true h
    omega
  | q :: r, lo, h, x, h1, h2 => by
    obtain ⟨h3, h4⟩ := z_and h
    have h3 : q.1 = lo := of_decide_eq_true h3
    by_cases hx : x ≤ q.2
    · exact ⟨q, List.mem_cons_self, by omega, hx⟩
    · obtain ⟨q', h5, h6⟩ := zcovF_sp r (q.2 + 1) h4 x (by omega) h2
      exact ⟨q', List.mem_cons_of_mem _ h5, h6⟩
theorem zmk_I (lo hi : Int) : zisI (zmk lo hi) = true := by
  unfold zmk
  split <;> rfl
theorem z_i32 (x : Int32) : -2147483648 ≤ x.toInt ∧ x.toInt ≤ 2147483647 := by
  have h1 := x.le_toInt
  have h2 := x.toInt_lt
  have h3 : -2147483648 ≤ x.toInt := by simpa using h1
  have h4 : x.toInt < 2147483648 := by simpa using h2
  exact ⟨h3, by omega⟩
theorem z_cover : ∀ (Ps : List (List (Int × Int))) (f : List zV → Bool) (ys : Nat → Int32), zallT Ps f = true → Ps.all zcov = true → ∃ t : List zV, f t = true ∧ t.length = Ps.length ∧ ∀ (j : Nat) (v : zV), t[j]? = some v → zisI v = true ∧ zg (fun _ => none) v (.int (ys j))
  | [], f, ys, h, _ => ⟨[], h, rfl, fun j v hj => by simp at hj⟩
  | P :: Ps, f, ys, h, hc => by
    rw [List.all_cons] at hc
    obtain ⟨h1, h2⟩ := z_and hc
    obtain ⟨q, hq, hq2⟩ := zcovF_sp P _ h1 (ys 0).toInt (z_i32 _).1 (z_i32 _).2
    have h3 : zallT Ps (fun t => f (zmk q.1 q.2 :: t)) = true := List.all_eq_true.mp h q hq
    obtain ⟨t, h4, h5, h6⟩ := z_cover Ps (fun t => f (zmk q.1 q.2 :: t)) (fun j => ys (j + 1)) h3 h2
    refine ⟨zmk q.1 q.2 :: t, h4, by simp [h5], fun j v hj => ?_⟩
    cases j with
    | zero =>
      cases hj
      exact ⟨zmk_I _ _, zmk_g hq2.1 hq2.2⟩
    | succ j => exact h6 j v (by simpa using hj)
theorem zscr_rel {t : List zV} {xs : Nat → Int32} (hl : t.length ≤ 5) (h : ∀ (j : Nat) (v : zV), t[j]? = some v → zisI v = true ∧ zg (fun _ => none) v (.int (xs (j + 1)))) : (zscr t).length = 6 ∧ ∀ (j : Nat) (v : zV), (zscr t)[j]? = some v → zisI v = true ∧ zg (fun _ => none) v (.int (xs j)) := by
  refine ⟨by unfold zscr; simp; omega, fun j v hj => ?_⟩
  unfold zscr at hj
  cases j with
  | zero =>
    cases hj
    exact ⟨rfl, zg_I0 _ _⟩
  | succ j =>
    rw [List.getElem?_cons_succ] at hj
    by_cases hj2 : j < t.length
    · rw [List.getElem?_append_left hj2] at hj
      exact h j v hj
    · rw [List.getElem?_append_right (by omega)] at hj
      have h2 := List.eq_of_mem_replicate (List.mem_of_getElem? hj)
      rw [h2]
      exact ⟨rfl, zg_I0 _ _⟩
theorem zd_27 : decode code 27 = .ok (.aload_n 0, 1) := by decide +kernel
theorem zd_28 : decode code 28 = .ok (.iload_n 3, 1) := by decide +kernel
theorem zd_29 : decode code 29 = .ok (.iaload, 1) := by decide +kernel
theorem zd_30 : decode code 30 = .ok (.bipush 63, 2) := by decide +kernel
theorem zd_32 : decode code 32 = .ok (.iand, 1) := by decide +kernel
def zoffs : Array Int := #[223, 266, 339, 402, 436, 459, 492, 525, 548, 571, 604, 647, 670, 713, 746, 769, 782, 795, 828, 861, 894, 907, 930, 953, 976, 999, 1022, 1055, 1078, 1101, 1114, 1127, 1160, 1193, 1226, 1249, 1282, 1315, 1358, 1381, 1404, 1427, 1440, 1453, 1466, 1489, 1512, 1535, 1558, 1581, 1594, 1607]
theorem zd_33 : decode code 33 = .ok (.tableswitch 1630 0 51 zoffs, 223) := by decide +kernel
def ztgs : List Nat := [256, 299, 372, 435, 469, 492, 525, 558, 581, 604, 637, 680, 703, 746, 779, 802, 815, 828, 861, 894, 927, 940, 963, 986, 1009, 1032, 1055, 1088, 1111, 1134, 1147, 1160, 1193, 1226, 1259, 1282, 1315, 1348, 1391, 1414, 1437, 1460, 1473, 1486, 1499, 1522, 1545, 1568, 1591, 1614, 1627, 1640]
theorem ztg_ok : ∀ j, j < 52 → zoffs[j]? = some ((ztgs.getD j 0 : Nat) - 33 : Int) := by decide +kernel
end
section
def zP_0 : List (List (Int × Int)) := [[(-2147483648, -1), (0, 0), (1, 1), (2, 2), (3, 3), (4, 4), (5, 5), (6, 6), (7, 7), (8, 2147483647)], [(-2147483648, -1), (0, 4), (5, 2147483647)], [(-2147483648, -1), (0, 40), (41, 2147483647)]]
theorem zcv_0 : zP_0.all zcov = true ∧ zP_0.length ≤ 5 := by decide +kernel
def zP_1 : List (List (Int × Int)) := [[(-2147483648, -1), (0, 0), (1, 1), (2, 2), (3, 3), (4, 4), (5, 5), (6, 6), (7, 7), (8, 2147483647)]]
theorem zcv_1 : zP_1.all zcov = true ∧ zP_1.length ≤ 5 := by decide +kernel
def zP_2 : List (List (Int × Int)) := [[(-2147483648, -1), (0, 0), (1, 1), (2, 2), (3, 3), (4, 4), (5, 5), (6, 6), (7, 7), (8, 2147483647)], [(-2147483648, -1), (0, 0), (1, 1), (2, 2), (3, 3), (4, 4), (5, 5), (6, 6), (7, 7), (8, 2147483647)]]
theorem zcv_2 : zP_2.all zcov = true ∧ zP_2.length ≤ 5 := by decide +kernel
def zP_3 : List (List (Int × Int)) := [[(-2147483648, -1), (0, 0), (1, 1), (2, 2), (3, 3), (4, 4), (5, 5), (6, 6), (7, 7), (8, 2147483647)]]
theorem zcv_3 : zP_3.all zcov = true ∧ zP_3.length ≤ 5 := by decide +kernel
def zP_4 : List (List (Int × Int)) := [[(-2147483648, -1), (0, 0), (1, 1), (2, 2), (3, 3), (4, 4), (5, 5), (6, 6), (7, 7), (8, 2147483647)]]
theorem zcv_4 : zP_4.all zcov = true ∧ zP_4.length ≤ 5 := by decide +kernel
def zP_5 : List (List (Int × Int)) := [[(-2147483648, -1), (0, 0), (1, 1), (2, 2), (3, 3), (4, 4), (5, 5), (6, 6), (7, 7), (8, 2147483647)], [(-2147483648, -2), (-1, -1), (0, 2147483647)]]
theorem zcv_5 : zP_5.all zcov = true ∧ zP_5.length ≤ 5 := by decide +kernel
def zP_6 : List (List (Int × Int)) := [[(-2147483648, -1), (0, 0), (1, 1), (2, 2), (3, 3), (4, 4), (5, 5), (6, 6), (7, 7), (8, 2147483647)], [(-2147483648, -1), (0, 5), (6, 2147483647)]]
theorem zcv_6 : zP_6.all zcov = true ∧ zP_6.length ≤ 5 := by decide +kernel
def zP_7 : List (List (Int × Int)) := [[(-2147483648, 0), (1, 60), (61, 2147483647)]]
theorem zcv_7 : zP_7.all zcov = true ∧ zP_7.length ≤ 5 := by decide +kernel
def zP_8 : List (List (Int × Int)) := [[(-2147483648, 1), (2, 10), (11, 2147483647)]]
theorem zcv_8 : zP_8.all zcov = true ∧ zP_8.length ≤ 5 := by decide +kernel
def zP_9 : List (List (Int × Int)) := [[(-2147483648, -1), (0, 0), (1, 1), (2, 2147483647)], [(-2147483648, 0), (1, 99), (100, 495), (496, 2147483647)]]
theorem zcv_9 : zP_9.all zcov = true ∧ zP_9.length ≤ 5 := by decide +kernel
def zP_10 : List (List (Int × Int)) := [[(-2147483648, -1), (0, 5), (6, 2147483647)], [(-2147483648, 0), (1, 1), (2, 2), (3, 3), (4, 4), (5, 5), (6, 6), (7, 7), (8, 8), (9, 9), (10, 10), (11, 11), (12, 12), (13, 13), (14, 14), (15, 15), (16, 16), (17, 17), (18, 18), (19, 19), (20, 20), (21, 2147483647)], [(-2147483648, -1), (0, 9), (10, 2147483647)]]
theorem zcv_10 : zP_10.all zcov = true ∧ zP_10.length ≤ 5 := by decide +kernel
def zP_11 : List (List (Int × Int)) := [[(-2147483648, -1), (0, 9999), (10000, 2147483647)]]
theorem zcv_11 : zP_11.all zcov = true ∧ zP_11.length ≤ 5 := by decide +kernel
def zP_12 : List (List (Int × Int)) := [[(-2147483648, -1), (0, 2147483647)]]
theorem zcv_12 : zP_12.all zcov = true ∧ zP_12.length ≤ 5 := by decide +kernel
def zP_13 : List (List (Int × Int)) := [[(-2147483648, -1), (0, 2147483647)]]
theorem zcv_13 : zP_13.all zcov = true ∧ zP_13.length ≤ 5 := by decide +kernel
def zP_14 : List (List (Int × Int)) := [[(-2147483648, -1), (0, 255), (256, 2147483647)]]
theorem zcv_14 : zP_14.all zcov = true ∧ zP_14.length ≤ 5 := by decide +kernel
def zP_15 : List (List (Int × Int)) := []
theorem zcv_15 : zP_15.all zcov = true ∧ zP_15.length ≤ 5 := by decide +kernel
def zP_16 : List (List (Int × Int)) := []
theorem zcv_16 : zP_16.all zcov = true ∧ zP_16.length ≤ 5 := by decide +kernel
def zP_17 : List (List (Int × Int)) := [[(-2147483648, -1), (0, 2147483647)]]
theorem zcv_17 : zP_17.all zcov = true ∧ zP_17.length ≤ 5 := by decide +kernel
def zP_18 : List (List (Int × Int)) := [[(-2147483648, -1), (0, 2147483647)]]
theorem zcv_18 : zP_18.all zcov = true ∧ zP_18.length ≤ 5 := by decide +kernel
def zP_19 : List (List (Int × Int)) := [[(-2147483648, 0), (1, 1), (2, 2), (3, 3), (4, 4), (5, 5), (6, 6), (7, 7), (8, 8), (9, 9), (10, 10), (11, 11), (12, 12), (13, 13), (14, 14), (15, 15), (16, 16), (17, 17), (18, 18), (19, 19), (20, 20), (21, 2147483647)], [(-2147483648, -1), (0, 0), (1, 1), (2, 2), (3, 3), (4, 2147483647)]]
theorem zcv_19 : zP_19.all zcov = true ∧ zP_19.length ≤ 5 := by decide +kernel
def zP_20 : List (List (Int × Int)) := []
theorem zcv_20 : zP_20.all zcov = true ∧ zP_20.length ≤ 5 := by decide +kernel
def zP_21 : List (List (Int × Int)) := [[(-2147483648, 0), (1, 1), (2, 2), (3, 3), (4, 4), (5, 5), (6, 6), (7, 7), (8, 8), (9, 9), (10, 10), (11, 11), (12, 12), (13, 13), (14, 14), (15, 15), (16, 16), (17, 17), (18, 18), (19, 19), (20, 20), (21, 2147483647)]]
theorem zcv_21 : zP_21.all zcov = true ∧ zP_21.length ≤ 5 := by decide +kernel
def zP_22 : List (List (Int × Int)) := [[(-2147483648, -1), (0, 2147483647)]]
theorem zcv_22 : zP_22.all zcov = true ∧ zP_22.length ≤ 5 := by decide +kernel
def zP_23 : List (List (Int × Int)) := [[(-2147483648, -1), (0, 2147483647)]]
theorem zcv_23 : zP_23.all zcov = true ∧ zP_23.length ≤ 5 := by decide +kernel
def zP_24 : List (List (Int × Int)) := [[(-2147483648, -1), (0, 2147483647)]]
theorem zcv_24 : zP_24.all zcov = true ∧ zP_24.length ≤ 5 := by decide +kernel
def zP_25 : List (List (Int × Int)) := [[(-2147483648, -1), (0, 2147483647)]]
theorem zcv_25 : zP_25.all zcov = true ∧ zP_25.length ≤ 5 := by decide +kernel
def zP_26 : List (List (Int × Int)) := [[(-2147483648, -1), (0, 2147483647)]]
theorem zcv_26 : zP_26.all zcov = true ∧ zP_26.length ≤ 5 := by decide +kernel
def zP_27 : List (List (Int × Int)) := [[(-2147483648, -1), (0, 2147483647)]]
theorem zcv_27 : zP_27.all zcov = true ∧ zP_27.length ≤ 5 := by decide +kernel
def zP_28 : List (List (Int × Int)) := [[(-2147483648, 0), (1, 99), (100, 2147483647)]]
theorem zcv_28 : zP_28.all zcov = true ∧ zP_28.length ≤ 5 := by decide +kernel
def zP_29 : List (List (Int × Int)) := []
theorem zcv_29 : zP_29.all zcov = true ∧ zP_29.length ≤ 5 := by decide +kernel
def zP_30 : List (List (Int × Int)) := []
theorem zcv_30 : zP_30.all zcov = true ∧ zP_30.length ≤ 5 := by decide +kernel
def zP_31 : List (List (Int × Int)) := [[(-2147483648, -1), (0, 0), (1, 1), (2, 2), (3, 3), (4, 4), (5, 2147483647)], [(-2147483648, -1), (0, 0), (1, 1), (2, 2147483647)]]
theorem zcv_31 : zP_31.all zcov = true ∧ zP_31.length ≤ 5 := by decide +kernel
def zP_34 : List (List (Int × Int)) := [[(-2147483648, -1), (0, 20), (21, 2147483647)]]
theorem zcv_34 : zP_34.all zcov = true ∧ zP_34.length ≤ 5 := by decide +kernel
def zP_35 : List (List (Int × Int)) := [[(-2147483648, -1), (0, 0), (1, 1), (2, 2), (3, 3), (4, 4), (5, 5), (6, 6), (7, 7), (8, 2147483647)], [(-2147483648, -1), (0, 40), (41, 2147483647)]]
theorem zcv_35 : zP_35.all zcov = true ∧ zP_35.length ≤ 5 := by decide +kernel
def zP_36 : List (List (Int × Int)) := [[(-2147483648, -1), (0, 0), (1, 1), (2, 2), (3, 3), (4, 4), (5, 5), (6, 6), (7, 7), (8, 2147483647)], [(-2147483648, -1), (0, 40), (41, 2147483647)]]
theorem zcv_36 : zP_36.all zcov = true ∧ zP_36.length ≤ 5 := by decide +kernel
def zP_37 : List (List (Int × Int)) := [[(-2147483648, -1), (0, 7), (8, 2147483647)], [(-2147483648, -1), (0, 40), (41, 2147483647)], [(-2147483648, -1), (0, 2147483647)]]
theorem zcv_37 : zP_37.all zcov = true ∧ zP_37.length ≤ 5 := by decide +kernel
def zP_38 : List (List (Int × Int)) := [[(-2147483648, -1), (0, 2147483647)]]
theorem zcv_38 : zP_38.all zcov = true ∧ zP_38.length ≤ 5 := by decide +kernel
def zP_39 : List (List (Int × Int)) := [[(-2147483648, -1), (0, 2147483647)]]
theorem zcv_39 : zP_39.all zcov = true ∧ zP_39.length ≤ 5 := by decide +kernel
def zP_40 : List (List (Int × Int)) := [[(-2147483648, -1), (0, 2147483647)]]
theorem zcv_40 : zP_40.all zcov = true ∧ zP_40.length ≤ 5 := by decide +kernel
def zP_41 : List (List (Int × Int)) := []
theorem zcv_41 : zP_41.all zcov = true ∧ zP_41.length ≤ 5 := by decide +kernel
def zP_42 : List (List (Int × Int)) := []
theorem zcv_42 : zP_42.all zcov = true ∧ zP_42.length ≤ 5 := by decide +kernel
def zP_43 : List (List (Int × Int)) := []
theorem zcv_43 : zP_43.all zcov = true ∧ zP_43.length ≤ 5 := by decide +kernel
def zP_44 : List (List (Int × Int)) := [[(-2147483648, -1), (0, 2147483647)]]
theorem zcv_44 : zP_44.all zcov = true ∧ zP_44.length ≤ 5 := by decide +kernel
def zP_45 : List (List (Int × Int)) := [[(-2147483648, -1), (0, 2147483647)]]
theorem zcv_45 : zP_45.all zcov = true ∧ zP_45.length ≤ 5 := by decide +kernel
def zP_46 : List (List (Int × Int)) := [[(-2147483648, -1), (0, 2147483647)]]
theorem zcv_46 : zP_46.all zcov = true ∧ zP_46.length ≤ 5 := by decide +kernel
def zP_47 : List (List (Int × Int)) := [[(-2147483648, -1), (0, 1000), (1001, 2147483647)]]
theorem zcv_47 : zP_47.all zcov = true ∧ zP_47.length ≤ 5 := by decide +kernel
def zP_48 : List (List (Int × Int)) := []
theorem zcv_48 : zP_48.all zcov = true ∧ zP_48.length ≤ 5 := by decide +kernel
def zP_49 : List (List (Int × Int)) := []
theorem zcv_49 : zP_49.all zcov = true ∧ zP_49.length ≤ 5 := by decide +kernel
def zP_50 : List (List (Int × Int)) := []
theorem zcv_50 : zP_50.all zcov = true ∧ zP_50.length ≤ 5 := by decide +kernel
def zP_51 : List (List (Int × Int)) := [[(-2147483648, -1), (0, 0), (1, 1), (2, 2), (3, 3), (4, 4), (5, 5), (6, 6), (7, 7), (8, 8), (9, 9), (10, 10), (11, 11), (12, 12), (13, 13), (14, 14), (15, 15), (16, 16), (17, 2147483647)]]
theorem zcv_51 : zP_51.all zcov = true ∧ zP_51.length ≤ 5 := by decide +kernel
def zP_52 : List (List (Int × Int)) := []
theorem zcv_52 : zP_52.all zcov = true ∧ zP_52.length ≤ 5 := by decide +kernel
end
section
def zpost1 : Option zV → zH → Bool := fun r _ => decide (r = some (.inl (.int 1)))
def zdeC : DecidableEq zC := inferInstance
def zdeH : DecidableEq zH := @instDecidableEqList _ zdeC
theorem zdec_ir {bs : ByteArray} {pc : Nat} (h : zdec bs pc .ireturn = true) : decode bs pc = .ok (.ireturn, 1) := of_decide_eq_true h
def zfin27 : Nat → zS → Bool := fun pc x => Nat.beq pc 27 && (Nat.beq x.1 27 && (decide (x.2.1 = zl0s) && (decide (x.2.2.1 = []) && (@decide (x.2.2.2.1 = zh0) (zdeH _ _) && (Nat.beq x.2.2.2.2.1 79 && Nat.beq x.2.2.2.2.2 2750)))))
theorem zfin27_sp {x : zS} (h : zfin27 x.1 x = true) : x = (27, zl0s, [], zh0, 79, 2750) := by
  obtain ⟨a, b, c, d, e, f⟩ := x
  obtain ⟨-, h⟩ := z_and h
  obtain ⟨h1, h⟩ := z_and h
  obtain ⟨h2, h⟩ := z_and h
  obtain ⟨h3, h⟩ := z_and h
  obtain ⟨h4, h⟩ := z_and h
  obtain ⟨h5, h6⟩ := z_and h
  have e1 : a = 27 := Nat.eq_of_beq_eq_true h1
  have e2 : b = zl0s := of_decide_eq_true h2
  have e3 : c = [] := of_decide_eq_true h3
  have e4 : d = zh0 := @of_decide_eq_true _ (zdeH _ _) h4
  have e5 : e = 79 := Nat.eq_of_beq_eq_true h5
  have e6 : f = 2750 := Nat.eq_of_beq_eq_true h6
  subst e1 e2 e3 e4 e5 e6
  rfl
theorem zseg1 : zrun zNf zdfl zslen zprog ze_L_law (zscr []) 600000 7302250 (zdeep zNf zdfl zslen zprog (zscr []) 10) zfin27 (fun _ _ => false) 300 (0, [(0, .inl (.ref 10000000))], [], [], 0, 0) = true := by decide +kernel
theorem zshort : ∀ n, n < 6 → zrun zNf zdfl zslen zprog ze_L_law (List.replicate n zI0) 600000 7302250 (zdeep zNf zdfl zslen zprog (List.replicate n zI0) 10) (fun _ _ => false) zpost1 300 (0, [(0, .inl (.ref 10000000))], [], [], 0, 0) = true := by decide +kernel
section
variable {p : Program} {l : Launch} {e : Env} {s : State} {m : MethodId} {below : List Frame} {meth : Method} {c : Code} {b : Nat} {D : va_G} {ct : Nat → ClassId} {adK adV : Nat → Nat}
def zGL (p : Program) (l : Launch) (e : Env) (s : State) (m : MethodId) (below : List Frame) (meth : Method) (c : Code) (b : Nat) (D : va_G) (ct : Nat → ClassId) (adK : Nat → Nat) (x : zS) : Prop :=
  zGo p l e room_1 s m #[Value.ref b] below meth c (lw_Z below #[Value.ref b] s) (zext b adK) D ct 4 600000 7302250 (fun q : Nat => s.heap.size ≤ q) [] x
theorem z_lawcx {L : Nat} {xs : Nat → Int32} {scr : List zV} (C0 : lw_At p s m meth c b L xs) (hK : va_K D vwCl (ztys ct) s) (hN : ∀ w ∈ zTN, va_Nw w s) (hO : va_AO RX0 s) (hO1 : va_AOA .long s) (hO2 : va_AOA .int s) (hF : zFacts zst scr adK adV (zext b adK) (fun q : Nat => s.heap.size ≤ q) s s.heap) :
    zCx p room_1 s m #[Value.ref b] meth c zprog zst zTG zTN scr adK adV (zext b adK) D ct (fun q : Nat => s.heap.size ≤ q) ze_L_law 600000 7302250 10 := by
  obtain ⟨hx, hb, hr, hml, hown, hts, hX, hbl, hlocks, hgv⟩ := C0
  exact ⟨hx, hb, hml, hown, fun w hw => hts w (List.mem_filter.mp hw).1, fun q => absurd q (by decide), hK, hN, hF, hO, hO1, hO2, fun q h => h, Nat.le_of_ble_eq_true rfl, Nat.le_of_ble_eq_true rfl, Nat.le_refl _, Nat.le_refl _, zk_L_law, z_uwsin⟩
theorem z_lawret {L : Nat} {xs : Nat → Int32} (C0 : lw_At p s m meth c b L xs) (x : zS) (i : zI) (hi : zft (zEd ze_L_law) x.1 = some i) (hr : zret ze_L_law.2.2.2.1 i.1 x.2.2.1 x.2.2.2.1 zpost1 = true) : zGL p l e s m below meth c b D ct adK x := by
  obtain ⟨hx, hb, hrt, hml, hown, hts, hX, hbl, hlocks, hgv⟩ := C0
  intro ls stc H locs ws hrel
  obtain ⟨hl, hL, hst, hH, hP, hD, hS, hnc, hns, hpre⟩ := hrel
  have k1 := (zk_L_law x.1 i hi).1
  refine W.widen hnc hns (va_forget hS.2.2 ?_)
  rcases zret_sp hr with ⟨v, hi1, hst1, hty, hp⟩ | ⟨v, hi1, hst1, hty, h9, hp⟩ | ⟨v, n9, hi1, hst1, hty, h9, hp⟩ | ⟨hi1, hst1, hty, hp⟩
  · have hp : some v = some (.inl (.int 1)) := of_decide_eq_true hp
    cases hp
    rw [hi1] at k1
    rw [hst1] at hst
    obtain ⟨w, r', rfl, hg, hr'⟩ := zL2_cons hst
    have e0 := zL2_nil hr'
    subst e0
    cases hg
    exact lw_ret hx hb hrt hlocks (zdec_ir k1)
  · cases hty
  · cases hty
  · cases hty
theorem z_lawrun {L : Nat} {xs : Nat → Int32} {scr : List zV} (C0 : lw_At p s m meth c b L xs) (C : zCx p room_1 s m #[Value.ref b] meth c zprog zst zTG zTN scr adK adV (zext b adK) D ct (fun q : Nat => s.heap.size ≤ q) ze_L_law 600000 7302250 10) {fin : Nat → zS → Bool} {post : Option zV → zH → Bool} (hfin : ∀ x : zS, fin x.1 x = true → zGL p l e s m below meth c b D ct adK x)
    (hpost : ∀ (x : zS) (i : zI), zret ze_L_law.2.2.2.1 i.1 x.2.2.1 x.2.2.2.1 post = true → zret ze_L_law.2.2.2.1 i.1 x.2.2.1 x.2.2.2.1 zpost1 = true) (n : Nat) (x : zS)
    (h : zrun zNf zdfl zslen zprog ze_L_law scr 600000 7302250 (zdeep zNf zdfl zslen zprog scr 10) fin post n x = true) : zGL p l e s m below meth c b D ct adK x :=
  zrun_sound C zGood_TG zTNok_TN z_okP (z_slen zGood_TG zTNok_TN z_slw z_uwsin 10) z_eslw z_glob (zdeep_sound zGood_TG zTNok_TN z_okP z_uwsin (fun d => z_slen zGood_TG zTNok_TN z_slw z_uwsin d) z_eslw z_glob 10) hfin (fun x i hi _ hr => z_lawret C0 x i hi (hpost x i hr)) n x h
theorem z_entry {x : zS} (hx : x = (0, [(0, .inl (.ref 10000000))], [], [], 0, 0)) (h : zGL p l e s m below meth c b D ct adK x) : W p l e room_1 s m #[Value.ref b] below meth c s.heap [] 0 0 (lw_Z below #[Value.ref b] s) (entryFrame m ([Value.ref b] : List Value).toArray 4) := by
  subst hx
  have hl := lv_entry ([.ref b]) (n := 4) (Nat.le_of_ble_eq_true rfl)
  rw [lg_entry_eq]
  generalize (lg_sl ([.ref b]) ++ List.replicate (4 - (lg_sl ([.ref b])).length) Slot.unset).toArray = ls at hl ⊢
  have hl : lv_has ls 4 [(0, .ref b)] := hl
  refine h ls [] s.heap [] [] ⟨lv_sub hl [] rfl, fun q hq => ?_, trivial, ⟨rfl, fun i c q h1 _ => by simp at h1⟩, fun k q h => by simp at h, ⟨fun i j p q h => by simp at h, fun k q h => by simp at h⟩, va_S.rf, Nat.zero_le _, Nat.zero_le _, zPre_rf _⟩
  rw [List.mem_singleton.mp hq]
  refine ⟨_, lv_at hl 0 rfl, b, ?_, rfl⟩
  unfold zrho zext
  rw [if_neg (Nat.not_lt.mpr (Nat.le_of_ble_eq_true rfl)), if_pos rfl]
theorem z_switch {xs : Nat → Int32} (C0 : lw_At p s m meth c b 6 xs) (h52 : zGL p l e s m below meth c b D ct adK (1663, zl0s, [], zh0, 79, 2750)) (hop : ∀ j, j < 52 → zGL p l e s m below meth c b D ct adK (ztgs.getD j 0, zl0s, [], zh0, 79, 2750)) : zGL p l e s m below meth c b D ct adK (27, zl0s, [], zh0, 79, 2750) := by
  obtain ⟨hx, hb, hrt, hml, hown, hts, hX, hbl, hlocks, hgv⟩ := C0
  intro ls stc H locs ws hrel
  obtain ⟨hl, hL, hst, hH, hP, hD, hS, hnc, hns, hpre⟩ := id hrel
  have e0 := zL2_nil hst
  subst e0
  have hbA : ¬ (fun q : Nat => s.heap.size ≤ q) b := Nat.not_le.mpr hbl
  have g0 : zget zl0s 0 = some (.inl (.ref 10000000)) := rfl
  have g3 : zget zl0s 3 = some (.inl (.int 0)) := rfl
  obtain ⟨w0, hw0, b0, hb0, rfl⟩ := zLo_get hL g0
  obtain ⟨w3, hw3, hg3⟩ := zLo_get hL g3
  have hg3 : w3 = .int 0 := hg3
  subst hg3
  have hb1 : b0 = b := by
    unfold zrho zext at hb0
    rw [if_neg (Nat.not_lt.mpr (Nat.le_of_ble_eq_true rfl)), if_pos rfl] at hb0
    exact (Option.some.inj hb0).symm
  subst hb1
  refine lv_aload_n hx hb zd_27 rfl hw0 ?_
  refine lv_iload_n hx hb zd_28 rfl hw3 ?_
  refine va_sld hx hb hX hbl hbA hS (by rintro (q | q) <;> revert q <;> decide) zd_29 ?_
  refine lv_bipush (v := 63) hx hb zd_30 rfl ?_
  refine lv_iand hx hb zd_32 ?_
  obtain ⟨j, hj, ej⟩ := pk_andE (xs (0 : Int32).toNatClampNeg) (m := 63) 6 rfl
  rw [ej]
  have hji : (nI j).toInt = (j : Int) := nI_toInt (by omega)
  by_cases h : j < 52
  · refine lv_tableIn (tgt := ztgs.getD j 0) hx hb zd_33 (by rw [hji]; omega) (by rw [hji]; omega) (off := ((ztgs.getD j 0 : Nat) - 33 : Int)) ?_ (by omega) (hop j h ls [] H locs ws hrel)
    rw [hji, show ((j : Int) - 0).toNat = j by omega]
    exact ztg_ok j h
  · exact lv_tableOut (tgt := 1663) hx hb zd_33 (by rw [hji]; omega) (by decide) (h52 ls [] H locs ws hrel)
theorem z_opgo {xs : Nat → Int32} (C0 : lw_At p s m meth c b 6 xs) (hK : va_K D vwCl (ztys ct) s) (hN : ∀ w ∈ zTN, va_Nw w s) (hO : va_AO RX0 s) (hO1 : va_AOA .long s) (hO2 : va_AOA .int s)
    (hFs : ∀ (scr : List zV) (xs : Nat → Int32), va_X b scr.length xs s s.heap → (∀ (j : Nat) (v : zV), scr[j]? = some v → zisI v = true ∧ zg (fun _ => none) v (.int (xs j))) → zFacts zst scr adK adV (zext b adK) (fun q : Nat => s.heap.size ≤ q) s s.heap)
    {Ps : List (List (Int × Int))} {tg : Nat} (hP : zallT Ps (fun t => zop1 tg (zscr t)) = true) (hc : Ps.all zcov = true ∧ Ps.length ≤ 5) : zGL p l e s m below meth c b D ct adK (tg, zl0s, [], zh0, 79, 2750) := by
  obtain ⟨t, h1, h2, h3⟩ := z_cover Ps _ (fun j => xs (j + 1)) hP hc.1
  obtain ⟨h4, h5⟩ := zscr_rel (t := t) (xs := xs) (by rw [h2]; exact hc.2) h3
  have hX : va_X b (zscr t).length xs s s.heap := by
    rw [h4]
    exact C0.2.2.2.2.2.2.1
  exact z_lawrun C0 (z_lawcx C0 hK hN hO hO1 hO2 (hFs (zscr t) xs hX h5)) (fun x hx => absurd hx Bool.false_ne_true) (fun x i h => h) 2000 _ h1
end
end
section
theorem zo_0_0 : zallT [[(-2147483648, -1), (0, 4), (5, 2147483647)], [(-2147483648, -1), (0, 40), (41, 2147483647)]] (fun t => zop1 256 (zscr (zmk (-2147483648) (-1) :: t))) = true := by decide +kernel
theorem zo_0_1 : zallT [[(-2147483648, -1), (0, 4), (5, 2147483647)], [(-2147483648, -1), (0, 40), (41, 2147483647)]] (fun t => zop1 256 (zscr (zmk (0) (0) :: t))) = true := by decide +kernel
theorem zo_0_2 : zallT [[(-2147483648, -1), (0, 4), (5, 2147483647)], [(-2147483648, -1), (0, 40), (41, 2147483647)]] (fun t => zop1 256 (zscr (zmk (1) (1) :: t))) = true := by decide +kernel
theorem zo_0_3 : zallT [[(-2147483648, -1), (0, 4), (5, 2147483647)], [(-2147483648, -1), (0, 40), (41, 2147483647)]] (fun t => zop1 256 (zscr (zmk (2) (2) :: t))) = true := by decide +kernel
theorem zo_0_4 : zallT [[(-2147483648, -1), (0, 4), (5, 2147483647)], [(-2147483648, -1), (0, 40), (41, 2147483647)]] (fun t => zop1 256 (zscr (zmk (3) (3) :: t))) = true := by decide +kernel
theorem zo_0_5 : zallT [[(-2147483648, -1), (0, 4), (5, 2147483647)], [(-2147483648, -1), (0, 40), (41, 2147483647)]] (fun t => zop1 256 (zscr (zmk (4) (4) :: t))) = true := by decide +kernel
theorem zo_0_6 : zallT [[(-2147483648, -1), (0, 4), (5, 2147483647)], [(-2147483648, -1), (0, 40), (41, 2147483647)]] (fun t => zop1 256 (zscr (zmk (5) (5) :: t))) = true := by decide +kernel
theorem zo_0_7 : zallT [[(-2147483648, -1), (0, 4), (5, 2147483647)], [(-2147483648, -1), (0, 40), (41, 2147483647)]] (fun t => zop1 256 (zscr (zmk (6) (6) :: t))) = true := by decide +kernel
theorem zo_0_8 : zallT [[(-2147483648, -1), (0, 4), (5, 2147483647)], [(-2147483648, -1), (0, 40), (41, 2147483647)]] (fun t => zop1 256 (zscr (zmk (7) (7) :: t))) = true := by decide +kernel
theorem zo_0_9 : zallT [[(-2147483648, -1), (0, 4), (5, 2147483647)], [(-2147483648, -1), (0, 40), (41, 2147483647)]] (fun t => zop1 256 (zscr (zmk (8) (2147483647) :: t))) = true := by decide +kernel
theorem zo_0 : zallT zP_0 (fun t => zop1 256 (zscr t)) = true := List.all_eq_true.mpr (List.forall_mem_cons.mpr ⟨zo_0_0, List.forall_mem_cons.mpr ⟨zo_0_1, List.forall_mem_cons.mpr ⟨zo_0_2, List.forall_mem_cons.mpr ⟨zo_0_3, List.forall_mem_cons.mpr ⟨zo_0_4, List.forall_mem_cons.mpr ⟨zo_0_5, List.forall_mem_cons.mpr ⟨zo_0_6, List.forall_mem_cons.mpr ⟨zo_0_7, List.forall_mem_cons.mpr ⟨zo_0_8, List.forall_mem_cons.mpr ⟨zo_0_9, fun _ h => absurd h List.not_mem_nil⟩⟩⟩⟩⟩⟩⟩⟩⟩⟩)
theorem zo_1 : zallT zP_1 (fun t => zop1 299 (zscr t)) = true := by decide +kernel
theorem zo_3 : zallT zP_3 (fun t => zop1 435 (zscr t)) = true := by decide +kernel
theorem zo_4 : zallT zP_4 (fun t => zop1 469 (zscr t)) = true := by decide +kernel
theorem zo_5_0 : zallT [[(-2147483648, -2), (-1, -1), (0, 2147483647)]] (fun t => zop1 492 (zscr (zmk (-2147483648) (-1) :: t))) = true := by decide +kernel
theorem zo_5_1 : zallT [[(-2147483648, -2), (-1, -1), (0, 2147483647)]] (fun t => zop1 492 (zscr (zmk (0) (0) :: t))) = true := by decide +kernel
theorem zo_5_2 : zallT [[(-2147483648, -2), (-1, -1), (0, 2147483647)]] (fun t => zop1 492 (zscr (zmk (1) (1) :: t))) = true := by decide +kernel
theorem zo_5_3 : zallT [[(-2147483648, -2), (-1, -1), (0, 2147483647)]] (fun t => zop1 492 (zscr (zmk (2) (2) :: t))) = true := by decide +kernel
theorem zo_5_4 : zallT [[(-2147483648, -2), (-1, -1), (0, 2147483647)]] (fun t => zop1 492 (zscr (zmk (3) (3) :: t))) = true := by decide +kernel
theorem zo_5_5 : zallT [[(-2147483648, -2), (-1, -1), (0, 2147483647)]] (fun t => zop1 492 (zscr (zmk (4) (4) :: t))) = true := by decide +kernel
theorem zo_5_6 : zallT [[(-2147483648, -2), (-1, -1), (0, 2147483647)]] (fun t => zop1 492 (zscr (zmk (5) (5) :: t))) = true := by decide +kernel
theorem zo_5_7 : zallT [[(-2147483648, -2), (-1, -1), (0, 2147483647)]] (fun t => zop1 492 (zscr (zmk (6) (6) :: t))) = true := by decide +kernel
theorem zo_5_8 : zallT [[(-2147483648, -2), (-1, -1), (0, 2147483647)]] (fun t => zop1 492 (zscr (zmk (7) (7) :: t))) = true := by decide +kernel
theorem zo_5_9 : zallT [[(-2147483648, -2), (-1, -1), (0, 2147483647)]] (fun t => zop1 492 (zscr (zmk (8) (2147483647) :: t))) = true := by decide +kernel
theorem zo_5 : zallT zP_5 (fun t => zop1 492 (zscr t)) = true := List.all_eq_true.mpr (List.forall_mem_cons.mpr ⟨zo_5_0, List.forall_mem_cons.mpr ⟨zo_5_1, List.forall_mem_cons.mpr ⟨zo_5_2, List.forall_mem_cons.mpr ⟨zo_5_3, List.forall_mem_cons.mpr ⟨zo_5_4, List.forall_mem_cons.mpr ⟨zo_5_5, List.forall_mem_cons.mpr ⟨zo_5_6, List.forall_mem_cons.mpr ⟨zo_5_7, List.forall_mem_cons.mpr ⟨zo_5_8, List.forall_mem_cons.mpr ⟨zo_5_9, fun _ h => absurd h List.not_mem_nil⟩⟩⟩⟩⟩⟩⟩⟩⟩⟩)
theorem zo_6_0 : zallT [[(-2147483648, -1), (0, 5), (6, 2147483647)]] (fun t => zop1 525 (zscr (zmk (-2147483648) (-1) :: t))) = true := by decide +kernel
theorem zo_6_1 : zallT [[(-2147483648, -1), (0, 5), (6, 2147483647)]] (fun t => zop1 525 (zscr (zmk (0) (0) :: t))) = true := by decide +kernel
theorem zo_6_2 : zallT [[(-2147483648, -1), (0, 5), (6, 2147483647)]] (fun t => zop1 525 (zscr (zmk (1) (1) :: t))) = true := by decide +kernel
theorem zo_6_3 : zallT [[(-2147483648, -1), (0, 5), (6, 2147483647)]] (fun t => zop1 525 (zscr (zmk (2) (2) :: t))) = true := by decide +kernel
theorem zo_6_4 : zallT [[(-2147483648, -1), (0, 5), (6, 2147483647)]] (fun t => zop1 525 (zscr (zmk (3) (3) :: t))) = true := by decide +kernel
theorem zo_6_5 : zallT [[(-2147483648, -1), (0, 5), (6, 2147483647)]] (fun t => zop1 525 (zscr (zmk (4) (4) :: t))) = true := by decide +kernel
theorem zo_6_6 : zallT [[(-2147483648, -1), (0, 5), (6, 2147483647)]] (fun t => zop1 525 (zscr (zmk (5) (5) :: t))) = true := by decide +kernel
theorem zo_6_7 : zallT [[(-2147483648, -1), (0, 5), (6, 2147483647)]] (fun t => zop1 525 (zscr (zmk (6) (6) :: t))) = true := by decide +kernel
theorem zo_6_8 : zallT [[(-2147483648, -1), (0, 5), (6, 2147483647)]] (fun t => zop1 525 (zscr (zmk (7) (7) :: t))) = true := by decide +kernel
theorem zo_6_9 : zallT [[(-2147483648, -1), (0, 5), (6, 2147483647)]] (fun t => zop1 525 (zscr (zmk (8) (2147483647) :: t))) = true := by decide +kernel
theorem zo_6 : zallT zP_6 (fun t => zop1 525 (zscr t)) = true := List.all_eq_true.mpr (List.forall_mem_cons.mpr ⟨zo_6_0, List.forall_mem_cons.mpr ⟨zo_6_1, List.forall_mem_cons.mpr ⟨zo_6_2, List.forall_mem_cons.mpr ⟨zo_6_3, List.forall_mem_cons.mpr ⟨zo_6_4, List.forall_mem_cons.mpr ⟨zo_6_5, List.forall_mem_cons.mpr ⟨zo_6_6, List.forall_mem_cons.mpr ⟨zo_6_7, List.forall_mem_cons.mpr ⟨zo_6_8, List.forall_mem_cons.mpr ⟨zo_6_9, fun _ h => absurd h List.not_mem_nil⟩⟩⟩⟩⟩⟩⟩⟩⟩⟩)
theorem zo_7 : zallT zP_7 (fun t => zop1 558 (zscr t)) = true := by decide +kernel
theorem zo_8 : zallT zP_8 (fun t => zop1 581 (zscr t)) = true := by decide +kernel
theorem zo_9 : zallT zP_9 (fun t => zop1 604 (zscr t)) = true := by decide +kernel
end
section
theorem zo_2_0 : zallT [[(-2147483648, -1), (0, 0), (1, 1), (2, 2), (3, 3), (4, 4), (5, 5), (6, 6), (7, 7), (8, 2147483647)]] (fun t => zop1 372 (zscr (zmk (-2147483648) (-1) :: t))) = true := by decide +kernel
theorem zo_2_1 : zallT [[(-2147483648, -1), (0, 0), (1, 1), (2, 2), (3, 3), (4, 4), (5, 5), (6, 6), (7, 7), (8, 2147483647)]] (fun t => zop1 372 (zscr (zmk (0) (0) :: t))) = true := by decide +kernel
theorem zo_2_2 : zallT [[(-2147483648, -1), (0, 0), (1, 1), (2, 2), (3, 3), (4, 4), (5, 5), (6, 6), (7, 7), (8, 2147483647)]] (fun t => zop1 372 (zscr (zmk (1) (1) :: t))) = true := by decide +kernel
theorem zo_2_3 : zallT [[(-2147483648, -1), (0, 0), (1, 1), (2, 2), (3, 3), (4, 4), (5, 5), (6, 6), (7, 7), (8, 2147483647)]] (fun t => zop1 372 (zscr (zmk (2) (2) :: t))) = true := by decide +kernel
theorem zo_2_4 : zallT [[(-2147483648, -1), (0, 0), (1, 1), (2, 2), (3, 3), (4, 4), (5, 5), (6, 6), (7, 7), (8, 2147483647)]] (fun t => zop1 372 (zscr (zmk (3) (3) :: t))) = true := by decide +kernel
theorem zo_2_5 : zallT [[(-2147483648, -1), (0, 0), (1, 1), (2, 2), (3, 3), (4, 4), (5, 5), (6, 6), (7, 7), (8, 2147483647)]] (fun t => zop1 372 (zscr (zmk (4) (4) :: t))) = true := by decide +kernel
theorem zo_2_6 : zallT [[(-2147483648, -1), (0, 0), (1, 1), (2, 2), (3, 3), (4, 4), (5, 5), (6, 6), (7, 7), (8, 2147483647)]] (fun t => zop1 372 (zscr (zmk (5) (5) :: t))) = true := by decide +kernel
theorem zo_2_7 : zallT [[(-2147483648, -1), (0, 0), (1, 1), (2, 2), (3, 3), (4, 4), (5, 5), (6, 6), (7, 7), (8, 2147483647)]] (fun t => zop1 372 (zscr (zmk (6) (6) :: t))) = true := by decide +kernel
theorem zo_2_8 : zallT [[(-2147483648, -1), (0, 0), (1, 1), (2, 2), (3, 3), (4, 4), (5, 5), (6, 6), (7, 7), (8, 2147483647)]] (fun t => zop1 372 (zscr (zmk (7) (7) :: t))) = true := by decide +kernel
theorem zo_2_9 : zallT [[(-2147483648, -1), (0, 0), (1, 1), (2, 2), (3, 3), (4, 4), (5, 5), (6, 6), (7, 7), (8, 2147483647)]] (fun t => zop1 372 (zscr (zmk (8) (2147483647) :: t))) = true := by decide +kernel
theorem zo_2 : zallT zP_2 (fun t => zop1 372 (zscr t)) = true := List.all_eq_true.mpr (List.forall_mem_cons.mpr ⟨zo_2_0, List.forall_mem_cons.mpr ⟨zo_2_1, List.forall_mem_cons.mpr ⟨zo_2_2, List.forall_mem_cons.mpr ⟨zo_2_3, List.forall_mem_cons.mpr ⟨zo_2_4, List.forall_mem_cons.mpr ⟨zo_2_5, List.forall_mem_cons.mpr ⟨zo_2_6, List.forall_mem_cons.mpr ⟨zo_2_7, List.forall_mem_cons.mpr ⟨zo_2_8, List.forall_mem_cons.mpr ⟨zo_2_9, fun _ h => absurd h List.not_mem_nil⟩⟩⟩⟩⟩⟩⟩⟩⟩⟩)
theorem zo_11 : zallT zP_11 (fun t => zop1 680 (zscr t)) = true := by decide +kernel
theorem zo_12 : zallT zP_12 (fun t => zop1 703 (zscr t)) = true := by decide +kernel
theorem zo_13 : zallT zP_13 (fun t => zop1 746 (zscr t)) = true := by decide +kernel
theorem zo_14 : zallT zP_14 (fun t => zop1 779 (zscr t)) = true := by decide +kernel
theorem zo_15 : zallT zP_15 (fun t => zop1 802 (zscr t)) = true := by decide +kernel
theorem zo_17 : zallT zP_17 (fun t => zop1 828 (zscr t)) = true := by decide +kernel
theorem zo_18 : zallT zP_18 (fun t => zop1 861 (zscr t)) = true := by decide +kernel
end
section
theorem zo_10_0 : zallT [[(-2147483648, 0), (1, 1), (2, 2), (3, 3), (4, 4), (5, 5), (6, 6), (7, 7), (8, 8), (9, 9), (10, 10), (11, 11), (12, 12), (13, 13), (14, 14), (15, 15), (16, 16), (17, 17), (18, 18), (19, 19), (20, 20), (21, 2147483647)], [(-2147483648, -1), (0, 9), (10, 2147483647)]] (fun t => zop1 637 (zscr (zmk (-2147483648) (-1) :: t))) = true := by decide +kernel
theorem zo_10_1 : zallT [[(-2147483648, 0), (1, 1), (2, 2), (3, 3), (4, 4), (5, 5), (6, 6), (7, 7), (8, 8), (9, 9), (10, 10), (11, 11), (12, 12), (13, 13), (14, 14), (15, 15), (16, 16), (17, 17), (18, 18), (19, 19), (20, 20), (21, 2147483647)], [(-2147483648, -1), (0, 9), (10, 2147483647)]] (fun t => zop1 637 (zscr (zmk (0) (5) :: t))) = true := by decide +kernel
theorem zo_10_2 : zallT [[(-2147483648, 0), (1, 1), (2, 2), (3, 3), (4, 4), (5, 5), (6, 6), (7, 7), (8, 8), (9, 9), (10, 10), (11, 11), (12, 12), (13, 13), (14, 14), (15, 15), (16, 16), (17, 17), (18, 18), (19, 19), (20, 20), (21, 2147483647)], [(-2147483648, -1), (0, 9), (10, 2147483647)]] (fun t => zop1 637 (zscr (zmk (6) (2147483647) :: t))) = true := by decide +kernel
theorem zo_10 : zallT zP_10 (fun t => zop1 637 (zscr t)) = true := List.all_eq_true.mpr (List.forall_mem_cons.mpr ⟨zo_10_0, List.forall_mem_cons.mpr ⟨zo_10_1, List.forall_mem_cons.mpr ⟨zo_10_2, fun _ h => absurd h List.not_mem_nil⟩⟩⟩)
end
section
theorem zo_16 : zallT zP_16 (fun t => zop1 815 (zscr t)) = true := by decide +kernel
theorem zo_19_0 : zallT [[(-2147483648, -1), (0, 0), (1, 1), (2, 2), (3, 3), (4, 2147483647)]] (fun t => zop1 894 (zscr (zmk (-2147483648) (0) :: t))) = true := by decide +kernel
theorem zo_19_1 : zallT [[(-2147483648, -1), (0, 0), (1, 1), (2, 2), (3, 3), (4, 2147483647)]] (fun t => zop1 894 (zscr (zmk (1) (1) :: t))) = true := by decide +kernel
theorem zo_19_2 : zallT [[(-2147483648, -1), (0, 0), (1, 1), (2, 2), (3, 3), (4, 2147483647)]] (fun t => zop1 894 (zscr (zmk (2) (2) :: t))) = true := by decide +kernel
theorem zo_19_3 : zallT [[(-2147483648, -1), (0, 0), (1, 1), (2, 2), (3, 3), (4, 2147483647)]] (fun t => zop1 894 (zscr (zmk (3) (3) :: t))) = true := by decide +kernel
theorem zo_19_4 : zallT [[(-2147483648, -1), (0, 0), (1, 1), (2, 2), (3, 3), (4, 2147483647)]] (fun t => zop1 894 (zscr (zmk (4) (4) :: t))) = true := by decide +kernel
theorem zo_19_5 : zallT [[(-2147483648, -1), (0, 0), (1, 1), (2, 2), (3, 3), (4, 2147483647)]] (fun t => zop1 894 (zscr (zmk (5) (5) :: t))) = true := by decide +kernel
theorem zo_19_6 : zallT [[(-2147483648, -1), (0, 0), (1, 1), (2, 2), (3, 3), (4, 2147483647)]] (fun t => zop1 894 (zscr (zmk (6) (6) :: t))) = true := by decide +kernel
theorem zo_19_7 : zallT [[(-2147483648, -1), (0, 0), (1, 1), (2, 2), (3, 3), (4, 2147483647)]] (fun t => zop1 894 (zscr (zmk (7) (7) :: t))) = true := by decide +kernel
theorem zo_19_8 : zallT [[(-2147483648, -1), (0, 0), (1, 1), (2, 2), (3, 3), (4, 2147483647)]] (fun t => zop1 894 (zscr (zmk (8) (8) :: t))) = true := by decide +kernel
theorem zo_19_9 : zallT [[(-2147483648, -1), (0, 0), (1, 1), (2, 2), (3, 3), (4, 2147483647)]] (fun t => zop1 894 (zscr (zmk (9) (9) :: t))) = true := by decide +kernel
theorem zo_19_10 : zallT [[(-2147483648, -1), (0, 0), (1, 1), (2, 2), (3, 3), (4, 2147483647)]] (fun t => zop1 894 (zscr (zmk (10) (10) :: t))) = true := by decide +kernel
theorem zo_19_11 : zallT [[(-2147483648, -1), (0, 0), (1, 1), (2, 2), (3, 3), (4, 2147483647)]] (fun t => zop1 894 (zscr (zmk (11) (11) :: t))) = true := by decide +kernel
theorem zo_19_12 : zallT [[(-2147483648, -1), (0, 0), (1, 1), (2, 2), (3, 3), (4, 2147483647)]] (fun t => zop1 894 (zscr (zmk (12) (12) :: t))) = true := by decide +kernel
theorem zo_19_13 : zallT [[(-2147483648, -1), (0, 0), (1, 1), (2, 2), (3, 3), (4, 2147483647)]] (fun t => zop1 894 (zscr (zmk (13) (13) :: t))) = true := by decide +kernel
theorem zo_19_14 : zallT [[(-2147483648, -1), (0, 0), (1, 1), (2, 2), (3, 3), (4, 2147483647)]] (fun t => zop1 894 (zscr (zmk (14) (14) :: t))) = true := by decide +kernel
theorem zo_19_15 : zallT [[(-2147483648, -1), (0, 0), (1, 1), (2, 2), (3, 3), (4, 2147483647)]] (fun t => zop1 894 (zscr (zmk (15) (15) :: t))) = true := by decide +kernel
theorem zo_19_16 : zallT [[(-2147483648, -1), (0, 0), (1, 1), (2, 2), (3, 3), (4, 2147483647)]] (fun t => zop1 894 (zscr (zmk (16) (16) :: t))) = true := by decide +kernel
theorem zo_19_17 : zallT [[(-2147483648, -1), (0, 0), (1, 1), (2, 2), (3, 3), (4, 2147483647)]] (fun t => zop1 894 (zscr (zmk (17) (17) :: t))) = true := by decide +kernel
theorem zo_19_18 : zallT [[(-2147483648, -1), (0, 0), (1, 1), (2, 2), (3, 3), (4, 2147483647)]] (fun t => zop1 894 (zscr (zmk (18) (18) :: t))) = true := by decide +kernel
theorem zo_19_19 : zallT [[(-2147483648, -1), (0, 0), (1, 1), (2, 2), (3, 3), (4, 2147483647)]] (fun t => zop1 894 (zscr (zmk (19) (19) :: t))) = true := by decide +kernel
theorem zo_19_20 : zallT [[(-2147483648, -1), (0, 0), (1, 1), (2, 2), (3, 3), (4, 2147483647)]] (fun t => zop1 894 (zscr (zmk (20) (20) :: t))) = true := by decide +kernel
theorem zo_19_21 : zallT [[(-2147483648, -1), (0, 0), (1, 1), (2, 2), (3, 3), (4, 2147483647)]] (fun t => zop1 894 (zscr (zmk (21) (2147483647) :: t))) = true := by decide +kernel
theorem zo_19 : zallT zP_19 (fun t => zop1 894 (zscr t)) = true := List.all_eq_true.mpr (List.forall_mem_cons.mpr ⟨zo_19_0, List.forall_mem_cons.mpr ⟨zo_19_1, List.forall_mem_cons.mpr ⟨zo_19_2, List.forall_mem_cons.mpr ⟨zo_19_3, List.forall_mem_cons.mpr ⟨zo_19_4, List.forall_mem_cons.mpr ⟨zo_19_5, List.forall_mem_cons.mpr ⟨zo_19_6, List.forall_mem_cons.mpr ⟨zo_19_7, List.forall_mem_cons.mpr ⟨zo_19_8, List.forall_mem_cons.mpr ⟨zo_19_9, List.forall_mem_cons.mpr ⟨zo_19_10, List.forall_mem_cons.mpr ⟨zo_19_11, List.forall_mem_cons.mpr ⟨zo_19_12, List.forall_mem_cons.mpr ⟨zo_19_13, List.forall_mem_cons.mpr ⟨zo_19_14, List.forall_mem_cons.mpr ⟨zo_19_15, List.forall_mem_cons.mpr ⟨zo_19_16, List.forall_mem_cons.mpr ⟨zo_19_17, List.forall_mem_cons.mpr ⟨zo_19_18, List.forall_mem_cons.mpr ⟨zo_19_19, List.forall_mem_cons.mpr ⟨zo_19_20, List.forall_mem_cons.mpr ⟨zo_19_21, fun _ h => absurd h List.not_mem_nil⟩⟩⟩⟩⟩⟩⟩⟩⟩⟩⟩⟩⟩⟩⟩⟩⟩⟩⟩⟩⟩⟩)
theorem zo_20 : zallT zP_20 (fun t => zop1 927 (zscr t)) = true := by decide +kernel
theorem zo_21_0 : zallT [] (fun t => zop1 940 (zscr (zmk (-2147483648) (0) :: t))) = true := by decide +kernel
theorem zo_21_1 : zallT [] (fun t => zop1 940 (zscr (zmk (1) (1) :: t))) = true := by decide +kernel
theorem zo_21_2 : zallT [] (fun t => zop1 940 (zscr (zmk (2) (2) :: t))) = true := by decide +kernel
theorem zo_21_3 : zallT [] (fun t => zop1 940 (zscr (zmk (3) (3) :: t))) = true := by decide +kernel
theorem zo_21_4 : zallT [] (fun t => zop1 940 (zscr (zmk (4) (4) :: t))) = true := by decide +kernel
theorem zo_21_5 : zallT [] (fun t => zop1 940 (zscr (zmk (5) (5) :: t))) = true := by decide +kernel
theorem zo_21_6 : zallT [] (fun t => zop1 940 (zscr (zmk (6) (6) :: t))) = true := by decide +kernel
theorem zo_21_7 : zallT [] (fun t => zop1 940 (zscr (zmk (7) (7) :: t))) = true := by decide +kernel
theorem zo_21_8 : zallT [] (fun t => zop1 940 (zscr (zmk (8) (8) :: t))) = true := by decide +kernel
theorem zo_21_9 : zallT [] (fun t => zop1 940 (zscr (zmk (9) (9) :: t))) = true := by decide +kernel
theorem zo_21_10 : zallT [] (fun t => zop1 940 (zscr (zmk (10) (10) :: t))) = true := by decide +kernel
theorem zo_21_11 : zallT [] (fun t => zop1 940 (zscr (zmk (11) (11) :: t))) = true := by decide +kernel
theorem zo_21_12 : zallT [] (fun t => zop1 940 (zscr (zmk (12) (12) :: t))) = true := by decide +kernel
theorem zo_21_13 : zallT [] (fun t => zop1 940 (zscr (zmk (13) (13) :: t))) = true := by decide +kernel
theorem zo_21_14 : zallT [] (fun t => zop1 940 (zscr (zmk (14) (14) :: t))) = true := by decide +kernel
theorem zo_21_15 : zallT [] (fun t => zop1 940 (zscr (zmk (15) (15) :: t))) = true := by decide +kernel
theorem zo_21_16 : zallT [] (fun t => zop1 940 (zscr (zmk (16) (16) :: t))) = true := by decide +kernel
theorem zo_21_17 : zallT [] (fun t => zop1 940 (zscr (zmk (17) (17) :: t))) = true := by decide +kernel
theorem zo_21_18 : zallT [] (fun t => zop1 940 (zscr (zmk (18) (18) :: t))) = true := by decide +kernel
theorem zo_21_19 : zallT [] (fun t => zop1 940 (zscr (zmk (19) (19) :: t))) = true := by decide +kernel
theorem zo_21_20 : zallT [] (fun t => zop1 940 (zscr (zmk (20) (20) :: t))) = true := by decide +kernel
theorem zo_21_21 : zallT [] (fun t => zop1 940 (zscr (zmk (21) (2147483647) :: t))) = true := by decide +kernel
theorem zo_21 : zallT zP_21 (fun t => zop1 940 (zscr t)) = true := List.all_eq_true.mpr (List.forall_mem_cons.mpr ⟨zo_21_0, List.forall_mem_cons.mpr ⟨zo_21_1, List.forall_mem_cons.mpr ⟨zo_21_2, List.forall_mem_cons.mpr ⟨zo_21_3, List.forall_mem_cons.mpr ⟨zo_21_4, List.forall_mem_cons.mpr ⟨zo_21_5, List.forall_mem_cons.mpr ⟨zo_21_6, List.forall_mem_cons.mpr ⟨zo_21_7, List.forall_mem_cons.mpr ⟨zo_21_8, List.forall_mem_cons.mpr ⟨zo_21_9, List.forall_mem_cons.mpr ⟨zo_21_10, List.forall_mem_cons.mpr ⟨zo_21_11, List.forall_mem_cons.mpr ⟨zo_21_12, List.forall_mem_cons.mpr ⟨zo_21_13, List.forall_mem_cons.mpr ⟨zo_21_14, List.forall_mem_cons.mpr ⟨zo_21_15, List.forall_mem_cons.mpr ⟨zo_21_16, List.forall_mem_cons.mpr ⟨zo_21_17, List.forall_mem_cons.mpr ⟨zo_21_18, List.forall_mem_cons.mpr ⟨zo_21_19, List.forall_mem_cons.mpr ⟨zo_21_20, List.forall_mem_cons.mpr ⟨zo_21_21, fun _ h => absurd h List.not_mem_nil⟩⟩⟩⟩⟩⟩⟩⟩⟩⟩⟩⟩⟩⟩⟩⟩⟩⟩⟩⟩⟩⟩)
theorem zo_22 : zallT zP_22 (fun t => zop1 963 (zscr t)) = true := by decide +kernel
theorem zo_23 : zallT zP_23 (fun t => zop1 986 (zscr t)) = true := by decide +kernel
theorem zo_24 : zallT zP_24 (fun t => zop1 1009 (zscr t)) = true := by decide +kernel
theorem zo_25 : zallT zP_25 (fun t => zop1 1032 (zscr t)) = true := by decide +kernel
theorem zo_26 : zallT zP_26 (fun t => zop1 1055 (zscr t)) = true := by decide +kernel
theorem zo_27 : zallT zP_27 (fun t => zop1 1088 (zscr t)) = true := by decide +kernel
theorem zo_28 : zallT zP_28 (fun t => zop1 1111 (zscr t)) = true := by decide +kernel
end
section
theorem zo_29 : zallT zP_29 (fun t => zop1 1134 (zscr t)) = true := by decide +kernel
theorem zo_30 : zallT zP_30 (fun t => zop1 1147 (zscr t)) = true := by decide +kernel
theorem zo_31_0 : zallT [[(-2147483648, -1), (0, 0), (1, 1), (2, 2147483647)]] (fun t => zop1 1160 (zscr (zmk (-2147483648) (-1) :: t))) = true := by decide +kernel
theorem zo_31_1 : zallT [[(-2147483648, -1), (0, 0), (1, 1), (2, 2147483647)]] (fun t => zop1 1160 (zscr (zmk (0) (0) :: t))) = true := by decide +kernel
theorem zo_31_2 : zallT [[(-2147483648, -1), (0, 0), (1, 1), (2, 2147483647)]] (fun t => zop1 1160 (zscr (zmk (1) (1) :: t))) = true := by decide +kernel
theorem zo_31_3 : zallT [[(-2147483648, -1), (0, 0), (1, 1), (2, 2147483647)]] (fun t => zop1 1160 (zscr (zmk (2) (2) :: t))) = true := by decide +kernel
theorem zo_31_4 : zallT [[(-2147483648, -1), (0, 0), (1, 1), (2, 2147483647)]] (fun t => zop1 1160 (zscr (zmk (3) (3) :: t))) = true := by decide +kernel
theorem zo_31_5 : zallT [[(-2147483648, -1), (0, 0), (1, 1), (2, 2147483647)]] (fun t => zop1 1160 (zscr (zmk (4) (4) :: t))) = true := by decide +kernel
theorem zo_31_6 : zallT [[(-2147483648, -1), (0, 0), (1, 1), (2, 2147483647)]] (fun t => zop1 1160 (zscr (zmk (5) (2147483647) :: t))) = true := by decide +kernel
theorem zo_31 : zallT zP_31 (fun t => zop1 1160 (zscr t)) = true := List.all_eq_true.mpr (List.forall_mem_cons.mpr ⟨zo_31_0, List.forall_mem_cons.mpr ⟨zo_31_1, List.forall_mem_cons.mpr ⟨zo_31_2, List.forall_mem_cons.mpr ⟨zo_31_3, List.forall_mem_cons.mpr ⟨zo_31_4, List.forall_mem_cons.mpr ⟨zo_31_5, List.forall_mem_cons.mpr ⟨zo_31_6, fun _ h => absurd h List.not_mem_nil⟩⟩⟩⟩⟩⟩⟩)
theorem zo_34 : zallT zP_34 (fun t => zop1 1259 (zscr t)) = true := by decide +kernel
end
section
theorem zo_35_0 : zallT [[(-2147483648, -1), (0, 40), (41, 2147483647)]] (fun t => zop1 1282 (zscr (zmk (-2147483648) (-1) :: t))) = true := by decide +kernel
theorem zo_35_1 : zallT [[(-2147483648, -1), (0, 40), (41, 2147483647)]] (fun t => zop1 1282 (zscr (zmk (0) (0) :: t))) = true := by decide +kernel
theorem zo_35_2 : zallT [[(-2147483648, -1), (0, 40), (41, 2147483647)]] (fun t => zop1 1282 (zscr (zmk (1) (1) :: t))) = true := by decide +kernel
theorem zo_35_3 : zallT [[(-2147483648, -1), (0, 40), (41, 2147483647)]] (fun t => zop1 1282 (zscr (zmk (2) (2) :: t))) = true := by decide +kernel
theorem zo_35_4 : zallT [[(-2147483648, -1), (0, 40), (41, 2147483647)]] (fun t => zop1 1282 (zscr (zmk (3) (3) :: t))) = true := by decide +kernel
theorem zo_35_5 : zallT [[(-2147483648, -1), (0, 40), (41, 2147483647)]] (fun t => zop1 1282 (zscr (zmk (4) (4) :: t))) = true := by decide +kernel
theorem zo_35_6 : zallT [[(-2147483648, -1), (0, 40), (41, 2147483647)]] (fun t => zop1 1282 (zscr (zmk (5) (5) :: t))) = true := by decide +kernel
theorem zo_35_7 : zallT [[(-2147483648, -1), (0, 40), (41, 2147483647)]] (fun t => zop1 1282 (zscr (zmk (6) (6) :: t))) = true := by decide +kernel
theorem zo_35_8 : zallT [[(-2147483648, -1), (0, 40), (41, 2147483647)]] (fun t => zop1 1282 (zscr (zmk (7) (7) :: t))) = true := by decide +kernel
theorem zo_35_9 : zallT [[(-2147483648, -1), (0, 40), (41, 2147483647)]] (fun t => zop1 1282 (zscr (zmk (8) (2147483647) :: t))) = true := by decide +kernel
theorem zo_35 : zallT zP_35 (fun t => zop1 1282 (zscr t)) = true := List.all_eq_true.mpr (List.forall_mem_cons.mpr ⟨zo_35_0, List.forall_mem_cons.mpr ⟨zo_35_1, List.forall_mem_cons.mpr ⟨zo_35_2, List.forall_mem_cons.mpr ⟨zo_35_3, List.forall_mem_cons.mpr ⟨zo_35_4, List.forall_mem_cons.mpr ⟨zo_35_5, List.forall_mem_cons.mpr ⟨zo_35_6, List.forall_mem_cons.mpr ⟨zo_35_7, List.forall_mem_cons.mpr ⟨zo_35_8, List.forall_mem_cons.mpr ⟨zo_35_9, fun _ h => absurd h List.not_mem_nil⟩⟩⟩⟩⟩⟩⟩⟩⟩⟩)
theorem zo_36_0 : zallT [[(-2147483648, -1), (0, 40), (41, 2147483647)]] (fun t => zop1 1315 (zscr (zmk (-2147483648) (-1) :: t))) = true := by decide +kernel
theorem zo_36_1 : zallT [[(-2147483648, -1), (0, 40), (41, 2147483647)]] (fun t => zop1 1315 (zscr (zmk (0) (0) :: t))) = true := by decide +kernel
theorem zo_36_2 : zallT [[(-2147483648, -1), (0, 40), (41, 2147483647)]] (fun t => zop1 1315 (zscr (zmk (1) (1) :: t))) = true := by decide +kernel
theorem zo_36_3 : zallT [[(-2147483648, -1), (0, 40), (41, 2147483647)]] (fun t => zop1 1315 (zscr (zmk (2) (2) :: t))) = true := by decide +kernel
theorem zo_36_4 : zallT [[(-2147483648, -1), (0, 40), (41, 2147483647)]] (fun t => zop1 1315 (zscr (zmk (3) (3) :: t))) = true := by decide +kernel
theorem zo_36_5 : zallT [[(-2147483648, -1), (0, 40), (41, 2147483647)]] (fun t => zop1 1315 (zscr (zmk (4) (4) :: t))) = true := by decide +kernel
theorem zo_36_6 : zallT [[(-2147483648, -1), (0, 40), (41, 2147483647)]] (fun t => zop1 1315 (zscr (zmk (5) (5) :: t))) = true := by decide +kernel
theorem zo_36_7 : zallT [[(-2147483648, -1), (0, 40), (41, 2147483647)]] (fun t => zop1 1315 (zscr (zmk (6) (6) :: t))) = true := by decide +kernel
theorem zo_36_8 : zallT [[(-2147483648, -1), (0, 40), (41, 2147483647)]] (fun t => zop1 1315 (zscr (zmk (7) (7) :: t))) = true := by decide +kernel
theorem zo_36_9 : zallT [[(-2147483648, -1), (0, 40), (41, 2147483647)]] (fun t => zop1 1315 (zscr (zmk (8) (2147483647) :: t))) = true := by decide +kernel
theorem zo_36 : zallT zP_36 (fun t => zop1 1315 (zscr t)) = true := List.all_eq_true.mpr (List.forall_mem_cons.mpr ⟨zo_36_0, List.forall_mem_cons.mpr ⟨zo_36_1, List.forall_mem_cons.mpr ⟨zo_36_2, List.forall_mem_cons.mpr ⟨zo_36_3, List.forall_mem_cons.mpr ⟨zo_36_4, List.forall_mem_cons.mpr ⟨zo_36_5, List.forall_mem_cons.mpr ⟨zo_36_6, List.forall_mem_cons.mpr ⟨zo_36_7, List.forall_mem_cons.mpr ⟨zo_36_8, List.forall_mem_cons.mpr ⟨zo_36_9, fun _ h => absurd h List.not_mem_nil⟩⟩⟩⟩⟩⟩⟩⟩⟩⟩)
theorem zo_37 : zallT zP_37 (fun t => zop1 1348 (zscr t)) = true := by decide +kernel
theorem zo_38 : zallT zP_38 (fun t => zop1 1391 (zscr t)) = true := by decide +kernel
theorem zo_39 : zallT zP_39 (fun t => zop1 1414 (zscr t)) = true := by decide +kernel
theorem zo_40 : zallT zP_40 (fun t => zop1 1437 (zscr t)) = true := by decide +kernel
theorem zo_41 : zallT zP_41 (fun t => zop1 1460 (zscr t)) = true := by decide +kernel
theorem zo_42 : zallT zP_42 (fun t => zop1 1473 (zscr t)) = true := by decide +kernel
theorem zo_43 : zallT zP_43 (fun t => zop1 1486 (zscr t)) = true := by decide +kernel
theorem zo_44 : zallT zP_44 (fun t => zop1 1499 (zscr t)) = true := by decide +kernel
theorem zo_45 : zallT zP_45 (fun t => zop1 1522 (zscr t)) = true := by decide +kernel
theorem zo_46 : zallT zP_46 (fun t => zop1 1545 (zscr t)) = true := by decide +kernel
theorem zo_47 : zallT zP_47 (fun t => zop1 1568 (zscr t)) = true := by decide +kernel
theorem zo_48 : zallT zP_48 (fun t => zop1 1591 (zscr t)) = true := by decide +kernel
theorem zo_49 : zallT zP_49 (fun t => zop1 1614 (zscr t)) = true := by decide +kernel
theorem zo_50 : zallT zP_50 (fun t => zop1 1627 (zscr t)) = true := by decide +kernel
theorem zo_51 : zallT zP_51 (fun t => zop1 1640 (zscr t)) = true := by decide +kernel
theorem zo_52 : zallT zP_52 (fun t => zop1 1663 (zscr t)) = true := by decide +kernel
end
section
theorem zbt {o : Option Bool} {kt kf : Bool} (h : o = some true) (k : kt = true) : zbr o kt kf = true := by subst h; exact k
theorem zbf {o : Option Bool} {kt kf : Bool} (h : o = some false) (k : kf = true) : zbr o kt kf = true := by subst h; exact k
theorem zandi {P Q : Bool} (h : P = true) (k : Q = true) : (P && Q) = true := by rw [h, k]; rfl
theorem zlt1 {a b : Int32} (h : a.toInt < b.toInt) : zlt (.inl (.int a)) (.inl (.int b)) = some true := if_pos h
theorem zlt0 {a b : Int32} (h : b.toInt ≤ a.toInt) : zlt (.inl (.int a)) (.inl (.int b)) = some false := by
  show (if a.toInt < b.toInt then some true else if b.toInt ≤ a.toInt then some false else none) = _
  rw [if_neg (by omega), if_pos h]
theorem zeq_self (a : Int32) : zcond .eq (.inl (.int a)) (.inl (.int a)) = some true := by
  show (if a.toInt < a.toInt ∨ a.toInt < a.toInt then some false else if a.toInt ≤ a.toInt ∧ a.toInt ≤ a.toInt then some true else none) = _
  rw [if_neg (by omega), if_pos (by omega)]
theorem zcmp_nlt {a b : Int64} (h : b.toInt ≤ a.toInt) : zcond .lt (zcmpL (.inl (.long a)) (.inl (.long b))) (.inl (.int 0)) = some false := by
  show zlt (zmk (if b.toInt < a.toInt then 1 else if b.toInt ≤ a.toInt then 0 else -1) (if a.toInt < b.toInt then -1 else if a.toInt ≤ b.toInt then 0 else 1)) _ = _
  by_cases h2 : b.toInt < a.toInt
  · rw [if_pos h2, if_neg (by omega), if_neg (by omega)]
    decide +kernel
  · rw [if_neg h2, if_pos h, if_neg (by omega), if_pos (by omega)]
    decide +kernel
theorem zcmp_ngt {a b : Int64} (h : a.toInt ≤ b.toInt) : zcond .gt (zcmpL (.inl (.long a)) (.inl (.long b))) (.inl (.int 0)) = some false := by
  show zlt _ (zmk (if b.toInt < a.toInt then 1 else if b.toInt ≤ a.toInt then 0 else -1) (if a.toInt < b.toInt then -1 else if a.toInt ≤ b.toInt then 0 else 1)) = _
  by_cases h2 : a.toInt < b.toInt
  · rw [if_neg (by omega), if_neg (by omega), if_pos h2]
    decide +kernel
  · rw [if_neg (by omega), if_pos (by omega), if_neg h2, if_pos h]
    decide +kernel
theorem zn_at : ∀ n : Nat, n < 62 → Int32.ofInt (n : Int) = Int32.ofNat n ∧ (Int32.ofNat n).toInt = n ∧ Int32.ofNat n + Int32.ofInt 1 = Int32.ofNat (n + 1) := by decide +kernel
theorem zn_of {x : Int32} (h1 : 0 ≤ x.toInt) (h2 : x.toInt ≤ 60) : ∃ n : Nat, n ≤ 60 ∧ x = Int32.ofNat n := by
  refine ⟨x.toInt.toNat, by omega, ?_⟩
  have h3 := (zn_at x.toInt.toNat (by omega)).1
  rw [Int.toNat_of_nonneg h1, Int32.ofInt_toInt] at h3
  exact h3
def zq (m k : Int32) : Int32 := 1000000 * m / (Int32.ofInt 2 * m - k)
theorem zq_at : ∀ m : Nat, m < 61 → ∀ k : Nat, k < 61 → (1 ≤ m ∧ k ≤ m) → 0 < (Int32.ofInt 2 * Int32.ofNat m - Int32.ofNat k).toInt ∧ (Int32.ofInt 2 * Int32.ofNat m - Int32.ofNat k == 0) = false ∧ (k = m → (zq (Int32.ofNat m) (Int32.ofNat k)).toInt = 1000000) := by decide +kernel
def zTo (cc : zK) (j : Nat) (vs : List zV) (r : zV) : Prop := ∀ (h : zH) (post : Option zV → zH → Bool), post (some r) h = true → cc j vs h post = true
def zkf (m f : Int32) : Nat → Nat → Nat
  | 0, k => k
  | j + 1, k => if f.toInt ≤ (zq m (Int32.ofNat k)).toInt then k else zkf m f j (k + 1)
def zfu (q : Nat) : Nat → Nat
  | 0 => 30
  | j + 1 => zfu q j + q
section
variable {scr : List zV} {cc : zK} {h : zH} {post : Option zV → zH → Bool}
theorem zt_isW {a b c : Int32} (h1 : b.toInt ≤ a.toInt) (h2 : a.toInt ≤ c.toInt) (hp : post (some (.inl (.int 1))) h = true) : zrun zNf zdfl zslen zprog ze_X4_isWithin scr 0 0 cc (fun _ _ => false) post 12 (0, zarg 0 [.inl (.int a), .inl (.int b), .inl (.int c)], [], h, 0, 0) = true := by
  refine zbf (o := zcond .lt (.inl (.int a)) (.inl (.int b))) (zlt0 h1) ?_
  refine zbf (o := zcond .gt (.inl (.int a)) (.inl (.int c))) (zlt0 h2) ?_
  exact hp
theorem zcmp_I (a b : zV) : zisI (zcmpL a b) = true := by
  show zisI (zmk _ _) = true
  unfold zmk
  by_cases hq : (if zhi b < zlo a then (1 : Int) else if zhi b ≤ zlo a then 0 else -1) = (if zhi a < zlo b then -1 else if zhi a ≤ zlo b then 0 else 1)
  · rw [if_pos hq]; rfl
  · rw [if_neg hq]; rfl
theorem zt_in {a b c : Int64} (h1 : b.toInt ≤ a.toInt) (h2 : a.toInt ≤ c.toInt) (hp : post (some (.inl (.int 1))) h = true) : zrun zNf zdfl zslen zprog ze_X5_in scr 0 0 cc (fun _ _ => false) post 14 (0, zarg 0 [.inl (.long a), .inl (.long b), .inl (.long c)], [], h, 0, 0) = true := by
  refine zandi (P := zisI (zcmpL (.inl (.long a)) (.inl (.long b)))) (zcmp_I _ _) ?_
  refine zbf (o := zcond .lt (zcmpL (.inl (.long a)) (.inl (.long b))) (.inl (.int 0))) (zcmp_nlt h1) ?_
  refine zandi (P := zisI (zcmpL (.inl (.long a)) (.inl (.long c)))) (zcmp_I _ _) ?_
  refine zbf (o := zcond .gt (zcmpL (.inl (.long a)) (.inl (.long c))) (.inl (.int 0))) (zcmp_ngt h2) ?_
  exact hp
theorem zt_sureness {m k : Int32} (h1 : 0 < (Int32.ofInt 2 * m - k).toInt) (h2 : (Int32.ofInt 2 * m - k == 0) = false) (hp : post (some (.inl (.int (zq m k)))) h = true) : zrun zNf zdfl zslen zprog ze_X4_sureness scr 0 0 cc (fun _ _ => false) post 20 (0, zarg 0 [.inl (.int m), .inl (.int k)], [], h, 0, 0) = true := by
  refine zbt (o := zcond .gt (.inl (.int (Int32.ofInt 2 * m - k))) (.inl (.int 0))) (zlt1 h1) ?_
  refine zandi (P := !(Int32.ofInt 2 * m - k == 0)) (by rw [h2]; rfl) ?_
  exact hp
theorem zt_suspected {m k : Int32} (h2 : (Int32.ofInt 2 * m - k == 0) = false) (hp : post (some (.inl (.int (zq m k)))) h = true) : zrun zNf zdfl zslen zprog ze_X5_suspected scr 0 0 cc (fun _ _ => false) post 20 (0, zarg 0 [.inl (.int m), .inl (.int k)], [], h, 0, 0) = true := by
  refine zandi (P := !(Int32.ofInt 2 * m - k == 0)) (by rw [h2]; rfl) ?_
  exact hp
theorem zz1 : zcond .eq (.inl (.int 1)) (.inl (.int 0)) = some false := by decide +kernel
theorem zz2 : zcond .ne (.inl (.int 1)) (.inl (.int 0)) = some true := by decide +kernel
theorem zt_suspect4 {r m k : Int32} {q : Nat} (hW : ∀ a b c : Int32, b.toInt ≤ a.toInt → a.toInt ≤ c.toInt → zTo cc 0 [.inl (.int a), .inl (.int b), .inl (.int c)] (.inl (.int 1))) (hS : zTo cc 66 [.inl (.int m), .inl (.int k)] (.inl (.int r)))
    (h1 : 1 ≤ m.toInt) (h2 : m.toInt ≤ 60) (h3 : 0 ≤ k.toInt) (h4 : k.toInt ≤ m.toInt) (hp : post (some (.inl (.int r))) h = true) : zrun zNf zdfl zslen zprog ze_X4_suspect scr 0 0 cc (fun _ _ => false) post 40 (0, zarg 0 [.inl (.ref q), .inl (.int m), .inl (.int k)], [], h, 0, 0) = true := by
  refine hW m (Int32.ofInt 1) (Int8.ofInt 60).toInt32 h1 h2 _ _ ?_
  refine hW k (Int32.ofInt 0) m h3 h4 _ _ ?_
  refine hS _ _ ?_
  exact hp
theorem zt_suspect5 {r m k : Int32} {q : Nat} (hW : ∀ a b c : Int64, b.toInt ≤ a.toInt → a.toInt ≤ c.toInt → zTo cc 1 [.inl (.long a), .inl (.long b), .inl (.long c)] (.inl (.int 1))) (hS : zTo cc 65 [.inl (.int m), .inl (.int k)] (.inl (.int r)))
    (h1 : 1 ≤ m.toInt) (h2 : m.toInt ≤ 60) (h3 : 0 ≤ k.toInt) (h4 : k.toInt ≤ m.toInt) (hp : post (some (.inl (.int r))) h = true) : zrun zNf zdfl zslen zprog ze_X5_suspect scr 0 0 cc (fun _ _ => false) post 40 (0, zarg 0 [.inl (.ref q), .inl (.int m), .inl (.int k)], [], h, 0, 0) = true := by
  refine hW m.toInt64 (Int64.ofNat 1) 60 (by rw [Int32.toInt_toInt64]; exact h1) (by rw [Int32.toInt_toInt64]; exact h2) _ _ ?_
  refine hW k.toInt64 (Int64.ofNat 0) m.toInt64 (by rw [Int32.toInt_toInt64]; exact h3) (by rw [Int32.toInt_toInt64, Int32.toInt_toInt64]; exact h4) _ _ ?_
  refine hS _ _ ?_
  exact hp
theorem zt_loop4 {m f : Int32} {mN q : Nat} (hm : m = Int32.ofNat mN) (hm60 : mN ≤ 60) (hS : ∀ k : Nat, k ≤ mN → zTo cc 66 [.inl (.int m), .inl (.int (Int32.ofNat k))] (.inl (.int (zq m (Int32.ofNat k))))) :
    ∀ (j k : Nat) (kx : Int32), kx = Int32.ofNat k → k + j = mN → post (some (.inl (.int (Int32.ofNat (zkf m f j k))))) h = true → zrun zNf zdfl zslen zprog ze_X4_sure scr 0 0 cc (fun _ _ => false) post (zfu 10 j) (29, [(3, .inl (.int kx)), (0, .inl (.ref q)), (1, .inl (.int m)), (2, .inl (.int f))], [], h, 0, 0) = true := by
  intro j
  induction j with
  | zero =>
    intro k kx hk hkm hp
    subst hk
    have e : k = mN := hkm
    subst e
    refine zbt (o := zcond .ge (.inl (.int (Int32.ofNat k))) (.inl (.int m))) (congrArg znot (zlt0 (by rw [hm]; exact Int.le_refl _))) ?_
    exact hp
  | succ j ih =>
    intro k kx hk hkm hp
    subst hk
    have a1 := zn_at k (by omega)
    have a2 := zn_at mN (by omega)
    refine zbf (o := zcond .ge (.inl (.int (Int32.ofNat k))) (.inl (.int m))) (congrArg znot (zlt1 (by rw [hm, a1.2.1, a2.2.1]; omega))) ?_
    refine hS k (by omega) _ _ ?_
    unfold zkf at hp
    by_cases hf : f.toInt ≤ (zq m (Int32.ofNat k)).toInt
    · rw [if_pos hf] at hp
      refine zbt (o := zcond .ge (.inl (.int (zq m (Int32.ofNat k)))) (.inl (.int f))) (congrArg znot (zlt0 hf)) ?_
      exact hp
    · rw [if_neg hf] at hp
      refine zbf (o := zcond .ge (.inl (.int (zq m (Int32.ofNat k)))) (.inl (.int f))) (congrArg znot (zlt1 (by omega))) ?_
      exact ih (k + 1) (Int32.ofNat k + Int32.ofInt 1) a1.2.2 (by omega) hp
theorem zt_loop5 {m f : Int32} {mN q : Nat} (hm : m = Int32.ofNat mN) (hm60 : mN ≤ 60) (hm1 : 1 ≤ mN) (hf6 : f.toInt ≤ 1000000) (hS : ∀ k : Nat, k ≤ mN → zTo cc 65 [.inl (.int m), .inl (.int (Int32.ofNat k))] (.inl (.int (zq m (Int32.ofNat k))))) :
    ∀ (j k : Nat) (kx : Int32), kx = Int32.ofNat k → k + j = mN → post (some (.inl (.int (Int32.ofNat (zkf m f j k))))) h = true → zrun zNf zdfl zslen zprog ze_X5_sure scr 0 0 cc (fun _ _ => false) post (zfu 7 j) (33, [(3, .inl (.int kx)), (0, .inl (.ref q)), (1, .inl (.int m)), (2, .inl (.int f))], [], h, 0, 0) = true := by
  intro j
  induction j with
  | zero =>
    intro k kx hk hkm hp
    subst hk
    have e : k = mN := hkm
    subst e
    refine hS k (Nat.le_refl _) _ _ ?_
    have a3 := (zq_at k (by omega) k (by omega) ⟨hm1, Nat.le_refl _⟩).2.2 rfl
    rw [← hm] at a3
    refine zbt (o := zcond .ge (.inl (.int (zq m (Int32.ofNat k)))) (.inl (.int f))) (congrArg znot (zlt0 (by rw [← hm, a3]; exact hf6))) ?_
    exact hp
  | succ j ih =>
    intro k kx hk hkm hp
    subst hk
    have a1 := zn_at k (by omega)
    refine hS k (by omega) _ _ ?_
    unfold zkf at hp
    by_cases hf : f.toInt ≤ (zq m (Int32.ofNat k)).toInt
    · rw [if_pos hf] at hp
      refine zbt (o := zcond .ge (.inl (.int (zq m (Int32.ofNat k)))) (.inl (.int f))) (congrArg znot (zlt0 hf)) ?_
      exact hp
    · rw [if_neg hf] at hp
      refine zbf (o := zcond .ge (.inl (.int (zq m (Int32.ofNat k)))) (.inl (.int f))) (congrArg znot (zlt1 (by omega))) ?_
      exact ih (k + 1) (Int32.ofNat k + Int32.ofInt 1) a1.2.2 (by omega) hp
theorem zt_sure4 {m f : Int32} {mN q : Nat} (hW : ∀ a b c : Int32, b.toInt ≤ a.toInt → a.toInt ≤ c.toInt → zTo cc 0 [.inl (.int a), .inl (.int b), .inl (.int c)] (.inl (.int 1))) (hm : m = Int32.ofNat mN) (hm60 : mN ≤ 60) (hm1 : 1 ≤ mN) (hf0 : 0 ≤ f.toInt) (hf6 : f.toInt ≤ 1000000) (hS : ∀ k : Nat, k ≤ mN → zTo cc 66 [.inl (.int m), .inl (.int (Int32.ofNat k))] (.inl (.int (zq m (Int32.ofNat k)))))
    (hp : post (some (.inl (.int (Int32.ofNat (zkf m f mN 0))))) h = true) : zrun zNf zdfl zslen zprog ze_X4_sure scr 0 0 cc (fun _ _ => false) post (zfu 10 mN + 12) (0, zarg 0 [.inl (.ref q), .inl (.int m), .inl (.int f)], [], h, 0, 0) = true := by
  have a2 := zn_at mN (by omega)
  have m1 : m.toInt = mN := by rw [hm]; exact a2.2.1
  refine hW m (Int32.ofInt 1) (Int8.ofInt 60).toInt32 (show (1 : Int) ≤ m.toInt by omega) (show m.toInt ≤ (60 : Int) by omega) _ _ ?_
  refine hW f (Int32.ofInt 0) 1000000 hf0 hf6 _ _ ?_
  exact zt_loop4 hm hm60 hS mN 0 _ rfl (Nat.zero_add _) hp
theorem zt_sure5 {m f : Int32} {mN q : Nat} (hW : ∀ a b c : Int64, b.toInt ≤ a.toInt → a.toInt ≤ c.toInt → zTo cc 1 [.inl (.long a), .inl (.long b), .inl (.long c)] (.inl (.int 1))) (hm : m = Int32.ofNat mN) (hm60 : mN ≤ 60) (hm1 : 1 ≤ mN) (hf0 : 0 ≤ f.toInt) (hf6 : f.toInt ≤ 1000000) (hS : ∀ k : Nat, k ≤ mN → zTo cc 65 [.inl (.int m), .inl (.int (Int32.ofNat k))] (.inl (.int (zq m (Int32.ofNat k)))))
    (hp : post (some (.inl (.int (Int32.ofNat (zkf m f mN 0))))) h = true) : zrun zNf zdfl zslen zprog ze_X5_sure scr 0 0 cc (fun _ _ => false) post (zfu 7 mN + 14) (0, zarg 0 [.inl (.ref q), .inl (.int m), .inl (.int f)], [], h, 0, 0) = true := by
  have a2 := zn_at mN (by omega)
  have m1 : m.toInt = mN := by rw [hm]; exact a2.2.1
  refine hW m.toInt64 (Int64.ofNat 1) 60 (by rw [Int32.toInt_toInt64]; exact (show (1 : Int) ≤ m.toInt by omega)) (by rw [Int32.toInt_toInt64]; exact (show m.toInt ≤ (60 : Int) by omega)) _ _ ?_
  refine hW f.toInt64 (Int64.ofNat 0) 1000000 (by rw [Int32.toInt_toInt64]; exact hf0) (by rw [Int32.toInt_toInt64]; exact hf6) _ _ ?_
  exact zt_loop5 hm hm60 hm1 hf6 hS mN 0 _ rfl (Nat.zero_add _) hp
end
theorem zfin_go {E : zE} {scr : List zV} {rc rs : Nat} {cc : zK} {fin : Nat → zS → Bool} {post : Option zV → zH → Bool} {n : Nat} {x : zS} (h : fin x.1 x = true) : zrun zNf zdfl zslen zprog E scr rc rs cc fin post (n + 1) x = true := by
  show (if fin x.1 x then true else _) = true
  rw [if_pos h]
section
variable {cc : zK} {fb : Bool} {post : Option zV → zH → Bool}
set_option maxRecDepth 20000 in
theorem zt_law32 {a b r : Int32} {P : zS → Bool} (hP : P (1663, zl0s, [], zh0, 79, 2750) = true) (h4 : zTo cc 83 [.inl (.ref 0), .inl (.int a), .inl (.int b)] (.inl (.int r))) (h5 : zTo cc 84 [.inl (.ref 49), .inl (.int a), .inl (.int b)] (.inl (.int r))) : zrun zNf zdfl zslen zprog ze_L_law (zscr [.inl (.int a), .inl (.int b)]) 600000 7302250 cc (fun pc x => Nat.beq pc 1663 && P x) post 40 (1193, zl0s, [], zh0, 79, 2750) = true := by
  refine h4 _ _ ?_
  refine h5 _ _ ?_
  refine zbt (o := zcond .eq (.inl (.int r)) (.inl (.int r))) (zeq_self r) ?_
  exact zfin_go (E := ze_L_law) (scr := zscr [.inl (.int a), .inl (.int b)]) (rc := 600000) (rs := 7302250) (cc := cc) (post := post) (n := 14) (fin := fun pc x => Nat.beq pc 1663 && P x) (x := (1663, zl0s, [], zh0, 79, 2750)) (zandi rfl hP)
set_option maxRecDepth 20000 in
theorem zt_law33 {a b r : Int32} {P : zS → Bool} (hP : P (1663, zl0s, [], zh0, 79, 2750) = true) (h4 : zTo cc 81 [.inl (.ref 0), .inl (.int a), .inl (.int b)] (.inl (.int r))) (h5 : zTo cc 82 [.inl (.ref 49), .inl (.int a), .inl (.int b)] (.inl (.int r))) : zrun zNf zdfl zslen zprog ze_L_law (zscr [.inl (.int a), .inl (.int b)]) 600000 7302250 cc (fun pc x => Nat.beq pc 1663 && P x) post 40 (1226, zl0s, [], zh0, 79, 2750) = true := by
  refine h4 _ _ ?_
  refine h5 _ _ ?_
  refine zbt (o := zcond .eq (.inl (.int r)) (.inl (.int r))) (zeq_self r) ?_
  exact zfin_go (E := ze_L_law) (scr := zscr [.inl (.int a), .inl (.int b)]) (rc := 600000) (rs := 7302250) (cc := cc) (post := post) (n := 14) (fin := fun pc x => Nat.beq pc 1663 && P x) (x := (1663, zl0s, [], zh0, 79, 2750)) (zandi rfl hP)
end
theorem zret_no {ret : Option FieldType} {i : Instr} {st : List zV} {h : zH} : ¬ zret ret i st h (fun _ _ => false) = true := by
  intro hr
  rcases zret_sp hr with ⟨v, -, -, -, hp⟩ | ⟨v, -, -, -, -, hp⟩ | ⟨v, n, -, -, -, -, hp⟩ | ⟨-, -, -, hp⟩ <;> exact Bool.false_ne_true hp
noncomputable def zcc (l : Launch) (scr : List zV) (adK adV : Nat → Nat) (ext : Nat → Option Nat) (D : va_G) (ct : Nat → ClassId) (d : Nat) : zK := fun j vs h post => @decide (zMet l zprog zst zTG zTN scr adK adV ext D ct d j vs h post) (Classical.propDecidable _)
section
variable {l : Launch} {scr : List zV} {adK adV : Nat → Nat} {ext : Nat → Option Nat} {D : va_G} {ct : Nat → ClassId} {d : Nat}
theorem zcc_of {j : Nat} {vs : List zV} {h : zH} {post : Option zV → zH → Bool} (H : zMet l zprog zst zTG zTN scr adK adV ext D ct d j vs h post) : zcc l scr adK adV ext D ct d j vs h post = true :=
  @decide_eq_true _ (Classical.propDecidable _) H
theorem zcc_met (j : Nat) (vs : List zV) (h : zH) (post : Option zV → zH → Bool) (H : zcc l scr adK adV ext D ct d j vs h post = true) : zMet l zprog zst zTG zTN scr adK adV ext D ct d j vs h post :=
  @of_decide_eq_true _ (Classical.propDecidable _) H
theorem z_sym {j : Nat} {E : zE} {vs : List zV} {h : zH} {post : Option zV → zH → Bool} {n : Nat} (hE : zprog j = some E) (hsum : zsum vs ≤ zEm E) (hz : zrun zNf zdfl zslen zprog E scr (zEc E) (zEs E) (zcc l scr adK adV ext D ct d) (fun _ _ => false) post n (0, zarg 0 vs, [], h, 0, 0) = true) : zcc l scr adK adV ext D ct (d + 1) j vs h post = true := by
  refine zcc_of ?_
  intro E' hE' ws sz argv hv hH
  have e : E = E' := Option.some.inj (hE.symm.trans hE')
  subst e
  exact z_met zGood_TG zTNok_TN z_okP z_uwsin (z_slen zGood_TG zTNok_TN z_slw z_uwsin d) z_eslw z_glob zcc_met hE hsum hz hv hH
theorem zc_isW (a b c : Int32) (h1 : b.toInt ≤ a.toInt) (h2 : a.toInt ≤ c.toInt) : zTo (zcc l scr adK adV ext D ct (d + 1)) 0 [.inl (.int a), .inl (.int b), .inl (.int c)] (.inl (.int 1)) := fun h post hp =>
  z_sym (E := ze_X4_isWithin) (n := 12) rfl (Nat.le_of_ble_eq_true rfl) (zt_isW h1 h2 hp)
theorem zc_in (a b c : Int64) (h1 : b.toInt ≤ a.toInt) (h2 : a.toInt ≤ c.toInt) : zTo (zcc l scr adK adV ext D ct (d + 1)) 1 [.inl (.long a), .inl (.long b), .inl (.long c)] (.inl (.int 1)) := fun h post hp =>
  z_sym (E := ze_X5_in) (n := 14) rfl (Nat.le_of_ble_eq_true rfl) (zt_in h1 h2 hp)
theorem zc_sureness {mN k : Nat} (h0 : mN ≤ 60) (h1 : 1 ≤ mN) (h2 : k ≤ mN) : zTo (zcc l scr adK adV ext D ct (d + 1)) 66 [.inl (.int (Int32.ofNat mN)), .inl (.int (Int32.ofNat k))] (.inl (.int (zq (Int32.ofNat mN) (Int32.ofNat k)))) := fun h post hp => by
  have a := zq_at mN (by omega) k (by omega) ⟨h1, h2⟩
  exact z_sym (E := ze_X4_sureness) (n := 20) rfl (Nat.le_of_ble_eq_true rfl) (zt_sureness a.1 a.2.1 hp)
theorem zc_suspected {mN k : Nat} (h0 : mN ≤ 60) (h1 : 1 ≤ mN) (h2 : k ≤ mN) : zTo (zcc l scr adK adV ext D ct (d + 1)) 65 [.inl (.int (Int32.ofNat mN)), .inl (.int (Int32.ofNat k))] (.inl (.int (zq (Int32.ofNat mN) (Int32.ofNat k)))) := fun h post hp => by
  have a := zq_at mN (by omega) k (by omega) ⟨h1, h2⟩
  exact z_sym (E := ze_X5_suspected) (n := 20) rfl (Nat.le_of_ble_eq_true rfl) (zt_suspected a.2.1 hp)
theorem zn_le {mN k : Nat} (h0 : mN ≤ 60) (h2 : k ≤ mN) : (Int32.ofNat k).toInt ≤ (Int32.ofNat mN).toInt ∧ 0 ≤ (Int32.ofNat k).toInt ∧ (Int32.ofNat mN).toInt ≤ 60 := by
  rw [(zn_at k (by omega)).2.1, (zn_at mN (by omega)).2.1]
  omega
theorem zn_ge {mN : Nat} (h0 : mN ≤ 60) (h1 : 1 ≤ mN) : 1 ≤ (Int32.ofNat mN).toInt := by
  rw [(zn_at mN (by omega)).2.1]
  omega
theorem zc_suspect4 {q mN k : Nat} (h0 : mN ≤ 60) (h1 : 1 ≤ mN) (h2 : k ≤ mN) : zTo (zcc l scr adK adV ext D ct (d + 2)) 83 [.inl (.ref q), .inl (.int (Int32.ofNat mN)), .inl (.int (Int32.ofNat k))] (.inl (.int (zq (Int32.ofNat mN) (Int32.ofNat k)))) := fun h post hp => by
  have a := zn_le h0 h2
  exact z_sym (E := ze_X4_suspect) (n := 40) rfl (Nat.le_of_ble_eq_true rfl) (zt_suspect4 zc_isW (zc_sureness h0 h1 h2) (zn_ge h0 h1) a.2.2 a.2.1 a.1 hp)
theorem zc_suspect5 {q mN k : Nat} (h0 : mN ≤ 60) (h1 : 1 ≤ mN) (h2 : k ≤ mN) : zTo (zcc l scr adK adV ext D ct (d + 2)) 84 [.inl (.ref q), .inl (.int (Int32.ofNat mN)), .inl (.int (Int32.ofNat k))] (.inl (.int (zq (Int32.ofNat mN) (Int32.ofNat k)))) := fun h post hp => by
  have a := zn_le h0 h2
  exact z_sym (E := ze_X5_suspect) (n := 40) rfl (Nat.le_of_ble_eq_true rfl) (zt_suspect5 zc_in (zc_suspected h0 h1 h2) (zn_ge h0 h1) a.2.2 a.2.1 a.1 hp)
theorem zc_sure4 {q mN : Nat} {f : Int32} (h0 : mN ≤ 60) (h1 : 1 ≤ mN) (hf0 : 0 ≤ f.toInt) (hf6 : f.toInt ≤ 1000000) : zTo (zcc l scr adK adV ext D ct (d + 2)) 81 [.inl (.ref q), .inl (.int (Int32.ofNat mN)), .inl (.int f)] (.inl (.int (Int32.ofNat (zkf (Int32.ofNat mN) f mN 0)))) := fun h post hp =>
  z_sym (E := ze_X4_sure) rfl (Nat.le_of_ble_eq_true rfl) (zt_sure4 zc_isW rfl h0 h1 hf0 hf6 (fun k hk => zc_sureness h0 h1 hk) hp)
theorem zc_sure5 {q mN : Nat} {f : Int32} (h0 : mN ≤ 60) (h1 : 1 ≤ mN) (hf0 : 0 ≤ f.toInt) (hf6 : f.toInt ≤ 1000000) : zTo (zcc l scr adK adV ext D ct (d + 2)) 82 [.inl (.ref q), .inl (.int (Int32.ofNat mN)), .inl (.int f)] (.inl (.int (Int32.ofNat (zkf (Int32.ofNat mN) f mN 0)))) := fun h post hp =>
  z_sym (E := ze_X5_sure) rfl (Nat.le_of_ble_eq_true rfl) (zt_sure5 zc_in rfl h0 h1 hf0 hf6 (fun k hk => zc_suspected h0 h1 hk) hp)
end
theorem zx1 : zop1 1193 (zscr [zmk (-2147483648) 0, zI0]) = true := by decide +kernel
theorem zx2 : zop1 1193 (zscr [zmk 61 2147483647, zI0]) = true := by decide +kernel
theorem zx3 : zop1 1193 (zscr [zmk 1 60, zmk (-2147483648) (-1)]) = true := by decide +kernel
theorem zx4 : ∀ i : Nat, i < 60 → zop1 1193 (zscr [zmk (i + 1) (i + 1), zmk (i + 2) 2147483647]) = true := by decide +kernel
theorem zx5 : zop1 1226 (zscr [zmk (-2147483648) 0, zI0]) = true := by decide +kernel
theorem zx6 : zop1 1226 (zscr [zmk 61 2147483647, zI0]) = true := by decide +kernel
theorem zx7 : zop1 1226 (zscr [zmk 1 60, zmk (-2147483648) (-1)]) = true := by decide +kernel
theorem zx8 : zop1 1226 (zscr [zmk 1 60, zmk 1000001 2147483647]) = true := by decide +kernel
section
variable {p : Program} {l : Launch} {e : Env} {s : State} {m : MethodId} {below : List Frame} {meth : Method} {c : Code} {b : Nat} {D : va_G} {ct : Nat → ClassId} {adK adV : Nat → Nat}
theorem z_two {v w : zV} {xs : Nat → Int32} (h1 : zisI v = true ∧ zg (fun _ => none) v (.int (xs 1))) (h2 : zisI w = true ∧ zg (fun _ => none) w (.int (xs 2))) : ∀ (j : Nat) (u : zV), [v, w][j]? = some u → zisI u = true ∧ zg (fun _ => none) u (.int (xs (j + 1)))
  | 0, u, h => by cases h; exact h1
  | 1, u, h => by cases h; exact h2
  | j + 2, u, h => by simp at h
theorem z_iv {lo hi : Int} {x : Int32} (h1 : lo ≤ x.toInt) (h2 : x.toInt ≤ hi) : zisI (zmk lo hi) = true ∧ zg (fun _ => none) (zmk lo hi) (.int x) := ⟨zmk_I _ _, zmk_g h1 h2⟩
theorem z_xx (x : Int32) : zisI (.inl (.int x)) = true ∧ zg (fun _ => none) (.inl (.int x)) (.int x) := ⟨rfl, rfl⟩
theorem z_x0 (x : Int32) : zisI zI0 = true ∧ zg (fun _ => none) zI0 (.int x) := ⟨rfl, zg_I0 _ _⟩
theorem z_opg1 {xs : Nat → Int32} (C0 : lw_At p s m meth c b 6 xs) (hK : va_K D vwCl (ztys ct) s) (hN : ∀ w ∈ zTN, va_Nw w s) (hO : va_AO RX0 s) (hO1 : va_AOA .long s) (hO2 : va_AOA .int s)
    (hFs : ∀ (scr : List zV) (xs : Nat → Int32), va_X b scr.length xs s s.heap → (∀ (j : Nat) (v : zV), scr[j]? = some v → zisI v = true ∧ zg (fun _ => none) v (.int (xs j))) → zFacts zst scr adK adV (zext b adK) (fun q : Nat => s.heap.size ≤ q) s s.heap)
    {v w : zV} {tg : Nat} (hz : zop1 tg (zscr [v, w]) = true) (h1 : zisI v = true ∧ zg (fun _ => none) v (.int (xs 1))) (h2 : zisI w = true ∧ zg (fun _ => none) w (.int (xs 2))) : zGL p l e s m below meth c b D ct adK (tg, zl0s, [], zh0, 79, 2750) := by
  obtain ⟨h4, h5⟩ := zscr_rel (t := [v, w]) (xs := xs) (Nat.le_of_ble_eq_true rfl) (z_two h1 h2)
  have hX : va_X b (zscr [v, w]).length xs s s.heap := by
    rw [h4]
    exact C0.2.2.2.2.2.2.1
  exact z_lawrun C0 (z_lawcx C0 hK hN hO hO1 hO2 (hFs (zscr [v, w]) xs hX h5)) (fun x hx => absurd hx Bool.false_ne_true) (fun x i h => h) 2000 _ hz
theorem z_opsym {xs : Nat → Int32} (C0 : lw_At p s m meth c b 6 xs) (hK : va_K D vwCl (ztys ct) s) (hN : ∀ w ∈ zTN, va_Nw w s) (hO : va_AO RX0 s) (hO1 : va_AOA .long s) (hO2 : va_AOA .int s)
    (hFs : ∀ (scr : List zV) (xs : Nat → Int32), va_X b scr.length xs s s.heap → (∀ (j : Nat) (v : zV), scr[j]? = some v → zisI v = true ∧ zg (fun _ => none) v (.int (xs j))) → zFacts zst scr adK adV (zext b adK) (fun q : Nat => s.heap.size ≤ q) s s.heap)
    (h52 : zGL p l e s m below meth c b D ct adK (1663, zl0s, [], zh0, 79, 2750)) {tg : Nat}
    (hz : ∀ P : zS → Bool, P (1663, zl0s, [], zh0, 79, 2750) = true → zrun zNf zdfl zslen zprog ze_L_law (zscr [.inl (.int (xs 1)), .inl (.int (xs 2))]) 600000 7302250 (zcc l (zscr [.inl (.int (xs 1)), .inl (.int (xs 2))]) adK adV (zext b adK) D ct 10) (fun pc x => Nat.beq pc 1663 && P x) (fun _ _ => false) 40 (tg, zl0s, [], zh0, 79, 2750) = true) :
    zGL p l e s m below meth c b D ct adK (tg, zl0s, [], zh0, 79, 2750) := by
  obtain ⟨h4, h5⟩ := zscr_rel (t := [.inl (.int (xs 1)), .inl (.int (xs 2))]) (xs := xs) (Nat.le_of_ble_eq_true rfl) (z_two (z_xx _) (z_xx _))
  have hX : va_X b (zscr [.inl (.int (xs 1)), .inl (.int (xs 2))]).length xs s s.heap := by
    rw [h4]
    exact C0.2.2.2.2.2.2.1
  have C := z_lawcx C0 hK hN hO hO1 hO2 (hFs _ xs hX h5)
  exact zrun_sound C zGood_TG zTNok_TN z_okP (z_slen zGood_TG zTNok_TN z_slw z_uwsin 10) z_eslw z_glob zcc_met (fin := fun pc x => Nat.beq pc 1663 && @decide (zGL p l e s m below meth c b D ct adK x) (Classical.propDecidable _)) (post := fun _ _ => false)
    (fun x hx => @of_decide_eq_true _ (Classical.propDecidable _) (z_and hx).2) (fun x i _ _ hr => absurd hr zret_no) 40 _ (hz _ (@decide_eq_true _ (Classical.propDecidable _) h52))
theorem z_op32 {xs : Nat → Int32} (C0 : lw_At p s m meth c b 6 xs) (hK : va_K D vwCl (ztys ct) s) (hN : ∀ w ∈ zTN, va_Nw w s) (hO : va_AO RX0 s) (hO1 : va_AOA .long s) (hO2 : va_AOA .int s)
    (hFs : ∀ (scr : List zV) (xs : Nat → Int32), va_X b scr.length xs s s.heap → (∀ (j : Nat) (v : zV), scr[j]? = some v → zisI v = true ∧ zg (fun _ => none) v (.int (xs j))) → zFacts zst scr adK adV (zext b adK) (fun q : Nat => s.heap.size ≤ q) s s.heap)
    (h52 : zGL p l e s m below meth c b D ct adK (1663, zl0s, [], zh0, 79, 2750)) : zGL p l e s m below meth c b D ct adK (1193, zl0s, [], zh0, 79, 2750) := by
  have r1 := z_i32 (xs 1)
  have r2 := z_i32 (xs 2)
  by_cases a1 : (xs 1).toInt ≤ 0
  · exact z_opg1 C0 hK hN hO hO1 hO2 hFs zx1 (z_iv r1.1 a1) (z_x0 _)
  by_cases a2 : 61 ≤ (xs 1).toInt
  · exact z_opg1 C0 hK hN hO hO1 hO2 hFs zx2 (z_iv a2 r1.2) (z_x0 _)
  by_cases a3 : (xs 2).toInt ≤ -1
  · exact z_opg1 C0 hK hN hO hO1 hO2 hFs zx3 (z_iv (by omega) (by omega)) (z_iv r2.1 a3)
  obtain ⟨mN, b1, b2⟩ := zn_of (x := xs 1) (by omega) (by omega)
  have b3 : (xs 1).toInt = mN := by rw [b2]; exact (zn_at mN (by omega)).2.1
  by_cases a4 : (xs 1).toInt < (xs 2).toInt
  · exact z_opg1 C0 hK hN hO hO1 hO2 hFs (zx4 (mN - 1) (by omega)) (z_iv (by omega) (by omega)) (z_iv (by omega) r2.2)
  obtain ⟨k, b4, b5⟩ := zn_of (x := xs 2) (by omega) (by omega)
  have b6 : (xs 2).toInt = k := by rw [b5]; exact (zn_at k (by omega)).2.1
  refine z_opsym C0 hK hN hO hO1 hO2 hFs h52 (fun P hP => ?_)
  rw [b2, b5]
  exact zt_law32 hP (zc_suspect4 b1 (by omega) (by omega)) (zc_suspect5 b1 (by omega) (by omega))
theorem z_op33 {xs : Nat → Int32} (C0 : lw_At p s m meth c b 6 xs) (hK : va_K D vwCl (ztys ct) s) (hN : ∀ w ∈ zTN, va_Nw w s) (hO : va_AO RX0 s) (hO1 : va_AOA .long s) (hO2 : va_AOA .int s)
    (hFs : ∀ (scr : List zV) (xs : Nat → Int32), va_X b scr.length xs s s.heap → (∀ (j : Nat) (v : zV), scr[j]? = some v → zisI v = true ∧ zg (fun _ => none) v (.int (xs j))) → zFacts zst scr adK adV (zext b adK) (fun q : Nat => s.heap.size ≤ q) s s.heap)
    (h52 : zGL p l e s m below meth c b D ct adK (1663, zl0s, [], zh0, 79, 2750)) : zGL p l e s m below meth c b D ct adK (1226, zl0s, [], zh0, 79, 2750) := by
  have r1 := z_i32 (xs 1)
  have r2 := z_i32 (xs 2)
  by_cases a1 : (xs 1).toInt ≤ 0
  · exact z_opg1 C0 hK hN hO hO1 hO2 hFs zx5 (z_iv r1.1 a1) (z_x0 _)
  by_cases a2 : 61 ≤ (xs 1).toInt
  · exact z_opg1 C0 hK hN hO hO1 hO2 hFs zx6 (z_iv a2 r1.2) (z_x0 _)
  by_cases a3 : (xs 2).toInt ≤ -1
  · exact z_opg1 C0 hK hN hO hO1 hO2 hFs zx7 (z_iv (by omega) (by omega)) (z_iv r2.1 a3)
  by_cases a4 : 1000001 ≤ (xs 2).toInt
  · exact z_opg1 C0 hK hN hO hO1 hO2 hFs zx8 (z_iv (by omega) (by omega)) (z_iv a4 r2.2)
  obtain ⟨mN, b1, b2⟩ := zn_of (x := xs 1) (by omega) (by omega)
  have b3 : (xs 1).toInt = mN := by rw [b2]; exact (zn_at mN (by omega)).2.1
  refine z_opsym C0 hK hN hO hO1 hO2 hFs h52 (fun P hP => ?_)
  rw [b2]
  exact zt_law33 hP (zc_sure4 b1 (by omega) (by omega) (by omega)) (zc_sure5 b1 (by omega) (by omega) (by omega))
end
end
section
section
variable {p : Program} {l : Launch} {e : Env} {s : State} {m : MethodId} {below : List Frame} {meth : Method} {c : Code} {b : Nat} {D : va_G} {ct : Nat → ClassId} {adK adV : Nat → Nat}
theorem z_opall {xs : Nat → Int32} (C0 : lw_At p s m meth c b 6 xs) (hK : va_K D vwCl (ztys ct) s) (hN : ∀ w ∈ zTN, va_Nw w s) (hO : va_AO RX0 s) (hO1 : va_AOA .long s) (hO2 : va_AOA .int s)
    (hFs : ∀ (scr : List zV) (xs : Nat → Int32), va_X b scr.length xs s s.heap → (∀ (j : Nat) (v : zV), scr[j]? = some v → zisI v = true ∧ zg (fun _ => none) v (.int (xs j))) → zFacts zst scr adK adV (zext b adK) (fun q : Nat => s.heap.size ≤ q) s s.heap)
    (h52 : zGL p l e s m below meth c b D ct adK (1663, zl0s, [], zh0, 79, 2750)) : ∀ j, j < 52 → zGL p l e s m below meth c b D ct adK (ztgs.getD j 0, zl0s, [], zh0, 79, 2750)
  | 0, _ => z_opgo C0 hK hN hO hO1 hO2 hFs zo_0 zcv_0
  | 1, _ => z_opgo C0 hK hN hO hO1 hO2 hFs zo_1 zcv_1
  | 2, _ => z_opgo C0 hK hN hO hO1 hO2 hFs zo_2 zcv_2
  | 3, _ => z_opgo C0 hK hN hO hO1 hO2 hFs zo_3 zcv_3
  | 4, _ => z_opgo C0 hK hN hO hO1 hO2 hFs zo_4 zcv_4
  | 5, _ => z_opgo C0 hK hN hO hO1 hO2 hFs zo_5 zcv_5
  | 6, _ => z_opgo C0 hK hN hO hO1 hO2 hFs zo_6 zcv_6
  | 7, _ => z_opgo C0 hK hN hO hO1 hO2 hFs zo_7 zcv_7
  | 8, _ => z_opgo C0 hK hN hO hO1 hO2 hFs zo_8 zcv_8
  | 9, _ => z_opgo C0 hK hN hO hO1 hO2 hFs zo_9 zcv_9
  | 10, _ => z_opgo C0 hK hN hO hO1 hO2 hFs zo_10 zcv_10
  | 11, _ => z_opgo C0 hK hN hO hO1 hO2 hFs zo_11 zcv_11
  | 12, _ => z_opgo C0 hK hN hO hO1 hO2 hFs zo_12 zcv_12
  | 13, _ => z_opgo C0 hK hN hO hO1 hO2 hFs zo_13 zcv_13
  | 14, _ => z_opgo C0 hK hN hO hO1 hO2 hFs zo_14 zcv_14
  | 15, _ => z_opgo C0 hK hN hO hO1 hO2 hFs zo_15 zcv_15
  | 16, _ => z_opgo C0 hK hN hO hO1 hO2 hFs zo_16 zcv_16
  | 17, _ => z_opgo C0 hK hN hO hO1 hO2 hFs zo_17 zcv_17
  | 18, _ => z_opgo C0 hK hN hO hO1 hO2 hFs zo_18 zcv_18
  | 19, _ => z_opgo C0 hK hN hO hO1 hO2 hFs zo_19 zcv_19
  | 20, _ => z_opgo C0 hK hN hO hO1 hO2 hFs zo_20 zcv_20
  | 21, _ => z_opgo C0 hK hN hO hO1 hO2 hFs zo_21 zcv_21
  | 22, _ => z_opgo C0 hK hN hO hO1 hO2 hFs zo_22 zcv_22
  | 23, _ => z_opgo C0 hK hN hO hO1 hO2 hFs zo_23 zcv_23
  | 24, _ => z_opgo C0 hK hN hO hO1 hO2 hFs zo_24 zcv_24
  | 25, _ => z_opgo C0 hK hN hO hO1 hO2 hFs zo_25 zcv_25
  | 26, _ => z_opgo C0 hK hN hO hO1 hO2 hFs zo_26 zcv_26
  | 27, _ => z_opgo C0 hK hN hO hO1 hO2 hFs zo_27 zcv_27
  | 28, _ => z_opgo C0 hK hN hO hO1 hO2 hFs zo_28 zcv_28
  | 29, _ => z_opgo C0 hK hN hO hO1 hO2 hFs zo_29 zcv_29
  | 30, _ => z_opgo C0 hK hN hO hO1 hO2 hFs zo_30 zcv_30
  | 31, _ => z_opgo C0 hK hN hO hO1 hO2 hFs zo_31 zcv_31
  | 32, _ => z_op32 C0 hK hN hO hO1 hO2 hFs h52
  | 33, _ => z_op33 C0 hK hN hO hO1 hO2 hFs h52
  | 34, _ => z_opgo C0 hK hN hO hO1 hO2 hFs zo_34 zcv_34
  | 35, _ => z_opgo C0 hK hN hO hO1 hO2 hFs zo_35 zcv_35
  | 36, _ => z_opgo C0 hK hN hO hO1 hO2 hFs zo_36 zcv_36
  | 37, _ => z_opgo C0 hK hN hO hO1 hO2 hFs zo_37 zcv_37
  | 38, _ => z_opgo C0 hK hN hO hO1 hO2 hFs zo_38 zcv_38
  | 39, _ => z_opgo C0 hK hN hO hO1 hO2 hFs zo_39 zcv_39
  | 40, _ => z_opgo C0 hK hN hO hO1 hO2 hFs zo_40 zcv_40
  | 41, _ => z_opgo C0 hK hN hO hO1 hO2 hFs zo_41 zcv_41
  | 42, _ => z_opgo C0 hK hN hO hO1 hO2 hFs zo_42 zcv_42
  | 43, _ => z_opgo C0 hK hN hO hO1 hO2 hFs zo_43 zcv_43
  | 44, _ => z_opgo C0 hK hN hO hO1 hO2 hFs zo_44 zcv_44
  | 45, _ => z_opgo C0 hK hN hO hO1 hO2 hFs zo_45 zcv_45
  | 46, _ => z_opgo C0 hK hN hO hO1 hO2 hFs zo_46 zcv_46
  | 47, _ => z_opgo C0 hK hN hO hO1 hO2 hFs zo_47 zcv_47
  | 48, _ => z_opgo C0 hK hN hO hO1 hO2 hFs zo_48 zcv_48
  | 49, _ => z_opgo C0 hK hN hO hO1 hO2 hFs zo_49 zcv_49
  | 50, _ => z_opgo C0 hK hN hO hO1 hO2 hFs zo_50 zcv_50
  | 51, _ => z_opgo C0 hK hN hO hO1 hO2 hFs zo_51 zcv_51
  | j + 52, h => absurd h (by omega)
end
theorem whole_start {p : Program} {e : Env} {s : State} {m : MethodId} {below : List Frame} {meth : Method} {c : Code} (l : Launch) (hflags : l.flags = flags0) {b L : Nat} {xs : Nat → Int32} (hL : L ≤ 6) (C0 : lw_At p s m meth c b L xs) : W p l e room_1 s m #[Value.ref b] below meth c s.heap [] 0 0 (lw_Z below #[Value.ref b] s) (entryFrame m ([Value.ref b] : List Value).toArray 4) := by
  obtain ⟨hx, hb, hr, hml, hown, hts, hX, hbl, hlocks, hgv⟩ := id C0
  obtain ⟨D, ct, adK, adV, hK, hN, hO, hO1, hO2, hFs⟩ := z_start hts hgv hbl
  by_cases h6 : L < 6
  · have hX' : va_X b (List.replicate L zI0).length xs s s.heap := by
      rw [List.length_replicate]
      exact hX
    have hs : ∀ (j : Nat) (v : zV), (List.replicate L zI0)[j]? = some v → zisI v = true ∧ zg (fun _ => none) v (.int (xs j)) := fun j v hj => by
      rw [List.eq_of_mem_replicate (List.mem_of_getElem? hj)]
      exact z_x0 _
    exact z_entry rfl (z_lawrun C0 (z_lawcx C0 hK hN hO hO1 hO2 (hFs _ xs hX' hs)) (fun x hx => absurd hx Bool.false_ne_true) (fun x i h => h) 300 _ (zshort L h6))
  · have e6 : L = 6 := by omega
    subst e6
    obtain ⟨h4, h5⟩ := zscr_rel (t := []) (xs := xs) (Nat.zero_le _) (fun j v h => by simp at h)
    have hX' : va_X b (zscr []).length xs s s.heap := by
      rw [h4]
      exact hX
    have h52 : zGL p l e s m below meth c b D ct adK (1663, zl0s, [], zh0, 79, 2750) := z_opgo C0 hK hN hO hO1 hO2 hFs zo_52 zcv_52
    refine z_entry rfl (z_lawrun C0 (z_lawcx C0 hK hN hO hO1 hO2 (hFs (zscr []) xs hX' h5)) (fin := zfin27) (post := fun _ _ => false) (fun x hx => ?_) (fun x i h => absurd h zret_no) 300 _ zseg1)
    rw [zfin27_sp hx]
    exact z_switch C0 h52 (z_opall C0 hK hN hO hO1 hO2 hFs h52)
end
section
set_option maxHeartbeats 4000000 in
theorem lw_walk (l : Launch) (hflags : l.flags = flags0) (b : Addr) (xs : List Int32) : MetFree l x (headSpec (Jvm.Cond.code x code maxLocals ret :: tables_1) room_1) (lw_P b xs) (fun _ _ _ _ _ => True) lw_Q := by
  refine MetFree.of_bodyS (code := code) (maxLocals := maxLocals) (ret := ret) (by decide) ?_ ?_
  · intro args s m h hn
    obtain ⟨meth, c, h1, h2, h3, h4, h5, h6, -, -⟩ := Cond.code_spec hn (atoms_spec (ws := Jvm.Cond.code x code maxLocals ret :: tables_1) h _ List.mem_cons_self)
    exact ⟨meth, c, h1, h2, h3, h4, h5, h6⟩
  · intro p e s m args below meth c s₁ B hml0 hP _
    obtain ⟨rfl, hx, hbd, hgv⟩ := hP
    obtain ⟨scr, harrAt, hlist, hof, hsmall⟩ := hx
    obtain ⟨hcb, hkn, -, -⟩ := State.arrayAt?_spec harrAt
    have hown : s.vm.findClass R_law = some m.cls := findClass_of_methodNamed B.named
    have hts0 : ∀ c ∈ (Jvm.Cond.code x code maxLocals ret :: tables_1), c.before #[Value.ref b] s = true := atoms_spec (ws := Jvm.Cond.code x code maxLocals ret :: tables_1) B.pre
    have hts : ∀ w ∈ lw_tbl, w.before #[Value.ref b] s = true := k2_hts_sels lw_privs (fun w hw => hts0 w (List.mem_cons_of_mem _ hw)) lw_privs_ok
    have hml : c.maxLocals = 4 := B.maxLocals_eq (hts0 _ List.mem_cons_self)
    have X₀ : Stand p l e room_1 s m #[Value.ref b] below meth c s₁ [] 0 0 := Stand.of_body B
    have hh0 : s₁.heap = s.heap := by rw [B.state]; rfl
    have hsz : scr.slots.size = xs.length := by rw [← Array.length_toList, hlist, List.length_map]
    have hval : ∀ j : Nat, j < xs.length → scr.slots[j]? = some (.int (xs.getD j 0)) := fun j hj => by
      rw [← Array.getElem?_toList, hlist]
      simp [hj]
    have hbl : b < s.heap.size := (Array.getElem?_eq_some_iff.mp hcb).1
    have hX : va_X b xs.length (fun j => xs.getD j 0) s s.heap := ⟨scr, hcb, hof, hkn, hsz, hval⟩
    have K : W p l e room_1 s m #[Value.ref b] below meth c s₁.heap [] 0 0 (lw_Z below #[Value.ref b] s) (entryFrame m ([Value.ref b] : List Value).toArray 4) := by
      rw [hh0]
      exact whole_start l hflags hbd ⟨B.exec, B.bytes, B.returns, hml, hown, hts, hX, hbl, B.notSynchronized, hgv⟩
    obtain ⟨t, a1, o, b1, b2, b3⟩ := K s₁ rfl X₀
    exact ⟨t, o, a1, b1, b2, b3⟩
theorem lw_pre_spec {args : Array Value} {s : State} (h : (Jvm.Cond.and given_1 narrow_1).before args s = true) (hr : rest_1_c.before args s = true) : ∃ (b : Addr) (xs : List Int32), lw_P b xs args s := by
  have hs := flat_of_before _ h
  have hq := flat_of_before _ hr
  have hc : (Cond.count 1).before args s = true := hs _ (by decide +kernel)
  have harr : (Cond.arrayOf (.arg 0) .int).before args s = true := hs _ (by decide +kernel)
  have hle : (Cond.le (.length (.arg 0)) (.int 6)).before args s = true := hs _ (by decide +kernel)
  have hlen : (Cond.isInt (.length (.arg 0))).before args s = true := hq _ (by decide +kernel)
  have hall : (Cond.all (.arg 0) (.isInt (.elem (.arg 0) (.index 0)))).before args s = true := hq _ (by decide +kernel)
  obtain ⟨b, xs, hb, hx⟩ := State.ints_of_pre rfl harr hlen hall
  have hsm : xs.length < 2 ^ 31 := hx.choose_spec.2.2.2
  have hev : (Term.length (.arg 0)).eval args s none [] s = some (.int xs.length.toInt32) := hx.length_eval hb
  have hv := Cond.le_ints hev (show (Term.int 6).eval args s none [] s = some (.int 6) from rfl)
  have hd : xs.length.toInt32 ≤ 6 := by
    simpa [Cond.before, Cond.holds, hv] using hle
  have hN : xs.length ≤ 6 := (Int32.ofNat_le_ofNat hsm (by decide)).mp (show Int32.ofNat xs.length ≤ Int32.ofNat 6 from hd)
  exact ⟨b, xs, Cond.one_arg hc (show args[0]? = some (.ref b) from hb), hx, hN, h⟩
theorem lw_comes (l : Launch) (hflags : l.flags = flags0) : Comes l x (Jvm.Cond.code x code maxLocals ret :: tables_1) room_1 (fun tb e args s => Calls_1 tb e args s ∧ rest_1 tb e args s ∧ Pre_1 tb e args s)
    (fun _ _ args s o t => lw_Q args s o t) := by
  intro p e ha hc hk s m args below hf hfit hheap happ hpre
  obtain ⟨b, xs, hP⟩ := lw_pre_spec hpre.2.2 hpre.2.1
  obtain ⟨k, o, h1, h2, h3, hQ⟩ := lw_walk l hflags b xs p e ha hc hk s m args below hf ((Spec.applies_iff_loose hf).mp happ).1 hP trivial
  exact ⟨k, o, h1, h2, h3, hQ⟩
theorem lw_frame {s t : State} {o : Outcome} {args : Array Value} (h : Framed s o t [] 600000 7302250) :
    Framed s o t (fieldLocs frame_1_writes args s ++ arrayLocs frame_1_arrays args s ++ staticLocs frame_1_statics s) 600000 7302250 := h
theorem lw_limb (L : Cond) (hL : ∀ (args : Array Value) (s t : State), L.after args s (.returned (some (.int 1))) t = true) :
    ArmFor flags0 classFile x code maxLocals ret World_1 tables_1 room_1 Calls_1 rest_1 Pre_1
      (fun tb e a s o t => postC L tb e a s o t ∧ Framed s o t (fieldLocs frame_1_writes a s ++ arrayLocs frame_1_arrays a s ++ staticLocs frame_1_statics s) 600000 7302250) := by
  intro l hflags _ _ p e ha hc hk s m args below hf hfit hheap happ hpre
  obtain ⟨k, o, h1, h2, h3, rfl, hF⟩ := lw_comes l hflags p e ha hc hk s m args below hf hfit hheap happ hpre
  exact ⟨k, _, h1, h2, h3, hL args s _, lw_frame hF⟩
theorem i_vc : Claimed_1_1 ∧ Claimed_1_2 := ⟨lw_limb limb_1_1 (fun args s t => by simp [limb_1_1, Cond.after, Cond.holds, Cond.value]), lw_limb limb_1_2 (fun args s t => Cond.after_iff.mpr (by
  first | (rw [show limb_1_2 = Cond.eq .result (.int 1) from rfl, Cond.eq_ints (x := 1) (y := 1) rfl rfl]; simp; done) | (simp [limb_1_2, Cond.value, Term.eval]; done)))⟩
end
