section
-- ===== PART A: goes FIRST, ahead of the names: the tables' words, and 'selects' of the private methods out of them =====
/-- a private method of a class that the tables say can be made, by its rows of tables_1 -/
def lw_okq (q : MethodName × Nat) : Prop := (q.1.cls ≠ "java/lang/invoke/MethodHandle" ∧ q.1.cls ≠ "java/lang/invoke/VarHandle") ∧ Cond.instantiable q.1.cls q.2 ∈ tables_1 ∧ Cond.privateMethod q.1 ∈ tables_1 ∧ Cond.instanceMethod q.1 ∈ tables_1
theorem lw_p0 : lw_okq (⟨"EndsInFive", "refuse", "(I)I"⟩, 8) := ⟨⟨by decide +kernel, by decide +kernel⟩, List.mem_of_getElem? (i := 16) (by decide +kernel), List.mem_of_getElem? (i := 226) (by decide +kernel), List.mem_of_getElem? (i := 227) (by decide +kernel)⟩
theorem lw_p1 : lw_okq (⟨"EndsInFive", "wordOf", "(II)I"⟩, 8) := ⟨⟨by decide +kernel, by decide +kernel⟩, List.mem_of_getElem? (i := 16) (by decide +kernel), List.mem_of_getElem? (i := 297) (by decide +kernel), List.mem_of_getElem? (i := 298) (by decide +kernel)⟩
theorem lw_p2 : lw_okq (⟨"EndsInFive", "meanOfGoes", "(II)I"⟩, 8) := ⟨⟨by decide +kernel, by decide +kernel⟩, List.mem_of_getElem? (i := 16) (by decide +kernel), List.mem_of_getElem? (i := 701) (by decide +kernel), List.mem_of_getElem? (i := 702) (by decide +kernel)⟩
theorem lw_p3 : lw_okq (⟨"EndsInFive", "lackOfBook", "(II)I"⟩, 8) := ⟨⟨by decide +kernel, by decide +kernel⟩, List.mem_of_getElem? (i := 16) (by decide +kernel), List.mem_of_getElem? (i := 764) (by decide +kernel), List.mem_of_getElem? (i := 765) (by decide +kernel)⟩
theorem lw_p4 : lw_okq (⟨"EndsInFive", "firstWrong", "(III)I"⟩, 8) := ⟨⟨by decide +kernel, by decide +kernel⟩, List.mem_of_getElem? (i := 16) (by decide +kernel), List.mem_of_getElem? (i := 768) (by decide +kernel), List.mem_of_getElem? (i := 769) (by decide +kernel)⟩
theorem lw_p5 : lw_okq (⟨"EndsInFive", "countShelvesInUse", "()I"⟩, 8) := ⟨⟨by decide +kernel, by decide +kernel⟩, List.mem_of_getElem? (i := 16) (by decide +kernel), List.mem_of_getElem? (i := 875) (by decide +kernel), List.mem_of_getElem? (i := 876) (by decide +kernel)⟩
theorem lw_p6 : lw_okq (⟨"EndsInFiveModel", "refuse", "(I)I"⟩, 41) := ⟨⟨by decide +kernel, by decide +kernel⟩, List.mem_of_getElem? (i := 879) (by decide +kernel), List.mem_of_getElem? (i := 1023) (by decide +kernel), List.mem_of_getElem? (i := 1024) (by decide +kernel)⟩
theorem lw_p7 : lw_okq (⟨"EndsInFiveModel", "noRow", "(I)I"⟩, 41) := ⟨⟨by decide +kernel, by decide +kernel⟩, List.mem_of_getElem? (i := 879) (by decide +kernel), List.mem_of_getElem? (i := 1031) (by decide +kernel), List.mem_of_getElem? (i := 1032) (by decide +kernel)⟩
theorem lw_p8 : lw_okq (⟨"EndsInFiveModel", "isThing", "(I)Z"⟩, 41) := ⟨⟨by decide +kernel, by decide +kernel⟩, List.mem_of_getElem? (i := 879) (by decide +kernel), List.mem_of_getElem? (i := 1054) (by decide +kernel), List.mem_of_getElem? (i := 1055) (by decide +kernel)⟩
theorem lw_p9 : lw_okq (⟨"EndsInFiveModel", "standing", "()I"⟩, 41) := ⟨⟨by decide +kernel, by decide +kernel⟩, List.mem_of_getElem? (i := 879) (by decide +kernel), List.mem_of_getElem? (i := 1066) (by decide +kernel), List.mem_of_getElem? (i := 1067) (by decide +kernel)⟩
theorem lw_p10 : lw_okq (⟨"EndsInFiveModel", "brought", "(II)I"⟩, 41) := ⟨⟨by decide +kernel, by decide +kernel⟩, List.mem_of_getElem? (i := 879) (by decide +kernel), List.mem_of_getElem? (i := 1070) (by decide +kernel), List.mem_of_getElem? (i := 1071) (by decide +kernel)⟩
theorem lw_p11 : lw_okq (⟨"EndsInFiveModel", "inside", "()I"⟩, 41) := ⟨⟨by decide +kernel, by decide +kernel⟩, List.mem_of_getElem? (i := 879) (by decide +kernel), List.mem_of_getElem? (i := 1074) (by decide +kernel), List.mem_of_getElem? (i := 1075) (by decide +kernel)⟩
theorem lw_p12 : lw_okq (⟨"EndsInFiveModel", "becomeSlips", "(I)V"⟩, 41) := ⟨⟨by decide +kernel, by decide +kernel⟩, List.mem_of_getElem? (i := 879) (by decide +kernel), List.mem_of_getElem? (i := 1083) (by decide +kernel), List.mem_of_getElem? (i := 1084) (by decide +kernel)⟩
theorem lw_p13 : lw_okq (⟨"EndsInFiveModel", "isWinner", "(I)Z"⟩, 41) := ⟨⟨by decide +kernel, by decide +kernel⟩, List.mem_of_getElem? (i := 879) (by decide +kernel), List.mem_of_getElem? (i := 1103) (by decide +kernel), List.mem_of_getElem? (i := 1104) (by decide +kernel)⟩
theorem lw_p14 : lw_okq (⟨"EndsInFiveModel", "thingOn", "(I)I"⟩, 41) := ⟨⟨by decide +kernel, by decide +kernel⟩, List.mem_of_getElem? (i := 879) (by decide +kernel), List.mem_of_getElem? (i := 1108) (by decide +kernel), List.mem_of_getElem? (i := 1109) (by decide +kernel)⟩
theorem lw_p15 : lw_okq (⟨"EndsInFiveModel", "addThing", "(III)V"⟩, 41) := ⟨⟨by decide +kernel, by decide +kernel⟩, List.mem_of_getElem? (i := 879) (by decide +kernel), List.mem_of_getElem? (i := 1112) (by decide +kernel), List.mem_of_getElem? (i := 1113) (by decide +kernel)⟩
def lw_privs_1 : List (MethodName × Nat) := [(⟨"EndsInFive", "refuse", "(I)I"⟩, 8), (⟨"EndsInFive", "wordOf", "(II)I"⟩, 8), (⟨"EndsInFive", "meanOfGoes", "(II)I"⟩, 8), (⟨"EndsInFive", "lackOfBook", "(II)I"⟩, 8), (⟨"EndsInFive", "firstWrong", "(III)I"⟩, 8), (⟨"EndsInFive", "countShelvesInUse", "()I"⟩, 8), (⟨"EndsInFiveModel", "refuse", "(I)I"⟩, 41), (⟨"EndsInFiveModel", "noRow", "(I)I"⟩, 41), (⟨"EndsInFiveModel", "isThing", "(I)Z"⟩, 41), (⟨"EndsInFiveModel", "standing", "()I"⟩, 41), (⟨"EndsInFiveModel", "brought", "(II)I"⟩, 41), (⟨"EndsInFiveModel", "inside", "()I"⟩, 41), (⟨"EndsInFiveModel", "becomeSlips", "(I)V"⟩, 41), (⟨"EndsInFiveModel", "isWinner", "(I)Z"⟩, 41), (⟨"EndsInFiveModel", "thingOn", "(I)I"⟩, 41), (⟨"EndsInFiveModel", "addThing", "(III)V"⟩, 41)]
theorem lw_r1 : ∀ q ∈ lw_privs_1, lw_okq q := List.forall_mem_cons.mpr ⟨lw_p0, List.forall_mem_cons.mpr ⟨lw_p1, List.forall_mem_cons.mpr ⟨lw_p2, List.forall_mem_cons.mpr ⟨lw_p3, List.forall_mem_cons.mpr ⟨lw_p4, List.forall_mem_cons.mpr ⟨lw_p5, List.forall_mem_cons.mpr ⟨lw_p6, List.forall_mem_cons.mpr ⟨lw_p7, List.forall_mem_cons.mpr ⟨lw_p8, List.forall_mem_cons.mpr ⟨lw_p9, List.forall_mem_cons.mpr ⟨lw_p10, List.forall_mem_cons.mpr ⟨lw_p11, List.forall_mem_cons.mpr ⟨lw_p12, List.forall_mem_cons.mpr ⟨lw_p13, List.forall_mem_cons.mpr ⟨lw_p14, List.forall_mem_cons.mpr ⟨lw_p15, fun _ h => absurd h List.not_mem_nil⟩⟩⟩⟩⟩⟩⟩⟩⟩⟩⟩⟩⟩⟩⟩⟩
theorem lw_p16 : lw_okq (⟨"EndsInFiveModel", "addBuyer", "(I)V"⟩, 41) := ⟨⟨by decide +kernel, by decide +kernel⟩, List.mem_of_getElem? (i := 879) (by decide +kernel), List.mem_of_getElem? (i := 1121) (by decide +kernel), List.mem_of_getElem? (i := 1122) (by decide +kernel)⟩
theorem lw_p17 : lw_okq (⟨"EndsInFiveModel", "isBuyer", "(I)Z"⟩, 41) := ⟨⟨by decide +kernel, by decide +kernel⟩, List.mem_of_getElem? (i := 879) (by decide +kernel), List.mem_of_getElem? (i := 1129) (by decide +kernel), List.mem_of_getElem? (i := 1130) (by decide +kernel)⟩
theorem lw_p18 : lw_okq (⟨"EndsInFiveModel", "fresh", "()LEndsInFiveModel;"⟩, 41) := ⟨⟨by decide +kernel, by decide +kernel⟩, List.mem_of_getElem? (i := 879) (by decide +kernel), List.mem_of_getElem? (i := 1151) (by decide +kernel), List.mem_of_getElem? (i := 1152) (by decide +kernel)⟩
theorem lw_p19 : lw_okq (⟨"EndsInFiveModel", "takeFrom", "(LEndsInFiveModel;)V"⟩, 41) := ⟨⟨by decide +kernel, by decide +kernel⟩, List.mem_of_getElem? (i := 879) (by decide +kernel), List.mem_of_getElem? (i := 1157) (by decide +kernel), List.mem_of_getElem? (i := 1158) (by decide +kernel)⟩
theorem lw_p20 : lw_okq (⟨"EndsInFiveModel", "readAll", "()Z"⟩, 41) := ⟨⟨by decide +kernel, by decide +kernel⟩, List.mem_of_getElem? (i := 879) (by decide +kernel), List.mem_of_getElem? (i := 1164) (by decide +kernel), List.mem_of_getElem? (i := 1165) (by decide +kernel)⟩
theorem lw_p21 : lw_okq (⟨"EndsInFiveModel", "look", "()V"⟩, 41) := ⟨⟨by decide +kernel, by decide +kernel⟩, List.mem_of_getElem? (i := 879) (by decide +kernel), List.mem_of_getElem? (i := 1168) (by decide +kernel), List.mem_of_getElem? (i := 1169) (by decide +kernel)⟩
theorem lw_p22 : lw_okq (⟨"EndsInFiveModel", "statement", "()Z"⟩, 41) := ⟨⟨by decide +kernel, by decide +kernel⟩, List.mem_of_getElem? (i := 879) (by decide +kernel), List.mem_of_getElem? (i := 1179) (by decide +kernel), List.mem_of_getElem? (i := 1180) (by decide +kernel)⟩
theorem lw_p23 : lw_okq (⟨"EndsInFiveModel", "isWord", "(Ljava/lang/String;)Z"⟩, 41) := ⟨⟨by decide +kernel, by decide +kernel⟩, List.mem_of_getElem? (i := 879) (by decide +kernel), List.mem_of_getElem? (i := 1184) (by decide +kernel), List.mem_of_getElem? (i := 1185) (by decide +kernel)⟩
theorem lw_p24 : lw_okq (⟨"EndsInFiveModel", "tells", "(II)Z"⟩, 41) := ⟨⟨by decide +kernel, by decide +kernel⟩, List.mem_of_getElem? (i := 879) (by decide +kernel), List.mem_of_getElem? (i := 1190) (by decide +kernel), List.mem_of_getElem? (i := 1191) (by decide +kernel)⟩
theorem lw_p25 : lw_okq (⟨"EndsInFiveModel", "number", "(III)Z"⟩, 41) := ⟨⟨by decide +kernel, by decide +kernel⟩, List.mem_of_getElem? (i := 879) (by decide +kernel), List.mem_of_getElem? (i := 1194) (by decide +kernel), List.mem_of_getElem? (i := 1195) (by decide +kernel)⟩
theorem lw_p26 : lw_okq (⟨"EndsInFiveModel", "wrong", "()Z"⟩, 41) := ⟨⟨by decide +kernel, by decide +kernel⟩, List.mem_of_getElem? (i := 879) (by decide +kernel), List.mem_of_getElem? (i := 1198) (by decide +kernel), List.mem_of_getElem? (i := 1199) (by decide +kernel)⟩
theorem lw_p27 : lw_okq (⟨"EndsInFiveModel", "priceTold", "()Z"⟩, 41) := ⟨⟨by decide +kernel, by decide +kernel⟩, List.mem_of_getElem? (i := 879) (by decide +kernel), List.mem_of_getElem? (i := 1204) (by decide +kernel), List.mem_of_getElem? (i := 1205) (by decide +kernel)⟩
theorem lw_p28 : lw_okq (⟨"EndsInFiveModel", "thingTold", "()Z"⟩, 41) := ⟨⟨by decide +kernel, by decide +kernel⟩, List.mem_of_getElem? (i := 879) (by decide +kernel), List.mem_of_getElem? (i := 1210) (by decide +kernel), List.mem_of_getElem? (i := 1211) (by decide +kernel)⟩
theorem lw_p29 : lw_okq (⟨"EndsInFiveModel", "outTold", "()Z"⟩, 41) := ⟨⟨by decide +kernel, by decide +kernel⟩, List.mem_of_getElem? (i := 879) (by decide +kernel), List.mem_of_getElem? (i := 1217) (by decide +kernel), List.mem_of_getElem? (i := 1218) (by decide +kernel)⟩
theorem lw_p30 : lw_okq (⟨"EndsInFiveModel", "owned", "(I)I"⟩, 41) := ⟨⟨by decide +kernel, by decide +kernel⟩, List.mem_of_getElem? (i := 879) (by decide +kernel), List.mem_of_getElem? (i := 1229) (by decide +kernel), List.mem_of_getElem? (i := 1230) (by decide +kernel)⟩
theorem lw_p31 : lw_okq (⟨"EndsInFiveModel", "liked", "(II)I"⟩, 41) := ⟨⟨by decide +kernel, by decide +kernel⟩, List.mem_of_getElem? (i := 879) (by decide +kernel), List.mem_of_getElem? (i := 1233) (by decide +kernel), List.mem_of_getElem? (i := 1234) (by decide +kernel)⟩
def lw_privs_2 : List (MethodName × Nat) := [(⟨"EndsInFiveModel", "addBuyer", "(I)V"⟩, 41), (⟨"EndsInFiveModel", "isBuyer", "(I)Z"⟩, 41), (⟨"EndsInFiveModel", "fresh", "()LEndsInFiveModel;"⟩, 41), (⟨"EndsInFiveModel", "takeFrom", "(LEndsInFiveModel;)V"⟩, 41), (⟨"EndsInFiveModel", "readAll", "()Z"⟩, 41), (⟨"EndsInFiveModel", "look", "()V"⟩, 41), (⟨"EndsInFiveModel", "statement", "()Z"⟩, 41), (⟨"EndsInFiveModel", "isWord", "(Ljava/lang/String;)Z"⟩, 41), (⟨"EndsInFiveModel", "tells", "(II)Z"⟩, 41), (⟨"EndsInFiveModel", "number", "(III)Z"⟩, 41), (⟨"EndsInFiveModel", "wrong", "()Z"⟩, 41), (⟨"EndsInFiveModel", "priceTold", "()Z"⟩, 41), (⟨"EndsInFiveModel", "thingTold", "()Z"⟩, 41), (⟨"EndsInFiveModel", "outTold", "()Z"⟩, 41), (⟨"EndsInFiveModel", "owned", "(I)I"⟩, 41), (⟨"EndsInFiveModel", "liked", "(II)I"⟩, 41)]
theorem lw_r2 : ∀ q ∈ lw_privs_2, lw_okq q := List.forall_mem_cons.mpr ⟨lw_p16, List.forall_mem_cons.mpr ⟨lw_p17, List.forall_mem_cons.mpr ⟨lw_p18, List.forall_mem_cons.mpr ⟨lw_p19, List.forall_mem_cons.mpr ⟨lw_p20, List.forall_mem_cons.mpr ⟨lw_p21, List.forall_mem_cons.mpr ⟨lw_p22, List.forall_mem_cons.mpr ⟨lw_p23, List.forall_mem_cons.mpr ⟨lw_p24, List.forall_mem_cons.mpr ⟨lw_p25, List.forall_mem_cons.mpr ⟨lw_p26, List.forall_mem_cons.mpr ⟨lw_p27, List.forall_mem_cons.mpr ⟨lw_p28, List.forall_mem_cons.mpr ⟨lw_p29, List.forall_mem_cons.mpr ⟨lw_p30, List.forall_mem_cons.mpr ⟨lw_p31, fun _ h => absurd h List.not_mem_nil⟩⟩⟩⟩⟩⟩⟩⟩⟩⟩⟩⟩⟩⟩⟩⟩
theorem lw_p32 : lw_okq (⟨"EndsInFiveModel", "drawableMany", "()I"⟩, 41) := ⟨⟨by decide +kernel, by decide +kernel⟩, List.mem_of_getElem? (i := 879) (by decide +kernel), List.mem_of_getElem? (i := 1241) (by decide +kernel), List.mem_of_getElem? (i := 1242) (by decide +kernel)⟩
theorem lw_p33 : lw_okq (⟨"EndsInFiveModel", "canDraw", "(I)Z"⟩, 41) := ⟨⟨by decide +kernel, by decide +kernel⟩, List.mem_of_getElem? (i := 879) (by decide +kernel), List.mem_of_getElem? (i := 1245) (by decide +kernel), List.mem_of_getElem? (i := 1246) (by decide +kernel)⟩
theorem lw_p34 : lw_okq (⟨"EndsInFiveModel", "isFree", "(III)Z"⟩, 41) := ⟨⟨by decide +kernel, by decide +kernel⟩, List.mem_of_getElem? (i := 879) (by decide +kernel), List.mem_of_getElem? (i := 1249) (by decide +kernel), List.mem_of_getElem? (i := 1250) (by decide +kernel)⟩
theorem lw_p35 : lw_okq (⟨"EndsInFiveModel", "winsBy", "(I)I"⟩, 41) := ⟨⟨by decide +kernel, by decide +kernel⟩, List.mem_of_getElem? (i := 879) (by decide +kernel), List.mem_of_getElem? (i := 1261) (by decide +kernel), List.mem_of_getElem? (i := 1262) (by decide +kernel)⟩
theorem lw_p36 : lw_okq (⟨"EndsInFiveModel", "wonBy", "(II)I"⟩, 41) := ⟨⟨by decide +kernel, by decide +kernel⟩, List.mem_of_getElem? (i := 879) (by decide +kernel), List.mem_of_getElem? (i := 1265) (by decide +kernel), List.mem_of_getElem? (i := 1266) (by decide +kernel)⟩
theorem lw_p37 : lw_okq (⟨"EndsInFiveModel", "worthTo", "(I)I"⟩, 41) := ⟨⟨by decide +kernel, by decide +kernel⟩, List.mem_of_getElem? (i := 879) (by decide +kernel), List.mem_of_getElem? (i := 1273) (by decide +kernel), List.mem_of_getElem? (i := 1274) (by decide +kernel)⟩
theorem lw_p38 : lw_okq (⟨"EndsInFiveModel", "planOf", "(I)I"⟩, 41) := ⟨⟨by decide +kernel, by decide +kernel⟩, List.mem_of_getElem? (i := 879) (by decide +kernel), List.mem_of_getElem? (i := 1281) (by decide +kernel), List.mem_of_getElem? (i := 1282) (by decide +kernel)⟩
theorem lw_p39 : lw_okq (⟨"EndsInFiveModel", "beginValues", "(II)V"⟩, 41) := ⟨⟨by decide +kernel, by decide +kernel⟩, List.mem_of_getElem? (i := 879) (by decide +kernel), List.mem_of_getElem? (i := 1285) (by decide +kernel), List.mem_of_getElem? (i := 1286) (by decide +kernel)⟩
theorem lw_p40 : lw_okq (⟨"EndsInFiveModel", "valueAt", "(II)J"⟩, 41) := ⟨⟨by decide +kernel, by decide +kernel⟩, List.mem_of_getElem? (i := 879) (by decide +kernel), List.mem_of_getElem? (i := 1290) (by decide +kernel), List.mem_of_getElem? (i := 1291) (by decide +kernel)⟩
theorem lw_p41 : lw_okq (⟨"EndsInFiveModel", "foundAt", "(II)J"⟩, 41) := ⟨⟨by decide +kernel, by decide +kernel⟩, List.mem_of_getElem? (i := 879) (by decide +kernel), List.mem_of_getElem? (i := 1294) (by decide +kernel), List.mem_of_getElem? (i := 1295) (by decide +kernel)⟩
theorem lw_p42 : lw_okq (⟨"EndsInFiveModel", "meanOf", "(II)J"⟩, 41) := ⟨⟨by decide +kernel, by decide +kernel⟩, List.mem_of_getElem? (i := 879) (by decide +kernel), List.mem_of_getElem? (i := 1311) (by decide +kernel), List.mem_of_getElem? (i := 1312) (by decide +kernel)⟩
theorem lw_p43 : lw_okq (⟨"EndsInFiveModel", "takingsAt", "(I)I"⟩, 41) := ⟨⟨by decide +kernel, by decide +kernel⟩, List.mem_of_getElem? (i := 879) (by decide +kernel), List.mem_of_getElem? (i := 1328) (by decide +kernel), List.mem_of_getElem? (i := 1329) (by decide +kernel)⟩
theorem lw_p44 : lw_okq (⟨"EndsInFiveModel", "fullWith", "(I)I"⟩, 41) := ⟨⟨by decide +kernel, by decide +kernel⟩, List.mem_of_getElem? (i := 879) (by decide +kernel), List.mem_of_getElem? (i := 1340) (by decide +kernel), List.mem_of_getElem? (i := 1341) (by decide +kernel)⟩
theorem lw_p45 : lw_okq (⟨"EndsInFiveModel", "noBook", "(II)I"⟩, 41) := ⟨⟨by decide +kernel, by decide +kernel⟩, List.mem_of_getElem? (i := 879) (by decide +kernel), List.mem_of_getElem? (i := 1369) (by decide +kernel), List.mem_of_getElem? (i := 1370) (by decide +kernel)⟩
theorem lw_p46 : lw_okq (⟨"EndsInFiveModel", "wrongIn", "([JI)I"⟩, 41) := ⟨⟨by decide +kernel, by decide +kernel⟩, List.mem_of_getElem? (i := 879) (by decide +kernel), List.mem_of_getElem? (i := 1373) (by decide +kernel), List.mem_of_getElem? (i := 1374) (by decide +kernel)⟩
theorem lw_p47 : lw_okq (⟨"EndsInFiveModel", "comesOut", "(II)I"⟩, 41) := ⟨⟨by decide +kernel, by decide +kernel⟩, List.mem_of_getElem? (i := 879) (by decide +kernel), List.mem_of_getElem? (i := 1377) (by decide +kernel), List.mem_of_getElem? (i := 1378) (by decide +kernel)⟩
def lw_privs_3 : List (MethodName × Nat) := [(⟨"EndsInFiveModel", "drawableMany", "()I"⟩, 41), (⟨"EndsInFiveModel", "canDraw", "(I)Z"⟩, 41), (⟨"EndsInFiveModel", "isFree", "(III)Z"⟩, 41), (⟨"EndsInFiveModel", "winsBy", "(I)I"⟩, 41), (⟨"EndsInFiveModel", "wonBy", "(II)I"⟩, 41), (⟨"EndsInFiveModel", "worthTo", "(I)I"⟩, 41), (⟨"EndsInFiveModel", "planOf", "(I)I"⟩, 41), (⟨"EndsInFiveModel", "beginValues", "(II)V"⟩, 41), (⟨"EndsInFiveModel", "valueAt", "(II)J"⟩, 41), (⟨"EndsInFiveModel", "foundAt", "(II)J"⟩, 41), (⟨"EndsInFiveModel", "meanOf", "(II)J"⟩, 41), (⟨"EndsInFiveModel", "takingsAt", "(I)I"⟩, 41), (⟨"EndsInFiveModel", "fullWith", "(I)I"⟩, 41), (⟨"EndsInFiveModel", "noBook", "(II)I"⟩, 41), (⟨"EndsInFiveModel", "wrongIn", "([JI)I"⟩, 41), (⟨"EndsInFiveModel", "comesOut", "(II)I"⟩, 41)]
theorem lw_r3 : ∀ q ∈ lw_privs_3, lw_okq q := List.forall_mem_cons.mpr ⟨lw_p32, List.forall_mem_cons.mpr ⟨lw_p33, List.forall_mem_cons.mpr ⟨lw_p34, List.forall_mem_cons.mpr ⟨lw_p35, List.forall_mem_cons.mpr ⟨lw_p36, List.forall_mem_cons.mpr ⟨lw_p37, List.forall_mem_cons.mpr ⟨lw_p38, List.forall_mem_cons.mpr ⟨lw_p39, List.forall_mem_cons.mpr ⟨lw_p40, List.forall_mem_cons.mpr ⟨lw_p41, List.forall_mem_cons.mpr ⟨lw_p42, List.forall_mem_cons.mpr ⟨lw_p43, List.forall_mem_cons.mpr ⟨lw_p44, List.forall_mem_cons.mpr ⟨lw_p45, List.forall_mem_cons.mpr ⟨lw_p46, List.forall_mem_cons.mpr ⟨lw_p47, fun _ h => absurd h List.not_mem_nil⟩⟩⟩⟩⟩⟩⟩⟩⟩⟩⟩⟩⟩⟩⟩⟩
theorem lw_p48 : lw_okq (⟨"EndsInFiveModel", "comesOn", "(III[Z)V"⟩, 41) := ⟨⟨by decide +kernel, by decide +kernel⟩, List.mem_of_getElem? (i := 879) (by decide +kernel), List.mem_of_getElem? (i := 1393) (by decide +kernel), List.mem_of_getElem? (i := 1394) (by decide +kernel)⟩
theorem lw_p49 : lw_okq (⟨"EndsInFiveModel", "goesOne", "(I)I"⟩, 41) := ⟨⟨by decide +kernel, by decide +kernel⟩, List.mem_of_getElem? (i := 879) (by decide +kernel), List.mem_of_getElem? (i := 1422) (by decide +kernel), List.mem_of_getElem? (i := 1423) (by decide +kernel)⟩
theorem lw_p50 : lw_okq (⟨"EndsInFiveModel", "drawn", "()I"⟩, 41) := ⟨⟨by decide +kernel, by decide +kernel⟩, List.mem_of_getElem? (i := 879) (by decide +kernel), List.mem_of_getElem? (i := 1426) (by decide +kernel), List.mem_of_getElem? (i := 1427) (by decide +kernel)⟩
theorem lw_p51 : lw_okq (⟨"EndsInFiveModel", "below", "(I)I"⟩, 41) := ⟨⟨by decide +kernel, by decide +kernel⟩, List.mem_of_getElem? (i := 879) (by decide +kernel), List.mem_of_getElem? (i := 1430) (by decide +kernel), List.mem_of_getElem? (i := 1431) (by decide +kernel)⟩
def lw_privs_4 : List (MethodName × Nat) := [(⟨"EndsInFiveModel", "comesOn", "(III[Z)V"⟩, 41), (⟨"EndsInFiveModel", "goesOne", "(I)I"⟩, 41), (⟨"EndsInFiveModel", "drawn", "()I"⟩, 41), (⟨"EndsInFiveModel", "below", "(I)I"⟩, 41)]
theorem lw_r4 : ∀ q ∈ lw_privs_4, lw_okq q := List.forall_mem_cons.mpr ⟨lw_p48, List.forall_mem_cons.mpr ⟨lw_p49, List.forall_mem_cons.mpr ⟨lw_p50, List.forall_mem_cons.mpr ⟨lw_p51, fun _ h => absurd h List.not_mem_nil⟩⟩⟩⟩
def lw_privs : List (MethodName × Nat) := lw_privs_1 ++ (lw_privs_2 ++ (lw_privs_3 ++ (lw_privs_4)))
def lw_tbl : List Cond := k2_sels lw_privs ++ tables_1
theorem lw_privs_ok : ∀ q ∈ lw_privs, lw_okq q := by
  show ∀ q ∈ lw_privs_1 ++ (lw_privs_2 ++ (lw_privs_3 ++ (lw_privs_4))), lw_okq q
  exact List.forall_mem_append.mpr ⟨lw_r1, List.forall_mem_append.mpr ⟨lw_r2, List.forall_mem_append.mpr ⟨lw_r3, lw_r4⟩⟩⟩
end
section
def va_AOA (ty : FieldType) (U : State) : Prop := (Cond.arrayOver (.array ty)).before #[] U = true
theorem z_idx_bare (vm : Vm) (comp : ClassId) : (vm.bare.classes.findIdx? fun (x : Class) => match x.kind with | .array component _ => component == comp | _ => false) = (vm.classes.findIdx? fun (x : Class) => match x.kind with | .array component _ => component == comp | _ => false) := by
  simp only [Vm.bare, Array.findIdx?_map]
  rfl
theorem va_AOA.use {ty : FieldType} {A : Array Value} {U : State} (h : va_AOA ty U) : (Cond.arrayOver (.array ty)).before A U = true := h
theorem va_AOA.spec {ty : FieldType} {s : State} (h : va_AOA ty s) : ∃ comp c k, s.vm.findClass (FieldType.array ty).toString = some comp ∧ (s.vm.classes.findIdx? fun (x : Class) => match x.kind with | .array component _ => component == comp | _ => false) = some c ∧ s.vm.classes[c]? = some k ∧ k.kind = .array comp (.array ty) ∧ s.vm.findClass ("[" ++ (FieldType.array ty).toString) = some c := by
  unfold va_AOA at h
  simp only [Cond.before, Cond.holds, Cond.value, beq_iff_eq] at h
  cases hc : s.vm.findClass (FieldType.array ty).toString with
  | none => simp [hc] at h
  | some comp =>
    simp only [hc, Option.bind_some, Option.bind_eq_some_iff, Option.map_eq_some_iff] at h
    obtain ⟨c, hi, k, hk, hb⟩ := h
    obtain ⟨hlt, hp, -⟩ := Array.findIdx?_eq_some_iff_getElem.mp hi
    have hkk : s.vm.classes[c] = k := (Array.getElem?_eq_some_iff.mp hk).2
    rw [hkk] at hp
    cases hkind : k.kind with
    | array component ty2 =>
      rw [hkind] at hb hp
      simp at hb hp
      exact ⟨comp, c, k, rfl, hi, hk, by rw [hkind, hp, hb.1], hb.2⟩
    | _ => rw [hkind] at hb; simp at hb
theorem va_AOA.moved {ty : FieldType} {u U : State} (hvm : u.vm.Alike U.vm) (h : va_AOA ty u) : va_AOA ty U := by
  obtain ⟨comp, c, k, h1, h2, h3, h4, h5⟩ := va_AOA.spec h
  obtain ⟨k', hk', he⟩ := hvm.2.2 _ _ h3
  have hi : (U.vm.classes.findIdx? fun (x : Class) => match x.kind with | .array component _ => component == comp | _ => false) = some c := by
    rw [← z_idx_bare]
    first | rw [hvm.bare_eq] | rw [← hvm.bare_eq]
    rw [z_idx_bare]
    exact h2
  have hkind : k'.kind = .array comp (.array ty) := by rw [he]; exact h4
  have f1 : U.vm.findClass (FieldType.array ty).toString = some comp := by rw [hvm.findClass]; exact h1
  have f2 : U.vm.findClass ("[" ++ (FieldType.array ty).toString) = some c := by rw [hvm.findClass]; exact h5
  unfold va_AOA Cond.before Cond.holds
  simp only [Cond.value]
  rw [f1, Option.bind_some]
  refine (congrArg (fun o : Option Nat => (o.bind (fun c => (U.vm.classes[c]?).map fun (k : Class) => match k.kind with | .array _ ty2 => decide (ty2 = FieldType.array ty) && decide (U.vm.findClass ("[" ++ (FieldType.array ty).toString) = some c) | _ => false) == some true)) hi).trans ?_
  simp [hk', hkind, f2]

/-! ===== BEGIN words of one list among another's, by their places ===== -/
theorem goodIn_r {big : List Cond} (ws : List Cond) (ps : List Nat) (hp : ws = ps.filterMap (fun i => big[i]?)) (h : ws.all goodWord = true) : GoodIn big ws := by
  intro w hw
  have h1 := List.all_eq_true.mp h w hw
  rw [hp] at hw
  obtain ⟨i, -, hi⟩ := List.mem_filterMap.mp hw
  have hm : w ∈ big := by first | exact List.mem_of_getElem? hi | exact List.getElem?_mem hi
  exact ⟨hm, good_of_word h1⟩
theorem goodIn_app {big a b : List Cond} (ha : GoodIn big a) (hb : GoodIn big b) : GoodIn big (a ++ b) := fun w h => (List.mem_append.mp h).elim (ha w) (hb w)
theorem goodIn_ca {big a b : List Cond} {c : Cond} (ha : GoodIn big (c :: a)) (hb : GoodIn big b) : GoodIn big (c :: (a ++ b)) := fun w h => (List.mem_cons.mp h).elim (fun e => ha w (List.mem_cons.mpr (Or.inl e))) (fun h => (List.mem_append.mp h).elim (fun h => ha w (List.mem_cons.mpr (Or.inr h))) (hb w))
theorem goodIn_sub {big ws : List Cond} (hm : ∀ w ∈ ws, w ∈ big) (h : ws.all goodWord = true) : GoodIn big ws := fun w hw => ⟨hm w hw, good_of_word (List.all_eq_true.mp h w hw)⟩
/-! ===== END ===== -/

/-! ===== BEGIN new T[n][m]: the outer array a place, the inner ones among the pooled ===== -/
/-- f, but v at every address of l -/
def vr_up {α : Type} (f : Nat → α) (l : List Nat) (v : α) : Nat → α := fun a => if a ∈ l then v else f a
theorem vr_up_in {α : Type} {f : Nat → α} {l : List Nat} {v : α} {a : Nat} (h : a ∈ l) : vr_up f l v a = v := if_pos h
theorem vr_up_ne {α : Type} {f : Nat → α} {l : List Nat} {v : α} {a : Nat} (h : a ∉ l) : vr_up f l v a = f a := if_neg h
theorem vr_rows {L l : List Nat} {f : Nat → va_E} {e : va_E} (h : ∀ a, a ∈ l → a ∉ L) : va_pl L f ++ l.map (fun a => (a, e)) = va_pl (L ++ l) (vr_up f l e) := by
  unfold va_pl
  rw [List.map_append]
  congr 1
  · apply List.map_congr_left
    intro a ha
    rw [vr_up_ne (fun q => h a q ha)]
  · apply List.map_congr_left
    intro a ha
    rw [vr_up_in ha]
theorem vr_lay {X rows : va_W} {x : Nat × va_E} {pl : va_W} {D : va_G} {cl : List vw_C} {H : Heap} (hP : va_P D cl (((X ++ pl) ++ [x]) ++ rows) H) : va_P D cl ((X ++ [x]) ++ (pl ++ rows)) H := by
  rw [List.append_assoc (X ++ pl)] at hP
  have h := va_P.swap hP
  rw [← List.append_assoc X] at h
  have h2 := va_P.swap h
  rw [List.append_assoc (X ++ [x])] at h2
  exact h2
theorem vr_layD {X rows : va_W} {x : Nat × va_E} {pl : va_W} {A : Nat → Prop} (hD : va_D A (((X ++ pl) ++ [x]) ++ rows)) : va_D A ((X ++ [x]) ++ (pl ++ rows)) := by
  rw [List.append_assoc (X ++ pl)] at hD
  have h := va_D.swap hD
  rw [← List.append_assoc X] at h
  have h2 := va_D.swap h
  rw [List.append_assoc (X ++ [x])] at h2
  exact h2
theorem vr_outer (c : ClassId) (N h0 : Nat) : ∀ i : Nat, Jvm.Free.Multi.outerC c N h0 i = arrV c N (fun j => va_rf (if j < i then some (h0 + 1 + j) else none))
  | 0 => by
    show ({ cls := c, slots := Array.replicate N .null, vm := .none } : Cell) = _
    rw [arrV_new]
    refine congrArg (arrV c N) (funext fun j => ?_)
    simp [va_rf]
  | i + 1 => by
    show (Jvm.Free.Multi.outerC c N h0 i).setSlot i (.ref (h0 + 1 + i)) = _
    rw [vr_outer c N h0 i, arrV_store]
    refine congrArg (arrV c N) (funext fun j => ?_)
    by_cases e : j = i
    · subst e
      simp [updV, va_rf]
    · by_cases h : j < i
      · simp [updV, e, h, Nat.lt_succ_of_lt h]
      · simp [updV, e, h, show ¬ j < i + 1 by omega]
section VGM
variable {p : Program} {l : Launch} {e : Env} {R : Room} {s : State} {m : MethodId} {args : Array Value} {below : List Frame} {meth : Method} {c : Code} {H : Heap} {locs : List Loc} {cells slots : Nat} {Q : State → Prop}
variable {cc : ByteArray} {pc : Nat} {ls : Array Slot} {rest : List Value} {D : va_G} {cl : List vw_C} {A : Nat → Prop} {a : Nat} {tys : List (ClassId × FieldType)} {ws : va_W} {H0 : Heap}
theorem va_mna {X : va_W} {L : List Nat} {f : Nat → va_E} {cc : ByteArray} (hexec : p.tables.exec = Jvm.exec) (hb : c.code = cc) {own : String} {index : Nat} {ty : FieldType} {cy : ClassId} (hown : s.vm.findClass own = some m.cls) (hclink : (Cond.classLink own index ("[" ++ (FieldType.array ty).toString)).before args s = true) (hover : va_AOA ty s) (harr : (Cond.arrayClass ty).before args s = true) (hcy : s.vm.findClass (FieldType.array ty).toString = some cy)
    (hK : va_K D cl tys s) (hP : va_P D cl (X ++ va_pl L f) H) (hD : va_D A (X ++ va_pl L f)) (hS : va_S A H0 H locs) (hA : ∀ q, H0.size ≤ q → A q) {n k : Int32} {N' K' : Nat} {z : vp_A} (hn : ¬ n < 0) (hk : ¬ k < 0) (hN : n.toNatClampNeg = N') (hM : k.toNatClampNeg = K')
    (hb1 : N' * 4 ≤ 536870912) (hb2 : K' * componentBytes ty ≤ 536870912) (hb3 : K' ≤ 536870912) (hdf : fits ty (defaultValue ty) = true) (hdd : (defaultValue ty).isDefault = true) (hcells : cells + (1 + N') ≤ R.cells) (hslots : slots + (N' + N' * K') ≤ R.slots) (hz : ∀ c : ClassId, Jvm.Free.Multi.innerC c K' (defaultValue ty) = vp_cell c z) (hdg : decode cc pc = .ok (.multianewarray index 2, 4))
    (kk : ∀ (q : Nat) (r : Nat → Nat) (cA : ClassId) (H1 : Heap), (∀ i j : Nat, i < N' → j < N' → r i = r j → i = j) → (∀ i : Nat, i < N' → r i ∉ L) → va_K D cl (tys ++ [(cA, .array ty)]) s →
      va_P D cl ((X ++ [(q, .inl (cA, N', .inr (.inr (.inr (.inr (fun i => if i < N' then some (r i) else none))))))]) ++ va_pl (L ++ (List.range N').map r) (vr_up f ((List.range N').map r) (.inl (cy, z)))) H1 → va_D A ((X ++ [(q, .inl (cA, N', .inr (.inr (.inr (.inr (fun i => if i < N' then some (r i) else none))))))]) ++ va_pl (L ++ (List.range N').map r) (vr_up f ((List.range N').map r) (.inl (cy, z)))) → va_S A H0 H1 locs →
      W p l e R s m args below meth c H1 locs (cells + 1 + N') (slots + N' + N' * K') Q (F0 m (pc + 4) ls (.ref q :: rest))) : W p l e R s m args below meth c H locs cells slots Q (F0 m pc ls (.int k :: .int n :: rest)) := by
  subst hN
  subst hM
  intro T hT Xs
  obtain ⟨vm₁, cA, comp, -, fA, fC, hO, -, X', step⟩ := Xs.multianewarray2F hexec hown hclink (va_AOA.use hover) harr (g := F0 m pc ls (.int k :: .int n :: rest)) rfl (by rw [hb]; exact hdg) rfl hn hk hb1 hb2 hb3 hdf hdd hcells hslots
  have ec : some cy = some comp := hcy.symm.trans fC
  cases ec
  generalize hF : Jvm.Free.Multi.fill (T.setVm vm₁) cA cy n.toNatClampNeg k.toNatClampNeg (defaultValue ty) n.toNatClampNeg = F at X' step
  have hTh : (T.setVm vm₁).heap = H := hT
  obtain ⟨f1, f2, -, -⟩ := Jvm.Free.Multi.fill_facts (T.setVm vm₁) cA cy n.toNatClampNeg k.toNatClampNeg (defaultValue ty) n.toNatClampNeg
  rw [hF, hTh] at f1 f2
  have hold : ∀ x : Nat, x < H.size → F.heap[x]? = H[x]? := fun x hx => by
    have := Jvm.Free.Multi.fill_old (T.setVm vm₁) cA cy n.toNatClampNeg k.toNatClampNeg (defaultValue ty) (a := x) (by rw [hTh]; exact hx) n.toNatClampNeg
    rw [hF, hTh] at this
    exact this
  have hrow : ∀ j : Nat, j < n.toNatClampNeg → F.heap[H.size + 1 + j]? = some (vp_cell cy z) := fun j hj => by
    have := Jvm.Free.Multi.fill_inner (T.setVm vm₁) cA cy n.toNatClampNeg k.toNatClampNeg (defaultValue ty) n.toNatClampNeg j hj
    rw [hF, hTh, hz] at this
    exact this
  have hout : Jvm.Free.Multi.outerC cA n.toNatClampNeg H.size n.toNatClampNeg = vp_cell cA (n.toNatClampNeg, .inr (.inr (.inr (.inr (fun i => if i < n.toNatClampNeg then some (H.size + 1 + i) else none))))) := by
    rw [vp_cell_q]
    exact vr_outer cA n.toNatClampNeg H.size n.toNatClampNeg
  rw [hout] at f2
  have hlt : ∀ a, a ∈ L → a < H.size := fun a ha => by
    obtain ⟨k9, hk9⟩ := va_pl_get (X := X) (f := f) ha
    exact (hP k9 _ hk9).lt
  have hnl : ∀ i : Nat, i < n.toNatClampNeg → H.size + 1 + i ∉ L := fun i _ h => by
    have := hlt _ h
    omega
  have hnm : ∀ a, a ∈ (List.range n.toNatClampNeg).map (fun i => H.size + 1 + i) → a ∉ L := fun a ha h => by
    obtain ⟨i, -, rfl⟩ := List.mem_map.mp ha
    have := hlt _ h
    omega
  have hP0 : va_P D cl (X ++ va_pl L f) F.heap := hP.kept (fun k9 x hx => hold x.1 ((hP k9 x hx).lt))
  have hP1 : va_P D cl ((X ++ va_pl L f) ++ [(H.size, .inl (cA, n.toNatClampNeg, .inr (.inr (.inr (.inr (fun i => if i < n.toNatClampNeg then some (H.size + 1 + i) else none))))))]) F.heap := hP0.app (fun k9 x hx => by
    have h0 : k9 < 1 := (List.getElem?_eq_some_iff.mp hx).1
    rw [show k9 = 0 by omega] at hx
    cases hx
    exact f2)
  have hP2 : va_P D cl (((X ++ va_pl L f) ++ [(H.size, .inl (cA, n.toNatClampNeg, .inr (.inr (.inr (.inr (fun i => if i < n.toNatClampNeg then some (H.size + 1 + i) else none))))))]) ++ ((List.range n.toNatClampNeg).map (fun i => H.size + 1 + i)).map (fun a => (a, .inl (cy, z)))) F.heap := hP1.app (fun k9 x hx => by
    obtain ⟨a, ha, rfl⟩ := List.mem_map.mp (List.mem_of_getElem? hx)
    obtain ⟨i, hi, rfl⟩ := List.mem_map.mp ha
    exact hrow i (List.mem_range.mp hi))
  have hD2 : va_D A (((X ++ va_pl L f) ++ [(H.size, .inl (cA, n.toNatClampNeg, .inr (.inr (.inr (.inr (fun i => if i < n.toNatClampNeg then some (H.size + 1 + i) else none))))))]) ++ ((List.range n.toNatClampNeg).map (fun i => H.size + 1 + i)).map (fun a => (a, .inl (cy, z)))) := by
    have hD1 := hD.push (e := .inl (cA, n.toNatClampNeg, .inr (.inr (.inr (.inr (fun i => if i < n.toNatClampNeg then some (H.size + 1 + i) else none)))))) hP rfl (hA _ hS.1)
    generalize hW1 : (X ++ va_pl L f) ++ [(H.size, .inl (cA, n.toNatClampNeg, .inr (.inr (.inr (.inr (fun i => if i < n.toNatClampNeg then some (H.size + 1 + i) else none))))))] = W1 at hD1 hP1 ⊢
    have hle : ∀ (k9 : Nat) (x : Nat × va_E), W1[k9]? = some x → x.1 ≤ H.size := fun k9 x hx => by
      rw [← hW1] at hx
      by_cases hl : k9 < (X ++ va_pl L f).length
      · rw [List.getElem?_append_left hl] at hx
        exact Nat.le_of_lt ((hP k9 x hx).lt)
      · rw [List.getElem?_append_right (by omega)] at hx
        have h0 : k9 - (X ++ va_pl L f).length < 1 := (List.getElem?_eq_some_iff.mp hx).1
        rw [show k9 - (X ++ va_pl L f).length = 0 by omega] at hx
        cases hx
        exact Nat.le_refl _
    have hr : ∀ (k9 : Nat) (x : Nat × va_E), (((List.range n.toNatClampNeg).map (fun i => H.size + 1 + i)).map (fun a => ((a, .inl (cy, z)) : Nat × va_E)))[k9]? = some x → x.1 = H.size + 1 + k9 := fun k9 x hx => by
      rw [List.getElem?_map, List.getElem?_map] at hx
      by_cases h9 : k9 < n.toNatClampNeg
      · rw [List.getElem?_range h9] at hx
        cases hx
        rfl
      · have hn0 : (List.range n.toNatClampNeg)[k9]? = none := List.getElem?_eq_none (by rw [List.length_range]; omega)
        rw [hn0] at hx
        cases hx
    refine ⟨fun i j x y hi hj hxy => ?_, fun k9 x hx => ?_⟩
    · by_cases h1 : i < W1.length <;> by_cases h2 : j < W1.length
      · rw [List.getElem?_append_left h1] at hi
        rw [List.getElem?_append_left h2] at hj
        exact hD1.1 i j x y hi hj hxy
      · rw [List.getElem?_append_left h1] at hi
        rw [List.getElem?_append_right (by omega)] at hj
        have := hle _ _ hi
        have := hr _ _ hj
        omega
      · rw [List.getElem?_append_right (by omega)] at hi
        rw [List.getElem?_append_left h2] at hj
        have := hle _ _ hj
        have := hr _ _ hi
        omega
      · rw [List.getElem?_append_right (by omega)] at hi hj
        have := hr _ _ hi
        have := hr _ _ hj
        omega
    · by_cases h1 : k9 < W1.length
      · rw [List.getElem?_append_left h1] at hx
        exact hD1.2 k9 x hx
      · rw [List.getElem?_append_right (by omega)] at hx
        have := hr _ _ hx
        exact hA _ (by have := hS.1; omega)
  have hAr : ArrOfT s cA (.array ty) := fun N9 z9 => by
    obtain ⟨-, k9, hk9, cm9, hkk9⟩ := (hO 0 0 0).1
    exact ⟨(fun q hq => by cases hq), k9, hk9, cm9, hkk9⟩
  have hK2 : va_K D cl (tys ++ [(cA, .array ty)]) s := ⟨hK.1, fun k9 x hx => by
    by_cases hl : k9 < tys.length
    · rw [List.getElem?_append_left hl] at hx
      exact hK.2 k9 x hx
    · rw [List.getElem?_append_right (by omega)] at hx
      have h0 : k9 - tys.length < 1 := (List.getElem?_eq_some_iff.mp hx).1
      rw [show k9 - tys.length = 0 by omega] at hx
      cases hx
      exact ⟨hAr, fA⟩⟩
  obtain ⟨t, a1, b1⟩ := kk H.size (fun i => H.size + 1 + i) cA F.heap (fun i j _ _ h => by have h9 : H.size + 1 + i = H.size + 1 + j := h; omega) hnl hK2 (by rw [← vr_rows hnm]; exact vr_lay hP2) (by rw [← vr_rows hnm]; exact vr_layD hD2) ⟨by rw [f1]; have := hS.1; omega, fun x h1 h2 => (hold x (Nat.lt_of_lt_of_le h1 hS.1)).trans (hS.2.1 x h1 h2), hS.2.2⟩ F rfl X'
  refine ⟨t, step t ?_, b1⟩
  have e : T.heap.size = H.size := by rw [hT]
  rw [e]
  exact a1
end VGM
/-! ===== END ===== -/

def RX0 : String := "EndsInFive$Shelf"
def TX0 : u_T := fun k => match k with
  | 0 => ("EndsInFive$Shelf", "content", "I", false)
  | 1 => ("EndsInFive$Shelf", "size", "I", false)
  | _ => ("EndsInFive$Shelf", "elements", "[J", true)
def tyX0 : Nat → FieldType := fun k => match k with
  | 0 => .int
  | 1 => .int
  | _ => .array .long
abbrev wsX00 : List Cond := u_ws RX0 TX0 3
theorem nmX0 : ∀ a, a < 3 → ∀ b, b < 3 → a ≠ b → (TX0 a).2.1 ≠ (TX0 b).2.1 := by decide +kernel
theorem tyX0_ok : ∀ k, k < 3 → parseFieldDescriptor (TX0 k).2.2.1 = some (tyX0 k) := by decide +kernel
abbrev cX0_init : ByteArray := prog_2_method_1_code
def yX0_init : MethodName := ⟨RX0, "<init>", "()V"⟩
abbrev cX0_putRow : ByteArray := prog_2_method_2_code
def yX0_putRow : MethodName := ⟨RX0, "putRow", "(II)V"⟩
abbrev cX0_holdsRow : ByteArray := prog_2_method_3_code
def yX0_holdsRow : MethodName := ⟨RX0, "holdsRow", "()Z"⟩
abbrev cX0_lackOfRow : ByteArray := prog_2_method_4_code
def yX0_lackOfRow : MethodName := ⟨RX0, "lackOfRow", "()I"⟩
abbrev cX0_hasElement : ByteArray := prog_2_method_5_code
def yX0_hasElement : MethodName := ⟨RX0, "hasElement", "(I)Z"⟩
abbrev cX0_hasElements : ByteArray := prog_2_method_6_code
def yX0_hasElements : MethodName := ⟨RX0, "hasElements", "(II)Z"⟩
abbrev cX0_lowestBits : ByteArray := prog_2_method_7_code
def yX0_lowestBits : MethodName := ⟨RX0, "lowestBits", "(J)J"⟩
abbrev cX0_slipAt : ByteArray := prog_2_method_8_code
def yX0_slipAt : MethodName := ⟨RX0, "slipAt", "(I)I"⟩
def RX1 : String := "EndsInFive$Stall"
def TX1 : u_T := fun k => match k with
  | 0 => ("EndsInFive$Stall", "slips", "I", false)
  | 1 => ("EndsInFive$Stall", "rule", "I", false)
  | 2 => ("EndsInFive$Stall", "price", "I", false)
  | 3 => ("EndsInFive$Stall", "five", "I", false)
  | 4 => ("EndsInFive$Stall", "goes", "I", false)
  | 5 => ("EndsInFive$Stall", "taken", "I", false)
  | 6 => ("EndsInFive$Stall", "seed", "I", false)
  | 7 => ("EndsInFive$Stall", "in", "J", false)
  | 8 => ("EndsInFive$Stall", "things", "I", false)
  | 9 => ("EndsInFive$Stall", "kinds", "[I", true)
  | 10 => ("EndsInFive$Stall", "places", "[I", true)
  | 11 => ("EndsInFive$Stall", "waits", "[I", true)
  | 12 => ("EndsInFive$Stall", "ages", "[I", true)
  | 13 => ("EndsInFive$Stall", "owners", "[I", true)
  | 14 => ("EndsInFive$Stall", "buyers", "I", false)
  | 15 => ("EndsInFive$Stall", "purses", "[I", true)
  | _ => ("EndsInFive$Stall", "likings", "[I", true)
def tyX1 : Nat → FieldType := fun k => match k with
  | 0 => .int
  | 1 => .int
  | 2 => .int
  | 3 => .int
  | 4 => .int
  | 5 => .int
  | 6 => .int
  | 7 => .long
  | 8 => .int
  | 9 => .array .int
  | 10 => .array .int
  | 11 => .array .int
  | 12 => .array .int
  | 13 => .array .int
  | 14 => .int
  | 15 => .array .int
  | _ => .array .int
abbrev wsX10 : List Cond := u_ws RX1 TX1 17
theorem nmX1 : ∀ a, a < 17 → ∀ b, b < 17 → a ≠ b → (TX1 a).2.1 ≠ (TX1 b).2.1 := by decide +kernel
theorem tyX1_ok : ∀ k, k < 17 → parseFieldDescriptor (TX1 k).2.2.1 = some (tyX1 k) := by decide +kernel
abbrev cX1_init : ByteArray := prog_3_method_1_code
def yX1_init : MethodName := ⟨RX1, "<init>", "()V"⟩
abbrev cX1_become : ByteArray := prog_3_method_2_code
def yX1_become : MethodName := ⟨RX1, "become", "(LEndsInFive$Stall;)V"⟩
abbrev cX1_isSlip : ByteArray := prog_3_method_3_code
def yX1_isSlip : MethodName := ⟨RX1, "isSlip", "(I)Z"⟩
abbrev cX1_isThing : ByteArray := prog_3_method_4_code
def yX1_isThing : MethodName := ⟨RX1, "isThing", "(I)Z"⟩
abbrev cX1_isBuyer : ByteArray := prog_3_method_5_code
def yX1_isBuyer : MethodName := ⟨RX1, "isBuyer", "(I)Z"⟩
abbrev cX1_putSlips : ByteArray := prog_3_method_6_code
def yX1_putSlips : MethodName := ⟨RX1, "putSlips", "(I)V"⟩
abbrev cX1_putAllIn : ByteArray := prog_3_method_7_code
def yX1_putAllIn : MethodName := ⟨RX1, "putAllIn", "()V"⟩
abbrev cX1_takeOut : ByteArray := prog_3_method_8_code
def yX1_takeOut : MethodName := ⟨RX1, "takeOut", "(I)V"⟩
abbrev cX1_isIn : ByteArray := prog_3_method_9_code
def yX1_isIn : MethodName := ⟨RX1, "isIn", "(I)Z"⟩
abbrev cX1_isWinner : ByteArray := prog_3_method_10_code
def yX1_isWinner : MethodName := ⟨RX1, "isWinner", "(I)Z"⟩
abbrev cX1_countIn : ByteArray := prog_3_method_11_code
def yX1_countIn : MethodName := ⟨RX1, "countIn", "()I"⟩
abbrev cX1_thingOn : ByteArray := prog_3_method_12_code
def yX1_thingOn : MethodName := ⟨RX1, "thingOn", "(I)I"⟩
abbrev cX1_isFreeForThing : ByteArray := prog_3_method_13_code
def yX1_isFreeForThing : MethodName := ⟨RX1, "isFreeForThing", "(I)Z"⟩
abbrev cX1_quartersOf : ByteArray := prog_3_method_14_code
def yX1_quartersOf : MethodName := ⟨RX1, "quartersOf", "(I)I"⟩
abbrev cX1_addThing : ByteArray := prog_3_method_15_code
def yX1_addThing : MethodName := ⟨RX1, "addThing", "(III)I"⟩
abbrev cX1_stands : ByteArray := prog_3_method_16_code
def yX1_stands : MethodName := ⟨RX1, "stands", "(I)Z"⟩
abbrev cX1_thingsOwnedBy : ByteArray := prog_3_method_17_code
def yX1_thingsOwnedBy : MethodName := ⟨RX1, "thingsOwnedBy", "(I)I"⟩
abbrev cX1_standing : ByteArray := prog_3_method_18_code
def yX1_standing : MethodName := ⟨RX1, "standing", "()I"⟩
abbrev cX1_thingsUnder : ByteArray := prog_3_method_19_code
def yX1_thingsUnder : MethodName := ⟨RX1, "thingsUnder", "(I)I"⟩
abbrev cX1_firstBrought : ByteArray := prog_3_method_20_code
def yX1_firstBrought : MethodName := ⟨RX1, "firstBrought", "()I"⟩
abbrev cX1_goesToWait : ByteArray := prog_3_method_21_code
def yX1_goesToWait : MethodName := ⟨RX1, "goesToWait", "(I)I"⟩
abbrev cX1_slipsToSink : ByteArray := prog_3_method_22_code
def yX1_slipsToSink : MethodName := ⟨RX1, "slipsToSink", "()I"⟩
abbrev cX1_thingsReady : ByteArray := prog_3_method_23_code
def yX1_thingsReady : MethodName := ⟨RX1, "thingsReady", "(II)I"⟩
abbrev cX1_canBeDrawn : ByteArray := prog_3_method_24_code
def yX1_canBeDrawn : MethodName := ⟨RX1, "canBeDrawn", "(I)Z"⟩
abbrev cX1_countDrawable : ByteArray := prog_3_method_25_code
def yX1_countDrawable : MethodName := ⟨RX1, "countDrawable", "()I"⟩
abbrev cX1_wonBySlip : ByteArray := prog_3_method_26_code
def yX1_wonBySlip : MethodName := ⟨RX1, "wonBySlip", "(I)I"⟩
abbrev cX1_draw : ByteArray := prog_3_method_27_code
def yX1_draw : MethodName := ⟨RX1, "draw", "(II)V"⟩
abbrev cX1_drawBelow : ByteArray := prog_3_method_28_code
def yX1_drawBelow : MethodName := ⟨RX1, "drawBelow", "(I)I"⟩
abbrev cX1_slipByDraw : ByteArray := prog_3_method_29_code
def yX1_slipByDraw : MethodName := ⟨RX1, "slipByDraw", "()I"⟩
abbrev cX1_beginFete : ByteArray := prog_3_method_30_code
def yX1_beginFete : MethodName := ⟨RX1, "beginFete", "(I)I"⟩
abbrev cX1_addBuyer : ByteArray := prog_3_method_31_code
def yX1_addBuyer : MethodName := ⟨RX1, "addBuyer", "(I)I"⟩
abbrev cX1_pay : ByteArray := prog_3_method_32_code
def yX1_pay : MethodName := ⟨RX1, "pay", "(II)V"⟩
abbrev cX1_liking : ByteArray := prog_3_method_33_code
def yX1_liking : MethodName := ⟨RX1, "liking", "(II)I"⟩
abbrev cX1_putLiking : ByteArray := prog_3_method_34_code
def yX1_putLiking : MethodName := ⟨RX1, "putLiking", "(III)V"⟩
abbrev cX1_likingOfAll : ByteArray := prog_3_method_35_code
def yX1_likingOfAll : MethodName := ⟨RX1, "likingOfAll", "(II)I"⟩
abbrev cX1_likingByAll : ByteArray := prog_3_method_36_code
def yX1_likingByAll : MethodName := ⟨RX1, "likingByAll", "(I)I"⟩
abbrev cX1_worthOfGo : ByteArray := prog_3_method_37_code
def yX1_worthOfGo : MethodName := ⟨RX1, "worthOfGo", "(I)I"⟩
abbrev cX1_takingsAt : ByteArray := prog_3_method_38_code
def yX1_takingsAt : MethodName := ⟨RX1, "takingsAt", "(I)I"⟩
def RX2 : String := "EndsInFive$Tape"
def TX2 : u_T := fun k => match k with
  | 0 => ("EndsInFive$Tape", "bytes", "[I", true)
  | 1 => ("EndsInFive$Tape", "size", "I", false)
  | 2 => ("EndsInFive$Tape", "token", "I", false)
  | 3 => ("EndsInFive$Tape", "start", "I", false)
  | 4 => ("EndsInFive$Tape", "end", "I", false)
  | _ => ("EndsInFive$Tape", "value", "I", false)
def tyX2 : Nat → FieldType := fun k => match k with
  | 0 => .array .int
  | 1 => .int
  | 2 => .int
  | 3 => .int
  | 4 => .int
  | _ => .int
abbrev wsX20 : List Cond := u_ws RX2 TX2 6
theorem nmX2 : ∀ a, a < 6 → ∀ b, b < 6 → a ≠ b → (TX2 a).2.1 ≠ (TX2 b).2.1 := by decide +kernel
theorem tyX2_ok : ∀ k, k < 6 → parseFieldDescriptor (TX2 k).2.2.1 = some (tyX2 k) := by decide +kernel
abbrev cX2_init : ByteArray := prog_4_method_1_code
def yX2_init : MethodName := ⟨RX2, "<init>", "()V"⟩
abbrev cX2_readInto : ByteArray := prog_4_method_2_code
def yX2_readInto : MethodName := ⟨RX2, "readInto", "(LEndsInFive$Stall;)I"⟩
abbrev cX2_readStatement : ByteArray := prog_4_method_3_code
def yX2_readStatement : MethodName := ⟨RX2, "readStatement", "(LEndsInFive$Stall;)Z"⟩
abbrev cX2_readSlips : ByteArray := prog_4_method_4_code
def yX2_readSlips : MethodName := ⟨RX2, "readSlips", "(LEndsInFive$Stall;)Z"⟩
abbrev cX2_readRule : ByteArray := prog_4_method_5_code
def yX2_readRule : MethodName := ⟨RX2, "readRule", "(LEndsInFive$Stall;)Z"⟩
abbrev cX2_readPrices : ByteArray := prog_4_method_6_code
def yX2_readPrices : MethodName := ⟨RX2, "readPrices", "(LEndsInFive$Stall;)Z"⟩
abbrev cX2_readThing : ByteArray := prog_4_method_7_code
def yX2_readThing : MethodName := ⟨RX2, "readThing", "(LEndsInFive$Stall;)Z"⟩
abbrev cX2_readBuyer : ByteArray := prog_4_method_8_code
def yX2_readBuyer : MethodName := ⟨RX2, "readBuyer", "(LEndsInFive$Stall;)Z"⟩
abbrev cX2_readLiking : ByteArray := prog_4_method_9_code
def yX2_readLiking : MethodName := ⟨RX2, "readLiking", "(LEndsInFive$Stall;)Z"⟩
abbrev cX2_readOut : ByteArray := prog_4_method_10_code
def yX2_readOut : MethodName := ⟨RX2, "readOut", "(LEndsInFive$Stall;)Z"⟩
abbrev cX2_readNumber : ByteArray := prog_4_method_11_code
def yX2_readNumber : MethodName := ⟨RX2, "readNumber", "(II)Z"⟩
abbrev cX2_isWord : ByteArray := prog_4_method_12_code
def yX2_isWord : MethodName := ⟨RX2, "isWord", "(Ljava/lang/String;)Z"⟩
abbrev cX2_step : ByteArray := prog_4_method_13_code
def yX2_step : MethodName := ⟨RX2, "step", "()V"⟩
abbrev cX2_numberOf : ByteArray := prog_4_method_14_code
def yX2_numberOf : MethodName := ⟨RX2, "numberOf", "()I"⟩
abbrev cX2_sortOf : ByteArray := prog_4_method_15_code
def yX2_sortOf : MethodName := ⟨RX2, "sortOf", "(I)I"⟩
def RX3 : String := "EndsInFive$Thought"
def TX3 : u_T := fun k => match k with
  | 0 => ("EndsInFive$Thought", "values", "[I", true)
  | 1 => ("EndsInFive$Thought", "marks", "[I", true)
  | 2 => ("EndsInFive$Thought", "joys", "[I", true)
  | 3 => ("EndsInFive$Thought", "things", "I", false)
  | 4 => ("EndsInFive$Thought", "standing", "I", false)
  | 5 => ("EndsInFive$Thought", "whiskies", "I", false)
  | _ => ("EndsInFive$Thought", "bottles", "I", false)
def tyX3 : Nat → FieldType := fun k => match k with
  | 0 => .array .int
  | 1 => .array .int
  | 2 => .array .int
  | 3 => .int
  | 4 => .int
  | 5 => .int
  | _ => .int
abbrev wsX30 : List Cond := u_ws RX3 TX3 7
theorem nmX3 : ∀ a, a < 7 → ∀ b, b < 7 → a ≠ b → (TX3 a).2.1 ≠ (TX3 b).2.1 := by decide +kernel
theorem tyX3_ok : ∀ k, k < 7 → parseFieldDescriptor (TX3 k).2.2.1 = some (tyX3 k) := by decide +kernel
abbrev cX3_init : ByteArray := prog_5_method_1_code
def yX3_init : MethodName := ⟨RX3, "<init>", "()V"⟩
abbrev cX3_thinkOfAll : ByteArray := prog_5_method_2_code
def yX3_thinkOfAll : MethodName := ⟨RX3, "thinkOfAll", "(LEndsInFive$Stall;I)V"⟩
abbrev cX3_thinkOfGoes : ByteArray := prog_5_method_3_code
def yX3_thinkOfGoes : MethodName := ⟨RX3, "thinkOfGoes", "(LEndsInFive$Stall;II)V"⟩
abbrev cX3_valueNow : ByteArray := prog_5_method_4_code
def yX3_valueNow : MethodName := ⟨RX3, "valueNow", "()I"⟩
abbrev cX3_isMarked : ByteArray := prog_5_method_5_code
def yX3_isMarked : MethodName := ⟨RX3, "isMarked", "(II)Z"⟩
abbrev cX3_mark : ByteArray := prog_5_method_6_code
def yX3_mark : MethodName := ⟨RX3, "mark", "(II)V"⟩
abbrev cX3_hasState : ByteArray := prog_5_method_7_code
def yX3_hasState : MethodName := ⟨RX3, "hasState", "(II)Z"⟩
abbrev cX3_isSet : ByteArray := prog_5_method_8_code
def yX3_isSet : MethodName := ⟨RX3, "isSet", "(I)Z"⟩
abbrev cX3_lookAt : ByteArray := prog_5_method_9_code
def yX3_lookAt : MethodName := ⟨RX3, "lookAt", "(LEndsInFive$Stall;)V"⟩
abbrev cX3_fill : ByteArray := prog_5_method_10_code
def yX3_fill : MethodName := ⟨RX3, "fill", "(LEndsInFive$Stall;III)V"⟩
abbrev cX3_weigh : ByteArray := prog_5_method_11_code
def yX3_weigh : MethodName := ⟨RX3, "weigh", "(LEndsInFive$Stall;I)V"⟩
abbrev cX3_fillLayer : ByteArray := prog_5_method_12_code
def yX3_fillLayer : MethodName := ⟨RX3, "fillLayer", "(IIII)V"⟩
abbrev cX3_valueOf : ByteArray := prog_5_method_13_code
def yX3_valueOf : MethodName := ⟨RX3, "valueOf", "(IIII)I"⟩
abbrev cX3_wonWith : ByteArray := prog_5_method_14_code
def yX3_wonWith : MethodName := ⟨RX3, "wonWith", "(II)I"⟩
abbrev cX3_fewestGoes : ByteArray := prog_5_method_15_code
def yX3_fewestGoes : MethodName := ⟨RX3, "fewestGoes", "(LEndsInFive$Stall;I)I"⟩
abbrev cX3_markNext : ByteArray := prog_5_method_16_code
def yX3_markNext : MethodName := ⟨RX3, "markNext", "(IIII)Z"⟩
def RX4 : String := "EndsInFive"
def TX4 : u_T := fun k => match k with
  | 0 => ("EndsInFive", "now", "LEndsInFive$Stall;", true)
  | 1 => ("EndsInFive", "kept", "LEndsInFive$Stall;", true)
  | 2 => ("EndsInFive", "trial", "LEndsInFive$Stall;", true)
  | 3 => ("EndsInFive", "thought", "LEndsInFive$Thought;", true)
  | 4 => ("EndsInFive", "tape", "LEndsInFive$Tape;", true)
  | 5 => ("EndsInFive", "shelves", "[LEndsInFive$Shelf;", true)
  | 6 => ("EndsInFive", "refusals", "[I", true)
  | _ => ("EndsInFive", "isKept", "Z", false)
def tyX4 : Nat → FieldType := fun k => match k with
  | 0 => .object "EndsInFive$Stall"
  | 1 => .object "EndsInFive$Stall"
  | 2 => .object "EndsInFive$Stall"
  | 3 => .object "EndsInFive$Thought"
  | 4 => .object "EndsInFive$Tape"
  | 5 => .array (.object "EndsInFive$Shelf")
  | 6 => .array .int
  | _ => .boolean
abbrev wsX40 : List Cond := u_ws RX4 TX4 8
theorem nmX4 : ∀ a, a < 8 → ∀ b, b < 8 → a ≠ b → (TX4 a).2.1 ≠ (TX4 b).2.1 := by decide +kernel
theorem tyX4_ok : ∀ k, k < 8 → parseFieldDescriptor (TX4 k).2.2.1 = some (tyX4 k) := by decide +kernel
abbrev cX4_init : ByteArray := prog_1_method_1_code
def yX4_init : MethodName := ⟨RX4, "<init>", "()V"⟩
abbrev cX4_row : ByteArray := prog_1_method_2_code
def yX4_row : MethodName := ⟨RX4, "row", "(III)I"⟩
abbrev cX4_set : ByteArray := prog_1_method_3_code
def yX4_set : MethodName := ⟨RX4, "set", "(IIJ)I"⟩
abbrev cX4_copy : ByteArray := prog_1_method_4_code
def yX4_copy : MethodName := ⟨RX4, "copy", "(IIIII)I"⟩
abbrev cX4_element : ByteArray := prog_1_method_5_code
def yX4_element : MethodName := ⟨RX4, "element", "(II)J"⟩
abbrev cX4_holds : ByteArray := prog_1_method_6_code
def yX4_holds : MethodName := ⟨RX4, "holds", "(I)I"⟩
abbrev cX4_show : ByteArray := prog_1_method_7_code
def yX4_show : MethodName := ⟨RX4, "show", "(II)I"⟩
abbrev cX4_says : ByteArray := prog_1_method_8_code
def yX4_says : MethodName := ⟨RX4, "says", "(II)I"⟩
abbrev cX4_slips : ByteArray := prog_1_method_9_code
def yX4_slips : MethodName := ⟨RX4, "slips", "(I)I"⟩
abbrev cX4_rule : ByteArray := prog_1_method_10_code
def yX4_rule : MethodName := ⟨RX4, "rule", "(I)I"⟩
abbrev cX4_price : ByteArray := prog_1_method_11_code
def yX4_price : MethodName := ⟨RX4, "price", "(II)I"⟩
abbrev cX4_thing : ByteArray := prog_1_method_12_code
def yX4_thing : MethodName := ⟨RX4, "thing", "(III)I"⟩
abbrev cX4_buyer : ByteArray := prog_1_method_13_code
def yX4_buyer : MethodName := ⟨RX4, "buyer", "(I)I"⟩
abbrev cX4_likes : ByteArray := prog_1_method_14_code
def yX4_likes : MethodName := ⟨RX4, "likes", "(III)I"⟩
abbrev cX4_purse : ByteArray := prog_1_method_15_code
def yX4_purse : MethodName := ⟨RX4, "purse", "(II)I"⟩
abbrev cX4_feed : ByteArray := prog_1_method_16_code
def yX4_feed : MethodName := ⟨RX4, "feed", "(I)I"⟩
abbrev cX4_wipe : ByteArray := prog_1_method_17_code
def yX4_wipe : MethodName := ⟨RX4, "wipe", "()I"⟩
abbrev cX4_stall : ByteArray := prog_1_method_18_code
def yX4_stall : MethodName := ⟨RX4, "stall", "()I"⟩
abbrev cX4_thingOf : ByteArray := prog_1_method_19_code
def yX4_thingOf : MethodName := ⟨RX4, "thingOf", "(II)I"⟩
abbrev cX4_buyerOf : ByteArray := prog_1_method_20_code
def yX4_buyerOf : MethodName := ⟨RX4, "buyerOf", "(II)I"⟩
abbrev cX4_slipOf : ByteArray := prog_1_method_21_code
def yX4_slipOf : MethodName := ⟨RX4, "slipOf", "(II)I"⟩
abbrev cX4_drawable : ByteArray := prog_1_method_22_code
def yX4_drawable : MethodName := ⟨RX4, "drawable", "()I"⟩
abbrev cX4_wins : ByteArray := prog_1_method_23_code
def yX4_wins : MethodName := ⟨RX4, "wins", "(I)I"⟩
abbrev cX4_worth : ByteArray := prog_1_method_24_code
def yX4_worth : MethodName := ⟨RX4, "worth", "(I)I"⟩
abbrev cX4_plan : ByteArray := prog_1_method_25_code
def yX4_plan : MethodName := ⟨RX4, "plan", "(I)I"⟩
abbrev cX4_till : ByteArray := prog_1_method_26_code
def yX4_till : MethodName := ⟨RX4, "till", "(I)I"⟩
abbrev cX4_atOnce : ByteArray := prog_1_method_27_code
def yX4_atOnce : MethodName := ⟨RX4, "atOnce", "(I)I"⟩
abbrev cX4_mean : ByteArray := prog_1_method_28_code
def yX4_mean : MethodName := ⟨RX4, "mean", "(II)I"⟩
abbrev cX4_all : ByteArray := prog_1_method_29_code
def yX4_all : MethodName := ⟨RX4, "all", "(I)I"⟩
abbrev cX4_takings : ByteArray := prog_1_method_30_code
def yX4_takings : MethodName := ⟨RX4, "takings", "(I)I"⟩
abbrev cX4_bestPrice : ByteArray := prog_1_method_31_code
def yX4_bestPrice : MethodName := ⟨RX4, "bestPrice", "()I"⟩
abbrev cX4_full : ByteArray := prog_1_method_32_code
def yX4_full : MethodName := ⟨RX4, "full", "()I"⟩
abbrev cX4_guess : ByteArray := prog_1_method_33_code
def yX4_guess : MethodName := ⟨RX4, "guess", "(II)I"⟩
abbrev cX4_suspect : ByteArray := prog_1_method_34_code
def yX4_suspect : MethodName := ⟨RX4, "suspect", "(II)I"⟩
abbrev cX4_sure : ByteArray := prog_1_method_35_code
def yX4_sure : MethodName := ⟨RX4, "sure", "(II)I"⟩
abbrev cX4_left : ByteArray := prog_1_method_36_code
def yX4_left : MethodName := ⟨RX4, "left", "(I)I"⟩
abbrev cX4_judge : ByteArray := prog_1_method_37_code
def yX4_judge : MethodName := ⟨RX4, "judge", "(II)I"⟩
abbrev cX4_won : ByteArray := prog_1_method_38_code
def yX4_won : MethodName := ⟨RX4, "won", "(II)I"⟩
abbrev cX4_booked : ByteArray := prog_1_method_39_code
def yX4_booked : MethodName := ⟨RX4, "booked", "(III)I"⟩
abbrev cX4_chain : ByteArray := prog_1_method_40_code
def yX4_chain : MethodName := ⟨RX4, "chain", "(I)I"⟩
abbrev cX4_dearest : ByteArray := prog_1_method_41_code
def yX4_dearest : MethodName := ⟨RX4, "dearest", "(I)I"⟩
abbrev cX4_fondest : ByteArray := prog_1_method_42_code
def yX4_fondest : MethodName := ⟨RX4, "fondest", "(I)I"⟩
abbrev cX4_envy : ByteArray := prog_1_method_43_code
def yX4_envy : MethodName := ⟨RX4, "envy", "()I"⟩
abbrev cX4_poorest : ByteArray := prog_1_method_44_code
def yX4_poorest : MethodName := ⟨RX4, "poorest", "()I"⟩
abbrev cX4_oldest : ByteArray := prog_1_method_45_code
def yX4_oldest : MethodName := ⟨RX4, "oldest", "()I"⟩
abbrev cX4_go : ByteArray := prog_1_method_46_code
def yX4_go : MethodName := ⟨RX4, "go", "(I)I"⟩
abbrev cX4_five : ByteArray := prog_1_method_47_code
def yX4_five : MethodName := ⟨RX4, "five", "(I)I"⟩
abbrev cX4_plays : ByteArray := prog_1_method_48_code
def yX4_plays : MethodName := ⟨RX4, "plays", "(I)I"⟩
abbrev cX4_fete : ByteArray := prog_1_method_49_code
def yX4_fete : MethodName := ⟨RX4, "fete", "(I)I"⟩
abbrev cX4_seed : ByteArray := prog_1_method_50_code
def yX4_seed : MethodName := ⟨RX4, "seed", "(I)I"⟩
abbrev cX4_image : ByteArray := prog_1_method_51_code
def yX4_image : MethodName := ⟨RX4, "image", "()I"⟩
abbrev cX4_back : ByteArray := prog_1_method_52_code
def yX4_back : MethodName := ⟨RX4, "back", "()I"⟩
abbrev cX4_status : ByteArray := prog_1_method_53_code
def yX4_status : MethodName := ⟨RX4, "status", "(I)I"⟩
abbrev cX4_refuse : ByteArray := prog_1_method_54_code
def yX4_refuse : MethodName := ⟨RX4, "refuse", "(I)I"⟩
abbrev cX4_isWithin : ByteArray := prog_1_method_55_code
def yX4_isWithin : MethodName := ⟨RX4, "isWithin", "(III)Z"⟩
abbrev cX4_asNumber : ByteArray := prog_1_method_56_code
def yX4_asNumber : MethodName := ⟨RX4, "asNumber", "(Z)I"⟩
abbrev cX4_isShelf : ByteArray := prog_1_method_57_code
def yX4_isShelf : MethodName := ⟨RX4, "isShelf", "(I)Z"⟩
abbrev cX4_isUnder : ByteArray := prog_1_method_58_code
def yX4_isUnder : MethodName := ⟨RX4, "isUnder", "(II)Z"⟩
abbrev cX4_lackOfRows : ByteArray := prog_1_method_59_code
def yX4_lackOfRows : MethodName := ⟨RX4, "lackOfRows", "(LEndsInFive$Shelf;LEndsInFive$Shelf;)I"⟩
abbrev cX4_lackOfBook : ByteArray := prog_1_method_60_code
def yX4_lackOfBook : MethodName := ⟨RX4, "lackOfBook", "(II)I"⟩
abbrev cX4_firstWrong : ByteArray := prog_1_method_61_code
def yX4_firstWrong : MethodName := ⟨RX4, "firstWrong", "(III)I"⟩
abbrev cX4_wordOf : ByteArray := prog_1_method_62_code
def yX4_wordOf : MethodName := ⟨RX4, "wordOf", "(II)I"⟩
abbrev cX4_meanOfGoes : ByteArray := prog_1_method_63_code
def yX4_meanOfGoes : MethodName := ⟨RX4, "meanOfGoes", "(II)I"⟩
abbrev cX4_sureness : ByteArray := prog_1_method_64_code
def yX4_sureness : MethodName := ⟨RX4, "sureness", "(II)I"⟩
abbrev cX4_countShelvesInUse : ByteArray := prog_1_method_65_code
def yX4_countShelvesInUse : MethodName := ⟨RX4, "countShelvesInUse", "()I"⟩
def RX5 : String := "EndsInFiveModel"
def TX5 : u_T := fun k => match k with
  | 0 => ("EndsInFiveModel", "shelf", "[I", true)
  | 1 => ("EndsInFiveModel", "rowSort", "[I", true)
  | 2 => ("EndsInFiveModel", "rowSize", "[I", true)
  | 3 => ("EndsInFiveModel", "rows", "[[J", true)
  | 4 => ("EndsInFiveModel", "moved", "[J", true)
  | 5 => ("EndsInFiveModel", "shown", "[I", true)
  | 6 => ("EndsInFiveModel", "tape", "[I", true)
  | 7 => ("EndsInFiveModel", "tapeSize", "I", false)
  | 8 => ("EndsInFiveModel", "refused", "[I", true)
  | 9 => ("EndsInFiveModel", "slips", "I", false)
  | 10 => ("EndsInFiveModel", "rule", "I", false)
  | 11 => ("EndsInFiveModel", "price", "I", false)
  | 12 => ("EndsInFiveModel", "five", "I", false)
  | 13 => ("EndsInFiveModel", "goes", "I", false)
  | 14 => ("EndsInFiveModel", "taken", "I", false)
  | 15 => ("EndsInFiveModel", "seed", "I", false)
  | 16 => ("EndsInFiveModel", "out", "[I", true)
  | 17 => ("EndsInFiveModel", "things", "I", false)
  | 18 => ("EndsInFiveModel", "kind", "[I", true)
  | 19 => ("EndsInFiveModel", "slip", "[I", true)
  | 20 => ("EndsInFiveModel", "by", "[I", true)
  | 21 => ("EndsInFiveModel", "age", "[I", true)
  | 22 => ("EndsInFiveModel", "has", "[I", true)
  | 23 => ("EndsInFiveModel", "buyers", "I", false)
  | 24 => ("EndsInFiveModel", "purse", "[I", true)
  | 25 => ("EndsInFiveModel", "likes", "[[I", true)
  | 26 => ("EndsInFiveModel", "kept", "LEndsInFiveModel;", false)
  | 27 => ("EndsInFiveModel", "tried", "LEndsInFiveModel;", false)
  | 28 => ("EndsInFiveModel", "at", "I", false)
  | 29 => ("EndsInFiveModel", "token", "I", false)
  | 30 => ("EndsInFiveModel", "from", "I", false)
  | 31 => ("EndsInFiveModel", "figures", "I", false)
  | 32 => ("EndsInFiveModel", "fault", "I", false)
  | 33 => ("EndsInFiveModel", "told", "[I", true)
  | 34 => ("EndsInFiveModel", "statements", "I", false)
  | 35 => ("EndsInFiveModel", "values", "[[J", false)
  | 36 => ("EndsInFiveModel", "valueOf", "I", false)
  | 37 => ("EndsInFiveModel", "valueFrom", "I", false)
  | 38 => ("EndsInFiveModel", "valueInside", "I", false)
  | 39 => ("EndsInFiveModel", "valueGoes", "I", false)
  | _ => ("EndsInFiveModel", "wonAll", "I", false)
def tyX5 : Nat → FieldType := fun k => match k with
  | 0 => .array .int
  | 1 => .array .int
  | 2 => .array .int
  | 3 => .array (.array .long)
  | 4 => .array .long
  | 5 => .array .int
  | 6 => .array .int
  | 7 => .int
  | 8 => .array .int
  | 9 => .int
  | 10 => .int
  | 11 => .int
  | 12 => .int
  | 13 => .int
  | 14 => .int
  | 15 => .int
  | 16 => .array .int
  | 17 => .int
  | 18 => .array .int
  | 19 => .array .int
  | 20 => .array .int
  | 21 => .array .int
  | 22 => .array .int
  | 23 => .int
  | 24 => .array .int
  | 25 => .array (.array .int)
  | 26 => .object "EndsInFiveModel"
  | 27 => .object "EndsInFiveModel"
  | 28 => .int
  | 29 => .int
  | 30 => .int
  | 31 => .int
  | 32 => .int
  | 33 => .array .int
  | 34 => .int
  | 35 => .array (.array .long)
  | 36 => .int
  | 37 => .int
  | 38 => .int
  | 39 => .int
  | _ => .int
abbrev wsX50 : List Cond := u_ws RX5 TX5 41
theorem nmX5 : ∀ a, a < 41 → ∀ b, b < 41 → a ≠ b → (TX5 a).2.1 ≠ (TX5 b).2.1 := by decide +kernel
theorem tyX5_ok : ∀ k, k < 41 → parseFieldDescriptor (TX5 k).2.2.1 = some (tyX5 k) := by decide +kernel
abbrev cX5_init : ByteArray := prog_7_method_1_code
def yX5_init : MethodName := ⟨RX5, "<init>", "()V"⟩
abbrev cX5_refuse : ByteArray := prog_7_method_2_code
def yX5_refuse : MethodName := ⟨RX5, "refuse", "(I)I"⟩
abbrev cX5_in : ByteArray := prog_7_method_3_code
def yX5_in : MethodName := ⟨RX5, "in", "(JJJ)Z"⟩
abbrev cX5_isThing : ByteArray := prog_7_method_4_code
def yX5_isThing : MethodName := ⟨RX5, "isThing", "(I)Z"⟩
abbrev cX5_isBuyer : ByteArray := prog_7_method_5_code
def yX5_isBuyer : MethodName := ⟨RX5, "isBuyer", "(I)Z"⟩
abbrev cX5_inside : ByteArray := prog_7_method_6_code
def yX5_inside : MethodName := ⟨RX5, "inside", "()I"⟩
abbrev cX5_bits : ByteArray := prog_7_method_7_code
def yX5_bits : MethodName := ⟨RX5, "bits", "(I)I"⟩
abbrev cX5_standing : ByteArray := prog_7_method_8_code
def yX5_standing : MethodName := ⟨RX5, "standing", "()I"⟩
abbrev cX5_thingOn : ByteArray := prog_7_method_9_code
def yX5_thingOn : MethodName := ⟨RX5, "thingOn", "(I)I"⟩
abbrev cX5_row : ByteArray := prog_7_method_10_code
def yX5_row : MethodName := ⟨RX5, "row", "(III)I"⟩
abbrev cX5_fit : ByteArray := prog_7_method_11_code
def yX5_fit : MethodName := ⟨RX5, "fit", "(IJ)J"⟩
abbrev cX5_noRow : ByteArray := prog_7_method_12_code
def yX5_noRow : MethodName := ⟨RX5, "noRow", "(I)I"⟩
abbrev cX5_set : ByteArray := prog_7_method_13_code
def yX5_set : MethodName := ⟨RX5, "set", "(IIJ)I"⟩
abbrev cX5_copy : ByteArray := prog_7_method_14_code
def yX5_copy : MethodName := ⟨RX5, "copy", "(IIIII)I"⟩
abbrev cX5_element : ByteArray := prog_7_method_15_code
def yX5_element : MethodName := ⟨RX5, "element", "(II)J"⟩
abbrev cX5_holds : ByteArray := prog_7_method_16_code
def yX5_holds : MethodName := ⟨RX5, "holds", "(I)I"⟩
abbrev cX5_show : ByteArray := prog_7_method_17_code
def yX5_show : MethodName := ⟨RX5, "show", "(II)I"⟩
abbrev cX5_isUnder : ByteArray := prog_7_method_18_code
def yX5_isUnder : MethodName := ⟨RX5, "isUnder", "(II)Z"⟩
abbrev cX5_says : ByteArray := prog_7_method_19_code
def yX5_says : MethodName := ⟨RX5, "says", "(II)I"⟩
abbrev cX5_becomeSlips : ByteArray := prog_7_method_20_code
def yX5_becomeSlips : MethodName := ⟨RX5, "becomeSlips", "(I)V"⟩
abbrev cX5_slips : ByteArray := prog_7_method_21_code
def yX5_slips : MethodName := ⟨RX5, "slips", "(I)I"⟩
abbrev cX5_rule : ByteArray := prog_7_method_22_code
def yX5_rule : MethodName := ⟨RX5, "rule", "(I)I"⟩
abbrev cX5_price : ByteArray := prog_7_method_23_code
def yX5_price : MethodName := ⟨RX5, "price", "(II)I"⟩
abbrev cX5_isWinner : ByteArray := prog_7_method_24_code
def yX5_isWinner : MethodName := ⟨RX5, "isWinner", "(I)Z"⟩
abbrev cX5_addThing : ByteArray := prog_7_method_25_code
def yX5_addThing : MethodName := ⟨RX5, "addThing", "(III)V"⟩
abbrev cX5_thing : ByteArray := prog_7_method_26_code
def yX5_thing : MethodName := ⟨RX5, "thing", "(III)I"⟩
abbrev cX5_addBuyer : ByteArray := prog_7_method_27_code
def yX5_addBuyer : MethodName := ⟨RX5, "addBuyer", "(I)V"⟩
abbrev cX5_buyer : ByteArray := prog_7_method_28_code
def yX5_buyer : MethodName := ⟨RX5, "buyer", "(I)I"⟩
abbrev cX5_likes : ByteArray := prog_7_method_29_code
def yX5_likes : MethodName := ⟨RX5, "likes", "(III)I"⟩
abbrev cX5_purse : ByteArray := prog_7_method_30_code
def yX5_purse : MethodName := ⟨RX5, "purse", "(II)I"⟩
abbrev cX5_feed : ByteArray := prog_7_method_31_code
def yX5_feed : MethodName := ⟨RX5, "feed", "(I)I"⟩
abbrev cX5_wipe : ByteArray := prog_7_method_32_code
def yX5_wipe : MethodName := ⟨RX5, "wipe", "()I"⟩
abbrev cX5_isLetter : ByteArray := prog_7_method_33_code
def yX5_isLetter : MethodName := ⟨RX5, "isLetter", "(I)Z"⟩
abbrev cX5_isDigit : ByteArray := prog_7_method_34_code
def yX5_isDigit : MethodName := ⟨RX5, "isDigit", "(I)Z"⟩
abbrev cX5_look : ByteArray := prog_7_method_35_code
def yX5_look : MethodName := ⟨RX5, "look", "()V"⟩
abbrev cX5_wrong : ByteArray := prog_7_method_36_code
def yX5_wrong : MethodName := ⟨RX5, "wrong", "()Z"⟩
abbrev cX5_isWord : ByteArray := prog_7_method_37_code
def yX5_isWord : MethodName := ⟨RX5, "isWord", "(Ljava/lang/String;)Z"⟩
abbrev cX5_number : ByteArray := prog_7_method_38_code
def yX5_number : MethodName := ⟨RX5, "number", "(III)Z"⟩
abbrev cX5_tells : ByteArray := prog_7_method_39_code
def yX5_tells : MethodName := ⟨RX5, "tells", "(II)Z"⟩
abbrev cX5_priceTold : ByteArray := prog_7_method_40_code
def yX5_priceTold : MethodName := ⟨RX5, "priceTold", "()Z"⟩
abbrev cX5_thingTold : ByteArray := prog_7_method_41_code
def yX5_thingTold : MethodName := ⟨RX5, "thingTold", "()Z"⟩
abbrev cX5_outTold : ByteArray := prog_7_method_42_code
def yX5_outTold : MethodName := ⟨RX5, "outTold", "()Z"⟩
abbrev cX5_statement : ByteArray := prog_7_method_43_code
def yX5_statement : MethodName := ⟨RX5, "statement", "()Z"⟩
abbrev cX5_readAll : ByteArray := prog_7_method_44_code
def yX5_readAll : MethodName := ⟨RX5, "readAll", "()Z"⟩
abbrev cX5_stall : ByteArray := prog_7_method_45_code
def yX5_stall : MethodName := ⟨RX5, "stall", "()I"⟩
abbrev cX5_thingOf : ByteArray := prog_7_method_46_code
def yX5_thingOf : MethodName := ⟨RX5, "thingOf", "(II)I"⟩
abbrev cX5_owned : ByteArray := prog_7_method_47_code
def yX5_owned : MethodName := ⟨RX5, "owned", "(I)I"⟩
abbrev cX5_liked : ByteArray := prog_7_method_48_code
def yX5_liked : MethodName := ⟨RX5, "liked", "(II)I"⟩
abbrev cX5_buyerOf : ByteArray := prog_7_method_49_code
def yX5_buyerOf : MethodName := ⟨RX5, "buyerOf", "(II)I"⟩
abbrev cX5_brought : ByteArray := prog_7_method_50_code
def yX5_brought : MethodName := ⟨RX5, "brought", "(II)I"⟩
abbrev cX5_wonBy : ByteArray := prog_7_method_51_code
def yX5_wonBy : MethodName := ⟨RX5, "wonBy", "(II)I"⟩
abbrev cX5_isFree : ByteArray := prog_7_method_52_code
def yX5_isFree : MethodName := ⟨RX5, "isFree", "(III)Z"⟩
abbrev cX5_canDraw : ByteArray := prog_7_method_53_code
def yX5_canDraw : MethodName := ⟨RX5, "canDraw", "(I)Z"⟩
abbrev cX5_drawableMany : ByteArray := prog_7_method_54_code
def yX5_drawableMany : MethodName := ⟨RX5, "drawableMany", "()I"⟩
abbrev cX5_drawable : ByteArray := prog_7_method_55_code
def yX5_drawable : MethodName := ⟨RX5, "drawable", "()I"⟩
abbrev cX5_slipOf : ByteArray := prog_7_method_56_code
def yX5_slipOf : MethodName := ⟨RX5, "slipOf", "(II)I"⟩
abbrev cX5_winsBy : ByteArray := prog_7_method_57_code
def yX5_winsBy : MethodName := ⟨RX5, "winsBy", "(I)I"⟩
abbrev cX5_wins : ByteArray := prog_7_method_58_code
def yX5_wins : MethodName := ⟨RX5, "wins", "(I)I"⟩
abbrev cX5_worthTo : ByteArray := prog_7_method_59_code
def yX5_worthTo : MethodName := ⟨RX5, "worthTo", "(I)I"⟩
abbrev cX5_worth : ByteArray := prog_7_method_60_code
def yX5_worth : MethodName := ⟨RX5, "worth", "(I)I"⟩
abbrev cX5_beginValues : ByteArray := prog_7_method_61_code
def yX5_beginValues : MethodName := ⟨RX5, "beginValues", "(II)V"⟩
abbrev cX5_valueAt : ByteArray := prog_7_method_62_code
def yX5_valueAt : MethodName := ⟨RX5, "valueAt", "(II)J"⟩
abbrev cX5_foundAt : ByteArray := prog_7_method_63_code
def yX5_foundAt : MethodName := ⟨RX5, "foundAt", "(II)J"⟩
abbrev cX5_planOf : ByteArray := prog_7_method_64_code
def yX5_planOf : MethodName := ⟨RX5, "planOf", "(I)I"⟩
abbrev cX5_plan : ByteArray := prog_7_method_65_code
def yX5_plan : MethodName := ⟨RX5, "plan", "(I)I"⟩
abbrev cX5_till : ByteArray := prog_7_method_66_code
def yX5_till : MethodName := ⟨RX5, "till", "(I)I"⟩
abbrev cX5_meanOf : ByteArray := prog_7_method_67_code
def yX5_meanOf : MethodName := ⟨RX5, "meanOf", "(II)J"⟩
abbrev cX5_mean : ByteArray := prog_7_method_68_code
def yX5_mean : MethodName := ⟨RX5, "mean", "(II)I"⟩
abbrev cX5_atOnce : ByteArray := prog_7_method_69_code
def yX5_atOnce : MethodName := ⟨RX5, "atOnce", "(I)I"⟩
abbrev cX5_all : ByteArray := prog_7_method_70_code
def yX5_all : MethodName := ⟨RX5, "all", "(I)I"⟩
abbrev cX5_takingsAt : ByteArray := prog_7_method_71_code
def yX5_takingsAt : MethodName := ⟨RX5, "takingsAt", "(I)I"⟩
abbrev cX5_takings : ByteArray := prog_7_method_72_code
def yX5_takings : MethodName := ⟨RX5, "takings", "(I)I"⟩
abbrev cX5_bestPrice : ByteArray := prog_7_method_73_code
def yX5_bestPrice : MethodName := ⟨RX5, "bestPrice", "()I"⟩
abbrev cX5_fullWith : ByteArray := prog_7_method_74_code
def yX5_fullWith : MethodName := ⟨RX5, "fullWith", "(I)I"⟩
abbrev cX5_full : ByteArray := prog_7_method_75_code
def yX5_full : MethodName := ⟨RX5, "full", "()I"⟩
abbrev cX5_guess : ByteArray := prog_7_method_76_code
def yX5_guess : MethodName := ⟨RX5, "guess", "(II)I"⟩
abbrev cX5_suspected : ByteArray := prog_7_method_77_code
def yX5_suspected : MethodName := ⟨RX5, "suspected", "(II)I"⟩
abbrev cX5_suspect : ByteArray := prog_7_method_78_code
def yX5_suspect : MethodName := ⟨RX5, "suspect", "(II)I"⟩
abbrev cX5_sure : ByteArray := prog_7_method_79_code
def yX5_sure : MethodName := ⟨RX5, "sure", "(II)I"⟩
abbrev cX5_left : ByteArray := prog_7_method_80_code
def yX5_left : MethodName := ⟨RX5, "left", "(I)I"⟩
abbrev cX5_noBook : ByteArray := prog_7_method_81_code
def yX5_noBook : MethodName := ⟨RX5, "noBook", "(II)I"⟩
abbrev cX5_comesOut : ByteArray := prog_7_method_82_code
def yX5_comesOut : MethodName := ⟨RX5, "comesOut", "(II)I"⟩
abbrev cX5_wrongIn : ByteArray := prog_7_method_83_code
def yX5_wrongIn : MethodName := ⟨RX5, "wrongIn", "([JI)I"⟩
abbrev cX5_judge : ByteArray := prog_7_method_84_code
def yX5_judge : MethodName := ⟨RX5, "judge", "(II)I"⟩
abbrev cX5_won : ByteArray := prog_7_method_85_code
def yX5_won : MethodName := ⟨RX5, "won", "(II)I"⟩
abbrev cX5_booked : ByteArray := prog_7_method_86_code
def yX5_booked : MethodName := ⟨RX5, "booked", "(III)I"⟩
abbrev cX5_chain : ByteArray := prog_7_method_87_code
def yX5_chain : MethodName := ⟨RX5, "chain", "(I)I"⟩
abbrev cX5_comesOn : ByteArray := prog_7_method_88_code
def yX5_comesOn : MethodName := ⟨RX5, "comesOn", "(III[Z)V"⟩
abbrev cX5_dearest : ByteArray := prog_7_method_89_code
def yX5_dearest : MethodName := ⟨RX5, "dearest", "(I)I"⟩
abbrev cX5_fondest : ByteArray := prog_7_method_90_code
def yX5_fondest : MethodName := ⟨RX5, "fondest", "(I)I"⟩
abbrev cX5_envy : ByteArray := prog_7_method_91_code
def yX5_envy : MethodName := ⟨RX5, "envy", "()I"⟩
abbrev cX5_poorest : ByteArray := prog_7_method_92_code
def yX5_poorest : MethodName := ⟨RX5, "poorest", "()I"⟩
abbrev cX5_oldest : ByteArray := prog_7_method_93_code
def yX5_oldest : MethodName := ⟨RX5, "oldest", "()I"⟩
abbrev cX5_below : ByteArray := prog_7_method_94_code
def yX5_below : MethodName := ⟨RX5, "below", "(I)I"⟩
abbrev cX5_drawn : ByteArray := prog_7_method_95_code
def yX5_drawn : MethodName := ⟨RX5, "drawn", "()I"⟩
abbrev cX5_goesOne : ByteArray := prog_7_method_96_code
def yX5_goesOne : MethodName := ⟨RX5, "goesOne", "(I)I"⟩
abbrev cX5_go : ByteArray := prog_7_method_97_code
def yX5_go : MethodName := ⟨RX5, "go", "(I)I"⟩
abbrev cX5_five : ByteArray := prog_7_method_98_code
def yX5_five : MethodName := ⟨RX5, "five", "(I)I"⟩
abbrev cX5_plays : ByteArray := prog_7_method_99_code
def yX5_plays : MethodName := ⟨RX5, "plays", "(I)I"⟩
abbrev cX5_fete : ByteArray := prog_7_method_100_code
def yX5_fete : MethodName := ⟨RX5, "fete", "(I)I"⟩
abbrev cX5_seed : ByteArray := prog_7_method_101_code
def yX5_seed : MethodName := ⟨RX5, "seed", "(I)I"⟩
abbrev cX5_fresh : ByteArray := prog_7_method_102_code
def yX5_fresh : MethodName := ⟨RX5, "fresh", "()LEndsInFiveModel;"⟩
abbrev cX5_over : ByteArray := prog_7_method_103_code
def yX5_over : MethodName := ⟨RX5, "over", "([I[I)V"⟩
abbrev cX5_takeFrom : ByteArray := prog_7_method_104_code
def yX5_takeFrom : MethodName := ⟨RX5, "takeFrom", "(LEndsInFiveModel;)V"⟩
abbrev cX5_image : ByteArray := prog_7_method_105_code
def yX5_image : MethodName := ⟨RX5, "image", "()I"⟩
abbrev cX5_back : ByteArray := prog_7_method_106_code
def yX5_back : MethodName := ⟨RX5, "back", "()I"⟩
abbrev cX5_status : ByteArray := prog_7_method_107_code
def yX5_status : MethodName := ⟨RX5, "status", "(I)I"⟩
def RJ6 : String := "java/lang/Integer"
def TJ6 : u_T := fun k => match k with
  | _ => ("", "", "", false)
def tyJ6 : Nat → FieldType := fun k => match k with
  | _ => .int
abbrev wsJ60 : List Cond := u_ws RJ6 TJ6 0
theorem nmJ6 : ∀ a, a < 0 → ∀ b, b < 0 → a ≠ b → (TJ6 a).2.1 ≠ (TJ6 b).2.1 := by decide +kernel
theorem tyJ6_ok : ∀ k, k < 0 → parseFieldDescriptor (TJ6 k).2.2.1 = some (tyJ6 k) := by decide +kernel
abbrev cJ6_bitCount_0f7a4 : ByteArray := prog_8_method_49_code
def yJ6_bitCount_0f7a4 : MethodName := ⟨RJ6, "bitCount", "(I)I"⟩
def RJ13 : String := "java/lang/Long"
def TJ13 : u_T := fun k => match k with
  | _ => ("", "", "", false)
def tyJ13 : Nat → FieldType := fun k => match k with
  | _ => .int
abbrev wsJ130 : List Cond := u_ws RJ13 TJ13 0
theorem nmJ13 : ∀ a, a < 0 → ∀ b, b < 0 → a ≠ b → (TJ13 a).2.1 ≠ (TJ13 b).2.1 := by decide +kernel
theorem tyJ13_ok : ∀ k, k < 0 → parseFieldDescriptor (TJ13 k).2.2.1 = some (tyJ13 k) := by decide +kernel
abbrev cJ13_bitCount_95d88 : ByteArray := prog_9_method_50_code
def yJ13_bitCount_95d88 : MethodName := ⟨RJ13, "bitCount", "(J)I"⟩
def RJ9 : String := "java/lang/Math"
def TJ9 : u_T := fun k => match k with
  | _ => ("", "", "", false)
def tyJ9 : Nat → FieldType := fun k => match k with
  | _ => .int
abbrev wsJ90 : List Cond := u_ws RJ9 TJ9 0
theorem nmJ9 : ∀ a, a < 0 → ∀ b, b < 0 → a ≠ b → (TJ9 a).2.1 ≠ (TJ9 b).2.1 := by decide +kernel
theorem tyJ9_ok : ∀ k, k < 0 → parseFieldDescriptor (TJ9 k).2.2.1 = some (tyJ9 k) := by decide +kernel
def RJ0 : String := "java/lang/String"
def TJ0 : u_T := fun k => match k with
  | _ => ("", "", "", false)
def tyJ0 : Nat → FieldType := fun k => match k with
  | _ => .int
abbrev wsJ00 : List Cond := u_ws RJ0 TJ0 0
theorem nmJ0 : ∀ a, a < 0 → ∀ b, b < 0 → a ≠ b → (TJ0 a).2.1 ≠ (TJ0 b).2.1 := by decide +kernel
theorem tyJ0_ok : ∀ k, k < 0 → parseFieldDescriptor (TJ0 k).2.2.1 = some (tyJ0 k) := by decide +kernel
abbrev cJ0_length_8abf5 : ByteArray := prog_11_method_54_code
def yJ0_length_8abf5 : MethodName := ⟨RJ0, "length", "()I"⟩
abbrev cJ0_charAt_5068e : ByteArray := prog_11_method_56_code
def yJ0_charAt_5068e : MethodName := ⟨RJ0, "charAt", "(I)C"⟩
abbrev cJ0_coder_7d493 : ByteArray := prog_11_method_152_code
def yJ0_coder_7d493 : MethodName := ⟨RJ0, "coder", "()B"⟩
abbrev cJ0_isLatin1_aae02 : ByteArray := prog_11_method_154_code
def yJ0_isLatin1_aae02 : MethodName := ⟨RJ0, "isLatin1", "()Z"⟩
abbrev cJ0_checkIndex_df160 : ByteArray := prog_11_method_155_code
def yJ0_checkIndex_df160 : MethodName := ⟨RJ0, "checkIndex", "(II)V"⟩
def RJ1 : String := "java/lang/StringLatin1"
def TJ1 : u_T := fun k => match k with
  | _ => ("", "", "", false)
def tyJ1 : Nat → FieldType := fun k => match k with
  | _ => .int
abbrev wsJ10 : List Cond := u_ws RJ1 TJ1 0
theorem nmJ1 : ∀ a, a < 0 → ∀ b, b < 0 → a ≠ b → (TJ1 a).2.1 ≠ (TJ1 b).2.1 := by decide +kernel
theorem tyJ1_ok : ∀ k, k < 0 → parseFieldDescriptor (TJ1 k).2.2.1 = some (tyJ1 k) := by decide +kernel
abbrev cJ1_charAt_3b067 : ByteArray := prog_12_method_2_code
def yJ1_charAt_3b067 : MethodName := ⟨RJ1, "charAt", "([BI)C"⟩
def RJ2 : String := "java/lang/StringUTF16"
def TJ2 : u_T := fun k => match k with
  | _ => ("", "", "", false)
def tyJ2 : Nat → FieldType := fun k => match k with
  | _ => .int
abbrev wsJ20 : List Cond := u_ws RJ2 TJ2 0
theorem nmJ2 : ∀ a, a < 0 → ∀ b, b < 0 → a ≠ b → (TJ2 a).2.1 ≠ (TJ2 b).2.1 := by decide +kernel
theorem tyJ2_ok : ∀ k, k < 0 → parseFieldDescriptor (TJ2 k).2.2.1 = some (tyJ2 k) := by decide +kernel
def RJ10 : String := "java/lang/System"
def TJ10 : u_T := fun k => match k with
  | _ => ("", "", "", false)
def tyJ10 : Nat → FieldType := fun k => match k with
  | _ => .int
abbrev wsJ100 : List Cond := u_ws RJ10 TJ10 0
theorem nmJ10 : ∀ a, a < 0 → ∀ b, b < 0 → a ≠ b → (TJ10 a).2.1 ≠ (TJ10 b).2.1 := by decide +kernel
theorem tyJ10_ok : ∀ k, k < 0 → parseFieldDescriptor (TJ10 k).2.2.1 = some (tyJ10 k) := by decide +kernel
def RJ3 : String := "jdk/internal/util/Preconditions"
def TJ3 : u_T := fun k => match k with
  | _ => ("", "", "", false)
def tyJ3 : Nat → FieldType := fun k => match k with
  | _ => .int
abbrev wsJ30 : List Cond := u_ws RJ3 TJ3 0
theorem nmJ3 : ∀ a, a < 0 → ∀ b, b < 0 → a ≠ b → (TJ3 a).2.1 ≠ (TJ3 b).2.1 := by decide +kernel
theorem tyJ3_ok : ∀ k, k < 0 → parseFieldDescriptor (TJ3 k).2.2.1 = some (tyJ3 k) := by decide +kernel
abbrev cJ3_checkIndex_8e157 : ByteArray := prog_15_method_11_code
def yJ3_checkIndex_8e157 : MethodName := ⟨RJ3, "checkIndex", "(IILjava/util/function/BiFunction;)I"⟩
def RL : String := "EndsInFiveLaw"
abbrev cL_law : ByteArray := code
def yL_law : MethodName := ⟨RL, "law", "([I)Z"⟩
abbrev vwCl : List vw_C := [(RX0, TX0, 3), (RX1, TX1, 17), (RX2, TX2, 6), (RX3, TX3, 7), (RX4, TX4, 8), (RX5, TX5, 41)]
end
section
abbrev zV : Type := Value ⊕ (Bool × Int × Int)
abbrev zC : Type := Nat × List zV
abbrev zH : Type := List zC
abbrev zL : Type := List (Nat × zV)
abbrev zS : Type := Nat × zL × List zV × zH × Nat × Nat
abbrev zI : Type := Instr × zV × Nat × Nat × Nat × Nat
abbrev zCd : Type := List (Nat × List (Nat × zI))
abbrev zE : Type := MethodName × ByteArray × Nat × Option FieldType × Nat × Nat × Nat × Nat × zCd
def zEm (E : zE) : Nat := E.2.2.1
def zEp (E : zE) : Nat := E.2.2.2.2.1
def zEk (E : zE) : Nat := E.2.2.2.2.2.1
def zEc (E : zE) : Nat := E.2.2.2.2.2.2.1
def zEs (E : zE) : Nat := E.2.2.2.2.2.2.2.1
def zEd (E : zE) : zCd := E.2.2.2.2.2.2.2.2
def zft (cd : zCd) (pc : Nat) : Option zI := match cd.find? (fun q => Nat.blt pc q.1) with
  | some q => (match q.2.find? (fun r => Nat.beq r.1 pc) with
    | some r => some r.2
    | none => none)
  | none => none
def zI0 : zV := .inr (false, -2147483648, 2147483647)
def zL0 : zV := .inr (true, -9223372036854775808, 9223372036854775807)
def zisI : zV → Bool
  | .inl (.int _) => true
  | .inr (false, _) => true
  | _ => false
def zisL : zV → Bool
  | .inl (.long _) => true
  | .inr (true, _) => true
  | _ => false
def zisR : zV → Bool
  | .inl .null => true
  | .inl (.ref _) => true
  | _ => false
def zcat : zV → Nat
  | .inl v => v.category
  | .inr (true, _) => 2
  | .inr (false, _) => 1
def zlo : zV → Int
  | .inl (.int x) => x.toInt
  | .inl (.long x) => x.toInt
  | .inr (_, lo, _) => lo
  | _ => 0
def zhi : zV → Int
  | .inl (.int x) => x.toInt
  | .inl (.long x) => x.toInt
  | .inr (_, _, hi) => hi
  | _ => 0
def zmk (lo hi : Int) : zV := if lo = hi then .inl (.int (Int32.ofInt lo)) else .inr (false, lo, hi)
def zlt (a b : zV) : Option Bool := if zhi a < zlo b then some true else if zhi b ≤ zlo a then some false else none
def zeq (a b : zV) : Option Bool := if zhi a < zlo b ∨ zhi b < zlo a then some false else if zhi a ≤ zlo b ∧ zhi b ≤ zlo a then some true else none
def znot : Option Bool → Option Bool
  | some b => some (!b)
  | none => none
def zcond : ClassFile.Cond → zV → zV → Option Bool
  | .eq, a, b => zeq a b
  | .ne, a, b => znot (zeq a b)
  | .lt, a, b => zlt a b
  | .ge, a, b => znot (zlt a b)
  | .gt, a, b => zlt b a
  | .le, a, b => znot (zlt b a)
def zbr (o : Option Bool) (kt kf : Bool) : Bool := match o with
  | some true => kt
  | some false => kf
  | none => kt && kf
def zget (L : zL) (i : Nat) : Option zV := match L.find? (fun q => Nat.beq q.1 i) with
  | some q => some q.2
  | none => none
def zst1 (L : zL) (i : Nat) (v : zV) : zL := (i, v) :: L.filter (fun q => !(Nat.beq q.1 i) && !(Nat.beq (q.1 + 1) i && Nat.beq (zcat q.2) 2))
def zst2 (L : zL) (i : Nat) (v : zV) : zL := (i, v) :: L.filter (fun q => !(Nat.beq q.1 i) && (!(Nat.beq q.1 (i + 1)) && !(Nat.beq (q.1 + 1) i && Nat.beq (zcat q.2) 2)))
def zld (P : zV → Bool) (L : zL) (i : Nat) (k : zV → Bool) : Bool := match zget L i with
  | some v => P v && k v
  | none => false
def zs1 (P : zV → Bool) (L : zL) (nL i : Nat) (st : List zV) (k : zL → List zV → Bool) : Bool := match st with
  | v :: r => P v && (Nat.blt i nL && k (zst1 L i v) r)
  | [] => false
def zs2 (L : zL) (nL i : Nat) (st : List zV) (k : zL → List zV → Bool) : Bool := match st with
  | v :: r => zisL v && (Nat.blt (i + 1) nL && k (zst2 L i v) r)
  | [] => false
def zb2 (f : Int32 → Int32 → Int32) (st : List zV) (k : List zV → Bool) : Bool := match st with
  | .inl (.int b) :: .inl (.int a) :: r => k (.inl (.int (f a b)) :: r)
  | b :: a :: r => zisI a && (zisI b && k (zI0 :: r))
  | _ => false
def zml (st : List zV) (k : List zV → Bool) : Bool := match st with
  | .inl (.int b) :: .inl (.int a) :: r => k (.inl (.int (a * b)) :: r)
  | b :: .inl (.int a) :: r => zisI b && k ((if a = 0 then .inl (.int 0) else zI0) :: r)
  | b :: a :: r => zisI a && (zisI b && k (zI0 :: r))
  | _ => false
def zdv (f : Int32 → Int32 → Int32) (st : List zV) (k : List zV → Bool) : Bool := match st with
  | .inl (.int b) :: .inl (.int a) :: r => !(b == 0) && k (.inl (.int (f a b)) :: r)
  | _ => false
def zb2l (f : Int64 → Int64 → Int64) (st : List zV) (k : List zV → Bool) : Bool := match st with
  | .inl (.long b) :: .inl (.long a) :: r => k (.inl (.long (f a b)) :: r)
  | b :: a :: r => zisL a && (zisL b && k (zL0 :: r))
  | _ => false
def zdvl (f : Int64 → Int64 → Int64) (st : List zV) (k : List zV → Bool) : Bool := match st with
  | .inl (.long b) :: .inl (.long a) :: r => !(b == 0) && k (.inl (.long (f a b)) :: r)
  | _ => false
def zshl (f : Int64 → Int32 → Int64) (st : List zV) (k : List zV → Bool) : Bool := match st with
  | .inl (.int b) :: .inl (.long a) :: r => k (.inl (.long (f a b)) :: r)
  | b :: a :: r => zisL a && (zisI b && k (zL0 :: r))
  | _ => false
def zcmpL (a b : zV) : zV := zmk (if zhi b < zlo a then 1 else if zhi b ≤ zlo a then 0 else -1) (if zhi a < zlo b then -1 else if zhi a ≤ zlo b then 0 else 1)
def zof (pc : Nat) (off : Int) (k : Nat → Bool) : Bool := match (pc : Int) + off with
  | .ofNat t => k t
  | .negSucc _ => false
def zdef : FieldType → zV
  | .long => .inl (.long 0)
  | .object _ => .inl .null
  | .array _ => .inl .null
  | _ => .inl (.int 0)
def zfit : Nat → zV → Bool
  | 0, v => zisI v
  | 1, v => zisL v
  | 2, v => zisR v
  | _, v => match v with
    | .inl (.int x) => x == 0 || x == 1
    | _ => false
def zcpy (f g : List zV) (sp dp n : Nat) : List zV := g.take dp ++ ((f.drop sp).take n ++ g.drop (dp + n))
def zrow (h : zH) (q : Nat) (t : Nat) (k : List zV → Bool) : Bool := match h[q]? with
  | some c => Nat.blt q 1000000 && (Nat.beq c.1 t && k c.2)
  | none => false
def zel (vs : List zV) (i : Int32) (k : zV → Bool) : Bool := if i < 0 then false else match vs[i.toNatClampNeg]? with
  | some v => k v
  | none => false
def zix (vs : List zV) (i : Int32) : Bool := if i < 0 then false else Nat.blt i.toNatClampNeg vs.length
def zsum : List zV → Nat
  | [] => 0
  | v :: l => zcat v + zsum l
def zpush : Option zV → List zV → List zV
  | some v, l => v :: l
  | none, l => l
def zund : List zV := [.inl (.int (-1)), .inl (.int 0), .inl (.int 0), .inl (.int 1), .inl (.int 0), .inl (.int 4)]
def zlens : List Nat := [5, 4, 5, 5, 5, 5, 3, 4]
def zbyts : List (List Int32) := [[115, 108, 105, 112, 115], [114, 117, 108, 101], [112, 114, 105, 99, 101], [116, 104, 105, 110, 103], [98, 117, 121, 101, 114], [108, 105, 107, 101, 115], [111, 117, 116], [102, 105, 118, 101]]
def zslen (q : Nat) : Option Int32 := if 1000000 ≤ q ∧ q < 1000008 then some (Int32.ofNat (zlens.getD (q - 1000000) 0)) else none
def zsch (q : Nat) (i : Int32) : Option Int32 := if 1000000 ≤ q ∧ q < 1000008 then (if i < 0 then none else (zbyts.getD (q - 1000000) [])[i.toNatClampNeg]?) else none
abbrev zK : Type := Nat → List zV → zH → (Option zV → zH → Bool) → Bool
def zcall (prog : Nat → Option zE) (cc : zK) (j : Nat) (st : List zV) (h : zH) (nc ns rc rs : Nat) (k : List zV → zH → Nat → Nat → Bool) : Bool := match prog j with
  | some E => Nat.ble (zEp E) st.length && (Nat.ble (nc + zEc E) rc && (Nat.ble (ns + zEs E) rs && (Nat.ble (zsum (st.drop (zEp E))) 8 && cc j (st.take (zEp E)).reverse h (fun r h' => k (zpush r (st.drop (zEp E))) h' (nc + zEc E) (ns + zEs E)))))
  | none => false
def zcalv (prog : Nat → Option zE) (cc : zK) (j : Nat) (st : List zV) (h : zH) (nc ns rc rs : Nat) (k : List zV → zH → Nat → Nat → Bool) : Bool := match prog j with
  | some E => Nat.ble (zEp E) st.length && (Nat.ble (nc + zEc E) rc && (Nat.ble (ns + zEs E) rs && (match st.drop (zEp E) with
    | .inl (.ref q) :: r => zrow h q (zEk E) (fun _ => Nat.ble (zsum r) 8 && cc j (.inl (.ref q) :: (st.take (zEp E)).reverse) h (fun v h' => k (zpush v r) h' (nc + zEc E) (ns + zEs E)))
    | _ => false)))
  | none => false
def zstep (zN : Nat → Nat) (zdf : Nat → List zV) (slen : Nat → Option Int32) (prog : Nat → Option zE) (nL rc rs : Nat) (scr : List zV) (cc : zK) (K : zS → Bool) (ins : Instr) (cv : zV) (a b c : Nat) (pc : Nat) (L : zL) (st : List zV) (h : zH) (nc ns : Nat) : Bool :=
  match ins with
  | .iconst n => K (pc + 1, L, .inl (.int (Int32.ofInt n)) :: st, h, nc, ns)
  | .bipush n => K (pc + 2, L, .inl (.int (Int8.ofInt n).toInt32) :: st, h, nc, ns)
  | .sipush n => K (pc + 3, L, .inl (.int (Int16.ofInt n).toInt32) :: st, h, nc, ns)
  | .lconst n => K (pc + 1, L, .inl (.long (Int64.ofNat (n : Nat))) :: st, h, nc, ns)
  | .iload_n k => zld zisI L k.val (fun v => K (pc + 1, L, v :: st, h, nc, ns))
  | .iload k => zld zisI L k (fun v => K (pc + 2, L, v :: st, h, nc, ns))
  | .lload_n k => zld zisL L k.val (fun v => K (pc + 1, L, v :: st, h, nc, ns))
  | .lload k => zld zisL L k (fun v => K (pc + 2, L, v :: st, h, nc, ns))
  | .aload_n k => zld zisR L k.val (fun v => K (pc + 1, L, v :: st, h, nc, ns))
  | .aload k => zld zisR L k (fun v => K (pc + 2, L, v :: st, h, nc, ns))
  | .istore_n k => zs1 zisI L nL k.val st (fun L' r => K (pc + 1, L', r, h, nc, ns))
  | .istore k => zs1 zisI L nL k st (fun L' r => K (pc + 2, L', r, h, nc, ns))
  | .astore_n k => zs1 zisR L nL k.val st (fun L' r => K (pc + 1, L', r, h, nc, ns))
  | .astore k => zs1 zisR L nL k st (fun L' r => K (pc + 2, L', r, h, nc, ns))
  | .lstore_n k => zs2 L nL k.val st (fun L' r => K (pc + 1, L', r, h, nc, ns))
  | .lstore k => zs2 L nL k st (fun L' r => K (pc + 2, L', r, h, nc, ns))
  | .iinc k n => (match zget L k with
    | some (.inl (.int x)) => Nat.blt k nL && K (pc + 3, zst1 L k (.inl (.int (x + Int32.ofInt n))), st, h, nc, ns)
    | _ => false)
  | .iadd => zb2 (fun x y => x + y) st (fun st' => K (pc + 1, L, st', h, nc, ns))
  | .isub => zb2 (fun x y => x - y) st (fun st' => K (pc + 1, L, st', h, nc, ns))
  | .imul => zml st (fun st' => K (pc + 1, L, st', h, nc, ns))
  | .iand => zb2 (fun x y => x &&& y) st (fun st' => K (pc + 1, L, st', h, nc, ns))
  | .ior => zb2 (fun x y => x ||| y) st (fun st' => K (pc + 1, L, st', h, nc, ns))
  | .ixor => zb2 (fun x y => x ^^^ y) st (fun st' => K (pc + 1, L, st', h, nc, ns))
  | .ishl => zb2 (fun x y => x <<< (y &&& 31)) st (fun st' => K (pc + 1, L, st', h, nc, ns))
  | .ishr => zb2 (fun x y => x >>> (y &&& 31)) st (fun st' => K (pc + 1, L, st', h, nc, ns))
  | .iushr => zb2 (fun x y => (x.toUInt32 >>> (y.toUInt32 &&& Int32.toUInt32 31)).toInt32) st (fun st' => K (pc + 1, L, st', h, nc, ns))
  | .idiv => zdv (fun x y => x / y) st (fun st' => K (pc + 1, L, st', h, nc, ns))
  | .irem => zdv (fun x y => x - x / y * y) st (fun st' => K (pc + 1, L, st', h, nc, ns))
  | .ineg => (match st with
    | .inl (.int x) :: r => K (pc + 1, L, .inl (.int (-x)) :: r, h, nc, ns)
    | _ => false)
  | .ladd => zb2l (fun x y => x + y) st (fun st' => K (pc + 1, L, st', h, nc, ns))
  | .lsub => zb2l (fun x y => x - y) st (fun st' => K (pc + 1, L, st', h, nc, ns))
  | .ldiv => zdvl (fun x y => x / y) st (fun st' => K (pc + 1, L, st', h, nc, ns))
  | .i2b => (match st with
    | .inl (.int x) :: r => K (pc + 1, L, .inl (.int x.toInt8.toInt32) :: r, h, nc, ns)
    | _ => false)
  | .i2s => (match st with
    | .inl (.int x) :: r => K (pc + 1, L, .inl (.int x.toInt16.toInt32) :: r, h, nc, ns)
    | _ => false)
  | .lmul => zb2l (fun x y => x * y) st (fun st' => K (pc + 1, L, st', h, nc, ns))
  | .land => zb2l (fun x y => x &&& y) st (fun st' => K (pc + 1, L, st', h, nc, ns))
  | .lor => zb2l (fun x y => x ||| y) st (fun st' => K (pc + 1, L, st', h, nc, ns))
  | .lxor => zb2l (fun x y => x ^^^ y) st (fun st' => K (pc + 1, L, st', h, nc, ns))
  | .lshl => zshl (fun x y => x <<< (y.toInt64 &&& 63)) st (fun st' => K (pc + 1, L, st', h, nc, ns))
  | .lushr => zshl (fun x y => (x.toUInt64 >>> (y.toInt64.toUInt64 &&& Int64.toUInt64 63)).toInt64) st (fun st' => K (pc + 1, L, st', h, nc, ns))
  | .i2l => (match st with
    | .inl (.int x) :: r => K (pc + 1, L, .inl (.long x.toInt64) :: r, h, nc, ns)
    | .inr (false, lo, hi) :: r => K (pc + 1, L, .inr (true, lo, hi) :: r, h, nc, ns)
    | _ => false)
  | .l2i => (match st with
    | .inl (.long x) :: r => K (pc + 1, L, .inl (.int x.toInt32) :: r, h, nc, ns)
    | v :: r => zisL v && K (pc + 1, L, zI0 :: r, h, nc, ns)
    | _ => false)
  | .lcmp => (match st with
    | y :: x :: r => zisL x && (zisL y && K (pc + 1, L, zcmpL x y :: r, h, nc, ns))
    | _ => false)
  | .dup => (match st with
    | v :: r => Nat.beq (zcat v) 1 && K (pc + 1, L, v :: v :: r, h, nc, ns)
    | _ => false)
  | .dup2 => (match st with
    | v :: w :: r => Nat.beq (zcat v) 1 && (Nat.beq (zcat w) 1 && K (pc + 1, L, v :: w :: v :: w :: r, h, nc, ns))
    | _ => false)
  | .dup_x1 => (match st with
    | v :: w :: r => Nat.beq (zcat v) 1 && (Nat.beq (zcat w) 1 && K (pc + 1, L, v :: w :: v :: r, h, nc, ns))
    | _ => false)
  | .pop => (match st with
    | v :: r => Nat.beq (zcat v) 1 && K (pc + 1, L, r, h, nc, ns)
    | _ => false)
  | .ifCond cd off => (match st with
    | x :: r => zisI x && zof pc off (fun t => zbr (zcond cd x (.inl (.int 0))) (K (t, L, r, h, nc, ns)) (K (pc + 3, L, r, h, nc, ns)))
    | _ => false)
  | .if_icmp cd off => (match st with
    | y :: x :: r => zisI x && (zisI y && zof pc off (fun t => zbr (zcond cd x y) (K (t, L, r, h, nc, ns)) (K (pc + 3, L, r, h, nc, ns))))
    | _ => false)
  | .goto off => zof pc off (fun t => K (t, L, st, h, nc, ns))
  | .ifnull off => (match st with
    | .inl .null :: r => zof pc off (fun t => K (t, L, r, h, nc, ns))
    | .inl (.ref _) :: r => K (pc + 3, L, r, h, nc, ns)
    | _ => false)
  | .ifnonnull off => (match st with
    | .inl (.ref _) :: r => zof pc off (fun t => K (t, L, r, h, nc, ns))
    | .inl .null :: r => K (pc + 3, L, r, h, nc, ns)
    | _ => false)
  | .tableswitch d lo hi offs => (match st with
    | x :: r => zisI x && (if zhi x < lo ∨ hi < zlo x then zof pc d (fun t => K (t, L, r, h, nc, ns)) else match x with
      | .inl (.int z) => !(decide (z.toInt < lo)) && (!(decide (hi < z.toInt)) && (match offs[(z.toInt - lo).toNat]? with
        | some off => zof pc off (fun t => K (t, L, r, h, nc, ns))
        | none => false))
      | _ => false)
    | _ => false)
  | .getfield _ => (match st with
    | .inl (.ref q) :: r => zrow h q a (fun fs => match fs[b]? with
      | some v => K (pc + 3, L, v :: r, h, nc, ns)
      | none => false)
    | _ => false)
  | .putfield _ => (match st with
    | v :: .inl (.ref q) :: r => zrow h q a (fun fs => Nat.blt b fs.length && (zfit c v && K (pc + 3, L, r, h.set q (a, fs.set b v), nc, ns)))
    | _ => false)
  | .new _ => Nat.ble (nc + 1) rc && (Nat.ble (ns + zN a) rs && (Nat.blt h.length 1000000 && K (pc + 3, L, .inl (.ref h.length) :: st, h ++ [(a, zdf a)], nc + 1, ns + zN a)))
  | .newarray ty => (match st with
    | .inl (.int n) :: r => if n < 0 then false else Nat.ble n.toNatClampNeg 65536 && (Nat.ble (nc + 1) rc && (Nat.ble (ns + n.toNatClampNeg) rs && (Nat.blt h.length 1000000 && (match ty with
      | .int => K (pc + 2, L, .inl (.ref h.length) :: r, h ++ [(10, List.replicate n.toNatClampNeg (.inl (.int 0)))], nc + 1, ns + n.toNatClampNeg)
      | .long => K (pc + 2, L, .inl (.ref h.length) :: r, h ++ [(11, List.replicate n.toNatClampNeg (.inl (.long 0)))], nc + 1, ns + n.toNatClampNeg)
      | .boolean => K (pc + 2, L, .inl (.ref h.length) :: r, h ++ [(15, List.replicate n.toNatClampNeg (.inl (.int 0)))], nc + 1, ns + n.toNatClampNeg)
      | _ => false))))
    | _ => false)
  | .anewarray _ => (match st with
    | .inl (.int n) :: r => if n < 0 then false else Nat.ble n.toNatClampNeg 65536 && (Nat.ble (nc + 1) rc && (Nat.ble (ns + n.toNatClampNeg) rs && (Nat.blt h.length 1000000 && K (pc + 3, L, .inl (.ref h.length) :: r, h ++ [(12, List.replicate n.toNatClampNeg (.inl .null))], nc + 1, ns + n.toNatClampNeg))))
    | _ => false)
  | .multianewarray _ _ => (match st with
    | .inl (.int k) :: .inl (.int n) :: r => if n < 0 then false else if k < 0 then false else Nat.ble n.toNatClampNeg 1000 && (Nat.ble k.toNatClampNeg 1000 && (Nat.ble (nc + 1 + n.toNatClampNeg) rc && (Nat.ble (ns + n.toNatClampNeg + n.toNatClampNeg * k.toNatClampNeg) rs && (Nat.blt (h.length + n.toNatClampNeg) 1000000 && (match a with
      | 1 => K (pc + 4, L, .inl (.ref h.length) :: r, h ++ ((13, (List.range n.toNatClampNeg).map (fun i => .inl (.ref (h.length + 1 + i)))) :: List.replicate n.toNatClampNeg (11, List.replicate k.toNatClampNeg (.inl (.long 0)))), nc + 1 + n.toNatClampNeg, ns + n.toNatClampNeg + n.toNatClampNeg * k.toNatClampNeg)
      | 0 => K (pc + 4, L, .inl (.ref h.length) :: r, h ++ ((14, (List.range n.toNatClampNeg).map (fun i => .inl (.ref (h.length + 1 + i)))) :: List.replicate n.toNatClampNeg (10, List.replicate k.toNatClampNeg (.inl (.int 0)))), nc + 1 + n.toNatClampNeg, ns + n.toNatClampNeg + n.toNatClampNeg * k.toNatClampNeg)
      | _ => false)))))
    | _ => false)
  | .iaload => (match st with
    | .inl (.int i) :: .inl (.ref q) :: r => if q = 10000000 then zel scr i (fun v => K (pc + 1, L, v :: r, h, nc, ns)) else if q = 10000001 then zel zund i (fun v => K (pc + 1, L, v :: r, h, nc, ns)) else zrow h q 10 (fun vs => zel vs i (fun v => K (pc + 1, L, v :: r, h, nc, ns)))
    | _ => false)
  | .laload => (match st with
    | .inl (.int i) :: .inl (.ref q) :: r => zrow h q 11 (fun vs => zel vs i (fun v => K (pc + 1, L, v :: r, h, nc, ns)))
    | _ => false)
  | .aaload => (match st with
    | .inl (.int i) :: .inl (.ref q) :: r => (match h[q]? with
      | some x => Nat.blt q 1000000 && (Nat.ble 12 x.1 && (Nat.ble x.1 14 && zel x.2 i (fun v => K (pc + 1, L, v :: r, h, nc, ns))))
      | none => false)
    | _ => false)
  | .baload => (match st with
    | .inl (.int i) :: .inl (.ref q) :: r => zrow h q 15 (fun vs => zel vs i (fun v => K (pc + 1, L, v :: r, h, nc, ns)))
    | _ => false)
  | .bastore => (match st with
    | .inl (.int x) :: .inl (.int i) :: .inl (.ref q) :: r => zrow h q 15 (fun vs => zix vs i && K (pc + 1, L, r, h.set q (15, vs.set i.toNatClampNeg (.inl (.int (x &&& 1)))), nc, ns))
    | _ => false)
  | .getstatic _ => K (pc + 3, L, .inl (.ref 10000001) :: st, h, nc, ns)
  | .iastore => (match st with
    | v :: .inl (.int i) :: .inl (.ref q) :: r => zisI v && zrow h q 10 (fun vs => zix vs i && K (pc + 1, L, r, h.set q (10, vs.set i.toNatClampNeg v), nc, ns))
    | _ => false)
  | .lastore => (match st with
    | v :: .inl (.int i) :: .inl (.ref q) :: r => zisL v && zrow h q 11 (fun vs => zix vs i && K (pc + 1, L, r, h.set q (11, vs.set i.toNatClampNeg v), nc, ns))
    | _ => false)
  | .aastore => (match st with
    | .inl (.ref o) :: .inl (.int i) :: .inl (.ref q) :: r => zrow h o 0 (fun _ => zrow h q 12 (fun vs => zix vs i && K (pc + 1, L, r, h.set q (12, vs.set i.toNatClampNeg (.inl (.ref o))), nc, ns)))
    | _ => false)
  | .arraylength => (match st with
    | .inl (.ref q) :: r => if q = 10000000 then K (pc + 1, L, .inl (.int (Int32.ofNat scr.length)) :: r, h, nc, ns) else (match h[q]? with
      | some x => Nat.blt q 1000000 && (Nat.ble 10 x.1 && K (pc + 1, L, .inl (.int (Int32.ofNat x.2.length)) :: r, h, nc, ns))
      | none => false)
    | _ => false)
  | .ldc _ => K (pc + 2, L, cv :: st, h, nc, ns)
  | .ldc_w _ => K (pc + 3, L, cv :: st, h, nc, ns)
  | .ldc2_w _ => K (pc + 3, L, cv :: st, h, nc, ns)
  | .invokevirtual _ => (match b with
    | 0 => zcalv prog cc a st h nc ns rc rs (fun st' h' nc' ns' => K (pc + 3, L, st', h', nc', ns'))
    | 8 => (match st with
      | .inl (.ref q) :: r => (match slen q with
        | some x => Nat.ble (zsum r) 8 && K (pc + 3, L, .inl (.int x) :: r, h, nc, ns)
        | none => false)
      | _ => false)
    | 11 => (match st with
      | .inl (.int i) :: .inl (.ref q) :: r => (match zsch q i with
        | some x => Nat.ble (zsum r) 8 && K (pc + 3, L, .inl (.int x) :: r, h, nc, ns)
        | none => false)
      | _ => false)
    | _ => false)
  | .invokespecial _ => (match b with
    | 6 => (match st with
      | .inl (.ref _) :: r => Nat.ble (zsum r) 8 && K (pc + 3, L, r, h, nc, ns)
      | _ => false)
    | _ => zcalv prog cc a st h nc ns rc rs (fun st' h' nc' ns' => K (pc + 3, L, st', h', nc', ns')))
  | .invokestatic _ => (match b with
    | 7 => (match st with
      | .inl (.int n) :: .inl (.int dp) :: .inl (.ref q1) :: .inl (.int sp) :: .inl (.ref q0) :: [] => if n < 0 then false else if dp < 0 then false else if sp < 0 then false else zrow h q0 10 (fun f => zrow h q1 10 (fun g => Nat.ble (sp.toNatClampNeg + n.toNatClampNeg) f.length && (Nat.ble (dp.toNatClampNeg + n.toNatClampNeg) g.length && K (pc + 3, L, [], h.set q1 (10, zcpy f g sp.toNatClampNeg dp.toNatClampNeg n.toNatClampNeg), nc, ns))))
      | _ => false)
    | 9 => (match st with
      | .inl (.int y) :: .inl (.int x) :: r => Nat.ble (zsum r) 8 && K (pc + 3, L, .inl (.int (if y < x then y else x)) :: r, h, nc, ns)
      | _ => false)
    | 10 => (match st with
      | .inl (.int y) :: .inl (.int x) :: r => Nat.ble (zsum r) 8 && K (pc + 3, L, .inl (.int (if x < y then y else x)) :: r, h, nc, ns)
      | _ => false)
    | 12 => (match st with
      | .inl (.int n) :: .inl (.int dp) :: .inl (.ref q1) :: .inl (.int sp) :: .inl (.ref q0) :: [] => if n < 0 then false else if dp < 0 then false else if sp < 0 then false else zrow h q0 11 (fun f => zrow h q1 11 (fun g => Nat.ble (sp.toNatClampNeg + n.toNatClampNeg) f.length && (Nat.ble (dp.toNatClampNeg + n.toNatClampNeg) g.length && K (pc + 3, L, [], h.set q1 (11, zcpy f g sp.toNatClampNeg dp.toNatClampNeg n.toNatClampNeg), nc, ns))))
      | _ => false)
    | _ => zcall prog cc a st h nc ns rc rs (fun st' h' nc' ns' => K (pc + 3, L, st', h', nc', ns')))
  | _ => false
def zret (ret : Option FieldType) (ins : Instr) (st : List zV) (h : zH) (post : Option zV → zH → Bool) : Bool := match ins, st with
  | .ireturn, [v] => (match ret with
    | some .int => zisI v && post (some v) h
    | some .boolean => zfit 3 v && post (some v) h
    | _ => false)
  | .lreturn, [v] => decide (ret = some .long) && (zisL v && post (some v) h)
  | .areturn, [v] => (match ret with
    | some (.object _) => zisR v && post (some v) h
    | _ => false)
  | .return_, [] => decide (ret = none) && post none h
  | _, _ => false
def zisRet : Instr → Bool
  | .ireturn => true
  | .lreturn => true
  | .areturn => true
  | .return_ => true
  | _ => false
noncomputable def zrun (zN : Nat → Nat) (zdf : Nat → List zV) (slen : Nat → Option Int32) (prog : Nat → Option zE) (E : zE) (scr : List zV) (rc rs : Nat) (cc : zK) (fin : Nat → zS → Bool) (post : Option zV → zH → Bool) (n : Nat) : zS → Bool :=
  Nat.rec (fun _ => false) (fun _ ih x => if fin x.1 x then true else match zft (zEd E) x.1 with
    | some i => if zisRet i.1 then zret E.2.2.2.1 i.1 x.2.2.1 x.2.2.2.1 post else zstep zN zdf slen prog (zEm E) rc rs scr cc ih i.1 i.2.1 i.2.2.1 i.2.2.2.1 i.2.2.2.2.1 x.1 x.2.1 x.2.2.1 x.2.2.2.1 x.2.2.2.2.1 x.2.2.2.2.2
    | none => false) n
def zarg : Nat → List zV → zL
  | _, [] => []
  | i, v :: vs => (i, v) :: zarg (if zcat v = 2 then i + 2 else i + 1) vs
noncomputable def zdeep (zN : Nat → Nat) (zdf : Nat → List zV) (slen : Nat → Option Int32) (prog : Nat → Option zE) (scr : List zV) (d : Nat) : zK :=
  Nat.rec (fun _ _ _ _ => false) (fun _ ih j vs h post => match prog j with
    | some E => Nat.ble (zsum vs) (zEm E) && zrun zN zdf slen prog E scr (zEc E) (zEs E) ih (fun _ _ => false) post 20000 (0, zarg 0 vs, [], h, 0, 0)
    | none => false) d
end
section
def zg (ρ : Nat → Option Nat) : zV → Value → Prop
  | .inl (.int x), v => v = .int x
  | .inl (.long x), v => v = .long x
  | .inl .null, v => v = .null
  | .inl (.ref k), v => ∃ a : Nat, ρ k = some a ∧ v = .ref a
  | .inl (.float _), _ => False
  | .inl (.double _), _ => False
  | .inl (.retAddr _), _ => False
  | .inr (false, lo, hi), v => ∃ x : Int32, v = .int x ∧ lo ≤ x.toInt ∧ x.toInt ≤ hi
  | .inr (true, lo, hi), v => ∃ x : Int64, v = .long x ∧ lo ≤ x.toInt ∧ x.toInt ≤ hi
theorem zg_I {ρ : Nat → Option Nat} {v : zV} {w : Value} (h : zg ρ v w) (hi : zisI v = true) : ∃ x : Int32, w = .int x ∧ zlo v ≤ x.toInt ∧ x.toInt ≤ zhi v := by
  rcases v with (x | x | x | x | _ | x | x) | ⟨_ | _, lo, hi2⟩ <;> simp only [zisI, Bool.false_eq_true] at hi
  · exact ⟨x, h, Int.le_refl _, Int.le_refl _⟩
  · exact h
theorem zg_L {ρ : Nat → Option Nat} {v : zV} {w : Value} (h : zg ρ v w) (hi : zisL v = true) : ∃ x : Int64, w = .long x ∧ zlo v ≤ x.toInt ∧ x.toInt ≤ zhi v := by
  rcases v with (x | x | x | x | _ | x | x) | ⟨_ | _, lo, hi2⟩ <;> simp only [zisL, Bool.false_eq_true] at hi
  · exact ⟨x, h, Int.le_refl _, Int.le_refl _⟩
  · exact h
theorem zg_R {ρ : Nat → Option Nat} {v : zV} {w : Value} (h : zg ρ v w) (hi : zisR v = true) : (v = .inl .null ∧ w = .null) ∨ ∃ k a : Nat, v = .inl (.ref k) ∧ ρ k = some a ∧ w = .ref a := by
  rcases v with (x | x | x | x | _ | x | x) | ⟨_ | _, lo, hi2⟩ <;> simp only [zisR, Bool.false_eq_true] at hi
  · exact Or.inl ⟨rfl, h⟩
  · obtain ⟨a, h1, h2⟩ := h
    exact Or.inr ⟨x, a, rfl, h1, h2⟩
theorem zg_cat {ρ : Nat → Option Nat} {v : zV} {w : Value} (h : zg ρ v w) : w.category = zcat v := by
  rcases v with (x | x | x | x | _ | x | x) | ⟨_ | _, lo, hi2⟩
  · rw [show w = .int x from h]; rfl
  · rw [show w = .long x from h]; rfl
  · exact h.elim
  · exact h.elim
  · rw [show w = .null from h]; rfl
  · obtain ⟨a, -, h2⟩ := h
    rw [h2]; rfl
  · exact h.elim
  · obtain ⟨x, h2, -⟩ := h
    rw [h2]; rfl
  · obtain ⟨x, h2, -⟩ := h
    rw [h2]; rfl
theorem zg_mono {ρ ρ' : Nat → Option Nat} (hm : ∀ k a : Nat, ρ k = some a → ρ' k = some a) {v : zV} {w : Value} (h : zg ρ v w) : zg ρ' v w := by
  rcases v with (x | x | x | x | _ | x | x) | ⟨_ | _, lo, hi2⟩ <;> first | exact h | (obtain ⟨a, h1, h2⟩ := h; exact ⟨a, hm _ _ h1, h2⟩)
theorem zg_I0 (ρ : Nat → Option Nat) (x : Int32) : zg ρ zI0 (.int x) := by
  refine ⟨x, rfl, ?_, ?_⟩
  · have := x.le_toInt
    simpa using this
  · have := x.toInt_lt
    have h2 : x.toInt < 2147483648 := by simpa using this
    omega
theorem zg_L0 (ρ : Nat → Option Nat) (x : Int64) : zg ρ zL0 (.long x) := by
  refine ⟨x, rfl, ?_, ?_⟩
  · have := x.le_toInt
    simpa using this
  · have := x.toInt_lt
    have h2 : x.toInt < 9223372036854775808 := by simpa using this
    omega
theorem zmk_g {ρ : Nat → Option Nat} {lo hi : Int} {x : Int32} (h1 : lo ≤ x.toInt) (h2 : x.toInt ≤ hi) : zg ρ (zmk lo hi) (.int x) := by
  unfold zmk
  split
  · next h =>
    have e : x.toInt = lo := by omega
    show Value.int x = Value.int (Int32.ofInt lo)
    rw [← e, Int32.ofInt_toInt]
  · exact ⟨x, rfl, h1, h2⟩
def zL2 (ρ : Nat → Option Nat) : List zV → List Value → Prop
  | [], [] => True
  | a :: l, v :: vs => zg ρ a v ∧ zL2 ρ l vs
  | _, _ => False
theorem zL2_len {ρ : Nat → Option Nat} : ∀ {l : List zV} {vs : List Value}, zL2 ρ l vs → l.length = vs.length
  | [], [], _ => rfl
  | _ :: _, _ :: _, h => by simp only [List.length_cons]; rw [zL2_len h.2]
  | [], _ :: _, h => h.elim
  | _ :: _, [], h => h.elim
theorem zL2_mono {ρ ρ' : Nat → Option Nat} (hm : ∀ k a : Nat, ρ k = some a → ρ' k = some a) : ∀ {l : List zV} {vs : List Value}, zL2 ρ l vs → zL2 ρ' l vs
  | [], [], _ => trivial
  | _ :: _, _ :: _, h => ⟨zg_mono hm h.1, zL2_mono hm h.2⟩
  | [], _ :: _, h => h.elim
  | _ :: _, [], h => h.elim
theorem zL2_cons {ρ : Nat → Option Nat} {a : zV} {l : List zV} {vs : List Value} (h : zL2 ρ (a :: l) vs) : ∃ v vs', vs = v :: vs' ∧ zg ρ a v ∧ zL2 ρ l vs' := by
  cases vs with
  | nil => exact h.elim
  | cons v vs' => exact ⟨v, vs', rfl, h.1, h.2⟩
theorem zL2_nil {ρ : Nat → Option Nat} {vs : List Value} (h : zL2 ρ [] vs) : vs = [] := by
  cases vs with
  | nil => rfl
  | cons v vs' => exact h.elim
theorem zL2_take {ρ : Nat → Option Nat} : ∀ (n : Nat) {l : List zV} {vs : List Value}, zL2 ρ l vs → zL2 ρ (l.take n) (vs.take n)
  | 0, _, _, _ => by simp only [List.take_zero]; trivial
  | n + 1, [], [], _ => trivial
  | n + 1, _ :: _, _ :: _, h => ⟨h.1, zL2_take n h.2⟩
  | n + 1, [], _ :: _, h => h.elim
  | n + 1, _ :: _, [], h => h.elim
theorem zL2_drop {ρ : Nat → Option Nat} : ∀ (n : Nat) {l : List zV} {vs : List Value}, zL2 ρ l vs → zL2 ρ (l.drop n) (vs.drop n)
  | 0, _, _, h => h
  | n + 1, [], [], _ => trivial
  | n + 1, _ :: _, _ :: _, h => zL2_drop n h.2
  | n + 1, [], _ :: _, h => h.elim
  | n + 1, _ :: _, [], h => h.elim
theorem zL2_app {ρ : Nat → Option Nat} : ∀ {l l2 : List zV} {vs vs2 : List Value}, zL2 ρ l vs → zL2 ρ l2 vs2 → zL2 ρ (l ++ l2) (vs ++ vs2)
  | [], _, [], _, _, h2 => h2
  | _ :: _, _, _ :: _, _, h, h2 => ⟨h.1, zL2_app h.2 h2⟩
  | [], _, _ :: _, _, h, _ => h.elim
  | _ :: _, _, [], _, h, _ => h.elim
theorem zL2_rev {ρ : Nat → Option Nat} : ∀ {l : List zV} {vs : List Value}, zL2 ρ l vs → zL2 ρ l.reverse vs.reverse
  | [], [], _ => trivial
  | a :: l, v :: vs, h => by
    rw [List.reverse_cons, List.reverse_cons]
    exact zL2_app (zL2_rev h.2) ⟨h.1, trivial⟩
  | [], _ :: _, h => h.elim
  | _ :: _, [], h => h.elim
theorem zL2_get {ρ : Nat → Option Nat} : ∀ (n : Nat) {l : List zV} {vs : List Value} {a : zV}, zL2 ρ l vs → l[n]? = some a → ∃ v, vs[n]? = some v ∧ zg ρ a v
  | _, [], _, _, _, h => by simp at h
  | 0, _ :: _, _ :: _, _, h, h2 => by
    simp only [List.getElem?_cons_zero, Option.some.injEq] at h2
    subst h2
    exact ⟨_, rfl, h.1⟩
  | n + 1, _ :: _, _ :: _, _, h, h2 => by
    simp only [List.getElem?_cons_succ] at h2 ⊢
    exact zL2_get n h.2 h2
  | _, _ :: _, [], _, h, _ => h.elim
theorem zL2_set {ρ : Nat → Option Nat} {a : zV} {v : Value} (hg : zg ρ a v) : ∀ (n : Nat) {l : List zV} {vs : List Value}, zL2 ρ l vs → zL2 ρ (l.set n a) (vs.set n v)
  | _, [], [], _ => trivial
  | 0, _ :: _, _ :: _, h => ⟨hg, h.2⟩
  | n + 1, _ :: _, _ :: _, h => ⟨h.1, zL2_set hg n h.2⟩
  | _, [], _ :: _, h => h.elim
  | _, _ :: _, [], h => h.elim
theorem zL2_sum {ρ : Nat → Option Nat} : ∀ {l : List zV} {vs : List Value}, zL2 ρ l vs → (vs.map fun v => v.category).sum = zsum l
  | [], [], _ => rfl
  | _ :: _, _ :: _, h => by
    simp only [List.map_cons, List.sum_cons, zsum]
    rw [zg_cat h.1, zL2_sum h.2]
  | [], _ :: _, h => h.elim
  | _ :: _, [], h => h.elim
def zLo (ρ : Nat → Option Nat) (L : zL) (ls : Array Slot) : Prop := ∀ q ∈ L, ∃ v : Value, ls[q.1]? = some (.val v) ∧ zg ρ q.2 v
theorem zLo_mono {ρ ρ' : Nat → Option Nat} (hm : ∀ k a : Nat, ρ k = some a → ρ' k = some a) {L : zL} {ls : Array Slot} (h : zLo ρ L ls) : zLo ρ' L ls := fun q hq => by
  obtain ⟨v, h1, h2⟩ := h q hq
  exact ⟨v, h1, zg_mono hm h2⟩
theorem zLo_get {ρ : Nat → Option Nat} {L : zL} {ls : Array Slot} (h : zLo ρ L ls) {i : Nat} {a : zV} (hg : zget L i = some a) : ∃ v : Value, ls[i]? = some (.val v) ∧ zg ρ a v := by
  unfold zget at hg
  split at hg
  · next q hq =>
    cases hg
    have h1 := List.mem_of_find?_eq_some hq
    have h0 := List.find?_some hq
    have h2 : q.1 = i := Nat.eq_of_beq_eq_true h0
    obtain ⟨v, h3, h4⟩ := h q h1
    exact ⟨v, by rw [← h2]; exact h3, h4⟩
  · cases hg
theorem z_beq (a b : Nat) : Nat.beq a b = (a == b) := by
  rw [Bool.eq_iff_iff]
  simp [Nat.beq_eq]
def zslv : Option Slot → Value
  | some (Slot.val v) => v
  | _ => .null
def zconc (L : zL) (ls : Array Slot) : List (Nat × Value) := L.map (fun q => (q.1, zslv ls[q.1]?))
theorem zconc_has {ρ : Nat → Option Nat} {L : zL} {ls : Array Slot} {nL : Nat} (hl : lv_has ls nL []) (h : zLo ρ L ls) : lv_has ls nL (zconc L ls) := by
  refine ⟨hl.1, hl.2.1, fun q hq => ?_⟩
  obtain ⟨r, hr, rfl⟩ := List.mem_map.mp hq
  obtain ⟨v, h1, -⟩ := h r hr
  show ls[r.1]? = some (.val (zslv ls[r.1]?))
  rw [h1]
  rfl
theorem zconc_mem {ρ : Nat → Option Nat} {L : zL} {ls : Array Slot} (h : zLo ρ L ls) {q : Nat × zV} (hq : q ∈ L) : ∃ v : Value, (q.1, v) ∈ zconc L ls ∧ zg ρ q.2 v := by
  obtain ⟨v, h1, h2⟩ := h q hq
  refine ⟨v, List.mem_map.mpr ⟨q, hq, ?_⟩, h2⟩
  rw [h1]
  rfl
theorem zLo_st1 {ρ : Nat → Option Nat} {L : zL} {ls ls' : Array Slot} {nL i : Nat} {a : zV} {v : Value} (h : zLo ρ L ls) (hg : zg ρ a v)
    (hl : lv_has ls' nL ((i, v) :: (zconc L ls).filter (fun q => !(q.1 == i) && !(q.1 + 1 == i && q.2.category == 2)))) : zLo ρ (zst1 L i a) ls' := by
  intro q hq
  rcases List.mem_cons.mp hq with rfl | hq
  · exact ⟨v, hl.2.2 (i, v) List.mem_cons_self, hg⟩
  · obtain ⟨h1, h2⟩ := List.mem_filter.mp hq
    obtain ⟨w, h3, h4⟩ := zconc_mem h h1
    refine ⟨w, hl.2.2 (q.1, w) (List.mem_cons_of_mem _ (List.mem_filter.mpr ⟨h3, ?_⟩)), h4⟩
    have hc := zg_cat h4
    rw [hc]
    simp only [z_beq] at h2
    exact h2
theorem zLo_st2 {ρ : Nat → Option Nat} {L : zL} {ls ls' : Array Slot} {nL i : Nat} {a : zV} {v : Value} (h : zLo ρ L ls) (hg : zg ρ a v)
    (hl : lv_has ls' nL ((i, v) :: (zconc L ls).filter (fun q => !(q.1 == i) && (!(q.1 == i + 1) && !(q.1 + 1 == i && q.2.category == 2))))) : zLo ρ (zst2 L i a) ls' := by
  intro q hq
  rcases List.mem_cons.mp hq with rfl | hq
  · exact ⟨v, hl.2.2 (i, v) List.mem_cons_self, hg⟩
  · obtain ⟨h1, h2⟩ := List.mem_filter.mp hq
    obtain ⟨w, h3, h4⟩ := zconc_mem h h1
    refine ⟨w, hl.2.2 (q.1, w) (List.mem_cons_of_mem _ (List.mem_filter.mpr ⟨h3, ?_⟩)), h4⟩
    have hc := zg_cat h4
    rw [hc]
    simp only [z_beq] at h2
    exact h2
theorem zLo_arg {ρ : Nat → Option Nat} {ls : Array Slot} {nL : Nat} : ∀ (i : Nat) {l : List zV} {vs : List Value}, zL2 ρ l vs → (∀ q ∈ lv_args i vs, ls[q.1]? = some (.val q.2)) → zLo ρ (zarg i l) ls
  | _, [], [], _, _ => fun q hq => by cases hq
  | i, a :: l, v :: vs, h, hl => by
    intro q hq
    rcases List.mem_cons.mp hq with rfl | hq
    · exact ⟨v, hl (i, v) List.mem_cons_self, h.1⟩
    · refine zLo_arg (nL := nL) (if zcat a = 2 then i + 2 else i + 1) h.2 (fun r hr => hl r (List.mem_cons_of_mem _ ?_)) q hq
      rw [← zg_cat h.1] at hr
      exact hr
  | _, [], _ :: _, h, _ => h.elim
  | _, _ :: _, [], h, _ => h.elim
def zrho (ws : va_W) (ext : Nat → Option Nat) (k : Nat) : Option Nat := if k < 1000000 then (ws[k]?).map (fun q => q.1) else ext k
theorem zrho_set {ws : va_W} {ext : Nat → Option Nat} {p a : Nat} {e0 e : va_E} (h : ws[p]? = some (a, e0)) : zrho (ws.set p (a, e)) ext = zrho ws ext := by
  funext k
  unfold zrho
  split
  · by_cases hk : k = p
    · subst hk
      rw [List.getElem?_set_self (List.getElem?_eq_some_iff.mp h).1, h]
      rfl
    · rw [List.getElem?_set_ne (Ne.symm hk)]
  · rfl
theorem zrho_app {ws w2 : va_W} {ext : Nat → Option Nat} {k a : Nat} (h : zrho ws ext k = some a) : zrho (ws ++ w2) ext k = some a := by
  unfold zrho at h ⊢
  split
  · next hk =>
    rw [if_pos hk] at h
    obtain ⟨q, h1, h2⟩ := Option.map_eq_some_iff.mp h
    rw [List.getElem?_append_left (List.getElem?_eq_some_iff.mp h1).1, h1]
    exact congrArg some h2
  · next hk =>
    rw [if_neg hk] at h
    exact h
theorem zrho_at {ws : va_W} {ext : Nat → Option Nat} {k a : Nat} {e : va_E} (hk : k < 1000000) (h : ws[k]? = some (a, e)) : zrho ws ext k = some a := by
  unfold zrho
  rw [if_pos hk, h]
  rfl
def zPre (ws0 ws : va_W) : Prop := ∀ (k : Nat) (q : Nat × va_E), ws0[k]? = some q → ∃ e : va_E, ws[k]? = some (q.1, e)
theorem zPre_rf (ws : va_W) : zPre ws ws := fun _ q h => ⟨q.2, h⟩
theorem zPre_tr {a b c : va_W} (h1 : zPre a b) (h2 : zPre b c) : zPre a c := fun k q h => by
  obtain ⟨e, h3⟩ := h1 k q h
  obtain ⟨e2, h4⟩ := h2 k _ h3
  exact ⟨e2, h4⟩
theorem zPre_app (ws w2 : va_W) : zPre ws (ws ++ w2) := fun k q h => ⟨q.2, by rw [List.getElem?_append_left (List.getElem?_eq_some_iff.mp h).1]; exact h⟩
theorem zPre_set {ws : va_W} {p a : Nat} {e0 e : va_E} (h : ws[p]? = some (a, e0)) : zPre ws (ws.set p (a, e)) := fun k q hk => by
  by_cases hkp : k = p
  · subst hkp
    rw [h] at hk
    cases hk
    exact ⟨e, by rw [List.getElem?_set_self (List.getElem?_eq_some_iff.mp h).1]⟩
  · exact ⟨q.2, by rw [List.getElem?_set_ne (Ne.symm hkp)]; exact hk⟩
theorem zPre_rho {ws ws' : va_W} {ext : Nat → Option Nat} (h : zPre ws ws') : ∀ k a : Nat, zrho ws ext k = some a → zrho ws' ext k = some a := by
  intro k a hk
  unfold zrho at hk ⊢
  split
  · next hlt =>
    rw [if_pos hlt] at hk
    obtain ⟨q, h1, h2⟩ := Option.map_eq_some_iff.mp hk
    obtain ⟨e, h3⟩ := h k q h1
    rw [h3]
    exact congrArg some h2
  · next hlt =>
    rw [if_neg hlt] at hk
    exact hk
def zval (a : (Nat → Int32) ⊕ (Nat → Int64) ⊕ (Nat → UInt32) ⊕ (Nat → UInt64) ⊕ (Nat → Option Nat)) (j : Nat) : Value := match a with
  | .inl f => .int (f j)
  | .inr (.inl f) => .long (f j)
  | .inr (.inr (.inl f)) => .float (f j)
  | .inr (.inr (.inr (.inl f))) => .double (f j)
  | .inr (.inr (.inr (.inr f))) => va_rf (f j)
def zkd (t : Nat) (a : (Nat → Int32) ⊕ (Nat → Int64) ⊕ (Nat → UInt32) ⊕ (Nat → UInt64) ⊕ (Nat → Option Nat)) : Prop := match t with
  | 0 => ∃ f, a = .inl f
  | 1 => ∃ f, a = .inr (.inl f)
  | 5 => ∃ f, a = .inl f
  | _ => ∃ f, a = .inr (.inr (.inr (.inr f)))
def zCell (ρ : Nat → Option Nat) (ct : Nat → ClassId) (c : zC) (e : va_E) : Prop := match e with
  | .inr o => c.1 = o.1 ∧ o.1 < 10 ∧ zL2 ρ c.2 o.2
  | .inl o => ∃ t : Nat, c.1 = 10 + t ∧ t < 6 ∧ o.1 = ct t ∧ c.2.length = o.2.1 ∧ zkd t o.2.2 ∧ ∀ (j : Nat) (a : zV), c.2[j]? = some a → zg ρ a (zval o.2.2 j)
theorem zCell_mono {ρ ρ' : Nat → Option Nat} (hm : ∀ k a : Nat, ρ k = some a → ρ' k = some a) {ct : Nat → ClassId} {c : zC} {e : va_E} (h : zCell ρ ct c e) : zCell ρ' ct c e := by
  cases e with
  | inr o => exact ⟨h.1, h.2.1, zL2_mono hm h.2.2⟩
  | inl o =>
    obtain ⟨t, h1, h2, h3, h4, h5, h6⟩ := h
    exact ⟨t, h1, h2, h3, h4, h5, fun j a hj => zg_mono hm (h6 j a hj)⟩
def zHp (ρ : Nat → Option Nat) (ct : Nat → ClassId) (h : zH) (ws : va_W) : Prop := h.length = ws.length ∧ ∀ (i : Nat) (c : zC) (q : Nat × va_E), h[i]? = some c → ws[i]? = some q → zCell ρ ct c q.2
theorem zHp_mono {ρ ρ' : Nat → Option Nat} (hm : ∀ k a : Nat, ρ k = some a → ρ' k = some a) {ct : Nat → ClassId} {h : zH} {ws : va_W} (hh : zHp ρ ct h ws) : zHp ρ' ct h ws := ⟨hh.1, fun i c q h1 h2 => zCell_mono hm (hh.2 i c q h1 h2)⟩
theorem zHp_get {ρ : Nat → Option Nat} {ct : Nat → ClassId} {h : zH} {ws : va_W} (hh : zHp ρ ct h ws) {i : Nat} {c : zC} (hi : h[i]? = some c) : ∃ (a : Nat) (e : va_E), ws[i]? = some (a, e) ∧ zCell ρ ct c e := by
  have h1 : i < h.length := (List.getElem?_eq_some_iff.mp hi).1
  have h2 : i < ws.length := by rw [← hh.1]; exact h1
  have h3 : ws[i]? = some ws[i] := List.getElem?_eq_getElem h2
  exact ⟨ws[i].1, ws[i].2, h3, hh.2 i c _ hi h3⟩
theorem zHp_set {ρ : Nat → Option Nat} {ct : Nat → ClassId} {h : zH} {ws : va_W} (hh : zHp ρ ct h ws) {i a : Nat} {c : zC} {e : va_E} (he : zCell ρ ct c e) : zHp ρ ct (h.set i c) (ws.set i (a, e)) := by
  refine ⟨by simp only [List.length_set]; exact hh.1, fun j c' q h1 h2 => ?_⟩
  by_cases hj : j = i
  · subst hj
    have l1 : j < h.length := by
      have := (List.getElem?_eq_some_iff.mp h1).1
      simpa using this
    have l2 : j < ws.length := by rw [← hh.1]; exact l1
    rw [List.getElem?_set_self l1] at h1
    rw [List.getElem?_set_self l2] at h2
    cases h1
    cases h2
    exact he
  · rw [List.getElem?_set_ne (Ne.symm hj)] at h1 h2
    exact hh.2 j c' q h1 h2
theorem zHp_app {ρ : Nat → Option Nat} {ct : Nat → ClassId} {h h2 : zH} {ws w2 : va_W} (hh : zHp ρ ct h ws) (hh2 : zHp ρ ct h2 w2) : zHp ρ ct (h ++ h2) (ws ++ w2) := by
  refine ⟨by simp only [List.length_append]; rw [hh.1, hh2.1], fun j c q h3 h4 => ?_⟩
  by_cases hj : j < h.length
  · rw [List.getElem?_append_left hj] at h3
    rw [List.getElem?_append_left (by rw [← hh.1]; exact hj)] at h4
    exact hh.2 j c q h3 h4
  · rw [List.getElem?_append_right (by omega)] at h3
    rw [List.getElem?_append_right (by rw [← hh.1]; omega), ← hh.1] at h4
    exact hh2.2 _ c q h3 h4
theorem zHp_one {ρ : Nat → Option Nat} {ct : Nat → ClassId} {c : zC} {a : Nat} {e : va_E} (he : zCell ρ ct c e) : zHp ρ ct [c] [(a, e)] := by
  refine ⟨rfl, fun j c' q h1 h2 => ?_⟩
  have h0 : j < 1 := (List.getElem?_eq_some_iff.mp h1).1
  rw [show j = 0 by omega] at h1 h2
  cases h1
  cases h2
  exact he
end
section
def zNf : Nat → Nat
  | 0 => 3
  | 1 => 17
  | 2 => 6
  | 3 => 7
  | 4 => 8
  | _ => 41
def zTf : Nat → u_T
  | 0 => TX0
  | 1 => TX1
  | 2 => TX2
  | 3 => TX3
  | 4 => TX4
  | _ => TX5
def zRf : Nat → String
  | 0 => RX0
  | 1 => RX1
  | 2 => RX2
  | 3 => RX3
  | 4 => RX4
  | _ => RX5
def zTy : Nat → Nat → FieldType
  | 0 => tyX0
  | 1 => tyX1
  | 2 => tyX2
  | 3 => tyX3
  | 4 => tyX4
  | _ => tyX5
def zdfl (a : Nat) : List zV := (List.range (zNf a)).map (fun k => zdef (zTy a k))
theorem z_cl {a : Nat} (h : a < 6) : vwCl[a]? = some (zRf a, zTf a, zNf a) := by
  match a, h with
  | 0, _ => rfl
  | 1, _ => rfl
  | 2, _ => rfl
  | 3, _ => rfl
  | 4, _ => rfl
  | 5, _ => rfl
theorem z_nm {a : Nat} (h : a < 6) : ∀ i, i < zNf a → ∀ j, j < zNf a → i ≠ j → (zTf a i).2.1 ≠ (zTf a j).2.1 := by
  match a, h with
  | 0, _ => exact nmX0
  | 1, _ => exact nmX1
  | 2, _ => exact nmX2
  | 3, _ => exact nmX3
  | 4, _ => exact nmX4
  | 5, _ => exact nmX5
theorem z_ty {a : Nat} (h : a < 6) : ∀ k, k < zNf a → parseFieldDescriptor (zTf a k).2.2.1 = some (zTy a k) := by
  match a, h with
  | 0, _ => exact tyX0_ok
  | 1, _ => exact tyX1_ok
  | 2, _ => exact tyX2_ok
  | 3, _ => exact tyX3_ok
  | 4, _ => exact tyX4_ok
  | 5, _ => exact tyX5_ok
def zuws : List Cond := u_ws RX0 TX0 3 ++ (u_ws RX1 TX1 17 ++ (u_ws RX2 TX2 6 ++ (u_ws RX3 TX3 7 ++ (u_ws RX4 TX4 8 ++ u_ws RX5 TX5 41))))
theorem z_uws {a : Nat} (h : a < 6) : ∀ w ∈ u_ws (zRf a) (zTf a) (zNf a), w ∈ zuws := by
  intro w hw
  unfold zuws
  match a, h with
  | 0, _ => exact List.mem_append_left _ hw
  | 1, _ => exact List.mem_append_right _ (List.mem_append_left _ hw)
  | 2, _ => exact List.mem_append_right _ (List.mem_append_right _ (List.mem_append_left _ hw))
  | 3, _ => exact List.mem_append_right _ (List.mem_append_right _ (List.mem_append_right _ (List.mem_append_left _ hw)))
  | 4, _ => exact List.mem_append_right _ (List.mem_append_right _ (List.mem_append_right _ (List.mem_append_right _ (List.mem_append_left _ hw))))
  | 5, _ => exact List.mem_append_right _ (List.mem_append_right _ (List.mem_append_right _ (List.mem_append_right _ (List.mem_append_right _ hw))))
def ztyA : Nat → FieldType
  | 0 => .int
  | 1 => .long
  | 2 => .object RX0
  | 3 => .array .long
  | 4 => .array .int
  | _ => .boolean
def ztys (ct : Nat → ClassId) : List (ClassId × FieldType) := [(ct 0, .int), (ct 1, .long), (ct 2, .object RX0), (ct 3, .array .long), (ct 4, .array .int), (ct 5, .boolean)]
theorem z_tys (ct : Nat → ClassId) {t : Nat} (h : t < 6) : (ztys ct)[t]? = some (ct t, ztyA t) := by
  match t, h with
  | 0, _ => rfl
  | 1, _ => rfl
  | 2, _ => rfl
  | 3, _ => rfl
  | 4, _ => rfl
  | 5, _ => rfl
def zlen : Instr → Nat
  | .bipush _ => 2
  | .sipush _ => 3
  | .iload _ => 2
  | .lload _ => 2
  | .aload _ => 2
  | .istore _ => 2
  | .lstore _ => 2
  | .astore _ => 2
  | .iinc _ _ => 3
  | .ifCond _ _ => 3
  | .if_icmp _ _ => 3
  | .goto _ => 3
  | .ifnull _ => 3
  | .ifnonnull _ => 3
  | .getfield _ => 3
  | .getstatic _ => 3
  | .putfield _ => 3
  | .new _ => 3
  | .newarray _ => 2
  | .anewarray _ => 3
  | .multianewarray _ _ => 4
  | .ldc _ => 2
  | .ldc_w _ => 3
  | .ldc2_w _ => 3
  | .invokevirtual _ => 3
  | .invokespecial _ => 3
  | .invokestatic _ => 3
  | _ => 1
def zdec (bs : ByteArray) (pc : Nat) (ins : Instr) : Bool := match ins with
  | .tableswitch _ _ _ _ => (match decode bs pc with
    | .ok q => decide (q.1 = ins)
    | .error _ => false)
  | _ => decide (decode bs pc = .ok (ins, zlen ins))
abbrev zySL : MethodName := ⟨"java/lang/String", "length", "()I"⟩
abbrev zySC : MethodName := ⟨"java/lang/String", "charAt", "(I)C"⟩
abbrev zyOI : MethodName := objectInit
def zarrT : Nat → FieldType
  | 1 => .long
  | _ => .int
def zwords (prog : Nat → Option zE) (own : String) (ins : Instr) (cv : zV) (a b : Nat) : List Cond := match ins with
  | .getfield ix => [.fieldLink own ix (zRf a) (zTf a b).2.1 (zTf a b).2.2.1]
  | .putfield ix => [.fieldLink own ix (zRf a) (zTf a b).2.1 (zTf a b).2.2.1]
  | .new ix => [.classLink own ix (zRf a), .instantiable (zRf a) (zNf a), .initialized (zRf a)]
  | .ldc ix => (match cv with
    | .inl (.int x) => [.constant own ix x]
    | _ => [])
  | .ldc_w ix => (match cv with
    | .inl (.int x) => [.constant own ix x]
    | _ => [])
  | .ldc2_w ix => (match cv with
    | .inl (.long x) => [.constantLong own ix x]
    | _ => [])
  | .getstatic ix => [.fieldLink own ix "EndsInFive" "UNDER" "[I"]
  | .newarray t => [.arrayClass (newarray.typeOf t)]
  | .anewarray ix => [.classLink own ix RX0]
  | .multianewarray ix _ => [.classLink own ix ("[" ++ (FieldType.array (zarrT a)).toString), .arrayClass (zarrT a)]
  | .invokevirtual ix => (match b with
    | 8 => [.methodLink own ix zySL]
    | 11 => [.methodLink own ix zySC]
    | _ => (match prog a with
      | some E => [.methodLink own ix E.1]
      | none => []))
  | .invokespecial ix => (match b with
    | 6 => [.methodLink own ix zyOI]
    | 1 => []
    | _ => (match prog a with
      | some E => [.methodLink own ix E.1]
      | none => []))
  | .invokestatic ix => (match b with
    | 7 => [.methodLink own ix arraycopyName]
    | 9 => [.methodLink own ix Lib.Math.min.name]
    | 10 => [.methodLink own ix Lib.Math.max.name]
    | 12 => [.methodLink own ix arraycopyName]
    | 1 => []
    | _ => (match prog a with
      | some E => [.methodLink own ix E.1]
      | none => []))
  | _ => []
def zhost : String := "EndsInFive"
def zwordsN (prog : Nat → Option zE) (own : String) (ins : Instr) (a b : Nat) : List Cond := match ins, b with
  | .invokespecial ix, 1 => (match prog a with
    | some E => [.methodLinkNest own ix E.1 zhost]
    | none => [])
  | .invokestatic ix, 1 => (match prog a with
    | some E => [.methodLinkNest own ix E.1 zhost]
    | none => [])
  | _, _ => []
def zmwords (E : zE) : List Cond := if zEk E = 99 then [.code E.1 E.2.1 E.2.2.1 E.2.2.2.1, .static E.1, .initialized E.1.cls] else if E.1.name = "<init>" then [.code E.1 E.2.1 E.2.2.1 E.2.2.2.1, .instanceMethod E.1, .initialized E.1.cls] else [.code E.1 E.2.1 E.2.2.1 E.2.2.2.1, .instanceMethod E.1, .selects E.1.cls E.1 E.1, .initialized E.1.cls]
def zkt : Nat → FieldType → Bool
  | 0, .int => true
  | 1, .long => true
  | 2, .object _ => true
  | 2, .array _ => true
  | 3, .boolean => true
  | _, _ => false
def zside (prog : Nat → Option zE) (y : MethodName) (zst : List (String × Nat × String × Nat)) (ins : Instr) (cv : zV) (a b c : Nat) : Bool := match ins with
  | .getfield _ => Nat.blt a 6 && (Nat.blt b (zNf a) && decide ((zTf a b).1 = zRf a))
  | .putfield _ => Nat.blt a 6 && (Nat.blt b (zNf a) && (decide ((zTf a b).1 = zRf a) && (zkt c (zTy a b) && (!(zTf a b).2.2.2 || (decide (y.name = "<init>") && decide (zRf a = y.cls))))))
  | .new _ => Nat.blt a 6
  | .ldc ix => (match cv with
    | .inl (.int _) => true
    | .inl (.ref k) => Nat.ble 1000000 k && zst.any (fun q => decide (q.1 = y.cls) && (Nat.beq q.2.1 ix && Nat.beq q.2.2.2 (k - 1000000)))
    | _ => false)
  | .ldc_w _ => (match cv with
    | .inl (.int _) => true
    | _ => false)
  | .ldc2_w _ => (match cv with
    | .inl (.long _) => true
    | _ => false)
  | .multianewarray _ d => Nat.beq d 2 && Nat.ble a 1
  | .invokevirtual _ => Nat.beq b 8 || Nat.beq b 11 || (Nat.beq b 0 && (match prog a with
    | some E => Nat.blt (zEk E) 6 && (decide (E.1.name ≠ "<init>"))
    | none => false))
  | .invokespecial _ => Nat.beq b 6 || (Nat.ble b 1 && (match prog a with
    | some E => Nat.blt (zEk E) 6 && (decide (E.1.name = "<init>"))
    | none => false))
  | .invokestatic _ => Nat.beq b 7 || Nat.beq b 9 || Nat.beq b 10 || Nat.beq b 12 || (Nat.ble b 1 && (match prog a with
    | some E => Nat.beq (zEk E) 99
    | none => false))
  | _ => true
def zmside (E : zE) : Bool := plainName E.1.cls && (decide ((parseMethodDescriptor E.1.desc).map (fun d => d.parameters.length) = some (zEp E)) && (decide (E.1.cls ≠ "java/lang/invoke/MethodHandle") && (decide (E.1.cls ≠ "java/lang/invoke/VarHandle") && (Nat.ble (zEm E) 40 && (if zEk E = 99 then true else Nat.blt (zEk E) 6 && (decide (E.1.cls = zRf (zEk E)) && (if E.1.name = "<init>" then decide (E.2.2.2.1 = none) else true)))))))
def zOkC (prog : Nat → Option zE) (zst : List (String × Nat × String × Nat)) (TG TN : List Cond) (E : zE) : Prop := ∀ (pc : Nat) (i : zI), zft (zEd E) pc = some i → zdec E.2.1 pc i.1 = true ∧ zside prog E.1 zst i.1 i.2.1 i.2.2.1 i.2.2.2.1 i.2.2.2.2.1 = true ∧ (∀ w ∈ zwords prog E.1.cls i.1 i.2.1 i.2.2.1 i.2.2.2.1, w ∈ TG) ∧ (∀ w ∈ zwordsN prog E.1.cls i.1 i.2.2.1 i.2.2.2.1, w ∈ TN)
def zOkP (prog : Nat → Option zE) (zst : List (String × Nat × String × Nat)) (TG TN : List Cond) : Prop := ∀ (j : Nat) (E : zE), prog j = some E → zOkC prog zst TG TN E ∧ zmside E = true ∧ ∀ w ∈ zmwords E, w ∈ TG
end
section
theorem z_blt {a b : Nat} (h : Nat.blt a b = true) : a < b := by simpa [Nat.blt_eq] using h
theorem z_ble {a b : Nat} (h : Nat.ble a b = true) : a ≤ b := Nat.le_of_ble_eq_true h
theorem z_and {a b : Bool} (h : (a && b) = true) : a = true ∧ b = true := by simpa using h
theorem zg_int (ρ : Nat → Option Nat) (x : Int32) : zg ρ (.inl (.int x)) (.int x) := rfl
theorem zg_long (ρ : Nat → Option Nat) (x : Int64) : zg ρ (.inl (.long x)) (.long x) := rfl
theorem zg_null (ρ : Nat → Option Nat) : zg ρ (.inl .null) .null := rfl
theorem zld_sp {P : zV → Bool} {L : zL} {i : Nat} {k : zV → Bool} (h : zld P L i k = true) : ∃ v, zget L i = some v ∧ P v = true ∧ k v = true := by
  unfold zld at h
  split at h
  · next v hv => exact ⟨v, hv, (z_and h).1, (z_and h).2⟩
  · cases h
theorem zs1_sp {P : zV → Bool} {L : zL} {nL i : Nat} {st : List zV} {k : zL → List zV → Bool} (h : zs1 P L nL i st k = true) : ∃ v r, st = v :: r ∧ P v = true ∧ i < nL ∧ k (zst1 L i v) r = true := by
  unfold zs1 at h
  split at h
  · next v r => exact ⟨v, r, rfl, (z_and h).1, z_blt (z_and (z_and h).2).1, (z_and (z_and h).2).2⟩
  · cases h
theorem zs2_sp {L : zL} {nL i : Nat} {st : List zV} {k : zL → List zV → Bool} (h : zs2 L nL i st k = true) : ∃ v r, st = v :: r ∧ zisL v = true ∧ i + 1 < nL ∧ k (zst2 L i v) r = true := by
  unfold zs2 at h
  split at h
  · next v r => exact ⟨v, r, rfl, (z_and h).1, z_blt (z_and (z_and h).2).1, (z_and (z_and h).2).2⟩
  · cases h
theorem zL2_2 {ρ : Nat → Option Nat} {a b : zV} {r : List zV} {vs : List Value} (h : zL2 ρ (b :: a :: r) vs) : ∃ y x rc, vs = y :: x :: rc ∧ zg ρ b y ∧ zg ρ a x ∧ zL2 ρ r rc := by
  obtain ⟨y, vs', rfl, h1, h2⟩ := zL2_cons h
  obtain ⟨x, rc, rfl, h3, h4⟩ := zL2_cons h2
  exact ⟨y, x, rc, rfl, h1, h3, h4⟩
theorem zb2_sp {ρ : Nat → Option Nat} {f : Int32 → Int32 → Int32} {st : List zV} {stc : List Value} {k : List zV → Bool} (h : zb2 f st k = true) (hst : zL2 ρ st stc) : ∃ (x y : Int32) (rc : List Value) (v : zV) (r : List zV), stc = .int y :: .int x :: rc ∧ zg ρ v (.int (f x y)) ∧ zL2 ρ r rc ∧ k (v :: r) = true := by
  unfold zb2 at h
  split at h
  · obtain ⟨y, x, rc, rfl, h1, h2, h3⟩ := zL2_2 hst
    cases h1
    cases h2
    exact ⟨_, _, rc, _, _, rfl, zg_int ρ _, h3, h⟩
  · obtain ⟨y, x, rc, rfl, h1, h2, h3⟩ := zL2_2 hst
    obtain ⟨y', rfl, -⟩ := zg_I h1 (z_and (z_and h).2).1
    obtain ⟨x', rfl, -⟩ := zg_I h2 (z_and h).1
    exact ⟨_, _, rc, _, _, rfl, zg_I0 ρ _, h3, (z_and (z_and h).2).2⟩
  · cases h
theorem zml_sp {ρ : Nat → Option Nat} {st : List zV} {stc : List Value} {k : List zV → Bool} (h : zml st k = true) (hst : zL2 ρ st stc) : ∃ (x y : Int32) (rc : List Value) (v : zV) (r : List zV), stc = .int y :: .int x :: rc ∧ zg ρ v (.int (x * y)) ∧ zL2 ρ r rc ∧ k (v :: r) = true := by
  unfold zml at h
  split at h
  · obtain ⟨y, x, rc, rfl, h1, h2, h3⟩ := zL2_2 hst
    cases h1
    cases h2
    exact ⟨_, _, rc, _, _, rfl, zg_int ρ _, h3, h⟩
  · obtain ⟨y, x, rc, rfl, h1, h2, h3⟩ := zL2_2 hst
    obtain ⟨y', rfl, -⟩ := zg_I h1 (z_and h).1
    cases h2
    refine ⟨_, _, rc, _, _, rfl, ?_, h3, (z_and h).2⟩
    split
    · next a0 =>
      rw [a0, Int32.zero_mul]
      exact rfl
    · exact zg_I0 ρ _
  · obtain ⟨y, x, rc, rfl, h1, h2, h3⟩ := zL2_2 hst
    obtain ⟨y', rfl, -⟩ := zg_I h1 (z_and (z_and h).2).1
    obtain ⟨x', rfl, -⟩ := zg_I h2 (z_and h).1
    exact ⟨_, _, rc, _, _, rfl, zg_I0 ρ _, h3, (z_and (z_and h).2).2⟩
  · cases h
theorem zdv_sp {ρ : Nat → Option Nat} {f : Int32 → Int32 → Int32} {st : List zV} {stc : List Value} {k : List zV → Bool} (h : zdv f st k = true) (hst : zL2 ρ st stc) : ∃ (x y : Int32) (rc : List Value) (v : zV) (r : List zV), stc = .int y :: .int x :: rc ∧ ¬ y = 0 ∧ zg ρ v (.int (f x y)) ∧ zL2 ρ r rc ∧ k (v :: r) = true := by
  unfold zdv at h
  split at h
  · obtain ⟨y, x, rc, rfl, h1, h2, h3⟩ := zL2_2 hst
    cases h1
    cases h2
    refine ⟨_, _, rc, _, _, rfl, ?_, zg_int ρ _, h3, (z_and h).2⟩
    have := (z_and h).1
    simpa using this
  · cases h
theorem zdvl_sp {ρ : Nat → Option Nat} {f : Int64 → Int64 → Int64} {st : List zV} {stc : List Value} {k : List zV → Bool} (h : zdvl f st k = true) (hst : zL2 ρ st stc) : ∃ (x y : Int64) (rc : List Value) (v : zV) (r : List zV), stc = .long y :: .long x :: rc ∧ ¬ y = 0 ∧ zg ρ v (.long (f x y)) ∧ zL2 ρ r rc ∧ k (v :: r) = true := by
  unfold zdvl at h
  split at h
  · obtain ⟨y, x, rc, rfl, h1, h2, h3⟩ := zL2_2 hst
    cases h1
    cases h2
    refine ⟨_, _, rc, _, _, rfl, ?_, zg_long ρ _, h3, (z_and h).2⟩
    have := (z_and h).1
    simpa using this
  · cases h
theorem zb2l_sp {ρ : Nat → Option Nat} {f : Int64 → Int64 → Int64} {st : List zV} {stc : List Value} {k : List zV → Bool} (h : zb2l f st k = true) (hst : zL2 ρ st stc) : ∃ (x y : Int64) (rc : List Value) (v : zV) (r : List zV), stc = .long y :: .long x :: rc ∧ zg ρ v (.long (f x y)) ∧ zL2 ρ r rc ∧ k (v :: r) = true := by
  unfold zb2l at h
  split at h
  · obtain ⟨y, x, rc, rfl, h1, h2, h3⟩ := zL2_2 hst
    cases h1
    cases h2
    exact ⟨_, _, rc, _, _, rfl, zg_long ρ _, h3, h⟩
  · obtain ⟨y, x, rc, rfl, h1, h2, h3⟩ := zL2_2 hst
    obtain ⟨y', rfl, -⟩ := zg_L h1 (z_and (z_and h).2).1
    obtain ⟨x', rfl, -⟩ := zg_L h2 (z_and h).1
    exact ⟨_, _, rc, _, _, rfl, zg_L0 ρ _, h3, (z_and (z_and h).2).2⟩
  · cases h
theorem zshl_sp {ρ : Nat → Option Nat} {f : Int64 → Int32 → Int64} {st : List zV} {stc : List Value} {k : List zV → Bool} (h : zshl f st k = true) (hst : zL2 ρ st stc) : ∃ (x : Int64) (y : Int32) (rc : List Value) (v : zV) (r : List zV), stc = .int y :: .long x :: rc ∧ zg ρ v (.long (f x y)) ∧ zL2 ρ r rc ∧ k (v :: r) = true := by
  unfold zshl at h
  split at h
  · obtain ⟨y, x, rc, rfl, h1, h2, h3⟩ := zL2_2 hst
    cases h1
    cases h2
    exact ⟨_, _, rc, _, _, rfl, zg_long ρ _, h3, h⟩
  · obtain ⟨y, x, rc, rfl, h1, h2, h3⟩ := zL2_2 hst
    obtain ⟨y', rfl, -⟩ := zg_I h1 (z_and (z_and h).2).1
    obtain ⟨x', rfl, -⟩ := zg_L h2 (z_and h).1
    exact ⟨_, _, rc, _, _, rfl, zg_L0 ρ _, h3, (z_and (z_and h).2).2⟩
  · cases h
theorem zof_sp {pc : Nat} {off : Int} {k : Nat → Bool} (h : zof pc off k = true) : ∃ t : Nat, (pc : Int) + off = (t : Int) ∧ k t = true := by
  unfold zof at h
  split at h
  · next t ht => exact ⟨t, ht, h⟩
  · cases h
theorem zbr_t {o : Option Bool} {kt kf : Bool} (h : zbr o kt kf = true) (ho : o ≠ some false) : kt = true := by
  unfold zbr at h
  split at h
  · exact h
  · exact absurd rfl ho
  · exact (z_and h).1
theorem zbr_f {o : Option Bool} {kt kf : Bool} (h : zbr o kt kf = true) (ho : o ≠ some true) : kf = true := by
  unfold zbr at h
  split at h
  · exact absurd rfl ho
  · exact h
  · exact (z_and h).2
theorem znot_t {o : Option Bool} (h : o ≠ some true) : znot o ≠ some false := by
  intro q
  unfold znot at q
  split at q
  · next b => cases b <;> first | exact h rfl | cases q
  · cases q
theorem znot_f {o : Option Bool} (h : o ≠ some false) : znot o ≠ some true := by
  intro q
  unfold znot at q
  split at q
  · next b => cases b <;> first | exact h rfl | cases q
  · cases q
theorem zlt_t {a b : zV} {x y : Int} (h1 : zlo a ≤ x) (h3 : zlo b ≤ y ∧ y ≤ zhi b) (h : x < y) : zlt a b ≠ some false := by
  intro q
  unfold zlt at q
  split at q
  · cases q
  · split at q
    · omega
    · cases q
theorem zlt_f {a b : zV} {x y : Int} (h2 : x ≤ zhi a) (h3 : zlo b ≤ y) (h : ¬ x < y) : zlt a b ≠ some true := by
  intro q
  unfold zlt at q
  split at q
  · omega
  · split at q
    · cases q
    · cases q
theorem zeq_t {a b : zV} {x y : Int} (h1 : zlo a ≤ x ∧ x ≤ zhi a) (h3 : zlo b ≤ y ∧ y ≤ zhi b) (h : x = y) : zeq a b ≠ some false := by
  intro q
  unfold zeq at q
  split at q
  · omega
  · split at q
    · cases q
    · cases q
theorem zeq_f {a b : zV} {x y : Int} (h1 : zlo a ≤ x ∧ x ≤ zhi a) (h3 : zlo b ≤ y ∧ y ≤ zhi b) (h : ¬ x = y) : zeq a b ≠ some true := by
  intro q
  unfold zeq at q
  split at q
  · cases q
  · split at q
    · omega
    · cases q
def zop : ClassFile.Cond → Int32 → Int32 → Prop
  | .eq, x, y => x = y
  | .ne, x, y => ¬ x = y
  | .lt, x, y => x < y
  | .ge, x, y => y ≤ x
  | .gt, x, y => y < x
  | .le, x, y => x ≤ y
theorem zcond_t {a b : zV} {x y : Int32} {cd : ClassFile.Cond} (h1 : zlo a ≤ x.toInt ∧ x.toInt ≤ zhi a) (h3 : zlo b ≤ y.toInt ∧ y.toInt ≤ zhi b) (h : zop cd x y) : zcond cd a b ≠ some false := by
  cases cd with
  | eq => exact zeq_t h1 h3 (congrArg Int32.toInt h)
  | ne => exact znot_t (zeq_f h1 h3 (fun q => h (Int32.toInt_inj.mp q)))
  | lt => exact zlt_t h1.1 h3 (Int32.lt_iff_toInt_lt.mp h)
  | ge => exact znot_t (zlt_f h1.2 h3.1 (fun q => by have := Int32.le_iff_toInt_le.mp h; omega))
  | gt => exact zlt_t h3.1 h1 (Int32.lt_iff_toInt_lt.mp h)
  | le => exact znot_t (zlt_f h3.2 h1.1 (fun q => by have := Int32.le_iff_toInt_le.mp h; omega))
theorem zcond_f {a b : zV} {x y : Int32} {cd : ClassFile.Cond} (h1 : zlo a ≤ x.toInt ∧ x.toInt ≤ zhi a) (h3 : zlo b ≤ y.toInt ∧ y.toInt ≤ zhi b) (h : ¬ zop cd x y) : zcond cd a b ≠ some true := by
  cases cd with
  | eq => exact zeq_f h1 h3 (fun q => h (Int32.toInt_inj.mp q))
  | ne => exact znot_f (zeq_t h1 h3 (congrArg Int32.toInt (Classical.not_not.mp h)))
  | lt => exact zlt_f h1.2 h3.1 (fun q => h (Int32.lt_iff_toInt_lt.mpr q))
  | ge => exact znot_f (zlt_t h1.1 h3 (by have h4 : ¬ y.toInt ≤ x.toInt := fun q => h (Int32.le_iff_toInt_le.mpr q); omega))
  | gt => exact zlt_f h3.2 h1.1 (fun q => h (Int32.lt_iff_toInt_lt.mpr q))
  | le => exact znot_f (zlt_t h3.1 h1 (by have h4 : ¬ x.toInt ≤ y.toInt := fun q => h (Int32.le_iff_toInt_le.mpr q); omega))
theorem zrow_sp {h : zH} {q t : Nat} {k : List zV → Bool} (hh : zrow h q t k = true) : ∃ vs, h[q]? = some (t, vs) ∧ q < 1000000 ∧ k vs = true := by
  unfold zrow at hh
  split at hh
  · next c hc =>
    obtain ⟨c1, c2⟩ := c
    have h1 := Nat.eq_of_beq_eq_true (z_and (z_and hh).2).1
    exact ⟨c2, by rw [hc]; exact congrArg (fun z => some (z, c2)) h1, z_blt (z_and hh).1, (z_and (z_and hh).2).2⟩
  · cases hh
theorem z_nn {i : Int32} (h : ¬ i < 0) : i.toInt = (i.toNatClampNeg : Int) := by
  have hz0 : (0 : Int) ≤ i.toInt := by
    have := Int32.not_lt.mp h
    simpa using Int32.le_iff_toInt_le.mp this
  show i.toInt = ((i.toInt.toNat : Nat) : Int)
  omega
theorem zel_sp {vs : List zV} {i : Int32} {k : zV → Bool} (h : zel vs i k = true) : ∃ v, vs[i.toNatClampNeg]? = some v ∧ vp_in i vs.length ∧ k v = true := by
  unfold zel at h
  split at h
  · cases h
  · next hi =>
    split at h
    · next v hv =>
      refine ⟨v, hv, ?_, h⟩
      have := (List.getElem?_eq_some_iff.mp hv).1
      rintro (q | q)
      · exact hi q
      · omega
    · cases h
theorem zix_sp {vs : List zV} {i : Int32} (h : zix vs i = true) : vp_in i vs.length := by
  unfold zix at h
  split at h
  · cases h
  · next hi =>
    have := z_blt h
    rintro (q | q)
    · exact hi q
    · omega
theorem zcmpL_g {ρ : Nat → Option Nat} {a b : zV} {x y : Int64} (h1 : zlo a ≤ x.toInt ∧ x.toInt ≤ zhi a) (h3 : zlo b ≤ y.toInt ∧ y.toInt ≤ zhi b) : zg ρ (zcmpL a b) (.int (lg_cmp x y)) := by
  have key : (y.toInt < x.toInt ∧ (lg_cmp x y).toInt = 1) ∨ (x.toInt = y.toInt ∧ (lg_cmp x y).toInt = 0) ∨ (x.toInt < y.toInt ∧ (lg_cmp x y).toInt = -1) := by
    unfold lg_cmp
    by_cases g : x > y
    · rw [if_pos g]
      exact Or.inl ⟨Int64.lt_iff_toInt_lt.mp g, rfl⟩
    · rw [if_neg g]
      by_cases g2 : x = y
      · rw [if_pos g2]
        exact Or.inr (Or.inl ⟨congrArg Int64.toInt g2, rfl⟩)
      · rw [if_neg g2]
        refine Or.inr (Or.inr ⟨?_, rfl⟩)
        have n1 : ¬ y.toInt < x.toInt := fun q => g (Int64.lt_iff_toInt_lt.mpr q)
        have n2 : ¬ x.toInt = y.toInt := fun q => g2 (Int64.toInt_inj.mp q)
        omega
  unfold zcmpL
  refine zmk_g ?_ ?_
  · split
    · omega
    · split <;> omega
  · split
    · omega
    · split <;> omega
theorem zval_len {ρ : Nat → Option Nat} {ct : Nat → ClassId} {c : zC} {e : va_E} (h : zCell ρ ct c e) {t : Nat} (hc : c.1 = 10 + t) : ∃ (n : Nat) (a : (Nat → Int32) ⊕ (Nat → Int64) ⊕ (Nat → UInt32) ⊕ (Nat → UInt64) ⊕ (Nat → Option Nat)), e = .inl (ct t, n, a) ∧ t < 6 ∧ c.2.length = n ∧ zkd t a ∧ ∀ (j : Nat) (v : zV), c.2[j]? = some v → zg ρ v (zval a j) := by
  cases e with
  | inr o =>
    have h1 := h.1
    have h2 := h.2.1
    omega
  | inl o =>
    obtain ⟨t', h1, h2, h3, h4, h5, h6⟩ := h
    have e1 : t' = t := by omega
    subst e1
    obtain ⟨o1, o2, o3⟩ := o
    cases h3
    exact ⟨o2, o3, rfl, h2, h4, h5, h6⟩
theorem zobj {ρ : Nat → Option Nat} {ct : Nat → ClassId} {c : zC} {e : va_E} (h : zCell ρ ct c e) (hc : c.1 < 10) : ∃ fs : List Value, e = .inr (c.1, fs) ∧ zL2 ρ c.2 fs := by
  cases e with
  | inl o =>
    obtain ⟨t', h1, -⟩ := h
    omega
  | inr o =>
    obtain ⟨o1, o2⟩ := o
    have h1 : c.1 = o1 := h.1
    subst h1
    exact ⟨o2, rfl, h.2.2⟩
theorem zdef_g (ρ : Nat → Option Nat) (ty : FieldType) (h : (defaultValue ty) = .int 0 ∨ defaultValue ty = .long 0 ∨ defaultValue ty = .null) : zg ρ (zdef ty) (defaultValue ty) := by
  cases ty <;> first | exact rfl | (exfalso; revert h; simp [defaultValue])
theorem zrep_g {ρ : Nat → Option Nat} {v : zV} {w : Value} (h : zg ρ v w) (n : Nat) : ∀ (j : Nat) (a : zV), (List.replicate n v)[j]? = some a → zg ρ a w := by
  intro j a hj
  have h1 := List.eq_of_mem_replicate (List.mem_of_getElem? hj)
  rw [h1]
  exact h
end
section
abbrev zSt : Type := List (String × Nat × String × Nat)
def zFacts (zst : zSt) (scr : List zV) (adK adV : Nat → Nat) (ext : Nat → Option Nat) (A : Nat → Prop) (U : State) (H : Heap) : Prop :=
  (∀ q ∈ zst, vk_R q.1 q.2.1 q.2.2.1 (adK q.2.2.2) U ∧ q.2.2.2 < 8) ∧ (∀ i, i < 8 → ext (1000000 + i) = some (adK i)) ∧ vk_S 8 zlens zbyts adK adV A U H ∧ va_Z "java/lang/String" "COMPACT_STRINGS" "Z" (.int 1) A U H ∧
  (∃ (b : Nat) (xs : Nat → Int32), ext 10000000 = some b ∧ ¬ A b ∧ b < H.size ∧ va_X b scr.length xs U H ∧ ∀ (j : Nat) (v : zV), scr[j]? = some v → zisI v = true ∧ zg (fun _ => none) v (.int (xs j))) ∧
  ∃ (b : Nat) (xs : Nat → Int32), ext 10000001 = some b ∧ ¬ A b ∧ b < H.size ∧ va_X b 6 xs U H ∧ va_Z "EndsInFive" "UNDER" "[I" (.ref b) A U H ∧ ∀ (j : Nat) (v : zV), zund[j]? = some v → v = .inl (.int (xs j))
theorem va_X_moved {b L : Nat} {xs : Nat → Int32} {u U : State} {H : Heap} (hvm : u.vm.Alike U.vm) (h : va_X b L xs u H) : va_X b L xs U H := by
  obtain ⟨scr, h1, h2, h3, h4, h5⟩ := h
  exact ⟨scr, h1, State.isArrayOf_alike hvm h2, h3, h4, h5⟩
theorem va_X_kept {b L : Nat} {xs : Nat → Int32} {U : State} {H H1 : Heap} (hk : H1[b]? = H[b]?) (h : va_X b L xs U H) : va_X b L xs U H1 := by
  obtain ⟨scr, h1, h2, h3, h4, h5⟩ := h
  exact ⟨scr, hk.trans h1, h2, h3, h4, h5⟩
theorem zFacts_warm {zst : zSt} {scr : List zV} {adK adV : Nat → Nat} {ext : Nat → Option Nat} {A B : Nat → Prop} {s U : State} {H H1 : Heap} (hW : s.WarmedH U.vm) (hAB : ∀ q, B q → A q) (hz : H.size ≤ H1.size) (hk : ∀ q : Nat, q < H.size → ¬ A q → H1[q]? = H[q]?) (h : zFacts zst scr adK adV ext A s H) : zFacts zst scr adK adV ext B U H1 := by
  obtain ⟨h1, h2, h3, h4, ⟨b, xs, h5, h6, h7, h8, h9⟩, b', xs', g5, g6, g7, g8, g10, g9⟩ := h
  refine ⟨fun q hq => ⟨vk_R.warm hW (h1 q hq).1, (h1 q hq).2⟩, h2, ((h3.moved hW.alike).kept hk).narrow hAB, ((h4.moved hW.alike).kept hk).narrow hAB, ⟨b, xs, h5, fun q => h6 (hAB b q), Nat.lt_of_lt_of_le h7 hz, va_X_kept (hk b h7 h6) (va_X_moved hW.alike h8), h9⟩, b', xs', g5, fun q => g6 (hAB b' q), Nat.lt_of_lt_of_le g7 hz, va_X_kept (hk b' g7 g6) (va_X_moved hW.alike g8), ((g10.moved hW.alike).kept hk).narrow hAB, g9⟩
theorem zFacts_same {zst : zSt} {scr : List zV} {adK adV : Nat → Nat} {ext : Nat → Option Nat} {A : Nat → Prop} {s U : State} {H : Heap} (hv : U.vm = s.vm) (h : zFacts zst scr adK adV ext A s H) : zFacts zst scr adK adV ext A U H := by
  have hal : s.vm.Alike U.vm := by rw [hv]; exact Vm.Alike.refl _
  obtain ⟨h1, h2, h3, h4, ⟨b, xs, h5, h6, h7, h8, h9⟩, b', xs', g5, g6, g7, g8, g10, g9⟩ := h
  exact ⟨fun q hq => ⟨vk_R.same hv (h1 q hq).1, (h1 q hq).2⟩, h2, h3.moved hal, h4.moved hal, ⟨b, xs, h5, h6, h7, va_X_moved hal h8, h9⟩, b', xs', g5, g6, g7, va_X_moved hal g8, g10.moved hal, g9⟩
def zWS (TG : List Cond) (E : zE) : List Cond := .code E.1 E.2.1 (zEm E) E.2.2.2.1 :: TG
def zrm (E : zE) (d : Nat) : Room := { frames := d + 1, cells := zEc E, slots := zEs E, locals := 60 * (d + 1) }
def zgo (ρ : Nat → Option Nat) : Option zV → Option Value → Prop
  | none, none => True
  | some a, some v => zg ρ a v
  | _, _ => False
def zPcB (zst : zSt) (TN : List Cond) (scr : List zV) (adK adV : Nat → Nat) (ext : Nat → Option Nat) (D : va_G) (ct : Nat → ClassId) (ws : va_W) (sz : Nat) (U : State) : Prop :=
  U.heap.size = sz ∧ va_P D vwCl ws U.heap ∧ va_K D vwCl (ztys ct) U ∧ va_D (fun _ => True) ws ∧ (∀ w ∈ TN, va_Nw w U) ∧ zFacts zst scr adK adV ext (va_A ws sz) U U.heap ∧ va_AO RX0 U ∧ va_AOA .long U ∧ va_AOA .int U
def zQr (ext : Nat → Option Nat) (D : va_G) (ct : Nat → ClassId) (ws : va_W) (sz : Nat) (post : Option zV → zH → Bool) : Array Value → State → Outcome → State → Prop := fun _ st o t =>
  (∃ (r : Option zV) (h' : zH) (v : Option Value) (ws' : va_W), post r h' = true ∧ o = .returned v ∧ zgo (zrho ws' ext) r v ∧ zHp (zrho ws' ext) ct h' ws' ∧ va_P D vwCl ws' t.heap ∧ va_D (va_A ws sz) ws' ∧ zPre ws ws') ∧ va_F (va_A ws sz) st t
def zMet (l : Launch) (prog : Nat → Option zE) (zst : zSt) (TG TN : List Cond) (scr : List zV) (adK adV : Nat → Nat) (ext : Nat → Option Nat) (D : va_G) (ct : Nat → ClassId) (d j : Nat) (vs : List zV) (h : zH) (post : Option zV → zH → Bool) : Prop :=
  ∀ (E : zE), prog j = some E → ∀ (ws : va_W) (sz : Nat) (argv : List Value), zL2 (zrho ws ext) vs argv → zHp (zrho ws ext) ct h ws →
    Met l E.1 (zWS TG E) (zrm E d) (va_Pc argv (zPcB zst TN scr adK adV ext D ct ws sz)) (zQr ext D ct ws sz post) (zEc E) (zEs E) (va_A ws sz)
def zRel (ext : Nat → Option Nat) (D : va_G) (ct : Nat → ClassId) (nL rc rs : Nat) (A : Nat → Prop) (H0 : Heap) (ws0 : va_W) (L : zL) (st : List zV) (h : zH) (nc ns : Nat) (ls : Array Slot) (stc : List Value) (H : Heap) (locs : List Loc) (ws : va_W) : Prop :=
  lv_has ls nL [] ∧ zLo (zrho ws ext) L ls ∧ zL2 (zrho ws ext) st stc ∧ zHp (zrho ws ext) ct h ws ∧ va_P D vwCl ws H ∧ va_D A ws ∧ va_S A H0 H locs ∧ nc ≤ rc ∧ ns ≤ rs ∧ zPre ws0 ws
def zGo (p : Program) (l : Launch) (e : Env) (R : Room) (s : State) (m : MethodId) (args : Array Value) (below : List Frame) (meth : Method) (c : Code) (Q : State → Prop) (ext : Nat → Option Nat) (D : va_G) (ct : Nat → ClassId) (nL rc rs : Nat) (A : Nat → Prop) (ws0 : va_W) (x : zS) : Prop :=
  ∀ (ls : Array Slot) (stc : List Value) (H : Heap) (locs : List Loc) (ws : va_W), zRel ext D ct nL rc rs A s.heap ws0 x.2.1 x.2.2.1 x.2.2.2.1 x.2.2.2.2.1 x.2.2.2.2.2 ls stc H locs ws →
    W p l e R s m args below meth c H locs x.2.2.2.2.1 x.2.2.2.2.2 Q (F0 m x.1 ls stc)
def zCx (p : Program) (R : Room) (s : State) (m : MethodId) (args : Array Value) (meth : Method) (c : Code) (prog : Nat → Option zE) (zst : zSt) (TG TN : List Cond) (scr : List zV) (adK adV : Nat → Nat) (ext : Nat → Option Nat) (D : va_G) (ct : Nat → ClassId) (A : Nat → Prop) (E : zE) (rc rs d : Nat) : Prop :=
  p.tables.exec = Jvm.exec ∧ c.code = E.2.1 ∧ c.maxLocals = zEm E ∧ s.vm.findClass E.1.cls = some m.cls ∧ (∀ w ∈ TG, w.before args s = true) ∧ (E.1.name = "<init>" → meth.name = "<init>") ∧ va_K D vwCl (ztys ct) s ∧ (∀ w ∈ TN, va_Nw w s) ∧ zFacts zst scr adK adV ext A s s.heap ∧ va_AO RX0 s ∧ va_AOA .long s ∧ va_AOA .int s ∧ (∀ q, s.heap.size ≤ q → A q) ∧ d + 2 ≤ R.frames ∧ 60 * (d + 2) ≤ R.locals ∧ rc ≤ R.cells ∧ rs ≤ R.slots ∧ zOkC prog zst TG TN E ∧ (∀ w ∈ zuws, w ∈ TG)
def zGood (TG : List Cond) : Prop := ∀ w ∈ TG, (w.onTables && w.keeps) = true ∨ ∃ ty, w = .arrayClass ty
def zTNok (TN : List Cond) : Prop := ∀ w ∈ TN, ∃ (a : String) (i : Nat) (x : MethodName) (h : String), w = .methodLinkNest a i x h
theorem zPcB_blind {zst : zSt} {TN : List Cond} {scr : List zV} {adK adV : Nat → Nat} {ext : Nat → Option Nat} {D : va_G} {ct : Nat → ClassId} {ws : va_W} {sz : Nat} {argv : List Value} (hTN : zTNok TN) : FrameBlind (va_Pc argv (zPcB zst TN scr adK adV ext D ct ws sz)) := by
  intro a U g mk ⟨h0, h1, h2, h3, h4, h5, h6, h7, h8, h9⟩
  have hv : (U.calling g mk a).vm = U.vm := rfl
  have hal : U.vm.Alike (U.calling g mk a).vm := Vm.Alike.refl _
  refine ⟨h0, h1, h2, va_K.moved hal h3, h4, fun w hw => ?_, zFacts_same hv h6, va_AO.moved hal h7, va_AOA.moved hal h8, va_AOA.moved hal h9⟩
  obtain ⟨_, _, _, _, rfl⟩ := hTN w hw
  exact va_Nw.same rfl hv.symm (h5 _ hw)
section
variable {p : Program} {l : Launch} {e : Env} {R : Room} {s : State} {m : MethodId} {args : Array Value} {below : List Frame} {meth : Method} {c : Code} {Q : State → Prop}
variable {prog : Nat → Option zE} {zst : zSt} {TG TN : List Cond} {scr : List zV} {adK adV : Nat → Nat} {ext : Nat → Option Nat} {D : va_G} {ct : Nat → ClassId} {A : Nat → Prop} {E : zE} {rc rs d : Nat} {ws0 : va_W}
theorem zPcB_at (C : zCx p R s m args meth c prog zst TG TN scr adK adV ext D ct A E rc rs d) (hTN : zTNok TN) {H : Heap} {locs : List Loc} {ws : va_W} (hP : va_P D vwCl ws H) (hD : va_D A ws) (hS : va_S A s.heap H locs) {U : State} (hU : U.heap = H) (hW : s.WarmedH U.vm) : zPcB zst TN scr adK adV ext D ct ws H.size U := by
  obtain ⟨-, -, -, -, -, -, hK, hN, hF, h1, h2, h3, hA, -⟩ := C
  have hfree : ∀ q, va_A ws H.size q → A q := va_free hD hS hA (List.range ws.length) (by
    apply List.ext_getElem?
    intro i
    by_cases hi : i < ws.length
    · simp [hi]
    · simp [Nat.not_lt.mp hi])
  refine ⟨by rw [hU], by rw [hU]; exact hP, va_K.moved hW.alike hK, hD.weaken (fun _ _ _ _ => trivial), fun w hw => ?_, by rw [hU]; exact zFacts_warm hW hfree hS.1 hS.2.1 hF, va_AO.moved hW.alike h1, va_AOA.moved hW.alike h2, va_AOA.moved hW.alike h3⟩
  obtain ⟨_, _, _, _, rfl⟩ := hTN w hw
  exact va_Nw.warmM hW (hN _ hw)
theorem z_after {post : Option zV → zH → Bool} {a : Array Value} {pc : Nat} {ls : Array Slot} {stc rest : List Value} {H : Heap} {locs : List Loc} {ws : va_W} {nL nc ns mc ms : Nat} {L : zL} {r0 : List zV}
    (hA : ∀ q, s.heap.size ≤ q → A q) (hl : lv_has ls nL []) (hL : zLo (zrho ws ext) L ls) (hr0 : zL2 (zrho ws ext) r0 rest) (hD : va_D A ws) (hS : va_S A s.heap H locs) (hnc : nc + mc ≤ rc) (hns : ns + ms ≤ rs) (hpre : zPre ws0 ws)
    (hrun : va_Run p l e R s m args below meth c H locs nc ns mc ms (F0 m pc ls stc) rest (zQr ext D ct ws H.size post a) (va_A ws H.size))
    (kk : ∀ (r : Option zV) (h' : zH), post r h' = true → zGo p l e R s m args below meth c Q ext D ct nL rc rs A ws0 (pc + 3, L, zpush r r0, h', nc + mc, ns + ms)) :
    W p l e R s m args below meth c H locs nc ns Q (F0 m pc ls stc) := by
  have hfree : ∀ q, va_A ws H.size q → A q := va_free hD hS hA (List.range ws.length) (by
    apply List.ext_getElem?
    intro i
    by_cases hi : i < ws.length
    · simp [hi]
    · simp [Nat.not_lt.mp hi])
  intro T hT X
  obtain ⟨v, st₀, t, T', L1, h0, X', hL1, e1, e2, ⟨⟨r, h', v', ws', hp, ho, hg, hH, hP', hD', hpr⟩, hz, hk⟩, st⟩ := hrun T hT X
  cases ho
  rw [h0] at hz hk
  have hm := zPre_rho (ext := ext) hpr
  have hst : zL2 (zrho ws' ext) (zpush r r0) (v.toList ++ rest) := by
    cases r with
    | none =>
      cases v with
      | none => exact zL2_mono hm hr0
      | some v => exact hg.elim
    | some a =>
      cases v with
      | none => exact hg.elim
      | some v => exact ⟨hg, zL2_mono hm hr0⟩
  obtain ⟨t2, a1, b1⟩ := kk r h' hp ls (v.toList ++ rest) T'.heap (locs ++ L1) ws' ⟨hl, zLo_mono hm hL, hst, hH, by rw [e1]; exact hP', hD'.weaken (fun k q _ hq => hfree q.1 hq),
    ⟨Nat.le_trans hS.1 (by rw [e1]; exact hz), fun q h1 h2 => by
      rw [e1, hk q (Nat.lt_of_lt_of_le h1 hS.1) (fun z => h2 (hfree q z))]
      exact hS.2.1 q h1 h2, fun q hq => by
      rcases List.mem_append.mp hq with h3 | h3
      · exact hS.2.2 q h3
      · exact hfree _ (hL1 q h3)⟩, hnc, hns, zPre_tr hpre hpr⟩ T' rfl X'
  exact ⟨t2, st t2 a1, b1⟩
end
end
section
section
variable {p : Program} {l : Launch} {e : Env} {R : Room} {s : State} {m : MethodId} {args : Array Value} {below : List Frame} {meth : Method} {c : Code} {Q : State → Prop}
variable {prog : Nat → Option zE} {zst : zSt} {TG TN : List Cond} {scr : List zV} {adK adV : Nat → Nat} {ext : Nat → Option Nat} {D : va_G} {ct : Nat → ClassId} {A : Nat → Prop} {E : zE} {rc rs d : Nat} {ws0 : va_W}
theorem z_mside {E' : zE} (h : zmside E' = true) : (parseMethodDescriptor E'.1.desc).map (fun d => d.parameters.length) = some (zEp E') ∧ E'.1.cls ≠ "java/lang/invoke/MethodHandle" ∧ E'.1.cls ≠ "java/lang/invoke/VarHandle" ∧ zEm E' ≤ 40 ∧ plainName E'.1.cls = true ∧ (zEk E' ≠ 99 → zEk E' < 6 ∧ E'.1.cls = zRf (zEk E') ∧ (E'.1.name = "<init>" → E'.2.2.2.1 = none)) := by
  unfold zmside at h
  obtain ⟨h0, h⟩ := z_and h
  obtain ⟨h1, h⟩ := z_and h
  obtain ⟨h2, h⟩ := z_and h
  obtain ⟨h3, h⟩ := z_and h
  obtain ⟨h4, h⟩ := z_and h
  refine ⟨of_decide_eq_true h1, of_decide_eq_true h2, of_decide_eq_true h3, z_ble h4, h0, fun hne => ?_⟩
  rw [if_neg hne] at h
  obtain ⟨h5, h⟩ := z_and h
  obtain ⟨h6, h⟩ := z_and h
  refine ⟨z_blt h5, of_decide_eq_true h6, fun hi => ?_⟩
  rw [if_pos hi] at h
  exact of_decide_eq_true h
theorem z_mw {E' : zE} (h : ∀ w ∈ zmwords E', w ∈ TG) : Cond.code E'.1 E'.2.1 E'.2.2.1 E'.2.2.2.1 ∈ TG ∧ Cond.initialized E'.1.cls ∈ TG ∧ (zEk E' = 99 → Cond.static E'.1 ∈ TG) ∧ (zEk E' ≠ 99 → Cond.instanceMethod E'.1 ∈ TG ∧ (E'.1.name ≠ "<init>" → Cond.selects E'.1.cls E'.1 E'.1 ∈ TG)) := by
  unfold zmwords at h
  by_cases h1 : zEk E' = 99
  · rw [if_pos h1] at h
    exact ⟨h _ (by simp), h _ (by simp), fun _ => h _ (by simp), fun q => absurd h1 q⟩
  · rw [if_neg h1] at h
    by_cases h2 : E'.1.name = "<init>"
    · rw [if_pos h2] at h
      exact ⟨h _ (by simp), h _ (by simp), fun q => absurd q h1, fun _ => ⟨h _ (by simp), fun q => absurd h2 q⟩⟩
    · rw [if_neg h2] at h
      exact ⟨h _ (by simp), h _ (by simp), fun q => absurd q h1, fun _ => ⟨h _ (by simp), fun _ => h _ (by simp)⟩⟩
theorem z_pay (C : zCx p R s m args meth c prog zst TG TN scr adK adV ext D ct A E rc rs d) (hG : zGood TG) {E' : zE} (hm : ∀ w ∈ zmwords E', w ∈ TG) : ∀ w ∈ zWS TG E', ∀ (a' : Array Value) (U : State), s.WarmedH U.vm → w.before a' U = true := by
  intro w hw a' U hW
  obtain ⟨-, -, -, -, hts, -⟩ := C
  rcases List.mem_cons.mp hw with rfl | hw
  · have hc := (z_mw hm).1
    exact word_at hW (hG _ hc) (hts _ hc)
  · exact word_at hW (hG _ hw) (hts _ hw)
theorem z_cb (C : zCx p R s m args meth c prog zst TG TN scr adK adV ext D ct A E rc rs d) (hG : zGood TG) {E' : zE} (hm : ∀ w ∈ zmwords E', w ∈ TG) (hs : zmside E' = true) {ix : Nat} (hl : Cond.methodLink E.1.cls ix E'.1 ∈ TG) :
    CallB R s args E.1.cls ix E'.1 E'.2.1 (zEm E') E'.2.2.2.1 (zWS TG E') (zrm E' d) (zEc E') (zEs E') (zEp E') := by
  have hpay := z_pay C hG hm
  obtain ⟨-, -, -, -, hts, -, -, -, -, -, -, -, -, hfr, hlo, -⟩ := C
  obtain ⟨s1, s2, s3, s4, -⟩ := z_mside hs
  obtain ⟨w1, w2, -⟩ := z_mw hm
  refine ⟨rfl, rfl, hfr, ?_, hpay, List.mem_cons_self, hts _ w1, hts _ w2, ⟨s2, s3⟩, fun sig h => ?_, hts _ hl⟩
  · show 8 + (zEm E' + 11) + 60 * (d + 1) ≤ R.locals
    omega
  · rw [h] at s1
    exact (Option.some.inj s1).symm
theorem z_cn (C : zCx p R s m args meth c prog zst TG TN scr adK adV ext D ct A E rc rs d) (hG : zGood TG) {E' : zE} (hm : ∀ w ∈ zmwords E', w ∈ TG) (hs : zmside E' = true) {ix : Nat} {host : String} (hl : Cond.methodLinkNest E.1.cls ix E'.1 host ∈ TN) :
    va_CN R s args E.1.cls ix E'.1 host E'.2.1 (zEm E') E'.2.2.2.1 (zWS TG E') (zrm E' d) (zEc E') (zEs E') (zEp E') := by
  have hpay := z_pay C hG hm
  obtain ⟨-, -, -, -, hts, -, -, hN, -, -, -, -, -, hfr, hlo, -⟩ := C
  obtain ⟨s1, s2, s3, s4, -⟩ := z_mside hs
  obtain ⟨w1, w2, -⟩ := z_mw hm
  refine ⟨⟨rfl, rfl, hfr, ?_, hpay, List.mem_cons_self⟩, hts _ w1, hts _ w2, ⟨s2, s3⟩, fun sig h => ?_, va_Nw.use rfl (hN _ hl)⟩
  · show 8 + (zEm E' + 11) + 60 * (d + 1) ≤ R.locals
    omega
  · rw [h] at s1
    exact (Option.some.inj s1).symm
theorem zcalv_sp {cc : zK} {j nc ns : Nat} {st : List zV} {h : zH} {k : List zV → zH → Nat → Nat → Bool} (hz : zcalv prog cc j st h nc ns rc rs k = true) : ∃ (E' : zE) (q : Nat) (r fs : List zV), prog j = some E' ∧ zEp E' ≤ st.length ∧ nc + zEc E' ≤ rc ∧ ns + zEs E' ≤ rs ∧ st.drop (zEp E') = .inl (.ref q) :: r ∧ h[q]? = some (zEk E', fs) ∧ q < 1000000 ∧ zsum r ≤ 8 ∧ cc j (.inl (.ref q) :: (st.take (zEp E')).reverse) h (fun v h' => k (zpush v r) h' (nc + zEc E') (ns + zEs E')) = true := by
  unfold zcalv at hz
  split at hz
  · next E' hE =>
    obtain ⟨h1, hz⟩ := z_and hz
    obtain ⟨h2, hz⟩ := z_and hz
    obtain ⟨h3, hz⟩ := z_and hz
    split at hz
    · next q r hq =>
      obtain ⟨fs, h4, h5, hz⟩ := zrow_sp hz
      obtain ⟨h6, h7⟩ := z_and hz
      exact ⟨E', q, r, fs, hE, z_ble h1, z_ble h2, z_ble h3, hq, h4, h5, z_ble h6, h7⟩
    · cases hz
  · cases hz
theorem zcall_sp {cc : zK} {j nc ns : Nat} {st : List zV} {h : zH} {k : List zV → zH → Nat → Nat → Bool} (hz : zcall prog cc j st h nc ns rc rs k = true) : ∃ E' : zE, prog j = some E' ∧ zEp E' ≤ st.length ∧ nc + zEc E' ≤ rc ∧ ns + zEs E' ≤ rs ∧ zsum (st.drop (zEp E')) ≤ 8 ∧ cc j (st.take (zEp E')).reverse h (fun v h' => k (zpush v (st.drop (zEp E'))) h' (nc + zEc E') (ns + zEs E')) = true := by
  unfold zcall at hz
  split at hz
  · next E' hE =>
    obtain ⟨h1, hz⟩ := z_and hz
    obtain ⟨h2, hz⟩ := z_and hz
    obtain ⟨h3, hz⟩ := z_and hz
    obtain ⟨h4, h5⟩ := z_and hz
    exact ⟨E', hE, z_ble h1, z_ble h2, z_ble h3, z_ble h4, h5⟩
  · cases hz
theorem z_refobj {h : zH} {ws : va_W} {q k b : Nat} {fs : List zV} (hH : zHp (zrho ws ext) ct h ws) (hq : h[q]? = some (k, fs)) (hlt : q < 1000000) (hk : k < 10) (hb : zrho ws ext q = some b) : ∃ fv : List Value, ws[q]? = some (b, .inr (k, fv)) ∧ zL2 (zrho ws ext) fs fv := by
  obtain ⟨a, e', h1, h2⟩ := zHp_get hH hq
  obtain ⟨fv, rfl, h3⟩ := zobj h2 hk
  have h4 := zrho_at (ext := ext) hlt h1
  rw [hb] at h4
  cases h4
  exact ⟨fv, h1, h3⟩
theorem z_refarr {h : zH} {ws : va_W} {q t b : Nat} {vs : List zV} (hH : zHp (zrho ws ext) ct h ws) (hq : h[q]? = some (10 + t, vs)) (hlt : q < 1000000) (hb : zrho ws ext q = some b) : ∃ (n : Nat) (a : (Nat → Int32) ⊕ (Nat → Int64) ⊕ (Nat → UInt32) ⊕ (Nat → UInt64) ⊕ (Nat → Option Nat)), ws[q]? = some (b, .inl (ct t, n, a)) ∧ t < 6 ∧ vs.length = n ∧ zkd t a ∧ ∀ (j : Nat) (v : zV), vs[j]? = some v → zg (zrho ws ext) v (zval a j) := by
  obtain ⟨a, e', h1, h2⟩ := zHp_get hH hq
  obtain ⟨n, f, rfl, h3⟩ := zval_len h2 (t := t) rfl
  have h4 := zrho_at (ext := ext) hlt h1
  rw [hb] at h4
  cases h4
  exact ⟨n, f, h1, h3⟩
theorem z_stk {n : Nat} {st : List zV} {stc : List Value} {ρ : Nat → Option Nat} (hst : zL2 ρ st stc) (hn : n ≤ st.length) : stc = (stc.take n).reverse.reverse ++ stc.drop n ∧ (stc.take n).reverse.length = n := by
  refine ⟨by rw [List.reverse_reverse, List.take_append_drop], ?_⟩
  rw [List.length_reverse, List.length_take, ← zL2_len hst]
  omega
theorem z_invV (C : zCx p R s m args meth c prog zst TG TN scr adK adV ext D ct A E rc rs d) (hG : zGood TG) (hTN : zTNok TN) (hOk : zOkP prog zst TG TN) {cc : zK} (HM : ∀ j vs h post, cc j vs h post = true → zMet l prog zst TG TN scr adK adV ext D ct d j vs h post) {K : zS → Bool}
    (IH : ∀ x, K x = true → zGo p l e R s m args below meth c Q ext D ct (zEm E) rc rs A ws0 x) {ix j pc nc ns : Nat} {L : zL} {st : List zV} {h : zH} {ls : Array Slot} {stc : List Value} {H : Heap} {locs : List Loc} {ws : va_W}
    (hrel : zRel ext D ct (zEm E) rc rs A s.heap ws0 L st h nc ns ls stc H locs ws) (hsd : ∀ E', prog j = some E' → zEk E' < 6 ∧ E'.1.name ≠ "<init>" ∧ Cond.methodLink E.1.cls ix E'.1 ∈ TG) (hdg : decode E.2.1 pc = .ok (.invokevirtual ix, 3))
    (hz : zcalv prog cc j st h nc ns rc rs (fun st' h' nc' ns' => K (pc + 3, L, st', h', nc', ns')) = true) : W p l e R s m args below meth c H locs nc ns Q (F0 m pc ls stc) := by
  obtain ⟨E', q, r, fs, hE, h1, h2, h3, h4, h5, h6, h7, h8⟩ := zcalv_sp hz
  obtain ⟨hl, hL, hst, hH, hP, hD, hS, hnc, hns, hpre⟩ := hrel
  obtain ⟨k1, k2, k3⟩ := hsd E' hE
  obtain ⟨-, hms, hmw⟩ := hOk j E' hE
  have hne : zEk E' ≠ 99 := by omega
  obtain ⟨m1, m2, m3⟩ := (z_mside hms).2.2.2.2.2 hne
  obtain ⟨w1, w2, w3, w4⟩ := z_mw hmw
  have hdr := zL2_drop (zEp E') hst
  rw [h4] at hdr
  obtain ⟨v0, rest, e0, g0, hrest⟩ := zL2_cons hdr
  obtain ⟨b, hb, rfl⟩ := g0
  obtain ⟨e1, e2⟩ := z_stk hst h1
  rw [e0] at e1
  obtain ⟨fv, hw, -⟩ := z_refobj hH h5 h6 (by omega) hb
  have cb := z_cb C hG hmw hms k3
  have hpcB : ∀ U : State, U.heap = H → s.WarmedH U.vm → va_Pc (Value.ref b :: (stc.take (zEp E')).reverse) (zPcB zst TN scr adK adV ext D ct ws H.size) (Value.ref b :: (stc.take (zEp E')).reverse).toArray U := fun U hU hW => ⟨rfl, zPcB_at C hTN hP hD hS hU hW⟩
  have hA : ∀ q, s.heap.size ≤ q → A q := C.2.2.2.2.2.2.2.2.2.2.2.2.1
  have hrc : rc ≤ R.cells ∧ rs ≤ R.slots := ⟨C.2.2.2.2.2.2.2.2.2.2.2.2.2.2.2.1, C.2.2.2.2.2.2.2.2.2.2.2.2.2.2.2.2.1⟩
  have hM := HM j _ h _ h8 E' hE ws H.size (Value.ref b :: (stc.take (zEp E')).reverse) ⟨⟨b, hb, rfl⟩, zL2_rev (zL2_take _ hst)⟩ hH
  refine z_after hA hl hL hrest hD hS h2 h3 hpre (va_runV (C := E'.1.cls) (nL := zEm E) ⟨C.1, C.2.1, C.2.2.1, C.2.2.2.1, C.2.2.2.2.1⟩ hM ⟨cb, C.2.2.2.2.1 _ (w4 hne).1, C.2.2.2.2.1 _ ((w4 hne).2 k2)⟩ ⟨zPcB_blind hTN, by rw [m2]; exact va_recv C.2.2.2.2.2.2.1 hP (z_cl m1) hw, hpcB⟩ rfl e2 hl.1 e1 (lv_room (by rw [zL2_sum hrest]; exact h7)) hdg ⟨by omega, by omega⟩) (fun r' h' hp => IH _ hp)
theorem z_invI (C : zCx p R s m args meth c prog zst TG TN scr adK adV ext D ct A E rc rs d) (hG : zGood TG) (hTN : zTNok TN) (hOk : zOkP prog zst TG TN) {cc : zK} (HM : ∀ j vs h post, cc j vs h post = true → zMet l prog zst TG TN scr adK adV ext D ct d j vs h post) {K : zS → Bool}
    (IH : ∀ x, K x = true → zGo p l e R s m args below meth c Q ext D ct (zEm E) rc rs A ws0 x) {ix j pc nc ns : Nat} {L : zL} {st : List zV} {h : zH} {ls : Array Slot} {stc : List Value} {H : Heap} {locs : List Loc} {ws : va_W}
    (hrel : zRel ext D ct (zEm E) rc rs A s.heap ws0 L st h nc ns ls stc H locs ws) (hsd : ∀ E', prog j = some E' → zEk E' < 6 ∧ E'.1.name = "<init>" ∧ (Cond.methodLink E.1.cls ix E'.1 ∈ TG ∨ Cond.methodLinkNest E.1.cls ix E'.1 zhost ∈ TN)) (hdg : decode E.2.1 pc = .ok (.invokespecial ix, 3))
    (hz : zcalv prog cc j st h nc ns rc rs (fun st' h' nc' ns' => K (pc + 3, L, st', h', nc', ns')) = true) : W p l e R s m args below meth c H locs nc ns Q (F0 m pc ls stc) := by
  obtain ⟨E', q, r, fs, hE, h1, h2, h3, h4, h5, h6, h7, h8⟩ := zcalv_sp hz
  obtain ⟨hl, hL, hst, hH, hP, hD, hS, hnc, hns, hpre⟩ := hrel
  obtain ⟨k1, k2, k3⟩ := hsd E' hE
  obtain ⟨-, hms, hmw⟩ := hOk j E' hE
  have hne : zEk E' ≠ 99 := by omega
  obtain ⟨m1, m2, m3⟩ := (z_mside hms).2.2.2.2.2 hne
  obtain ⟨w1, w2, w3, w4⟩ := z_mw hmw
  have hdr := zL2_drop (zEp E') hst
  rw [h4] at hdr
  obtain ⟨v0, rest, e0, g0, hrest⟩ := zL2_cons hdr
  obtain ⟨b, hb, rfl⟩ := g0
  obtain ⟨e1, e2⟩ := z_stk hst h1
  rw [e0] at e1
  have hpcB : ∀ U : State, U.heap = H → s.WarmedH U.vm → va_Pc (Value.ref b :: (stc.take (zEp E')).reverse) (zPcB zst TN scr adK adV ext D ct ws H.size) (Value.ref b :: (stc.take (zEp E')).reverse).toArray U := fun U hU hW => ⟨rfl, zPcB_at C hTN hP hD hS hU hW⟩
  have hA : ∀ q, s.heap.size ≤ q → A q := C.2.2.2.2.2.2.2.2.2.2.2.2.1
  have hrc : rc ≤ R.cells ∧ rs ≤ R.slots := ⟨C.2.2.2.2.2.2.2.2.2.2.2.2.2.2.2.1, C.2.2.2.2.2.2.2.2.2.2.2.2.2.2.2.2.1⟩
  have hM := HM j _ h _ h8 E' hE ws H.size (Value.ref b :: (stc.take (zEp E')).reverse) ⟨⟨b, hb, rfl⟩, zL2_rev (zL2_take _ hst)⟩ hH
  rcases k3 with k3 | k3
  · have cb := z_cb C hG hmw hms k3
    rw [m3 k2] at cb
    exact z_after hA hl hL hrest hD hS h2 h3 hpre (va_runI (nL := zEm E) ⟨C.1, C.2.1, C.2.2.1, C.2.2.2.1, C.2.2.2.2.1⟩ hM ⟨cb, k2, C.2.2.2.2.1 _ (w4 hne).1⟩ ⟨zPcB_blind hTN, hpcB⟩ rfl e2 hl.1 e1 (lv_room (by rw [zL2_sum hrest]; exact h7)) hdg ⟨by omega, by omega⟩) (fun r' h' hp => IH _ hp)
  · have cb := z_cn C hG hmw hms k3
    rw [m3 k2] at cb
    exact z_after hA hl hL hrest hD hS h2 h3 hpre (va_runIN (nL := zEm E) ⟨C.1, C.2.1, C.2.2.1, C.2.2.2.1, C.2.2.2.2.1⟩ hM ⟨cb, k2, C.2.2.2.2.1 _ (w4 hne).1⟩ ⟨zPcB_blind hTN, hpcB⟩ rfl e2 hl.1 e1 (lv_room (by rw [zL2_sum hrest]; exact h7)) hdg ⟨by omega, by omega⟩) (fun r' h' hp => IH _ hp)
theorem z_invS (C : zCx p R s m args meth c prog zst TG TN scr adK adV ext D ct A E rc rs d) (hG : zGood TG) (hTN : zTNok TN) (hOk : zOkP prog zst TG TN) {cc : zK} (HM : ∀ j vs h post, cc j vs h post = true → zMet l prog zst TG TN scr adK adV ext D ct d j vs h post) {K : zS → Bool}
    (IH : ∀ x, K x = true → zGo p l e R s m args below meth c Q ext D ct (zEm E) rc rs A ws0 x) {ix j pc nc ns : Nat} {L : zL} {st : List zV} {h : zH} {ls : Array Slot} {stc : List Value} {H : Heap} {locs : List Loc} {ws : va_W}
    (hrel : zRel ext D ct (zEm E) rc rs A s.heap ws0 L st h nc ns ls stc H locs ws) (hsd : ∀ E', prog j = some E' → zEk E' = 99 ∧ (Cond.methodLink E.1.cls ix E'.1 ∈ TG ∨ Cond.methodLinkNest E.1.cls ix E'.1 zhost ∈ TN)) (hdg : decode E.2.1 pc = .ok (.invokestatic ix, 3))
    (hz : zcall prog cc j st h nc ns rc rs (fun st' h' nc' ns' => K (pc + 3, L, st', h', nc', ns')) = true) : W p l e R s m args below meth c H locs nc ns Q (F0 m pc ls stc) := by
  obtain ⟨E', hE, h1, h2, h3, h7, h8⟩ := zcall_sp hz
  obtain ⟨hl, hL, hst, hH, hP, hD, hS, hnc, hns, hpre⟩ := hrel
  obtain ⟨k1, k3⟩ := hsd E' hE
  obtain ⟨-, hms, hmw⟩ := hOk j E' hE
  obtain ⟨w1, w2, w3, w4⟩ := z_mw hmw
  have hrest := zL2_drop (zEp E') hst
  obtain ⟨e1, e2⟩ := z_stk hst h1
  have hpcB : ∀ U : State, U.heap = H → s.WarmedH U.vm → va_Pc (stc.take (zEp E')).reverse (zPcB zst TN scr adK adV ext D ct ws H.size) (stc.take (zEp E')).reverse.toArray U := fun U hU hW => ⟨rfl, zPcB_at C hTN hP hD hS hU hW⟩
  have hA : ∀ q, s.heap.size ≤ q → A q := C.2.2.2.2.2.2.2.2.2.2.2.2.1
  have hrc : rc ≤ R.cells ∧ rs ≤ R.slots := ⟨C.2.2.2.2.2.2.2.2.2.2.2.2.2.2.2.1, C.2.2.2.2.2.2.2.2.2.2.2.2.2.2.2.2.1⟩
  have hM := HM j _ h _ h8 E' hE ws H.size (stc.take (zEp E')).reverse (zL2_rev (zL2_take _ hst)) hH
  rcases k3 with k3 | k3
  · exact z_after hA hl hL hrest hD hS h2 h3 hpre (va_runS (nL := zEm E) ⟨C.1, C.2.1, C.2.2.1, C.2.2.2.1, C.2.2.2.2.1⟩ hM ⟨z_cb C hG hmw hms k3, C.2.2.2.2.1 _ (w3 k1)⟩ ⟨zPcB_blind hTN, hpcB⟩ rfl e2 hl.1 e1 (lv_room (by rw [zL2_sum hrest]; exact h7)) hdg ⟨by omega, by omega⟩) (fun r' h' hp => IH _ hp)
  · exact z_after hA hl hL hrest hD hS h2 h3 hpre (va_runSN (nL := zEm E) ⟨C.1, C.2.1, C.2.2.1, C.2.2.2.1, C.2.2.2.2.1⟩ hM ⟨z_cn C hG hmw hms k3, C.2.2.2.2.1 _ (w3 k1), trivial⟩ ⟨zPcB_blind hTN, hpcB⟩ rfl e2 hl.1 e1 (lv_room (by rw [zL2_sum hrest]; exact h7)) hdg ⟨by omega, by omega⟩) (fun r' h' hp => IH _ hp)
end
end
section
abbrev zESL : zE := (zySL, cJ0_length_8abf5, 1, some .int, 0, 98, 0, 0, [])
def zSL1 (l : Launch) (zst : zSt) (TG TN : List Cond) (scr : List zV) (adK adV : Nat → Nat) (ext : Nat → Option Nat) (D : va_G) (ct : Nat → ClassId) (d : Nat) : Prop :=
  ∀ (i : Nat), i < 8 → ∀ (h : zH) (ws : va_W) (sz : Nat), zHp (zrho ws ext) ct h ws →
    Met l zySL (zWS TG zESL) (zrm zESL d) (va_Pc [.ref (adK i)] (zPcB zst TN scr adK adV ext D ct ws sz)) (zQr ext D ct ws sz (fun r h' => decide (r = some (.inl (.int (Int32.ofNat (zlens.getD i 0))))) && decide (h' = h))) 0 0 (va_A ws sz)
abbrev zESC : zE := (zySC, cJ0_charAt_5068e, 2, some .char, 1, 98, 0, 0, [])
def zchr (i k : Nat) : Int32 := (zbyts.getD i []).getD k 0
def zSC (l : Launch) (zst : zSt) (TG TN : List Cond) (scr : List zV) (adK adV : Nat → Nat) (ext : Nat → Option Nat) (D : va_G) (ct : Nat → ClassId) (d : Nat) : Prop :=
  ∀ (i k : Nat), i < 8 → k < zlens.getD i 0 → ∀ (h : zH) (ws : va_W) (sz : Nat), zHp (zrho ws ext) ct h ws →
    Met l zySC (zWS TG zESC) (zrm zESC d) (va_Pc [.ref (adK i), .int (Int32.ofNat k)] (zPcB zst TN scr adK adV ext D ct ws sz)) (zQr ext D ct ws sz (fun r h' => decide (r = some (.inl (.int (zchr i k)))) && decide (h' = h))) 0 0 (va_A ws sz)
def zSL (l : Launch) (zst : zSt) (TG TN : List Cond) (scr : List zV) (adK adV : Nat → Nat) (ext : Nat → Option Nat) (D : va_G) (ct : Nat → ClassId) (d : Nat) : Prop := zSL1 l zst TG TN scr adK adV ext D ct d ∧ zSC l zst TG TN scr adK adV ext D ct d
theorem zsch_sp {q : Nat} {x v : Int32} (h : zsch q x = some v) : ∃ i k, i < 8 ∧ k < zlens.getD i 0 ∧ q = 1000000 + i ∧ x = Int32.ofNat k ∧ v = zchr i k := by
  unfold zsch at h
  split at h
  · next hq =>
    split at h
    · cases h
    · next hx =>
      obtain ⟨i, hi, rfl⟩ : ∃ i, i < 8 ∧ q = 1000000 + i := ⟨q - 1000000, by omega, by omega⟩
      rw [show 1000000 + i - 1000000 = i by omega] at h
      have hlen : ∀ j, j < 8 → (zbyts.getD j []).length = zlens.getD j 0 := by decide +kernel
      have hk := (List.getElem?_eq_some_iff.mp h).1
      rw [hlen i hi] at hk
      refine ⟨i, x.toNatClampNeg, hi, hk, rfl, ?_, ?_⟩
      · have h1 := z_nn hx
        have h2 : Int32.ofInt x.toInt = x := Int32.ofInt_toInt x
        rw [h1] at h2
        exact h2.symm
      · unfold zchr
        rw [List.getD_eq_getElem?_getD, h]
        rfl
  · cases h
section
variable {p : Program} {l : Launch} {e : Env} {R : Room} {s : State} {m : MethodId} {args : Array Value} {below : List Frame} {meth : Method} {c : Code} {Q : State → Prop}
variable {prog : Nat → Option zE} {zst : zSt} {TG TN : List Cond} {scr : List zV} {adK adV : Nat → Nat} {ext : Nat → Option Nat} {D : va_G} {ct : Nat → ClassId} {A : Nat → Prop} {E : zE} {rc rs d : Nat} {ws0 : va_W}
theorem z_invL (C : zCx p R s m args meth c prog zst TG TN scr adK adV ext D ct A E rc rs d) (hG : zGood TG) (hTN : zTNok TN) (HL : zSL l zst TG TN scr adK adV ext D ct d) (hLw0 : ∀ w ∈ zmwords zESL ++ zmwords zESC, w ∈ TG) {K : zS → Bool}
    (IH : ∀ x, K x = true → zGo p l e R s m args below meth c Q ext D ct (zEm E) rc rs A ws0 x) {ix pc nc ns q : Nat} {L : zL} {r : List zV} {h : zH} {ls : Array Slot} {stc : List Value} {H : Heap} {locs : List Loc} {ws : va_W} {x : Int32}
    (hrel : zRel ext D ct (zEm E) rc rs A s.heap ws0 L (.inl (.ref q) :: r) h nc ns ls stc H locs ws) (hl0 : Cond.methodLink E.1.cls ix zySL ∈ TG) (hdg : decode E.2.1 pc = .ok (.invokevirtual ix, 3)) (hx : zslen q = some x) (h7 : zsum r ≤ 8)
    (hz : K (pc + 3, L, .inl (.int x) :: r, h, nc, ns) = true) : W p l e R s m args below meth c H locs nc ns Q (F0 m pc ls stc) := by
  have hLw : ∀ w ∈ zmwords zESL, w ∈ TG := fun w h => hLw0 w (List.mem_append_left _ h)
  obtain ⟨hl, hL, hst, hH, hP, hD, hS, hnc, hns, hpre⟩ := hrel
  obtain ⟨v0, rest, rfl, g0, hrest⟩ := zL2_cons hst
  obtain ⟨b, hb, rfl⟩ := g0
  unfold zslen at hx
  split at hx
  · next hq =>
    have hx := Option.some.inj hx
    subst hx
    obtain ⟨i, hi, rfl⟩ : ∃ i, i < 8 ∧ q = 1000000 + i := ⟨q - 1000000, by omega, by omega⟩
    have hF := C.2.2.2.2.2.2.2.2.1
    have hbi : b = adK i := by
      have h1 := hF.2.1 i hi
      unfold zrho at hb
      rw [if_neg (by omega), h1] at hb
      exact (Option.some.inj hb).symm
    subst hbi
    rw [show 1000000 + i - 1000000 = i by omega] at hz
    have hpay := z_pay C hG hLw
    obtain ⟨w1, w2, w3, w4⟩ := z_mw hLw
    have hts := C.2.2.2.2.1
    have hA : ∀ q, s.heap.size ≤ q → A q := C.2.2.2.2.2.2.2.2.2.2.2.2.1
    have hfr := C.2.2.2.2.2.2.2.2.2.2.2.2.2.1
    have hlo := C.2.2.2.2.2.2.2.2.2.2.2.2.2.2.1
    have hrc : rc ≤ R.cells ∧ rs ≤ R.slots := ⟨C.2.2.2.2.2.2.2.2.2.2.2.2.2.2.2.1, C.2.2.2.2.2.2.2.2.2.2.2.2.2.2.2.2.1⟩
    have cb : CallB R s args E.1.cls ix zySL zESL.2.1 (zEm zESL) zESL.2.2.2.1 (zWS TG zESL) (zrm zESL d) 0 0 0 := by
      refine ⟨rfl, rfl, hfr, ?_, hpay, List.mem_cons_self, hts _ w1, hts _ w2, ⟨by decide, by decide⟩, fun sig h => ?_, hts _ hl0⟩
      · show 8 + (1 + 11) + 60 * (d + 1) ≤ R.locals
        omega
      · have h9 : (parseMethodDescriptor zySL.desc).map (fun d => d.parameters.length) = some 0 := by decide +kernel
        rw [h] at h9
        exact (Option.some.inj h9).symm
    have hpcB : ∀ U : State, U.heap = H → s.WarmedH U.vm → va_Pc [Value.ref (adK i)] (zPcB zst TN scr adK adV ext D ct ws H.size) (Value.ref (adK i) :: []).toArray U := fun U hU hW => ⟨rfl, zPcB_at C hTN hP hD hS hU hW⟩
    have hM := HL.1 i hi h ws H.size hH
    refine z_after (mc := 0) (ms := 0) hA hl hL hrest hD hS hnc hns hpre (va_runV (As := []) (n := 0) (C := "java/lang/String") (nL := zEm E) ⟨C.1, C.2.1, C.2.2.1, C.2.2.2.1, C.2.2.2.2.1⟩ hM ⟨cb, hts _ (w4 (by decide)).1, hts _ ((w4 (by decide)).2 (by decide))⟩ ⟨zPcB_blind hTN, vk_recv hF.2.2.1 hi hS, hpcB⟩ rfl rfl hl.1 rfl (lv_room (by rw [zL2_sum hrest]; exact h7)) hdg ⟨by omega, by omega⟩) (fun r' h' hp => ?_)
    obtain ⟨p1, p2⟩ := z_and hp
    have p1 := of_decide_eq_true p1
    have p2 := of_decide_eq_true p2
    subst p1
    subst p2
    exact IH _ hz
  · cases hx
theorem z_invC (C : zCx p R s m args meth c prog zst TG TN scr adK adV ext D ct A E rc rs d) (hG : zGood TG) (hTN : zTNok TN) (HL : zSL l zst TG TN scr adK adV ext D ct d) (hLw0 : ∀ w ∈ zmwords zESL ++ zmwords zESC, w ∈ TG) {K : zS → Bool}
    (IH : ∀ x, K x = true → zGo p l e R s m args below meth c Q ext D ct (zEm E) rc rs A ws0 x) {ix pc nc ns q : Nat} {L : zL} {r : List zV} {h : zH} {ls : Array Slot} {stc : List Value} {H : Heap} {locs : List Loc} {ws : va_W} {x y : Int32}
    (hrel : zRel ext D ct (zEm E) rc rs A s.heap ws0 L (.inl (.int y) :: .inl (.ref q) :: r) h nc ns ls stc H locs ws) (hl0 : Cond.methodLink E.1.cls ix zySC ∈ TG) (hdg : decode E.2.1 pc = .ok (.invokevirtual ix, 3)) (hx : zsch q y = some x) (h7 : zsum r ≤ 8)
    (hz : K (pc + 3, L, .inl (.int x) :: r, h, nc, ns) = true) : W p l e R s m args below meth c H locs nc ns Q (F0 m pc ls stc) := by
  have hLw : ∀ w ∈ zmwords zESC, w ∈ TG := fun w h => hLw0 w (List.mem_append_right _ h)
  obtain ⟨hl, hL, hst, hH, hP, hD, hS, hnc, hns, hpre⟩ := hrel
  obtain ⟨w0, v0, rest, rfl, gy, g0, hrest⟩ := zL2_2 hst
  cases gy
  obtain ⟨b, hb, rfl⟩ := g0
  obtain ⟨i, k, hi, hk, rfl, rfl, rfl⟩ := zsch_sp hx
  have hF := C.2.2.2.2.2.2.2.2.1
  have hbi : b = adK i := by
    have h1 := hF.2.1 i hi
    unfold zrho at hb
    rw [if_neg (by omega), h1] at hb
    exact (Option.some.inj hb).symm
  subst hbi
  have hpay := z_pay C hG hLw
  obtain ⟨w1, w2, w3, w4⟩ := z_mw hLw
  have hts := C.2.2.2.2.1
  have hA : ∀ q, s.heap.size ≤ q → A q := C.2.2.2.2.2.2.2.2.2.2.2.2.1
  have hfr := C.2.2.2.2.2.2.2.2.2.2.2.2.2.1
  have hlo := C.2.2.2.2.2.2.2.2.2.2.2.2.2.2.1
  have hrc : rc ≤ R.cells ∧ rs ≤ R.slots := ⟨C.2.2.2.2.2.2.2.2.2.2.2.2.2.2.2.1, C.2.2.2.2.2.2.2.2.2.2.2.2.2.2.2.2.1⟩
  have cb : CallB R s args E.1.cls ix zySC zESC.2.1 (zEm zESC) zESC.2.2.2.1 (zWS TG zESC) (zrm zESC d) 0 0 1 := by
    refine ⟨rfl, rfl, hfr, ?_, hpay, List.mem_cons_self, hts _ w1, hts _ w2, ⟨by decide, by decide⟩, fun sig h => ?_, hts _ hl0⟩
    · show 8 + (2 + 11) + 60 * (d + 1) ≤ R.locals
      omega
    · have h9 : (parseMethodDescriptor zySC.desc).map (fun d => d.parameters.length) = some 1 := by decide +kernel
      rw [h] at h9
      exact (Option.some.inj h9).symm
  have hpcB : ∀ U : State, U.heap = H → s.WarmedH U.vm → va_Pc [Value.ref (adK i), .int (Int32.ofNat k)] (zPcB zst TN scr adK adV ext D ct ws H.size) (Value.ref (adK i) :: [.int (Int32.ofNat k)]).toArray U := fun U hU hW => ⟨rfl, zPcB_at C hTN hP hD hS hU hW⟩
  have hM := HL.2 i k hi hk h ws H.size hH
  refine z_after (mc := 0) (ms := 0) hA hl hL hrest hD hS hnc hns hpre (va_runV (As := [.int (Int32.ofNat k)]) (n := 1) (C := "java/lang/String") (nL := zEm E) ⟨C.1, C.2.1, C.2.2.1, C.2.2.2.1, C.2.2.2.2.1⟩ hM ⟨cb, hts _ (w4 (by decide)).1, hts _ ((w4 (by decide)).2 (by decide))⟩ ⟨zPcB_blind hTN, vk_recv hF.2.2.1 hi hS, hpcB⟩ rfl rfl hl.1 rfl (lv_room (by rw [zL2_sum hrest]; exact h7)) hdg ⟨by omega, by omega⟩) (fun r' h' hp => ?_)
  obtain ⟨p1, p2⟩ := z_and hp
  have p1 := of_decide_eq_true p1
  have p2 := of_decide_eq_true p2
  subst p1
  subst p2
  exact IH _ hz
end
end
section
theorem zfit3 {v : zV} (h : zfit 3 v = true) : ∃ x : Int32, v = .inl (.int x) ∧ (x = 0 ∨ x = 1) := by
  rcases v with (x | x | x | x | _ | x | x) | ⟨_ | _, lo, hi2⟩
  · refine ⟨x, rfl, ?_⟩
    rcases (Bool.or_eq_true _ _).mp (show (x == 0 || x == 1) = true from h) with h5 | h5
    · exact Or.inl (by simpa using h5)
    · exact Or.inr (by simpa using h5)
  · exact absurd h Bool.false_ne_true
  · exact absurd h Bool.false_ne_true
  · exact absurd h Bool.false_ne_true
  · exact absurd h Bool.false_ne_true
  · exact absurd h Bool.false_ne_true
  · exact absurd h Bool.false_ne_true
  · exact absurd h Bool.false_ne_true
  · exact absurd h Bool.false_ne_true
theorem z_nf {ρ : Nat → Option Nat} {k : Nat} {ty : FieldType} {v : zV} {w : Value} (h1 : zkt k ty = true) (h2 : zfit k v = true) (h3 : zg ρ v w) : narrow ty w = w ∧ fits ty w = true := by
  match k, ty, h1 with
  | 0, .int, _ =>
    obtain ⟨x, rfl, -⟩ := zg_I h3 h2
    exact ⟨rfl, rfl⟩
  | 1, .long, _ =>
    obtain ⟨x, rfl, -⟩ := zg_L h3 h2
    exact ⟨rfl, rfl⟩
  | 2, .object n, _ =>
    rcases zg_R h3 h2 with ⟨-, rfl⟩ | ⟨k, a, -, -, rfl⟩ <;> exact ⟨rfl, rfl⟩
  | 2, .array t, _ =>
    rcases zg_R h3 h2 with ⟨-, rfl⟩ | ⟨k, a, -, -, rfl⟩ <;> exact ⟨rfl, rfl⟩
  | 3, .boolean, _ =>
    obtain ⟨x, rfl, hx⟩ := zfit3 h2
    rw [show w = .int x from h3]
    rcases hx with rfl | rfl
    · exact ⟨by decide, by decide⟩
    · exact ⟨by decide, by decide⟩
theorem z_tyok : ∀ a, a < 6 → ∀ k, k < zNf a → zTy a k ≠ .float ∧ zTy a k ≠ .double := by decide +kernel
theorem z_dfv (ρ : Nat → Option Nat) {ty : FieldType} (h : ty ≠ .float ∧ ty ≠ .double) : zg ρ (zdef ty) (defaultValue ty) := by
  cases ty <;> first | exact rfl | exact absurd rfl h.1 | exact absurd rfl h.2
theorem z_L2map {ρ : Nat → Option Nat} {f : Nat → zV} {g : Nat → Value} : ∀ (l : List Nat), (∀ k ∈ l, zg ρ (f k) (g k)) → zL2 ρ (l.map f) (l.map g)
  | [], _ => trivial
  | k :: l, h => ⟨h k List.mem_cons_self, z_L2map l (fun j hj => h j (List.mem_cons_of_mem _ hj))⟩
theorem z_ctu {s : State} {D : va_G} {ct : Nat → ClassId} {t : Nat} {cA : ClassId} (ht : t < 6) (h1 : va_K D vwCl (ztys ct) s) (h2 : va_K D vwCl (ztys ct ++ [(cA, ztyA t)]) s) : cA = ct t := by
  have a1 := (h1.2 t _ (z_tys ct ht)).2
  have a2 := (h2.2 6 (cA, ztyA t) (by rfl)).2
  have key : ∀ (c : ClassId) (ty : FieldType), va_RA s c ty → s.vm.findClass ("[" ++ ty.toString) = some c := by
    intro c ty h
    cases ty <;> first | exact h | (obtain ⟨_, _, _, _, _, h⟩ := h; exact h)
  have b1 := key _ _ a1
  have b2 := key _ _ a2
  exact Option.some.inj (b2.symm.trans b1)
theorem zcpy_get {f g : List zV} {sp dp n j : Nat} {a : zV} (h1 : sp + n ≤ f.length) (h2 : dp + n ≤ g.length) (h : (zcpy f g sp dp n)[j]? = some a) : (dp ≤ j ∧ j < dp + n → f[sp + (j - dp)]? = some a) ∧ (¬ (dp ≤ j ∧ j < dp + n) → g[j]? = some a) := by
  unfold zcpy at h
  have e1 : (g.take dp).length = dp := by rw [List.length_take]; omega
  have e2 : ((f.drop sp).take n).length = n := by rw [List.length_take, List.length_drop]; omega
  refine ⟨fun hj => ?_, fun hj => ?_⟩
  · rw [List.getElem?_append_right (by omega), List.getElem?_append_left (by omega), List.getElem?_take, if_pos (by omega), List.getElem?_drop, e1] at h
    exact h
  · by_cases h3 : j < dp
    · rw [List.getElem?_append_left (by omega), List.getElem?_take, if_pos h3] at h
      exact h
    · rw [List.getElem?_append_right (by omega), List.getElem?_append_right (by omega), List.getElem?_drop, e1, e2, show dp + n + (j - dp - n) = j by omega] at h
      exact h
theorem zcpy_len {f g : List zV} {sp dp n : Nat} (h1 : sp + n ≤ f.length) (h2 : dp + n ≤ g.length) : (zcpy f g sp dp n).length = g.length := by
  unfold zcpy
  rw [List.length_append, List.length_append, List.length_take, List.length_take, List.length_drop, List.length_drop]
  omega
theorem zset_get {α : Type} {l : List α} {i j : Nat} {v a : α} (h : (l.set i v)[j]? = some a) : (j = i ∧ a = v) ∨ (j ≠ i ∧ l[j]? = some a) := by
  by_cases hj : j = i
  · subst hj
    have hl : j < l.length := by
      have := (List.getElem?_eq_some_iff.mp h).1
      simpa using this
    rw [List.getElem?_set_self hl] at h
    exact Or.inl ⟨rfl, (Option.some.inj h).symm⟩
  · rw [List.getElem?_set_ne (Ne.symm hj)] at h
    exact Or.inr ⟨hj, h⟩
theorem zdec_t {bs : ByteArray} {pc : Nat} {d lo hi : Int} {o : Array Int} (h : zdec bs pc (.tableswitch d lo hi o) = true) : ∃ len, decode bs pc = .ok (.tableswitch d lo hi o, len) := by
  unfold zdec at h
  split at h
  · next q1 q2 q3 q4 hq =>
    cases hq
    split at h
    · next q hq =>
      have h1 := of_decide_eq_true h
      obtain ⟨i, len⟩ := q
      cases h1
      exact ⟨len, hq⟩
    · cases h
  · next hq => exact absurd rfl (hq _ _ _ _)
def zglob : List Cond := [.instanceMethod objectInit, .code objectInit ⟨#[0xb1]⟩ 1 none, .native arraycopyName, .static arraycopyName, .initialized "java/lang/System", .static Lib.Math.min.name, .initialized "java/lang/Math", .code Lib.Math.min.name Lib.Math.min.code 2 (some .int), .static Lib.Math.max.name, .code Lib.Math.max.name Lib.Math.max.code 2 (some .int)]
theorem z_aald {p : Program} {l : Launch} {e : Env} {R : Room} {s : State} {m : MethodId} {args : Array Value} {below : List Frame} {meth : Method} {c : Code} {H : Heap} {locs : List Loc} {cells slots : Nat} {Q : State → Prop} {cc : ByteArray} {pc : Nat} {ls : Array Slot} {rest : List Value} {D : va_G} {cl : List vw_C} {a : Nat} {tys : List (ClassId × FieldType)} {ws : va_W} (hexec : p.tables.exec = Jvm.exec) (hb : c.code = cc) (hK : va_K D cl tys s) (hP : va_P D cl ws H) (q0 t0 : Nat) {cA : ClassId} {ty : FieldType} (hty : ty.isReference = true) {n : Nat} {f : Nat → Option Nat} (ha : ws[q0]? = some (a, .inl (cA, n, .inr (.inr (.inr (.inr f)))))) (ht : tys[t0]? = some (cA, ty)) {i : Int32} (hin : vp_in i n) (hdg : decode cc pc = .ok (.aaload, 1))
    (kk : W p l e R s m args below meth c H locs cells slots Q (F0 m (pc + 1) ls (va_rf (f i.toNatClampNeg) :: rest))) : W p l e R s m args below meth c H locs cells slots Q (F0 m pc ls (.int i :: .ref a :: rest)) := by
  have hlt : i.toNatClampNeg < n := Nat.not_le.mp fun q => hin (Or.inr q)
  exact W.aald (v := va_rf (f i.toNatClampNeg)) (ty := ty) hexec hb (hP q0 _ ha) ((hK.2 t0 _ ht).1 n (fun j => va_rf (f j))) hty (fun q => by cases q) (by show ¬ (i < 0 ∨ (arrV _ _ _).slots.size ≤ _); rw [arrV_size]; exact hin) (by show (arrV _ _ _).slots[_]? = _; rw [arrV_read _ _ hlt]) rfl rfl hdg kk
section
variable {p : Program} {l : Launch} {e : Env} {R : Room} {s : State} {m : MethodId} {args : Array Value} {below : List Frame} {meth : Method} {c : Code} {Q : State → Prop}
variable {prog : Nat → Option zE} {zst : zSt} {TG TN : List Cond} {scr : List zV} {adK adV : Nat → Nat} {ext : Nat → Option Nat} {D : va_G} {ct : Nat → ClassId} {A : Nat → Prop} {E : zE} {rc rs d : Nat} {ws0 : va_W}
variable {K : zS → Bool} {cv : zV} {a b k pc nc ns : Nat} {L : zL} {st : List zV} {h : zH} {ls : Array Slot} {stc : List Value} {H : Heap} {locs : List Loc} {ws : va_W} {cc : zK}
theorem z_getf (C : zCx p R s m args meth c prog zst TG TN scr adK adV ext D ct A E rc rs d) (IH : ∀ x, K x = true → zGo p l e R s m args below meth c Q ext D ct (zEm E) rc rs A ws0 x) (hrel : zRel ext D ct (zEm E) rc rs A s.heap ws0 L st h nc ns ls stc H locs ws) {ix : Nat}
    (k1 : zdec E.2.1 pc (.getfield ix) = true) (k2 : zside prog E.1 zst (.getfield ix) cv a b k = true) (k3 : ∀ w ∈ zwords prog E.1.cls (.getfield ix) cv a b, w ∈ TG)
    (hz : zstep zNf zdfl zslen prog (zEm E) rc rs scr cc K (.getfield ix) cv a b k pc L st h nc ns = true) : W p l e R s m args below meth c H locs nc ns Q (F0 m pc ls stc) := by
  have hdg : decode E.2.1 pc = .ok (.getfield ix, 3) := of_decide_eq_true k1
  obtain ⟨hl, hL, hst, hH, hP, hD, hS, hnc, hns, hpre⟩ := hrel
  obtain ⟨hx, hb, hml, hown, hts, -, hK, -, -, -, -, -, hA, -, -, -, -, -, huw⟩ := C
  simp only [zstep] at hz
  split at hz
  · next q r =>
    obtain ⟨fs, h1, h2, hz⟩ := zrow_sp hz
    split at hz
    · next v hv =>
      obtain ⟨v0, rest, rfl, ⟨b0, hb0, rfl⟩, hrest⟩ := zL2_cons hst
      obtain ⟨a1, a2⟩ := z_and k2
      obtain ⟨a2, a3⟩ := z_and a2
      have a1 := z_blt a1
      have a3 : (zTf a b).1 = zRf a := of_decide_eq_true a3
      obtain ⟨fv, g1, g2⟩ := z_refobj hH h1 h2 (by omega) hb0
      obtain ⟨w, g3, g4⟩ := zL2_get b g2 hv
      exact va_get hx hb hts (fun w hw => huw w (z_uws a1 w hw)) hown hK hP q g1 (z_cl a1) b (z_blt a2) (ref := zRf a) (hts _ (k3 _ List.mem_cons_self)) (fun x hx => by rw [a3] at hx; exact hx) g3 hdg (IH _ hz ls _ H locs ws ⟨hl, hL, ⟨g4, hrest⟩, hH, hP, hD, hS, hnc, hns, hpre⟩)
    · cases hz
  · cases hz
theorem z_putf (C : zCx p R s m args meth c prog zst TG TN scr adK adV ext D ct A E rc rs d) (IH : ∀ x, K x = true → zGo p l e R s m args below meth c Q ext D ct (zEm E) rc rs A ws0 x) (hrel : zRel ext D ct (zEm E) rc rs A s.heap ws0 L st h nc ns ls stc H locs ws) {ix : Nat}
    (k1 : zdec E.2.1 pc (.putfield ix) = true) (k2 : zside prog E.1 zst (.putfield ix) cv a b k = true) (k3 : ∀ w ∈ zwords prog E.1.cls (.putfield ix) cv a b, w ∈ TG)
    (hz : zstep zNf zdfl zslen prog (zEm E) rc rs scr cc K (.putfield ix) cv a b k pc L st h nc ns = true) : W p l e R s m args below meth c H locs nc ns Q (F0 m pc ls stc) := by
  have hdg : decode E.2.1 pc = .ok (.putfield ix, 3) := of_decide_eq_true k1
  obtain ⟨hl, hL, hst, hH, hP, hD, hS, hnc, hns, hpre⟩ := hrel
  obtain ⟨hx, hb, hml, hown, hts, hini, hK, -, -, -, -, -, hA, -, -, -, -, -, huw⟩ := C
  simp only [zstep] at hz
  split at hz
  · next v q r =>
    obtain ⟨fs, h1, h2, hz⟩ := zrow_sp hz
    obtain ⟨h3, hz⟩ := z_and hz
    obtain ⟨h4, hz⟩ := z_and hz
    obtain ⟨w, v0, rest, rfl, hg, ⟨b0, hb0, rfl⟩, hrest⟩ := zL2_2 hst
    obtain ⟨a1, a2⟩ := z_and k2
    obtain ⟨a2, a3⟩ := z_and a2
    obtain ⟨a3, a4⟩ := z_and a3
    obtain ⟨a4, a5⟩ := z_and a4
    have a1 := z_blt a1
    have a3 : (zTf a b).1 = zRf a := of_decide_eq_true a3
    obtain ⟨fv, g1, g2⟩ := z_refobj hH h1 h2 (by omega) hb0
    obtain ⟨n1, n2⟩ := z_nf a4 h4 hg
    have hlen := zL2_len g2
    have hin : ∀ w ∈ u_ws (zRf a) (zTf a) (zNf a), w ∈ TG := fun w hw => huw w (z_uws a1 w hw)
    have fin : ∀ (H1 : Heap) (locs1 : List Loc), va_P D vwCl (ws.set q (b0, .inr (a, fv.set b w))) H1 → va_D A (ws.set q (b0, .inr (a, fv.set b w))) → va_S A s.heap H1 locs1 → W p l e R s m args below meth c H1 locs1 nc ns Q (F0 m (pc + 3) ls rest) := fun H1 locs1 hP1 hD1 hS1 => by
      have er := zrho_set (ext := ext) (e := .inr (a, fv.set b w)) g1
      refine IH _ hz ls _ H1 locs1 _ ⟨hl, by rw [er]; exact hL, by rw [er]; exact hrest, ?_, hP1, hD1, hS1, hnc, hns, zPre_tr hpre (zPre_set g1)⟩
      rw [er]
      exact zHp_set hH ⟨rfl, by show a < 10; omega, zL2_set hg b g2⟩
    by_cases hf : (zTf a b).2.2.2 = true
    · have a6 : (decide (E.1.name = "<init>") && decide (zRf a = E.1.cls)) = true := by
        rcases (Bool.or_eq_true _ _).mp a5 with q1 | q1
        · rw [hf] at q1
          cases q1
        · exact q1
      obtain ⟨a6, a7⟩ := z_and a6
      exact va_putF hx hb hts hin (zTy a) (z_ty a1) (z_nm a1) hown hK hP hD hS q g1 (z_cl a1) b (z_blt a2) (ref := zRf a) (hts _ (k3 _ List.mem_cons_self)) (fun x hx => by rw [a3] at hx; exact hx) hf (hini (of_decide_eq_true a6)) (a3.trans (of_decide_eq_true a7)) (z_ty a1 b (z_blt a2)) n1 n2 (by rw [← hlen]; exact z_blt h3) hdg fin
    · exact va_put hx hb hts hin (zTy a) (z_ty a1) (z_nm a1) hown hK hP hD hS q g1 (z_cl a1) b (z_blt a2) (ref := zRf a) (hts _ (k3 _ List.mem_cons_self)) (fun x hx => by rw [a3] at hx; exact hx) (by simpa using hf) (z_ty a1 b (z_blt a2)) n1 n2 (by rw [← hlen]; exact z_blt h3) hdg fin
  · cases hz
theorem z_new (C : zCx p R s m args meth c prog zst TG TN scr adK adV ext D ct A E rc rs d) (IH : ∀ x, K x = true → zGo p l e R s m args below meth c Q ext D ct (zEm E) rc rs A ws0 x) (hrel : zRel ext D ct (zEm E) rc rs A s.heap ws0 L st h nc ns ls stc H locs ws) {ix : Nat}
    (k1 : zdec E.2.1 pc (.new ix) = true) (k2 : zside prog E.1 zst (.new ix) cv a b k = true) (k3 : ∀ w ∈ zwords prog E.1.cls (.new ix) cv a b, w ∈ TG)
    (hz : zstep zNf zdfl zslen prog (zEm E) rc rs scr cc K (.new ix) cv a b k pc L st h nc ns = true) : W p l e R s m args below meth c H locs nc ns Q (F0 m pc ls stc) := by
  have hdg : decode E.2.1 pc = .ok (.new ix, 3) := of_decide_eq_true k1
  obtain ⟨hl, hL, hst, hH, hP, hD, hS, hnc, hns, hpre⟩ := hrel
  obtain ⟨hx, hb, hml, hown, hts, hini, hK, -, -, -, -, -, hA, -, -, hrc, hrs, -, huw⟩ := C
  simp only [zstep] at hz
  obtain ⟨h1, hz⟩ := z_and hz
  obtain ⟨h2, hz⟩ := z_and hz
  obtain ⟨h3, hz⟩ := z_and hz
  have h1 := z_ble h1
  have h2 := z_ble h2
  have h3 := z_blt h3
  have a1 : a < 6 := z_blt k2
  have hin : ∀ w ∈ u_ws (zRf a) (zTf a) (zNf a), w ∈ TG := fun w hw => huw w (z_uws a1 w hw)
  refine va_new hx hb hts hin (zTy a) (z_ty a1) hown (hts _ (k3 _ (List.mem_cons_self))) (hts _ (k3 _ (List.mem_cons_of_mem _ List.mem_cons_self))) (hts _ (k3 _ (List.mem_cons_of_mem _ (List.mem_cons_of_mem _ List.mem_cons_self)))) hK hP hD hS hA (z_cl a1) (fs := (List.range (zNf a)).map (fun k => defaultValue (zTy a k))) (fun j hj => by simp [vp_V, hj]) (by omega) (by omega) hdg (fun q H1 hP1 hD1 hS1 => ?_)
  have hm : ∀ k9 a9 : Nat, zrho ws ext k9 = some a9 → zrho (ws ++ [(q, .inr (a, (List.range (zNf a)).map (fun k => defaultValue (zTy a k))))]) ext k9 = some a9 := fun _ _ hk => zrho_app hk
  refine IH _ hz ls _ H1 locs _ ⟨hl, zLo_mono hm hL, ⟨⟨q, ?_, rfl⟩, zL2_mono hm hst⟩, zHp_app (zHp_mono hm hH) (zHp_one ⟨rfl, by show a < 10; omega, z_L2map _ (fun j hj => z_dfv _ (z_tyok a a1 j (List.mem_range.mp hj)))⟩), hP1, hD1, hS1, h1, h2, zPre_tr hpre (zPre_app _ _)⟩
  refine zrho_at h3 (e := .inr (a, (List.range (zNf a)).map (fun k => defaultValue (zTy a k)))) ?_
  rw [hH.1, List.getElem?_append_right (Nat.le_refl _), Nat.sub_self]
  rfl
end
end
section
section
variable {p : Program} {l : Launch} {e : Env} {R : Room} {s : State} {m : MethodId} {args : Array Value} {below : List Frame} {meth : Method} {c : Code} {Q : State → Prop}
variable {prog : Nat → Option zE} {zst : zSt} {TG TN : List Cond} {scr : List zV} {adK adV : Nat → Nat} {ext : Nat → Option Nat} {D : va_G} {ct : Nat → ClassId} {A : Nat → Prop} {E : zE} {rc rs d : Nat} {ws0 : va_W}
variable {K : zS → Bool} {cv : zV} {a b k pc nc ns : Nat} {L : zL} {st : List zV} {h : zH} {ls : Array Slot} {stc : List Value} {H : Heap} {locs : List Loc} {ws : va_W} {cc : zK}
theorem z_push {x : zV} {t N : Nat} {r : List zV} {rest : List Value} {q : Nat} {f : (Nat → Int32) ⊕ (Nat → Int64) ⊕ (Nat → UInt32) ⊕ (Nat → UInt64) ⊕ (Nat → Option Nat)} {H1 : Heap} {nc' ns' : Nat} (ht : t < 6) (hk : zkd t f) (hv : ∀ (ρ : Nat → Option Nat) (j : Nat), zg ρ x (zval f j))
    (hl : lv_has ls (zEm E) []) (hL : zLo (zrho ws ext) L ls) (hr : zL2 (zrho ws ext) r rest) (hH : zHp (zrho ws ext) ct h ws) (h3 : h.length < 1000000) (hP1 : va_P D vwCl (ws ++ [(q, .inl (ct t, N, f))]) H1) (hD1 : va_D A (ws ++ [(q, .inl (ct t, N, f))])) (hS1 : va_S A s.heap H1 locs) (hnc : nc' ≤ rc) (hns : ns' ≤ rs) (hpre : zPre ws0 ws) :
    zRel ext D ct (zEm E) rc rs A s.heap ws0 L (.inl (.ref h.length) :: r) (h ++ [(10 + t, List.replicate N x)]) nc' ns' ls (.ref q :: rest) H1 locs (ws ++ [(q, .inl (ct t, N, f))]) := by
  have hm : ∀ k9 a9 : Nat, zrho ws ext k9 = some a9 → zrho (ws ++ [(q, .inl (ct t, N, f))]) ext k9 = some a9 := fun _ _ hk => zrho_app hk
  refine ⟨hl, zLo_mono hm hL, ⟨⟨q, ?_, rfl⟩, zL2_mono hm hr⟩, zHp_app (zHp_mono hm hH) (zHp_one ⟨t, rfl, ht, rfl, by simp, hk, fun j a9 hj => ?_⟩), hP1, hD1, hS1, hnc, hns, zPre_tr hpre (zPre_app _ _)⟩
  · refine zrho_at h3 (e := .inl (ct t, N, f)) ?_
    rw [hH.1, List.getElem?_append_right (Nat.le_refl _), Nat.sub_self]
    rfl
  · have h1 := List.eq_of_mem_replicate (List.mem_of_getElem? hj)
    rw [h1]
    exact hv _ _
theorem z_newa (C : zCx p R s m args meth c prog zst TG TN scr adK adV ext D ct A E rc rs d) (IH : ∀ x, K x = true → zGo p l e R s m args below meth c Q ext D ct (zEm E) rc rs A ws0 x) (hrel : zRel ext D ct (zEm E) rc rs A s.heap ws0 L st h nc ns ls stc H locs ws) {ty : ArrayType}
    (k1 : zdec E.2.1 pc (.newarray ty) = true) (k3 : ∀ w ∈ zwords prog E.1.cls (.newarray ty) cv a b, w ∈ TG)
    (hz : zstep zNf zdfl zslen prog (zEm E) rc rs scr cc K (.newarray ty) cv a b k pc L st h nc ns = true) : W p l e R s m args below meth c H locs nc ns Q (F0 m pc ls stc) := by
  have hdg : decode E.2.1 pc = .ok (.newarray ty, 2) := of_decide_eq_true k1
  obtain ⟨hl, hL, hst, hH, hP, hD, hS, hnc, hns, hpre⟩ := hrel
  obtain ⟨hx, hb, hml, hown, hts, hini, hK, -, -, -, -, -, hA, -, -, hrc, hrs, -, huw⟩ := C
  simp only [zstep] at hz
  split at hz
  · next n r =>
    obtain ⟨v0, rest, rfl, h0, hrest⟩ := zL2_cons hst
    cases h0
    split at hz
    · cases hz
    · next hn =>
      obtain ⟨h1, hz⟩ := z_and hz
      obtain ⟨h2, hz⟩ := z_and hz
      obtain ⟨h3, hz⟩ := z_and hz
      obtain ⟨h4, hz⟩ := z_and hz
      have h1 := z_ble h1
      have h2 := z_ble h2
      have h3 := z_ble h3
      have h4 := z_blt h4
      split at hz
      · refine va_newa (atype := .int) hx hb (hts _ (k3 _ List.mem_cons_self)) (ty := .int) rfl hK hP hD hS hA (a0 := (n.toNatClampNeg, .inl (fun _ => 0))) (fun cA => rfl) hn rfl (by show n.toNatClampNeg * 4 ≤ _; omega) (by omega) (by omega) hdg (fun q cA H1 hK1 hP1 hD1 hS1 => ?_)
        have hc := z_ctu (t := 0) (by omega) hK hK1
        subst hc
        exact IH _ hz ls _ H1 locs _ (z_push (t := 0) (by omega) ⟨_, rfl⟩ (fun _ _ => rfl) hl hL hrest hH h4 hP1 hD1 hS1 h2 h3 hpre)
      · refine va_newa (atype := .long) hx hb (hts _ (k3 _ List.mem_cons_self)) (ty := .long) rfl hK hP hD hS hA (a0 := (n.toNatClampNeg, .inr (.inl (fun _ => 0)))) (fun cA => rfl) hn rfl (by show n.toNatClampNeg * 8 ≤ _; omega) (by omega) (by omega) hdg (fun q cA H1 hK1 hP1 hD1 hS1 => ?_)
        have hc := z_ctu (t := 1) (by omega) hK hK1
        subst hc
        exact IH _ hz ls _ H1 locs _ (z_push (t := 1) (by omega) ⟨_, rfl⟩ (fun _ _ => rfl) hl hL hrest hH h4 hP1 hD1 hS1 h2 h3 hpre)
      · refine va_newa (atype := .boolean) hx hb (hts _ (k3 _ List.mem_cons_self)) (ty := .boolean) rfl hK hP hD hS hA (a0 := (n.toNatClampNeg, .inl (fun _ => 0))) (fun cA => rfl) hn rfl (by show n.toNatClampNeg * 1 ≤ _; omega) (by omega) (by omega) hdg (fun q cA H1 hK1 hP1 hD1 hS1 => ?_)
        have hc := z_ctu (t := 5) (by omega) hK hK1
        subst hc
        exact IH _ hz ls _ H1 locs _ (z_push (t := 5) (by omega) ⟨_, rfl⟩ (fun _ _ => rfl) hl hL hrest hH h4 hP1 hD1 hS1 h2 h3 hpre)
      · cases hz
  · cases hz
theorem z_newq (C : zCx p R s m args meth c prog zst TG TN scr adK adV ext D ct A E rc rs d) (IH : ∀ x, K x = true → zGo p l e R s m args below meth c Q ext D ct (zEm E) rc rs A ws0 x) (hrel : zRel ext D ct (zEm E) rc rs A s.heap ws0 L st h nc ns ls stc H locs ws) {ix : Nat}
    (k1 : zdec E.2.1 pc (.anewarray ix) = true) (k3 : ∀ w ∈ zwords prog E.1.cls (.anewarray ix) cv a b, w ∈ TG)
    (hz : zstep zNf zdfl zslen prog (zEm E) rc rs scr cc K (.anewarray ix) cv a b k pc L st h nc ns = true) : W p l e R s m args below meth c H locs nc ns Q (F0 m pc ls stc) := by
  have hdg : decode E.2.1 pc = .ok (.anewarray ix, 3) := of_decide_eq_true k1
  obtain ⟨hl, hL, hst, hH, hP, hD, hS, hnc, hns, hpre⟩ := hrel
  obtain ⟨hx, hb, hml, hown, hts, hini, hK, -, -, hAO, -, -, hA, -, -, hrc, hrs, -, huw⟩ := C
  simp only [zstep] at hz
  split at hz
  · next n r =>
    obtain ⟨v0, rest, rfl, h0, hrest⟩ := zL2_cons hst
    cases h0
    split at hz
    · cases hz
    · next hn =>
      obtain ⟨h1, hz⟩ := z_and hz
      obtain ⟨h2, hz⟩ := z_and hz
      obtain ⟨h3, hz⟩ := z_and hz
      obtain ⟨h4, hz⟩ := z_and hz
      have h1 := z_ble h1
      have h2 := z_ble h2
      have h3 := z_ble h3
      have h4 := z_blt h4
      refine va_newq hx hb hown (hts _ (k3 _ List.mem_cons_self)) hAO hK hP hD hS hA hn rfl (by omega) (by omega) (by omega) hdg (fun q cA H1 hK1 hP1 hD1 hS1 => ?_)
      have hc := z_ctu (t := 2) (by omega) hK hK1
      subst hc
      exact IH _ hz ls _ H1 locs _ (z_push (t := 2) (f := .inr (.inr (.inr (.inr (fun _ => none))))) (by omega) ⟨_, rfl⟩ (fun _ _ => rfl) hl hL hrest hH h4 hP1 hD1 hS1 h2 h3 hpre)
  · cases hz
theorem z_ild (C : zCx p R s m args meth c prog zst TG TN scr adK adV ext D ct A E rc rs d) (IH : ∀ x, K x = true → zGo p l e R s m args below meth c Q ext D ct (zEm E) rc rs A ws0 x) (hrel : zRel ext D ct (zEm E) rc rs A s.heap ws0 L st h nc ns ls stc H locs ws)
    (k1 : zdec E.2.1 pc .iaload = true) (hz : zstep zNf zdfl zslen prog (zEm E) rc rs scr cc K .iaload cv a b k pc L st h nc ns = true) : W p l e R s m args below meth c H locs nc ns Q (F0 m pc ls stc) := by
  have hdg : decode E.2.1 pc = .ok (.iaload, 1) := of_decide_eq_true k1
  obtain ⟨hl, hL, hst, hH, hP, hD, hS, hnc, hns, hpre⟩ := hrel
  obtain ⟨hx, hb, hml, hown, hts, hini, hK, -, hF, -, -, -, hA, -⟩ := C
  simp only [zstep] at hz
  split at hz
  · next i q r =>
    obtain ⟨w, v0, rest, rfl, h0, ⟨b0, hb0, rfl⟩, hrest⟩ := zL2_2 hst
    cases h0
    split at hz
    · next hq =>
      subst hq
      obtain ⟨v, hv, hin, hz⟩ := zel_sp hz
      obtain ⟨-, -, -, -, ⟨b1, xs, f1, f2, f3, f4, f5⟩, -⟩ := hF
      unfold zrho at hb0
      rw [if_neg (Nat.not_lt.mpr (Nat.le_of_ble_eq_true rfl)), f1] at hb0
      cases hb0
      have hg := f5 _ _ hv
      exact va_sld hx hb f4 f3 f2 hS hin hdg (IH _ hz ls _ H locs ws ⟨hl, hL, ⟨zg_mono (fun _ _ hk => by cases hk) hg.2, hrest⟩, hH, hP, hD, hS, hnc, hns, hpre⟩)
    split at hz
    · next hq =>
      subst hq
      obtain ⟨v, hv, hin, hz⟩ := zel_sp hz
      obtain ⟨-, -, -, -, -, b1, xs, f1, f2, f3, f4, f6, f5⟩ := hF
      unfold zrho at hb0
      rw [if_neg (Nat.not_lt.mpr (Nat.le_of_ble_eq_true rfl)), f1] at hb0
      cases hb0
      have hg := f5 _ _ hv
      subst hg
      exact va_sld hx hb f4 f3 f2 hS hin hdg (IH _ hz ls _ H locs ws ⟨hl, hL, ⟨rfl, hrest⟩, hH, hP, hD, hS, hnc, hns, hpre⟩)
    · obtain ⟨vs, h1, h2, hz⟩ := zrow_sp hz
      obtain ⟨v, hv, hin, hz⟩ := zel_sp hz
      obtain ⟨n, f, g1, g2, g3, ⟨f, rfl⟩, g5⟩ := z_refarr (t := 0) hH h1 h2 hb0
      exact va_iald hx hb hK hP q 0 g1 rfl (by rw [← g3]; exact hin) hdg (IH _ hz ls _ H locs ws ⟨hl, hL, ⟨g5 _ _ hv, hrest⟩, hH, hP, hD, hS, hnc, hns, hpre⟩)
  · cases hz
theorem z_lld (C : zCx p R s m args meth c prog zst TG TN scr adK adV ext D ct A E rc rs d) (IH : ∀ x, K x = true → zGo p l e R s m args below meth c Q ext D ct (zEm E) rc rs A ws0 x) (hrel : zRel ext D ct (zEm E) rc rs A s.heap ws0 L st h nc ns ls stc H locs ws)
    (k1 : zdec E.2.1 pc .laload = true) (hz : zstep zNf zdfl zslen prog (zEm E) rc rs scr cc K .laload cv a b k pc L st h nc ns = true) : W p l e R s m args below meth c H locs nc ns Q (F0 m pc ls stc) := by
  have hdg : decode E.2.1 pc = .ok (.laload, 1) := of_decide_eq_true k1
  obtain ⟨hl, hL, hst, hH, hP, hD, hS, hnc, hns, hpre⟩ := hrel
  obtain ⟨hx, hb, hml, hown, hts, hini, hK, -, hF, -, -, -, hA, -⟩ := C
  simp only [zstep] at hz
  split at hz
  · next i q r =>
    obtain ⟨w, v0, rest, rfl, h0, ⟨b0, hb0, rfl⟩, hrest⟩ := zL2_2 hst
    cases h0
    obtain ⟨vs, h1, h2, hz⟩ := zrow_sp hz
    obtain ⟨v, hv, hin, hz⟩ := zel_sp hz
    obtain ⟨n, f, g1, g2, g3, ⟨f, rfl⟩, g5⟩ := z_refarr (t := 1) hH h1 h2 hb0
    exact va_lald hx hb hK hP q 1 g1 rfl (by rw [← g3]; exact hin) hdg (IH _ hz ls _ H locs ws ⟨hl, hL, ⟨g5 _ _ hv, hrest⟩, hH, hP, hD, hS, hnc, hns, hpre⟩)
  · cases hz
theorem z_ald (C : zCx p R s m args meth c prog zst TG TN scr adK adV ext D ct A E rc rs d) (IH : ∀ x, K x = true → zGo p l e R s m args below meth c Q ext D ct (zEm E) rc rs A ws0 x) (hrel : zRel ext D ct (zEm E) rc rs A s.heap ws0 L st h nc ns ls stc H locs ws)
    (k1 : zdec E.2.1 pc .aaload = true) (hz : zstep zNf zdfl zslen prog (zEm E) rc rs scr cc K .aaload cv a b k pc L st h nc ns = true) : W p l e R s m args below meth c H locs nc ns Q (F0 m pc ls stc) := by
  have hdg : decode E.2.1 pc = .ok (.aaload, 1) := of_decide_eq_true k1
  obtain ⟨hl, hL, hst, hH, hP, hD, hS, hnc, hns, hpre⟩ := hrel
  obtain ⟨hx, hb, hml, hown, hts, hini, hK, -, hF, -, -, -, hA, -⟩ := C
  simp only [zstep] at hz
  split at hz
  · next i q r =>
    obtain ⟨w, v0, rest, rfl, h0, ⟨b0, hb0, rfl⟩, hrest⟩ := zL2_2 hst
    cases h0
    split at hz
    · next x hx0 =>
      obtain ⟨h2, hz⟩ := z_and hz
      obtain ⟨h3, hz⟩ := z_and hz
      have h3 := z_ble h3
      obtain ⟨h4, hz⟩ := z_and hz
      have h4 := z_ble h4
      obtain ⟨x1, x2⟩ := x
      obtain ⟨v, hv, hin, hz2⟩ := zel_sp hz
      obtain ⟨t, rfl⟩ : ∃ t, x1 = 10 + (t + 2) := ⟨x1 - 12, by have : 12 ≤ x1 := h3; omega⟩
      have h4 : 10 + (t + 2) ≤ 14 := h4
      obtain ⟨n, f, g1, g2, g3, g4, g5⟩ := z_refarr (t := t + 2) hH hx0 (z_blt h2) hb0
      obtain ⟨f, rfl⟩ : ∃ f', f = .inr (.inr (.inr (.inr f'))) := by
        match t, h4, g4 with
        | 0, _, g4 => exact g4
        | 1, _, g4 => exact g4
        | 2, _, g4 => exact g4
        | t + 3, h4, _ => exact absurd h4 (by omega)
      refine z_aald hx hb hK hP q (t + 2) (ty := ztyA (t + 2)) ?_ g1 (z_tys ct g2) (by rw [← g3]; exact hin) hdg (IH _ hz2 ls _ H locs ws ⟨hl, hL, ⟨g5 _ _ hv, hrest⟩, hH, hP, hD, hS, hnc, hns, hpre⟩)
      match t, h4 with
      | 0, _ => rfl
      | 1, _ => rfl
      | 2, _ => rfl
      | t + 3, h4 => exact absurd h4 (by omega)
    · cases hz
  · cases hz
theorem z_ist (C : zCx p R s m args meth c prog zst TG TN scr adK adV ext D ct A E rc rs d) (IH : ∀ x, K x = true → zGo p l e R s m args below meth c Q ext D ct (zEm E) rc rs A ws0 x) (hrel : zRel ext D ct (zEm E) rc rs A s.heap ws0 L st h nc ns ls stc H locs ws)
    (k1 : zdec E.2.1 pc .iastore = true) (hz : zstep zNf zdfl zslen prog (zEm E) rc rs scr cc K .iastore cv a b k pc L st h nc ns = true) : W p l e R s m args below meth c H locs nc ns Q (F0 m pc ls stc) := by
  have hdg : decode E.2.1 pc = .ok (.iastore, 1) := of_decide_eq_true k1
  obtain ⟨hl, hL, hst, hH, hP, hD, hS, hnc, hns, hpre⟩ := hrel
  obtain ⟨hx, hb, hml, hown, hts, hini, hK, -, hF, -, -, -, hA, -⟩ := C
  simp only [zstep] at hz
  split at hz
  · next v i q r =>
    obtain ⟨w, v0, rest0, rfl, hg, h0, hrest0⟩ := zL2_2 hst
    cases h0
    obtain ⟨v1, rest, rfl, ⟨b0, hb0, rfl⟩, hrest⟩ := zL2_cons hrest0
    obtain ⟨h3, hz⟩ := z_and hz
    obtain ⟨x, rfl, -⟩ := zg_I hg h3
    obtain ⟨vs, h1, h2, hz⟩ := zrow_sp hz
    obtain ⟨h4, hz⟩ := z_and hz
    obtain ⟨n, f, g1, g2, g3, ⟨f, rfl⟩, g5⟩ := z_refarr (t := 0) hH h1 h2 hb0
    refine va_iast hx hb hK hP hD hS q 0 g1 rfl (by rw [← g3]; exact zix_sp h4) hdg (fun H1 locs1 hP1 hD1 hS1 => ?_)
    have er := zrho_set (ext := ext) (e := .inl (ct 0, n, .inl (upd f i.toNatClampNeg x))) g1
    refine IH _ hz ls _ H1 locs1 _ ⟨hl, by rw [er]; exact hL, by rw [er]; exact hrest, ?_, hP1, hD1, hS1, hnc, hns, zPre_tr hpre (zPre_set g1)⟩
    rw [er]
    refine zHp_set hH ⟨0, rfl, by omega, rfl, by rw [List.length_set]; exact g3, ⟨_, rfl⟩, fun j a9 hj => ?_⟩
    rcases zset_get hj with ⟨rfl, rfl⟩ | ⟨hne, hj⟩
    · show zg _ _ (.int (upd f i.toNatClampNeg x i.toNatClampNeg))
      rw [pk_us]
      exact hg
    · show zg _ _ (.int (upd f i.toNatClampNeg x j))
      rw [pk_un hne]
      exact g5 _ _ hj
  · cases hz
theorem z_lst (C : zCx p R s m args meth c prog zst TG TN scr adK adV ext D ct A E rc rs d) (IH : ∀ x, K x = true → zGo p l e R s m args below meth c Q ext D ct (zEm E) rc rs A ws0 x) (hrel : zRel ext D ct (zEm E) rc rs A s.heap ws0 L st h nc ns ls stc H locs ws)
    (k1 : zdec E.2.1 pc .lastore = true) (hz : zstep zNf zdfl zslen prog (zEm E) rc rs scr cc K .lastore cv a b k pc L st h nc ns = true) : W p l e R s m args below meth c H locs nc ns Q (F0 m pc ls stc) := by
  have hdg : decode E.2.1 pc = .ok (.lastore, 1) := of_decide_eq_true k1
  obtain ⟨hl, hL, hst, hH, hP, hD, hS, hnc, hns, hpre⟩ := hrel
  obtain ⟨hx, hb, hml, hown, hts, hini, hK, -, hF, -, -, -, hA, -⟩ := C
  simp only [zstep] at hz
  split at hz
  · next v i q r =>
    obtain ⟨w, v0, rest0, rfl, hg, h0, hrest0⟩ := zL2_2 hst
    cases h0
    obtain ⟨v1, rest, rfl, ⟨b0, hb0, rfl⟩, hrest⟩ := zL2_cons hrest0
    obtain ⟨h3, hz⟩ := z_and hz
    obtain ⟨x, rfl, -⟩ := zg_L hg h3
    obtain ⟨vs, h1, h2, hz⟩ := zrow_sp hz
    obtain ⟨h4, hz⟩ := z_and hz
    obtain ⟨n, f, g1, g2, g3, ⟨f, rfl⟩, g5⟩ := z_refarr (t := 1) hH h1 h2 hb0
    refine va_last hx hb hK hP hD hS q 1 g1 rfl (by rw [← g3]; exact zix_sp h4) hdg (fun H1 locs1 hP1 hD1 hS1 => ?_)
    have er := zrho_set (ext := ext) (e := .inl (ct 1, n, .inr (.inl (vp_updL f i.toNatClampNeg x)))) g1
    refine IH _ hz ls _ H1 locs1 _ ⟨hl, by rw [er]; exact hL, by rw [er]; exact hrest, ?_, hP1, hD1, hS1, hnc, hns, zPre_tr hpre (zPre_set g1)⟩
    rw [er]
    refine zHp_set hH ⟨1, rfl, by omega, rfl, by rw [List.length_set]; exact g3, ⟨_, rfl⟩, fun j a9 hj => ?_⟩
    rcases zset_get hj with ⟨rfl, rfl⟩ | ⟨hne, hj⟩
    · show zg _ _ (.long (vp_updL f i.toNatClampNeg x i.toNatClampNeg))
      rw [pk_uLs]
      exact hg
    · show zg _ _ (.long (vp_updL f i.toNatClampNeg x j))
      rw [pk_uLn hne]
      exact g5 _ _ hj
  · cases hz
theorem z_ast (C : zCx p R s m args meth c prog zst TG TN scr adK adV ext D ct A E rc rs d) (IH : ∀ x, K x = true → zGo p l e R s m args below meth c Q ext D ct (zEm E) rc rs A ws0 x) (hrel : zRel ext D ct (zEm E) rc rs A s.heap ws0 L st h nc ns ls stc H locs ws)
    (k1 : zdec E.2.1 pc .aastore = true) (hz : zstep zNf zdfl zslen prog (zEm E) rc rs scr cc K .aastore cv a b k pc L st h nc ns = true) : W p l e R s m args below meth c H locs nc ns Q (F0 m pc ls stc) := by
  have hdg : decode E.2.1 pc = .ok (.aastore, 1) := of_decide_eq_true k1
  obtain ⟨hl, hL, hst, hH, hP, hD, hS, hnc, hns, hpre⟩ := hrel
  obtain ⟨hx, hb, hml, hown, hts, hini, hK, -, hF, -, -, -, hA, -⟩ := C
  simp only [zstep] at hz
  split at hz
  · next o i q r =>
    obtain ⟨w, v0, rest0, rfl, ⟨b1, hb1, rfl⟩, h0, hrest0⟩ := zL2_2 hst
    cases h0
    obtain ⟨v1, rest, rfl, ⟨b0, hb0, rfl⟩, hrest⟩ := zL2_cons hrest0
    obtain ⟨os, o1, o2, hz⟩ := zrow_sp hz
    obtain ⟨vs, h1, h2, hz⟩ := zrow_sp hz
    obtain ⟨h4, hz⟩ := z_and hz
    obtain ⟨fv, p1, p2⟩ := z_refobj hH o1 o2 (by omega) hb1
    obtain ⟨n, f, g1, g2, g3, ⟨f, rfl⟩, g5⟩ := z_refarr (t := 2) hH h1 h2 hb0
    refine va_astq hx hb hK hP hD hS q 2 o 0 (r := (RX0, TX0, 3)) g1 rfl p1 rfl (by rw [← g3]; exact zix_sp h4) hdg (fun H1 locs1 hP1 hD1 hS1 => ?_)
    have er := zrho_set (ext := ext) (e := .inl (ct 2, n, .inr (.inr (.inr (.inr (va_up f i.toNatClampNeg (some b1))))))) g1
    refine IH _ hz ls _ H1 locs1 _ ⟨hl, by rw [er]; exact hL, by rw [er]; exact hrest, ?_, hP1, hD1, hS1, hnc, hns, zPre_tr hpre (zPre_set g1)⟩
    rw [er]
    refine zHp_set hH ⟨2, rfl, by omega, rfl, by rw [List.length_set]; exact g3, ⟨_, rfl⟩, fun j a9 hj => ?_⟩
    rcases zset_get hj with ⟨rfl, rfl⟩ | ⟨hne, hj⟩
    · show zg _ _ (va_rf (va_up f i.toNatClampNeg (some b1) i.toNatClampNeg))
      have : va_up f i.toNatClampNeg (some b1) i.toNatClampNeg = some b1 := if_pos rfl
      rw [this]
      exact ⟨b1, hb1, rfl⟩
    · show zg _ _ (va_rf (va_up f i.toNatClampNeg (some b1) j))
      have : va_up f i.toNatClampNeg (some b1) j = f j := if_neg hne
      rw [this]
      exact g5 _ _ hj
  · cases hz
theorem z_alen (C : zCx p R s m args meth c prog zst TG TN scr adK adV ext D ct A E rc rs d) (IH : ∀ x, K x = true → zGo p l e R s m args below meth c Q ext D ct (zEm E) rc rs A ws0 x) (hrel : zRel ext D ct (zEm E) rc rs A s.heap ws0 L st h nc ns ls stc H locs ws)
    (k1 : zdec E.2.1 pc .arraylength = true) (hz : zstep zNf zdfl zslen prog (zEm E) rc rs scr cc K .arraylength cv a b k pc L st h nc ns = true) : W p l e R s m args below meth c H locs nc ns Q (F0 m pc ls stc) := by
  have hdg : decode E.2.1 pc = .ok (.arraylength, 1) := of_decide_eq_true k1
  obtain ⟨hl, hL, hst, hH, hP, hD, hS, hnc, hns, hpre⟩ := hrel
  obtain ⟨hx, hb, hml, hown, hts, hini, hK, -, hF, -, -, -, hA, -⟩ := C
  simp only [zstep] at hz
  split at hz
  · next q r =>
    obtain ⟨v0, rest, rfl, ⟨b0, hb0, rfl⟩, hrest⟩ := zL2_cons hst
    split at hz
    · next hq =>
      subst hq
      obtain ⟨-, -, -, -, ⟨b1, xs, f1, f2, f3, f4, f5⟩, -⟩ := hF
      unfold zrho at hb0
      rw [if_neg (Nat.not_lt.mpr (Nat.le_of_ble_eq_true rfl)), f1] at hb0
      cases hb0
      exact va_slen hx hb f4 f3 f2 hS hdg (IH _ hz ls _ H locs ws ⟨hl, hL, ⟨rfl, hrest⟩, hH, hP, hD, hS, hnc, hns, hpre⟩)
    · split at hz
      · next x hx0 =>
        obtain ⟨h2, hz⟩ := z_and hz
        obtain ⟨h3, hz⟩ := z_and hz
        have h3 := z_ble h3
        obtain ⟨x1, x2⟩ := x
        obtain ⟨t, rfl⟩ : ∃ t, x1 = 10 + t := ⟨x1 - 10, by have : 10 ≤ x1 := h3; omega⟩
        obtain ⟨n, f, g1, g2, g3, g4, g5⟩ := z_refarr (t := t) hH hx0 (z_blt h2) hb0
        exact va_alen hx hb hK hP q t g1 (z_tys ct g2) (v := Int32.ofNat x2.length) (by rw [← g3]) hdg (IH _ hz ls _ H locs ws ⟨hl, hL, ⟨rfl, hrest⟩, hH, hP, hD, hS, hnc, hns, hpre⟩)
      · cases hz
  · cases hz
theorem z_acopy (C : zCx p R s m args meth c prog zst TG TN scr adK adV ext D ct A E rc rs d) (hgl : ∀ w ∈ zglob, w ∈ TG) (IH : ∀ x, K x = true → zGo p l e R s m args below meth c Q ext D ct (zEm E) rc rs A ws0 x) (hrel : zRel ext D ct (zEm E) rc rs A s.heap ws0 L st h nc ns ls stc H locs ws) {ix : Nat}
    (hdg : decode E.2.1 pc = .ok (.invokestatic ix, 3)) (k3 : Cond.methodLink E.1.cls ix arraycopyName ∈ TG)
    {n dp sp : Int32} {q1 q0 : Nat} (est : st = .inl (.int n) :: .inl (.int dp) :: .inl (.ref q1) :: .inl (.int sp) :: .inl (.ref q0) :: []) (h1 : ¬ n < 0) (h2 : ¬ dp < 0) (h3 : ¬ sp < 0) {f g : List zV} (hf : h[q0]? = some (10, f)) (hg : h[q1]? = some (10, g)) (hf2 : q0 < 1000000) (hg2 : q1 < 1000000) (hn1 : sp.toNatClampNeg + n.toNatClampNeg ≤ f.length) (hn2 : dp.toNatClampNeg + n.toNatClampNeg ≤ g.length)
    (hz : K (pc + 3, L, [], h.set q1 (10, zcpy f g sp.toNatClampNeg dp.toNatClampNeg n.toNatClampNeg), nc, ns) = true) : W p l e R s m args below meth c H locs nc ns Q (F0 m pc ls stc) := by
  obtain ⟨hl, hL, hst, hH, hP, hD, hS, hnc, hns, hpre⟩ := hrel
  obtain ⟨hx, hb, hml, hown, hts, hini, hK, -, hF, -, -, -, hA, hfr, hlo, -⟩ := C
  rw [est] at hst
  obtain ⟨w1, w2, r1, rfl, e1, e2, hst1⟩ := zL2_2 hst
  obtain ⟨w3, w4, r2, rfl, ⟨b1, hb1, rfl⟩, e4, hst2⟩ := zL2_2 hst1
  obtain ⟨w5, r3, rfl, ⟨b0, hb0, rfl⟩, hst3⟩ := zL2_cons hst2
  have e5 := zL2_nil hst3
  subst e5
  cases e1
  cases e2
  cases e4
  obtain ⟨n0, f0, g1, g2, g3, ⟨f0, rfl⟩, g5⟩ := z_refarr (t := 0) hH hf hf2 hb0
  obtain ⟨n1, f1, j1, j2, j3, ⟨f1, rfl⟩, j5⟩ := z_refarr (t := 0) hH hg hg2 hb1
  refine va_copyi hx hb (by rw [hml]; exact hl.1.symm) hown (hts _ k3) (hts _ (hgl _ (by simp [zglob]))) (hts _ (hgl _ (by simp [zglob]))) (hts _ (hgl _ (by simp [zglob]))) hK hP hD hS q0 q1 0 0 g1 j1 rfl rfl rfl h3 h2 h1 (by rw [← g3]; exact hn1) (by rw [← j3]; exact hn2) (fun i _ => rfl) (by omega) ?_ hdg (fun H1 locs1 hP1 hD1 hS1 => ?_)
  · have : nativeFrameWords "java/lang/System" "arraycopy" 5 = 7 := by decide +kernel
    rw [this]
    show 0 + 18 ≤ R.locals
    omega
  · have er := zrho_set (ext := ext) (e := .inl (ct 0, n1, .inl (va_cpy f0 f1 sp.toNatClampNeg dp.toNatClampNeg n.toNatClampNeg))) j1
    refine IH _ hz ls _ H1 locs1 _ ⟨hl, by rw [er]; exact hL, trivial, ?_, hP1, hD1, hS1, hnc, hns, zPre_tr hpre (zPre_set j1)⟩
    rw [er]
    refine zHp_set hH ⟨0, rfl, by omega, rfl, by show (zcpy _ _ _ _ _).length = _; rw [zcpy_len hn1 hn2]; exact j3, ⟨_, rfl⟩, fun j a9 hj => ?_⟩
    obtain ⟨c1, c2⟩ := zcpy_get hn1 hn2 hj
    by_cases hjj : dp.toNatClampNeg ≤ j ∧ j < dp.toNatClampNeg + n.toNatClampNeg
    · show zg _ _ (.int (va_cpy f0 f1 sp.toNatClampNeg dp.toNatClampNeg n.toNatClampNeg j))
      rw [pk_cpy_in hjj.1 hjj.2]
      exact g5 _ _ (c1 hjj)
    · show zg _ _ (.int (va_cpy f0 f1 sp.toNatClampNeg dp.toNatClampNeg n.toNatClampNeg j))
      rw [pk_cpy_out (by omega)]
      exact j5 _ _ (c2 hjj)
theorem z_acopyl (C : zCx p R s m args meth c prog zst TG TN scr adK adV ext D ct A E rc rs d) (hgl : ∀ w ∈ zglob, w ∈ TG) (IH : ∀ x, K x = true → zGo p l e R s m args below meth c Q ext D ct (zEm E) rc rs A ws0 x) (hrel : zRel ext D ct (zEm E) rc rs A s.heap ws0 L st h nc ns ls stc H locs ws) {ix : Nat}
    (hdg : decode E.2.1 pc = .ok (.invokestatic ix, 3)) (k3 : Cond.methodLink E.1.cls ix arraycopyName ∈ TG)
    {n dp sp : Int32} {q1 q0 : Nat} (est : st = .inl (.int n) :: .inl (.int dp) :: .inl (.ref q1) :: .inl (.int sp) :: .inl (.ref q0) :: []) (h1 : ¬ n < 0) (h2 : ¬ dp < 0) (h3 : ¬ sp < 0) {f g : List zV} (hf : h[q0]? = some (11, f)) (hg : h[q1]? = some (11, g)) (hf2 : q0 < 1000000) (hg2 : q1 < 1000000) (hn1 : sp.toNatClampNeg + n.toNatClampNeg ≤ f.length) (hn2 : dp.toNatClampNeg + n.toNatClampNeg ≤ g.length)
    (hz : K (pc + 3, L, [], h.set q1 (11, zcpy f g sp.toNatClampNeg dp.toNatClampNeg n.toNatClampNeg), nc, ns) = true) : W p l e R s m args below meth c H locs nc ns Q (F0 m pc ls stc) := by
  obtain ⟨hl, hL, hst, hH, hP, hD, hS, hnc, hns, hpre⟩ := hrel
  obtain ⟨hx, hb, hml, hown, hts, hini, hK, -, hF, -, -, -, hA, hfr, hlo, -⟩ := C
  rw [est] at hst
  obtain ⟨w1, w2, r1, rfl, e1, e2, hst1⟩ := zL2_2 hst
  obtain ⟨w3, w4, r2, rfl, ⟨b1, hb1, rfl⟩, e4, hst2⟩ := zL2_2 hst1
  obtain ⟨w5, r3, rfl, ⟨b0, hb0, rfl⟩, hst3⟩ := zL2_cons hst2
  have e5 := zL2_nil hst3
  subst e5
  cases e1
  cases e2
  cases e4
  obtain ⟨n0, f0, g1, g2, g3, ⟨f0, rfl⟩, g5⟩ := z_refarr (t := 1) hH hf hf2 hb0
  obtain ⟨n1, f1, j1, j2, j3, ⟨f1, rfl⟩, j5⟩ := z_refarr (t := 1) hH hg hg2 hb1
  refine va_copyl hx hb (by rw [hml]; exact hl.1.symm) hown (hts _ k3) (hts _ (hgl _ (by simp [zglob]))) (hts _ (hgl _ (by simp [zglob]))) (hts _ (hgl _ (by simp [zglob]))) hK hP hD hS q0 q1 1 1 g1 j1 rfl rfl rfl h3 h2 h1 (by rw [← g3]; exact hn1) (by rw [← j3]; exact hn2) (fun i _ => rfl) (by omega) ?_ hdg (fun H1 locs1 hP1 hD1 hS1 => ?_)
  · have : nativeFrameWords "java/lang/System" "arraycopy" 5 = 7 := by decide +kernel
    rw [this]
    show 0 + 18 ≤ R.locals
    omega
  · have er := zrho_set (ext := ext) (e := .inl (ct 1, n1, .inr (.inl (va_cpy f0 f1 sp.toNatClampNeg dp.toNatClampNeg n.toNatClampNeg)))) j1
    refine IH _ hz ls _ H1 locs1 _ ⟨hl, by rw [er]; exact hL, trivial, ?_, hP1, hD1, hS1, hnc, hns, zPre_tr hpre (zPre_set j1)⟩
    rw [er]
    refine zHp_set hH ⟨1, rfl, by omega, rfl, by show (zcpy _ _ _ _ _).length = _; rw [zcpy_len hn1 hn2]; exact j3, ⟨_, rfl⟩, fun j a9 hj => ?_⟩
    obtain ⟨c1, c2⟩ := zcpy_get hn1 hn2 hj
    by_cases hjj : dp.toNatClampNeg ≤ j ∧ j < dp.toNatClampNeg + n.toNatClampNeg
    · show zg _ _ (.long (va_cpy f0 f1 sp.toNatClampNeg dp.toNatClampNeg n.toNatClampNeg j))
      rw [pk_cpy_in hjj.1 hjj.2]
      exact g5 _ _ (c1 hjj)
    · show zg _ _ (.long (va_cpy f0 f1 sp.toNatClampNeg dp.toNatClampNeg n.toNatClampNeg j))
      rw [pk_cpy_out (by omega)]
      exact j5 _ _ (c2 hjj)
theorem z_zld (C : zCx p R s m args meth c prog zst TG TN scr adK adV ext D ct A E rc rs d) (IH : ∀ x, K x = true → zGo p l e R s m args below meth c Q ext D ct (zEm E) rc rs A ws0 x) (hrel : zRel ext D ct (zEm E) rc rs A s.heap ws0 L st h nc ns ls stc H locs ws)
    (k1 : zdec E.2.1 pc .baload = true) (hz : zstep zNf zdfl zslen prog (zEm E) rc rs scr cc K .baload cv a b k pc L st h nc ns = true) : W p l e R s m args below meth c H locs nc ns Q (F0 m pc ls stc) := by
  have hdg : decode E.2.1 pc = .ok (.baload, 1) := of_decide_eq_true k1
  obtain ⟨hl, hL, hst, hH, hP, hD, hS, hnc, hns, hpre⟩ := hrel
  obtain ⟨hx, hb, hml, hown, hts, hini, hK, -, hF, -, -, -, hA, -⟩ := C
  simp only [zstep] at hz
  split at hz
  · next i q r =>
    obtain ⟨w, v0, rest, rfl, h0, ⟨b0, hb0, rfl⟩, hrest⟩ := zL2_2 hst
    cases h0
    obtain ⟨vs, h1, h2, hz⟩ := zrow_sp hz
    obtain ⟨v, hv, hin, hz⟩ := zel_sp hz
    obtain ⟨n, f, g1, g2, g3, ⟨f, rfl⟩, g5⟩ := z_refarr (t := 5) hH h1 h2 hb0
    exact va_zald hx hb hK hP q 5 g1 rfl (by rw [← g3]; exact hin) hdg (IH _ hz ls _ H locs ws ⟨hl, hL, ⟨g5 _ _ hv, hrest⟩, hH, hP, hD, hS, hnc, hns, hpre⟩)
  · cases hz
theorem z_nar1 (x : Int32) : vp_nar .boolean x = x &&& 1 := by
  unfold vp_nar narrow
  rfl
theorem z_zst (C : zCx p R s m args meth c prog zst TG TN scr adK adV ext D ct A E rc rs d) (IH : ∀ x, K x = true → zGo p l e R s m args below meth c Q ext D ct (zEm E) rc rs A ws0 x) (hrel : zRel ext D ct (zEm E) rc rs A s.heap ws0 L st h nc ns ls stc H locs ws)
    (k1 : zdec E.2.1 pc .bastore = true) (hz : zstep zNf zdfl zslen prog (zEm E) rc rs scr cc K .bastore cv a b k pc L st h nc ns = true) : W p l e R s m args below meth c H locs nc ns Q (F0 m pc ls stc) := by
  have hdg : decode E.2.1 pc = .ok (.bastore, 1) := of_decide_eq_true k1
  obtain ⟨hl, hL, hst, hH, hP, hD, hS, hnc, hns, hpre⟩ := hrel
  obtain ⟨hx, hb, hml, hown, hts, hini, hK, -, hF, -, -, -, hA, -⟩ := C
  simp only [zstep] at hz
  split at hz
  · next x i q r =>
    obtain ⟨w, v0, rest0, rfl, hg, h0, hrest0⟩ := zL2_2 hst
    cases hg
    cases h0
    obtain ⟨v1, rest, rfl, ⟨b0, hb0, rfl⟩, hrest⟩ := zL2_cons hrest0
    obtain ⟨vs, h1, h2, hz⟩ := zrow_sp hz
    obtain ⟨h4, hz⟩ := z_and hz
    obtain ⟨n, f, g1, g2, g3, ⟨f, rfl⟩, g5⟩ := z_refarr (t := 5) hH h1 h2 hb0
    refine va_zast hx hb hK hP hD hS q 5 g1 rfl (by rw [← g3]; exact zix_sp h4) hdg (fun H1 locs1 hP1 hD1 hS1 => ?_)
    have er := zrho_set (ext := ext) (e := .inl (ct 5, n, .inl (upd f i.toNatClampNeg (vp_nar .boolean x)))) g1
    refine IH _ hz ls _ H1 locs1 _ ⟨hl, by rw [er]; exact hL, by rw [er]; exact hrest, ?_, hP1, hD1, hS1, hnc, hns, zPre_tr hpre (zPre_set g1)⟩
    rw [er]
    refine zHp_set hH ⟨5, rfl, by omega, rfl, by rw [List.length_set]; exact g3, ⟨_, rfl⟩, fun j a9 hj => ?_⟩
    rcases zset_get hj with ⟨rfl, rfl⟩ | ⟨hne, hj⟩
    · show zg _ _ (.int (upd f i.toNatClampNeg (vp_nar .boolean x) i.toNatClampNeg))
      rw [pk_us, z_nar1]
      exact rfl
    · show zg _ _ (.int (upd f i.toNatClampNeg (vp_nar .boolean x) j))
      rw [pk_un hne]
      exact g5 _ _ hj
  · cases hz
theorem z_gst (C : zCx p R s m args meth c prog zst TG TN scr adK adV ext D ct A E rc rs d) (IH : ∀ x, K x = true → zGo p l e R s m args below meth c Q ext D ct (zEm E) rc rs A ws0 x) (hrel : zRel ext D ct (zEm E) rc rs A s.heap ws0 L st h nc ns ls stc H locs ws) {ix : Nat}
    (k1 : zdec E.2.1 pc (.getstatic ix) = true) (k3 : ∀ w ∈ zwords prog E.1.cls (.getstatic ix) cv a b, w ∈ TG) (hz : zstep zNf zdfl zslen prog (zEm E) rc rs scr cc K (.getstatic ix) cv a b k pc L st h nc ns = true) : W p l e R s m args below meth c H locs nc ns Q (F0 m pc ls stc) := by
  have hdg : decode E.2.1 pc = .ok (.getstatic ix, 3) := of_decide_eq_true k1
  obtain ⟨hl, hL, hst, hH, hP, hD, hS, hnc, hns, hpre⟩ := hrel
  obtain ⟨hx, hb, hml, hown, hts, hini, hK, -, hF, -, -, -, hA, -⟩ := C
  simp only [zstep] at hz
  obtain ⟨-, -, -, -, -, b1, xs, f1, f2, f3, f4, f6, f5⟩ := hF
  refine va_gets hx hb (ref := "EndsInFive") f6 hS hown (hts _ (k3 _ List.mem_cons_self)) (fun x hx => hx) hdg (IH _ hz ls _ H locs ws ⟨hl, hL, ⟨⟨b1, ?_, rfl⟩, hst⟩, hH, hP, hD, hS, hnc, hns, hpre⟩)
  unfold zrho
  rw [if_neg (Nat.not_lt.mpr (Nat.le_of_ble_eq_true rfl))]
  exact f1
end
end
section
theorem z_ar1 {a b : Nat} (h1 : 1000000 ≤ a) (h2 : b = a - 1000000) : a = 1000000 + b := by omega
theorem z_pl {l : List Nat} {f : Nat → va_E} {v : va_E} : va_pl ([] ++ l) (vr_up f l v) = l.map (fun a => (a, v)) := by
  unfold va_pl
  rw [List.nil_append]
  apply List.map_congr_left
  intro a ha
  rw [vr_up_in ha]
section
variable {p : Program} {l : Launch} {e : Env} {R : Room} {s : State} {m : MethodId} {args : Array Value} {below : List Frame} {meth : Method} {c : Code} {Q : State → Prop}
variable {prog : Nat → Option zE} {zst : zSt} {TG TN : List Cond} {scr : List zV} {adK adV : Nat → Nat} {ext : Nat → Option Nat} {D : va_G} {ct : Nat → ClassId} {A : Nat → Prop} {E : zE} {rc rs d : Nat} {ws0 : va_W}
variable {K : zS → Bool} {cv : zV} {a b k pc nc ns : Nat} {L : zL} {st : List zV} {h : zH} {ls : Array Slot} {stc : List Value} {H : Heap} {locs : List Loc} {ws : va_W} {cc : zK}
theorem z_mrel {x : zV} {t u N Kn : Nat} {r0 : List zV} {rest : List Value} {q : Nat} {r : Nat → Nat} {f : (Nat → Int32) ⊕ (Nat → Int64) ⊕ (Nat → UInt32) ⊕ (Nat → UInt64) ⊕ (Nat → Option Nat)} {H1 : Heap} {nc' ns' : Nat} (ht : t = 3 ∨ t = 4) (hu : u < 6) (hk : zkd u f) (hv : ∀ (ρ : Nat → Option Nat) (j : Nat), zg ρ x (zval f j))
    (hl : lv_has ls (zEm E) []) (hL : zLo (zrho ws ext) L ls) (hr : zL2 (zrho ws ext) r0 rest) (hH : zHp (zrho ws ext) ct h ws) (h3 : h.length + N < 1000000)
    (hP1 : va_P D vwCl (ws ++ ((q, .inl (ct t, N, .inr (.inr (.inr (.inr (fun i => if i < N then some (r i) else none)))))) :: (List.range N).map (fun i => (r i, .inl (ct u, Kn, f))))) H1) (hD1 : va_D A (ws ++ ((q, .inl (ct t, N, .inr (.inr (.inr (.inr (fun i => if i < N then some (r i) else none)))))) :: (List.range N).map (fun i => (r i, .inl (ct u, Kn, f)))))) (hS1 : va_S A s.heap H1 locs) (hnc : nc' ≤ rc) (hns : ns' ≤ rs) (hpre : zPre ws0 ws) :
    zRel ext D ct (zEm E) rc rs A s.heap ws0 L (.inl (.ref h.length) :: r0) (h ++ ((10 + t, (List.range N).map (fun i => .inl (.ref (h.length + 1 + i)))) :: List.replicate N (10 + u, List.replicate Kn x))) nc' ns' ls (.ref q :: rest) H1 locs (ws ++ ((q, .inl (ct t, N, .inr (.inr (.inr (.inr (fun i => if i < N then some (r i) else none)))))) :: (List.range N).map (fun i => (r i, .inl (ct u, Kn, f))))) := by
  generalize hw : ((q, .inl (ct t, N, .inr (.inr (.inr (.inr (fun i => if i < N then some (r i) else none)))))) :: (List.range N).map (fun i => (r i, .inl (ct u, Kn, f))) : va_W) = w2 at hP1 hD1 ⊢
  have hm : ∀ k9 a9 : Nat, zrho ws ext k9 = some a9 → zrho (ws ++ w2) ext k9 = some a9 := fun _ _ hk => zrho_app hk
  have e0 : (ws ++ w2)[h.length]? = some (q, .inl (ct t, N, .inr (.inr (.inr (.inr (fun i => if i < N then some (r i) else none)))))) := by
    rw [hH.1, List.getElem?_append_right (Nat.le_refl _), Nat.sub_self, ← hw]
    rfl
  have e1 : ∀ i, i < N → (ws ++ w2)[h.length + 1 + i]? = some (r i, .inl (ct u, Kn, f)) := fun i hi => by
    rw [hH.1, List.getElem?_append_right (by omega), show ws.length + 1 + i - ws.length = i + 1 by omega, ← hw, List.getElem?_cons_succ, List.getElem?_map, List.getElem?_range hi]
    rfl
  refine ⟨hl, zLo_mono hm hL, ⟨⟨q, zrho_at (by omega) e0, rfl⟩, zL2_mono hm hr⟩, zHp_app (zHp_mono hm hH) ?_, hP1, hD1, hS1, hnc, hns, zPre_tr hpre (zPre_app _ _)⟩
  refine ⟨by rw [← hw]; simp, fun i c' q' h1 h2 => ?_⟩
  cases i with
  | zero =>
    rw [← hw, List.getElem?_cons_zero] at h2
    rw [List.getElem?_cons_zero] at h1
    cases h1
    cases h2
    refine ⟨t, rfl, by omega, rfl, by simp, ?_, fun j a9 hj => ?_⟩
    · rcases ht with rfl | rfl <;> exact ⟨_, rfl⟩
    · have hj1 : j < N := by
        have := (List.getElem?_eq_some_iff.mp hj).1
        simpa using this
      rw [List.getElem?_map, List.getElem?_range hj1] at hj
      cases hj
      refine ⟨r j, zrho_at (by omega) (e1 j hj1), ?_⟩
      show va_rf (if j < N then some (r j) else none) = _
      rw [if_pos hj1]
      rfl
  | succ i =>
    rw [← hw, List.getElem?_cons_succ] at h2
    rw [List.getElem?_cons_succ] at h1
    have hi1 : i < N := by
      have := (List.getElem?_eq_some_iff.mp h1).1
      simpa using this
    rw [List.getElem?_map, List.getElem?_range hi1] at h2
    have h5 := List.eq_of_mem_replicate (List.mem_of_getElem? h1)
    cases h2
    subst h5
    refine ⟨u, rfl, hu, rfl, by simp, hk, fun j a9 hj => ?_⟩
    have h6 := List.eq_of_mem_replicate (List.mem_of_getElem? hj)
    rw [h6]
    exact hv _ _
theorem z_mna (C : zCx p R s m args meth c prog zst TG TN scr adK adV ext D ct A E rc rs d) (IH : ∀ x, K x = true → zGo p l e R s m args below meth c Q ext D ct (zEm E) rc rs A ws0 x) (hrel : zRel ext D ct (zEm E) rc rs A s.heap ws0 L st h nc ns ls stc H locs ws) {ix dd : Nat}
    (k1 : zdec E.2.1 pc (.multianewarray ix dd) = true) (k2 : zside prog E.1 zst (.multianewarray ix dd) cv a b k = true) (k3 : ∀ w ∈ zwords prog E.1.cls (.multianewarray ix dd) cv a b, w ∈ TG)
    (hz : zstep zNf zdfl zslen prog (zEm E) rc rs scr cc K (.multianewarray ix dd) cv a b k pc L st h nc ns = true) : W p l e R s m args below meth c H locs nc ns Q (F0 m pc ls stc) := by
  have hdg : decode E.2.1 pc = .ok (.multianewarray ix dd, 4) := of_decide_eq_true k1
  have hdd : dd = 2 := Nat.eq_of_beq_eq_true (z_and k2).1
  subst hdd
  obtain ⟨hl, hL, hst, hH, hP, hD, hS, hnc, hns, hpre⟩ := hrel
  obtain ⟨hx, hb, hml, hown, hts, hini, hK, -, -, -, hO1, hO2, hA, -, -, hrc, hrs, -, huw⟩ := C
  simp only [zstep] at hz
  split at hz
  · next kn n r0 =>
    obtain ⟨w0, w1, rest, rfl, e0, e1, hrest⟩ := zL2_2 hst
    cases e0
    cases e1
    split at hz
    · cases hz
    · next hn =>
      split at hz
      · cases hz
      · next hkn =>
        obtain ⟨h1, hz⟩ := z_and hz
        obtain ⟨h2, hz⟩ := z_and hz
        obtain ⟨h3, hz⟩ := z_and hz
        obtain ⟨h4, hz⟩ := z_and hz
        obtain ⟨h5, hz⟩ := z_and hz
        have h1 := z_ble h1
        have h2 := z_ble h2
        have h3 := z_ble h3
        have h4 := z_ble h4
        have h5 := z_blt h5
        have hPa : va_P D vwCl (ws ++ va_pl [] (fun _ => .inr (0, []))) H := by
          rw [show va_pl [] (fun _ => (.inr (0, []) : va_E)) = [] from rfl, List.append_nil]
          exact hP
        have hDa : va_D A (ws ++ va_pl [] (fun _ => .inr (0, []))) := by
          rw [show va_pl [] (fun _ => (.inr (0, []) : va_E)) = [] from rfl, List.append_nil]
          exact hD
        split at hz
        · have hcy : s.vm.findClass (FieldType.array FieldType.long).toString = some (ct 1) := (hK.2 1 _ (z_tys ct (by omega))).2
          refine va_mna (ty := .long) (z := (kn.toNatClampNeg, .inr (.inl (fun _ => 0)))) hx hb hown (hts _ (k3 _ List.mem_cons_self)) hO1 (hts _ (k3 _ (List.mem_cons_of_mem _ List.mem_cons_self))) hcy hK hPa hDa hS hA hn hkn rfl rfl (by omega) (by show kn.toNatClampNeg * 8 ≤ _; omega) (by omega) rfl rfl (by omega) (by omega) (fun c9 => by first | rfl | (rw [vp_cell_l]; exact arrV_new _ _ _) | (rw [vp_cell_l]; exact (arrV_new _ _ _).symm)) hdg (fun q r cA H1 hi hj hK1 hP1 hD1 hS1 => ?_)
          have hc := z_ctu (t := 3) (by omega) hK hK1
          subst hc
          rw [z_pl, List.append_assoc, List.map_map] at hP1 hD1
          exact IH _ hz ls _ H1 locs _ (z_mrel (t := 3) (u := 1) (f := .inr (.inl (fun _ => 0))) (Or.inl rfl) (by omega) ⟨_, rfl⟩ (fun _ _ => rfl) hl hL hrest hH h5 hP1 hD1 hS1 h3 h4 hpre)
        · have hcy : s.vm.findClass (FieldType.array FieldType.int).toString = some (ct 0) := (hK.2 0 _ (z_tys ct (by omega))).2
          refine va_mna (ty := .int) (z := (kn.toNatClampNeg, .inl (fun _ => 0))) hx hb hown (hts _ (k3 _ List.mem_cons_self)) hO2 (hts _ (k3 _ (List.mem_cons_of_mem _ List.mem_cons_self))) hcy hK hPa hDa hS hA hn hkn rfl rfl (by omega) (by show kn.toNatClampNeg * 4 ≤ _; omega) (by omega) rfl rfl (by omega) (by omega) (fun c9 => by first | rfl | (rw [vp_cell_i]; exact arrV_new _ _ _) | (rw [vp_cell_i]; exact (arrV_new _ _ _).symm)) hdg (fun q r cA H1 hi hj hK1 hP1 hD1 hS1 => ?_)
          have hc := z_ctu (t := 4) (by omega) hK hK1
          subst hc
          rw [z_pl, List.append_assoc, List.map_map] at hP1 hD1
          exact IH _ hz ls _ H1 locs _ (z_mrel (t := 4) (u := 0) (f := .inl (fun _ => 0)) (Or.inr rfl) (by omega) ⟨_, rfl⟩ (fun _ _ => rfl) hl hL hrest hH h5 hP1 hD1 hS1 h3 h4 hpre)
        · cases hz
  · cases hz
theorem z_ldc (C : zCx p R s m args meth c prog zst TG TN scr adK adV ext D ct A E rc rs d) (IH : ∀ x, K x = true → zGo p l e R s m args below meth c Q ext D ct (zEm E) rc rs A ws0 x) (hrel : zRel ext D ct (zEm E) rc rs A s.heap ws0 L st h nc ns ls stc H locs ws) {ix : Nat}
    (k1 : zdec E.2.1 pc (.ldc ix) = true) (k2 : zside prog E.1 zst (.ldc ix) cv a b k = true) (k3 : ∀ w ∈ zwords prog E.1.cls (.ldc ix) cv a b, w ∈ TG)
    (hz : K (pc + 2, L, cv :: st, h, nc, ns) = true) : W p l e R s m args below meth c H locs nc ns Q (F0 m pc ls stc) := by
  have hdg : decode E.2.1 pc = .ok (.ldc ix, 2) := of_decide_eq_true k1
  obtain ⟨hl, hL, hst, hH, hP, hD, hS, hnc, hns, hpre⟩ := hrel
  obtain ⟨hx, hb, hml, hown, hts, hini, hK, -, hF, -⟩ := C
  simp only [zside] at k2
  split at k2
  · next x => exact lv_ldc hx hb hown (hts _ (k3 _ List.mem_cons_self)) hdg (IH _ hz ls _ H locs ws ⟨hl, hL, ⟨rfl, hst⟩, hH, hP, hD, hS, hnc, hns, hpre⟩)
  · next kk =>
    obtain ⟨q1, q2⟩ := z_and k2
    obtain ⟨q, hq, hq2⟩ := List.any_eq_true.mp q2
    obtain ⟨q3, q4⟩ := z_and hq2
    obtain ⟨q5, q6⟩ := z_and q4
    have q1 : 1000000 ≤ kk := z_ble q1
    have q3 : q.1 = E.1.cls := of_decide_eq_true q3
    have q5 := Nat.eq_of_beq_eq_true q5
    have q6 : q.2.2.2 = kk - 1000000 := Nat.eq_of_beq_eq_true q6
    have q7 : kk = 1000000 + q.2.2.2 := z_ar1 q1 q6
    obtain ⟨f1, f2⟩ := hF.1 q hq
    rw [q3, q5] at f1
    have f3 := hF.2.1 _ f2
    refine va_ldcS hx hb hown f1 hdg (IH _ hz ls _ H locs ws ⟨hl, hL, ⟨⟨_, ?_, rfl⟩, hst⟩, hH, hP, hD, hS, hnc, hns, hpre⟩)
    unfold zrho
    rw [if_neg (Nat.not_lt.mpr q1), q7]
    exact f3
  · cases k2
theorem z_tsw (C : zCx p R s m args meth c prog zst TG TN scr adK adV ext D ct A E rc rs d) (IH : ∀ x, K x = true → zGo p l e R s m args below meth c Q ext D ct (zEm E) rc rs A ws0 x) (hrel : zRel ext D ct (zEm E) rc rs A s.heap ws0 L st h nc ns ls stc H locs ws) {df lo hi : Int} {offs : Array Int}
    (k1 : zdec E.2.1 pc (.tableswitch df lo hi offs) = true)
    (hz : zstep zNf zdfl zslen prog (zEm E) rc rs scr cc K (.tableswitch df lo hi offs) cv a b k pc L st h nc ns = true) : W p l e R s m args below meth c H locs nc ns Q (F0 m pc ls stc) := by
  obtain ⟨len, hdg⟩ := zdec_t k1
  obtain ⟨hl, hL, hst, hH, hP, hD, hS, hnc, hns, hpre⟩ := hrel
  obtain ⟨hx, hb, -⟩ := C
  simp only [zstep] at hz
  split at hz
  · next v r =>
    obtain ⟨w, rest, rfl, hg, hrest⟩ := zL2_cons hst
    obtain ⟨h1, hz⟩ := z_and hz
    obtain ⟨x, rfl, b1, b2⟩ := zg_I hg h1
    split at hz
    · next ho =>
      obtain ⟨t, ht, hz⟩ := zof_sp hz
      exact lv_tableOut hx hb hdg (by omega) ht (IH _ hz ls _ H locs ws ⟨hl, hL, hrest, hH, hP, hD, hS, hnc, hns, hpre⟩)
    · split at hz
      · next z =>
        cases hg
        obtain ⟨h2, hz⟩ := z_and hz
        obtain ⟨h3, hz⟩ := z_and hz
        split at hz
        · next off ho =>
          obtain ⟨t, ht, hz⟩ := zof_sp hz
          exact lv_tableIn hx hb hdg (by simpa using h2) (by simpa using h3) ho ht (IH _ hz ls _ H locs ws ⟨hl, hL, hrest, hH, hP, hD, hS, hnc, hns, hpre⟩)
        · cases hz
      · cases hz
  · cases hz
theorem z_icmp (C : zCx p R s m args meth c prog zst TG TN scr adK adV ext D ct A E rc rs d) (IH : ∀ x, K x = true → zGo p l e R s m args below meth c Q ext D ct (zEm E) rc rs A ws0 x) (hrel : zRel ext D ct (zEm E) rc rs A s.heap ws0 L st h nc ns ls stc H locs ws) {cd : ClassFile.Cond} {off : Int}
    (k1 : zdec E.2.1 pc (.if_icmp cd off) = true)
    (hz : zstep zNf zdfl zslen prog (zEm E) rc rs scr cc K (.if_icmp cd off) cv a b k pc L st h nc ns = true) : W p l e R s m args below meth c H locs nc ns Q (F0 m pc ls stc) := by
  have hdg : decode E.2.1 pc = .ok (.if_icmp cd off, 3) := of_decide_eq_true k1
  obtain ⟨hl, hL, hst, hH, hP, hD, hS, hnc, hns, hpre⟩ := hrel
  obtain ⟨hx, hb, -⟩ := C
  simp only [zstep] at hz
  split at hz
  · next vy vx r =>
    obtain ⟨wy, wx, rest, rfl, gy, gx, hrest⟩ := zL2_2 hst
    obtain ⟨h1, hz⟩ := z_and hz
    obtain ⟨h2, hz⟩ := z_and hz
    obtain ⟨x, rfl, bx⟩ := zg_I gx h1
    obtain ⟨y, rfl, bb⟩ := zg_I gy h2
    obtain ⟨t, ht, hz⟩ := zof_sp hz
    have T : zop cd x y → W p l e R s m args below meth c H locs nc ns Q (F0 m t ls rest) := fun hh => IH _ (zbr_t hz (zcond_t bx bb hh)) ls _ H locs ws ⟨hl, hL, hrest, hH, hP, hD, hS, hnc, hns, hpre⟩
    have F : ¬ zop cd x y → W p l e R s m args below meth c H locs nc ns Q (F0 m (pc + 3) ls rest) := fun hh => IH _ (zbr_f hz (zcond_f bx bb hh)) ls _ H locs ws ⟨hl, hL, hrest, hH, hP, hD, hS, hnc, hns, hpre⟩
    cases cd with
    | eq => exact lv_icmp_eq hx hb hdg ht T F
    | ne => exact lv_icmp_ne hx hb hdg ht T (fun q => F (fun q2 => q2 q))
    | lt => exact lv_icmp_lt hx hb hdg ht T F
    | ge => exact lv_icmp_ge hx hb hdg ht T F
    | gt => exact lv_icmp_gt hx hb hdg ht T F
    | le => exact lv_icmp_le hx hb hdg ht T F
  · cases hz
theorem z_ifc (C : zCx p R s m args meth c prog zst TG TN scr adK adV ext D ct A E rc rs d) (IH : ∀ x, K x = true → zGo p l e R s m args below meth c Q ext D ct (zEm E) rc rs A ws0 x) (hrel : zRel ext D ct (zEm E) rc rs A s.heap ws0 L st h nc ns ls stc H locs ws) {cd : ClassFile.Cond} {off : Int}
    (k1 : zdec E.2.1 pc (.ifCond cd off) = true)
    (hz : zstep zNf zdfl zslen prog (zEm E) rc rs scr cc K (.ifCond cd off) cv a b k pc L st h nc ns = true) : W p l e R s m args below meth c H locs nc ns Q (F0 m pc ls stc) := by
  have hdg : decode E.2.1 pc = .ok (.ifCond cd off, 3) := of_decide_eq_true k1
  obtain ⟨hl, hL, hst, hH, hP, hD, hS, hnc, hns, hpre⟩ := hrel
  obtain ⟨hx, hb, -⟩ := C
  simp only [zstep] at hz
  split at hz
  · next vx r =>
    obtain ⟨wx, rest, rfl, gx, hrest⟩ := zL2_cons hst
    obtain ⟨h1, hz⟩ := z_and hz
    obtain ⟨x, rfl, bx⟩ := zg_I gx h1
    obtain ⟨t, ht, hz⟩ := zof_sp hz
    have bb : zlo (.inl (.int 0)) ≤ (0 : Int32).toInt ∧ (0 : Int32).toInt ≤ zhi (.inl (.int 0)) := ⟨Int.le_refl _, Int.le_refl _⟩
    have T : zop cd x 0 → W p l e R s m args below meth c H locs nc ns Q (F0 m t ls rest) := fun hh => IH _ (zbr_t hz (zcond_t bx bb hh)) ls _ H locs ws ⟨hl, hL, hrest, hH, hP, hD, hS, hnc, hns, hpre⟩
    have F : ¬ zop cd x 0 → W p l e R s m args below meth c H locs nc ns Q (F0 m (pc + 3) ls rest) := fun hh => IH _ (zbr_f hz (zcond_f bx bb hh)) ls _ H locs ws ⟨hl, hL, hrest, hH, hP, hD, hS, hnc, hns, hpre⟩
    cases cd with
    | eq => exact lv_if_eq hx hb hdg ht T F
    | ne => exact lv_if_ne hx hb hdg ht T (fun q => F (fun q2 => q2 q))
    | lt => exact lv_if_lt hx hb hdg ht T F
    | ge => exact lv_if_ge hx hb hdg ht T F
    | gt => exact lv_if_gt hx hb hdg ht T F
    | le => exact lv_if_le hx hb hdg ht T F
  · cases hz
end
end
section
section
variable {p : Program} {l : Launch} {e : Env} {R : Room} {s : State} {m : MethodId} {args : Array Value} {below : List Frame} {meth : Method} {c : Code} {Q : State → Prop}
variable {prog : Nat → Option zE} {zst : zSt} {TG TN : List Cond} {scr : List zV} {adK adV : Nat → Nat} {ext : Nat → Option Nat} {D : va_G} {ct : Nat → ClassId} {A : Nat → Prop} {E : zE} {rc rs d : Nat} {ws0 : va_W}
variable {K : zS → Bool} {cv : zV} {a b k pc nc ns : Nat} {L : zL} {st : List zV} {h : zH} {ls : Array Slot} {stc : List Value} {H : Heap} {locs : List Loc} {ws : va_W} {cc : zK}
theorem zstep_sound (C : zCx p R s m args meth c prog zst TG TN scr adK adV ext D ct A E rc rs d) (hG : zGood TG) (hTN : zTNok TN) (hOk : zOkP prog zst TG TN) (HL : zSL l zst TG TN scr adK adV ext D ct d) (hLw : ∀ w ∈ zmwords zESL ++ zmwords zESC, w ∈ TG) (hgl : ∀ w ∈ zglob, w ∈ TG)
    (HM : ∀ j vs h post, cc j vs h post = true → zMet l prog zst TG TN scr adK adV ext D ct d j vs h post) (IH : ∀ x, K x = true → zGo p l e R s m args below meth c Q ext D ct (zEm E) rc rs A ws0 x) (hrel : zRel ext D ct (zEm E) rc rs A s.heap ws0 L st h nc ns ls stc H locs ws) {ins : Instr}
    (k1 : zdec E.2.1 pc ins = true) (k2 : zside prog E.1 zst ins cv a b k = true) (k3 : ∀ w ∈ zwords prog E.1.cls ins cv a b, w ∈ TG) (k4 : ∀ w ∈ zwordsN prog E.1.cls ins a b, w ∈ TN)
    (hz : zstep zNf zdfl zslen prog (zEm E) rc rs scr cc K ins cv a b k pc L st h nc ns = true) : W p l e R s m args below meth c H locs nc ns Q (F0 m pc ls stc) := by
  obtain ⟨hl, hL, hst, hH, hP, hD, hS, hnc, hns, hpre⟩ := id hrel
  obtain ⟨hx, hb, hml, hown, hts, hini, hK, hN, hF, hAO, hO1, hO2, hA, hfr, hlo, hrc, hrs, hC, huw⟩ := id C
  cases ins <;> try (exact absurd hz Bool.false_ne_true)
  case iconst n => exact lv_iconst hx hb (of_decide_eq_true k1) rfl (IH _ hz ls _ H locs ws ⟨hl, hL, ⟨rfl, hst⟩, hH, hP, hD, hS, hnc, hns, hpre⟩)
  case bipush n => exact lv_bipush hx hb (of_decide_eq_true k1) rfl (IH _ hz ls _ H locs ws ⟨hl, hL, ⟨rfl, hst⟩, hH, hP, hD, hS, hnc, hns, hpre⟩)
  case sipush n => exact lv_sipush hx hb (of_decide_eq_true k1) rfl (IH _ hz ls _ H locs ws ⟨hl, hL, ⟨rfl, hst⟩, hH, hP, hD, hS, hnc, hns, hpre⟩)
  case lconst n => exact lv_lconst hx hb (of_decide_eq_true k1) rfl (IH _ hz ls _ H locs ws ⟨hl, hL, ⟨rfl, hst⟩, hH, hP, hD, hS, hnc, hns, hpre⟩)
  case iload_n i =>
    simp only [zstep] at hz
    obtain ⟨v, hv, hi, hk⟩ := zld_sp hz
    obtain ⟨w, hw, hg⟩ := zLo_get hL hv
    obtain ⟨x, rfl, -⟩ := zg_I hg hi
    exact lv_iload_n hx hb (of_decide_eq_true k1) rfl hw (IH _ hk ls _ H locs ws ⟨hl, hL, ⟨hg, hst⟩, hH, hP, hD, hS, hnc, hns, hpre⟩)
  case iload i =>
    simp only [zstep] at hz
    obtain ⟨v, hv, hi, hk⟩ := zld_sp hz
    obtain ⟨w, hw, hg⟩ := zLo_get hL hv
    obtain ⟨x, rfl, -⟩ := zg_I hg hi
    exact lv_iload hx hb (of_decide_eq_true k1) hw (IH _ hk ls _ H locs ws ⟨hl, hL, ⟨hg, hst⟩, hH, hP, hD, hS, hnc, hns, hpre⟩)
  case lload_n i =>
    simp only [zstep] at hz
    obtain ⟨v, hv, hi, hk⟩ := zld_sp hz
    obtain ⟨w, hw, hg⟩ := zLo_get hL hv
    obtain ⟨x, rfl, -⟩ := zg_L hg hi
    exact lv_lload_n hx hb (of_decide_eq_true k1) rfl hw (IH _ hk ls _ H locs ws ⟨hl, hL, ⟨hg, hst⟩, hH, hP, hD, hS, hnc, hns, hpre⟩)
  case lload i =>
    simp only [zstep] at hz
    obtain ⟨v, hv, hi, hk⟩ := zld_sp hz
    obtain ⟨w, hw, hg⟩ := zLo_get hL hv
    obtain ⟨x, rfl, -⟩ := zg_L hg hi
    exact lv_lload hx hb (of_decide_eq_true k1) hw (IH _ hk ls _ H locs ws ⟨hl, hL, ⟨hg, hst⟩, hH, hP, hD, hS, hnc, hns, hpre⟩)
  case aload_n i =>
    simp only [zstep] at hz
    obtain ⟨v, hv, hi, hk⟩ := zld_sp hz
    obtain ⟨w, hw, hg⟩ := zLo_get hL hv
    rcases zg_R hg hi with ⟨-, rfl⟩ | ⟨_, _, -, -, rfl⟩
    · exact lv_aload_nN hx hb (of_decide_eq_true k1) rfl hw (IH _ hk ls _ H locs ws ⟨hl, hL, ⟨hg, hst⟩, hH, hP, hD, hS, hnc, hns, hpre⟩)
    · exact lv_aload_n hx hb (of_decide_eq_true k1) rfl hw (IH _ hk ls _ H locs ws ⟨hl, hL, ⟨hg, hst⟩, hH, hP, hD, hS, hnc, hns, hpre⟩)
  case aload i =>
    simp only [zstep] at hz
    obtain ⟨v, hv, hi, hk⟩ := zld_sp hz
    obtain ⟨w, hw, hg⟩ := zLo_get hL hv
    rcases zg_R hg hi with ⟨-, rfl⟩ | ⟨_, _, -, -, rfl⟩
    · exact lv_aloadN hx hb (of_decide_eq_true k1) hw (IH _ hk ls _ H locs ws ⟨hl, hL, ⟨hg, hst⟩, hH, hP, hD, hS, hnc, hns, hpre⟩)
    · exact lv_aload hx hb (of_decide_eq_true k1) hw (IH _ hk ls _ H locs ws ⟨hl, hL, ⟨hg, hst⟩, hH, hP, hD, hS, hnc, hns, hpre⟩)
  case istore_n i =>
    simp only [zstep] at hz
    obtain ⟨v, r, rfl, hi, hlt, hk⟩ := zs1_sp hz
    obtain ⟨w, r', rfl, hg, hr⟩ := zL2_cons hst
    obtain ⟨x, rfl, -⟩ := zg_I hg hi
    exact lv_istore_n hx hb (of_decide_eq_true k1) rfl (zconc_has hl hL) hlt rfl (fun ls' hl' => IH _ hk ls' _ H locs ws ⟨lv_sub hl' [] rfl, zLo_st1 hL hg hl', hr, hH, hP, hD, hS, hnc, hns, hpre⟩)
  case istore i =>
    simp only [zstep] at hz
    obtain ⟨v, r, rfl, hi, hlt, hk⟩ := zs1_sp hz
    obtain ⟨w, r', rfl, hg, hr⟩ := zL2_cons hst
    obtain ⟨x, rfl, -⟩ := zg_I hg hi
    exact lv_istore hx hb (of_decide_eq_true k1) (zconc_has hl hL) hlt rfl (fun ls' hl' => IH _ hk ls' _ H locs ws ⟨lv_sub hl' [] rfl, zLo_st1 hL hg hl', hr, hH, hP, hD, hS, hnc, hns, hpre⟩)
  case astore_n i =>
    simp only [zstep] at hz
    obtain ⟨v, r, rfl, hi, hlt, hk⟩ := zs1_sp hz
    obtain ⟨w, r', rfl, hg, hr⟩ := zL2_cons hst
    rcases zg_R hg hi with ⟨-, rfl⟩ | ⟨_, _, -, -, rfl⟩
    · exact lv_astore_nN hx hb (of_decide_eq_true k1) rfl (zconc_has hl hL) hlt rfl (fun ls' hl' => IH _ hk ls' _ H locs ws ⟨lv_sub hl' [] rfl, zLo_st1 hL hg hl', hr, hH, hP, hD, hS, hnc, hns, hpre⟩)
    · exact lv_astore_n hx hb (of_decide_eq_true k1) rfl (zconc_has hl hL) hlt rfl (fun ls' hl' => IH _ hk ls' _ H locs ws ⟨lv_sub hl' [] rfl, zLo_st1 hL hg hl', hr, hH, hP, hD, hS, hnc, hns, hpre⟩)
  case astore i =>
    simp only [zstep] at hz
    obtain ⟨v, r, rfl, hi, hlt, hk⟩ := zs1_sp hz
    obtain ⟨w, r', rfl, hg, hr⟩ := zL2_cons hst
    rcases zg_R hg hi with ⟨-, rfl⟩ | ⟨_, _, -, -, rfl⟩
    · exact lv_astoreN hx hb (of_decide_eq_true k1) (zconc_has hl hL) hlt rfl (fun ls' hl' => IH _ hk ls' _ H locs ws ⟨lv_sub hl' [] rfl, zLo_st1 hL hg hl', hr, hH, hP, hD, hS, hnc, hns, hpre⟩)
    · exact lv_astore hx hb (of_decide_eq_true k1) (zconc_has hl hL) hlt rfl (fun ls' hl' => IH _ hk ls' _ H locs ws ⟨lv_sub hl' [] rfl, zLo_st1 hL hg hl', hr, hH, hP, hD, hS, hnc, hns, hpre⟩)
  case lstore_n i =>
    simp only [zstep] at hz
    obtain ⟨v, r, rfl, hi, hlt, hk⟩ := zs2_sp hz
    obtain ⟨w, r', rfl, hg, hr⟩ := zL2_cons hst
    obtain ⟨x, rfl, -⟩ := zg_L hg hi
    exact lv_lstore_n hx hb (of_decide_eq_true k1) rfl (zconc_has hl hL) hlt rfl (fun ls' hl' => IH _ hk ls' _ H locs ws ⟨lv_sub hl' [] rfl, zLo_st2 hL hg hl', hr, hH, hP, hD, hS, hnc, hns, hpre⟩)
  case lstore i =>
    simp only [zstep] at hz
    obtain ⟨v, r, rfl, hi, hlt, hk⟩ := zs2_sp hz
    obtain ⟨w, r', rfl, hg, hr⟩ := zL2_cons hst
    obtain ⟨x, rfl, -⟩ := zg_L hg hi
    exact lv_lstore hx hb (of_decide_eq_true k1) (zconc_has hl hL) hlt rfl (fun ls' hl' => IH _ hk ls' _ H locs ws ⟨lv_sub hl' [] rfl, zLo_st2 hL hg hl', hr, hH, hP, hD, hS, hnc, hns, hpre⟩)
  case iinc i n =>
    simp only [zstep] at hz
    split at hz
    · next x hv =>
      obtain ⟨h1, hk⟩ := z_and hz
      obtain ⟨w, hw, hg⟩ := zLo_get hL hv
      cases hg
      have hc := zconc_has hl hL
      have hm : (i, Value.int x) ∈ zconc L ls := by
        have h9 := zconc_has hl hL
        unfold zget at hv
        split at hv
        · next q hq =>
          have h0 := List.find?_some hq
          have h2 : q.1 = i := Nat.eq_of_beq_eq_true h0
          refine List.mem_map.mpr ⟨q, List.mem_of_find?_eq_some hq, ?_⟩
          rw [h2, hw]
          rfl
        · cases hv
      obtain ⟨j, hj⟩ := List.getElem?_of_mem hm
      exact lv_iinc hx hb (of_decide_eq_true k1) hc hj rfl (z_blt h1) rfl (fun ls' hl' => IH _ hk ls' _ H locs ws ⟨lv_sub hl' [] rfl, zLo_st1 hL rfl hl', hst, hH, hP, hD, hS, hnc, hns, hpre⟩)
    · cases hz
  case iadd =>
    simp only [zstep] at hz
    obtain ⟨x, y, rc', v, r, rfl, hg, hr, hk⟩ := zb2_sp (ρ := zrho ws ext) hz hst
    exact lv_iadd hx hb (of_decide_eq_true k1) (IH _ hk ls _ H locs ws ⟨hl, hL, ⟨hg, hr⟩, hH, hP, hD, hS, hnc, hns, hpre⟩)
  case isub =>
    simp only [zstep] at hz
    obtain ⟨x, y, rc', v, r, rfl, hg, hr, hk⟩ := zb2_sp (ρ := zrho ws ext) hz hst
    exact lv_isub hx hb (of_decide_eq_true k1) (IH _ hk ls _ H locs ws ⟨hl, hL, ⟨hg, hr⟩, hH, hP, hD, hS, hnc, hns, hpre⟩)
  case imul =>
    simp only [zstep] at hz
    obtain ⟨x, y, rc', v, r, rfl, hg, hr, hk⟩ := zml_sp (ρ := zrho ws ext) hz hst
    exact lv_imul hx hb (of_decide_eq_true k1) (IH _ hk ls _ H locs ws ⟨hl, hL, ⟨hg, hr⟩, hH, hP, hD, hS, hnc, hns, hpre⟩)
  case iand =>
    simp only [zstep] at hz
    obtain ⟨x, y, rc', v, r, rfl, hg, hr, hk⟩ := zb2_sp (ρ := zrho ws ext) hz hst
    exact lv_iand hx hb (of_decide_eq_true k1) (IH _ hk ls _ H locs ws ⟨hl, hL, ⟨hg, hr⟩, hH, hP, hD, hS, hnc, hns, hpre⟩)
  case ior =>
    simp only [zstep] at hz
    obtain ⟨x, y, rc', v, r, rfl, hg, hr, hk⟩ := zb2_sp (ρ := zrho ws ext) hz hst
    exact lv_ior hx hb (of_decide_eq_true k1) (IH _ hk ls _ H locs ws ⟨hl, hL, ⟨hg, hr⟩, hH, hP, hD, hS, hnc, hns, hpre⟩)
  case ixor =>
    simp only [zstep] at hz
    obtain ⟨x, y, rc', v, r, rfl, hg, hr, hk⟩ := zb2_sp (ρ := zrho ws ext) hz hst
    exact lv_ixor hx hb (of_decide_eq_true k1) (IH _ hk ls _ H locs ws ⟨hl, hL, ⟨hg, hr⟩, hH, hP, hD, hS, hnc, hns, hpre⟩)
  case ishl =>
    simp only [zstep] at hz
    obtain ⟨x, y, rc', v, r, rfl, hg, hr, hk⟩ := zb2_sp (ρ := zrho ws ext) hz hst
    exact lv_ishl hx hb (of_decide_eq_true k1) (IH _ hk ls _ H locs ws ⟨hl, hL, ⟨hg, hr⟩, hH, hP, hD, hS, hnc, hns, hpre⟩)
  case ishr =>
    simp only [zstep] at hz
    obtain ⟨x, y, rc', v, r, rfl, hg, hr, hk⟩ := zb2_sp (ρ := zrho ws ext) hz hst
    exact lv_ishr hx hb (of_decide_eq_true k1) (IH _ hk ls _ H locs ws ⟨hl, hL, ⟨hg, hr⟩, hH, hP, hD, hS, hnc, hns, hpre⟩)
  case iushr =>
    simp only [zstep] at hz
    obtain ⟨x, y, rc', v, r, rfl, hg, hr, hk⟩ := zb2_sp (ρ := zrho ws ext) hz hst
    exact lv_iushr hx hb (of_decide_eq_true k1) rfl (IH _ hk ls _ H locs ws ⟨hl, hL, ⟨hg, hr⟩, hH, hP, hD, hS, hnc, hns, hpre⟩)
  case idiv =>
    simp only [zstep] at hz
    obtain ⟨x, y, rc', v, r, rfl, hne, hg, hr, hk⟩ := zdv_sp (ρ := zrho ws ext) hz hst
    exact lv_idiv hx hb (of_decide_eq_true k1) hne (IH _ hk ls _ H locs ws ⟨hl, hL, ⟨hg, hr⟩, hH, hP, hD, hS, hnc, hns, hpre⟩)
  case irem =>
    simp only [zstep] at hz
    obtain ⟨x, y, rc', v, r, rfl, hne, hg, hr, hk⟩ := zdv_sp (ρ := zrho ws ext) hz hst
    exact lv_irem hx hb (of_decide_eq_true k1) hne (IH _ hk ls _ H locs ws ⟨hl, hL, ⟨hg, hr⟩, hH, hP, hD, hS, hnc, hns, hpre⟩)
  case ineg =>
    simp only [zstep] at hz
    split at hz
    · obtain ⟨w, rest, rfl, hg, hrest⟩ := zL2_cons hst
      cases hg
      exact lv_ineg hx hb (of_decide_eq_true k1) (IH _ hz ls _ H locs ws ⟨hl, hL, ⟨rfl, hrest⟩, hH, hP, hD, hS, hnc, hns, hpre⟩)
    · cases hz
  case ladd =>
    simp only [zstep] at hz
    obtain ⟨x, y, rc', v, r, rfl, hg, hr, hk⟩ := zb2l_sp (ρ := zrho ws ext) hz hst
    exact lv_ladd hx hb (of_decide_eq_true k1) (IH _ hk ls _ H locs ws ⟨hl, hL, ⟨hg, hr⟩, hH, hP, hD, hS, hnc, hns, hpre⟩)
  case lsub =>
    simp only [zstep] at hz
    obtain ⟨x, y, rc', v, r, rfl, hg, hr, hk⟩ := zb2l_sp (ρ := zrho ws ext) hz hst
    exact lv_lsub hx hb (of_decide_eq_true k1) (IH _ hk ls _ H locs ws ⟨hl, hL, ⟨hg, hr⟩, hH, hP, hD, hS, hnc, hns, hpre⟩)
  case ldiv =>
    simp only [zstep] at hz
    obtain ⟨x, y, rc', v, r, rfl, hne, hg, hr, hk⟩ := zdvl_sp (ρ := zrho ws ext) hz hst
    exact lv_ldiv hx hb (of_decide_eq_true k1) hne (IH _ hk ls _ H locs ws ⟨hl, hL, ⟨hg, hr⟩, hH, hP, hD, hS, hnc, hns, hpre⟩)
  case i2b =>
    simp only [zstep] at hz
    split at hz
    · obtain ⟨w, rest, rfl, hg, hrest⟩ := zL2_cons hst
      cases hg
      exact lv_i2b hx hb (of_decide_eq_true k1) rfl (IH _ hz ls _ H locs ws ⟨hl, hL, ⟨rfl, hrest⟩, hH, hP, hD, hS, hnc, hns, hpre⟩)
    · cases hz
  case i2s =>
    simp only [zstep] at hz
    split at hz
    · obtain ⟨w, rest, rfl, hg, hrest⟩ := zL2_cons hst
      cases hg
      exact lv_i2s hx hb (of_decide_eq_true k1) rfl (IH _ hz ls _ H locs ws ⟨hl, hL, ⟨rfl, hrest⟩, hH, hP, hD, hS, hnc, hns, hpre⟩)
    · cases hz
  case lmul =>
    simp only [zstep] at hz
    obtain ⟨x, y, rc', v, r, rfl, hg, hr, hk⟩ := zb2l_sp (ρ := zrho ws ext) hz hst
    exact lv_lmul hx hb (of_decide_eq_true k1) (IH _ hk ls _ H locs ws ⟨hl, hL, ⟨hg, hr⟩, hH, hP, hD, hS, hnc, hns, hpre⟩)
  case land =>
    simp only [zstep] at hz
    obtain ⟨x, y, rc', v, r, rfl, hg, hr, hk⟩ := zb2l_sp (ρ := zrho ws ext) hz hst
    exact lv_land hx hb (of_decide_eq_true k1) (IH _ hk ls _ H locs ws ⟨hl, hL, ⟨hg, hr⟩, hH, hP, hD, hS, hnc, hns, hpre⟩)
  case lor =>
    simp only [zstep] at hz
    obtain ⟨x, y, rc', v, r, rfl, hg, hr, hk⟩ := zb2l_sp (ρ := zrho ws ext) hz hst
    exact lv_lor hx hb (of_decide_eq_true k1) (IH _ hk ls _ H locs ws ⟨hl, hL, ⟨hg, hr⟩, hH, hP, hD, hS, hnc, hns, hpre⟩)
  case lxor =>
    simp only [zstep] at hz
    obtain ⟨x, y, rc', v, r, rfl, hg, hr, hk⟩ := zb2l_sp (ρ := zrho ws ext) hz hst
    exact lv_lxor hx hb (of_decide_eq_true k1) (IH _ hk ls _ H locs ws ⟨hl, hL, ⟨hg, hr⟩, hH, hP, hD, hS, hnc, hns, hpre⟩)
  case lshl =>
    simp only [zstep] at hz
    obtain ⟨x, y, rc', v, r, rfl, hg, hr, hk⟩ := zshl_sp (ρ := zrho ws ext) hz hst
    exact lv_lshl hx hb (of_decide_eq_true k1) rfl (IH _ hk ls _ H locs ws ⟨hl, hL, ⟨hg, hr⟩, hH, hP, hD, hS, hnc, hns, hpre⟩)
  case lushr =>
    simp only [zstep] at hz
    obtain ⟨x, y, rc', v, r, rfl, hg, hr, hk⟩ := zshl_sp (ρ := zrho ws ext) hz hst
    exact lv_lushr hx hb (of_decide_eq_true k1) rfl (IH _ hk ls _ H locs ws ⟨hl, hL, ⟨hg, hr⟩, hH, hP, hD, hS, hnc, hns, hpre⟩)
  case i2l =>
    simp only [zstep] at hz
    split at hz
    · obtain ⟨w, rest, rfl, hg, hrest⟩ := zL2_cons hst
      cases hg
      exact lv_i2l hx hb (of_decide_eq_true k1) rfl (IH _ hz ls _ H locs ws ⟨hl, hL, ⟨rfl, hrest⟩, hH, hP, hD, hS, hnc, hns, hpre⟩)
    · obtain ⟨w, rest, rfl, ⟨x, rfl, g1, g2⟩, hrest⟩ := zL2_cons hst
      exact lv_i2l hx hb (of_decide_eq_true k1) rfl (IH _ hz ls _ H locs ws ⟨hl, hL, ⟨⟨x.toInt64, rfl, by simpa using g1, by simpa using g2⟩, hrest⟩, hH, hP, hD, hS, hnc, hns, hpre⟩)
    · cases hz
  case l2i =>
    simp only [zstep] at hz
    split at hz
    · obtain ⟨w, rest, rfl, hg, hrest⟩ := zL2_cons hst
      cases hg
      exact lv_l2i hx hb (of_decide_eq_true k1) rfl (IH _ hz ls _ H locs ws ⟨hl, hL, ⟨rfl, hrest⟩, hH, hP, hD, hS, hnc, hns, hpre⟩)
    · obtain ⟨w, rest, rfl, hg, hrest⟩ := zL2_cons hst
      obtain ⟨h1, hk⟩ := z_and hz
      obtain ⟨x, rfl, -⟩ := zg_L hg h1
      exact lv_l2i hx hb (of_decide_eq_true k1) rfl (IH _ hk ls _ H locs ws ⟨hl, hL, ⟨zg_I0 _ _, hrest⟩, hH, hP, hD, hS, hnc, hns, hpre⟩)
    · cases hz
  case lcmp =>
    simp only [zstep] at hz
    split at hz
    · obtain ⟨wy, wx, rest, rfl, gy, gx, hrest⟩ := zL2_2 hst
      obtain ⟨h1, hz⟩ := z_and hz
      obtain ⟨h2, hz⟩ := z_and hz
      obtain ⟨x, rfl, bx⟩ := zg_L gx h1
      obtain ⟨y, rfl, bb⟩ := zg_L gy h2
      exact W.lcmp hx hb (of_decide_eq_true k1) (IH _ hz ls _ H locs ws ⟨hl, hL, ⟨zcmpL_g bx bb, hrest⟩, hH, hP, hD, hS, hnc, hns, hpre⟩)
    · cases hz
  case dup =>
    simp only [zstep] at hz
    split at hz
    · obtain ⟨w, rest, rfl, hg, hrest⟩ := zL2_cons hst
      obtain ⟨h1, hk⟩ := z_and hz
      exact lv_dup hx hb (of_decide_eq_true k1) (by rw [zg_cat hg]; exact Nat.eq_of_beq_eq_true h1) (IH _ hk ls _ H locs ws ⟨hl, hL, ⟨hg, hg, hrest⟩, hH, hP, hD, hS, hnc, hns, hpre⟩)
    · cases hz
  case pop =>
    simp only [zstep] at hz
    split at hz
    · obtain ⟨w, rest, rfl, hg, hrest⟩ := zL2_cons hst
      obtain ⟨h1, hk⟩ := z_and hz
      exact lv_pop hx hb (of_decide_eq_true k1) (by rw [zg_cat hg]; exact Nat.eq_of_beq_eq_true h1) (IH _ hk ls _ H locs ws ⟨hl, hL, hrest, hH, hP, hD, hS, hnc, hns, hpre⟩)
    · cases hz
  case dup2 =>
    simp only [zstep] at hz
    split at hz
    · obtain ⟨w1, w2, rest, rfl, g1, g2, hrest⟩ := zL2_2 hst
      obtain ⟨h1, hz⟩ := z_and hz
      obtain ⟨h2, hk⟩ := z_and hz
      exact lv_dup2_11 hx hb (of_decide_eq_true k1) (by rw [zg_cat g1]; exact Nat.eq_of_beq_eq_true h1) (by rw [zg_cat g2]; exact Nat.eq_of_beq_eq_true h2) (IH _ hk ls _ H locs ws ⟨hl, hL, ⟨g1, g2, g1, g2, hrest⟩, hH, hP, hD, hS, hnc, hns, hpre⟩)
    · cases hz
  case dup_x1 =>
    simp only [zstep] at hz
    split at hz
    · obtain ⟨w1, w2, rest, rfl, g1, g2, hrest⟩ := zL2_2 hst
      obtain ⟨h1, hz⟩ := z_and hz
      obtain ⟨h2, hk⟩ := z_and hz
      exact lv_dup_x1 hx hb (of_decide_eq_true k1) (by rw [zg_cat g1]; exact Nat.eq_of_beq_eq_true h1) (by rw [zg_cat g2]; exact Nat.eq_of_beq_eq_true h2) (IH _ hk ls _ H locs ws ⟨hl, hL, ⟨g1, g2, g1, hrest⟩, hH, hP, hD, hS, hnc, hns, hpre⟩)
    · cases hz
  case ifCond cd off => exact z_ifc C IH hrel k1 hz
  case if_icmp cd off => exact z_icmp C IH hrel k1 hz
  case goto off =>
    simp only [zstep] at hz
    obtain ⟨t, ht, hk⟩ := zof_sp hz
    exact lv_goto hx hb (of_decide_eq_true k1) ht (IH _ hk ls _ H locs ws ⟨hl, hL, hst, hH, hP, hD, hS, hnc, hns, hpre⟩)
  case ifnull off =>
    simp only [zstep] at hz
    split at hz
    · obtain ⟨w, rest, rfl, hg, hrest⟩ := zL2_cons hst
      cases hg
      obtain ⟨t, ht, hk⟩ := zof_sp hz
      exact lv_ifnullN hx hb (of_decide_eq_true k1) ht (IH _ hk ls _ H locs ws ⟨hl, hL, hrest, hH, hP, hD, hS, hnc, hns, hpre⟩)
    · obtain ⟨w, rest, rfl, ⟨b0, hb0, rfl⟩, hrest⟩ := zL2_cons hst
      exact lv_ifnull hx hb (of_decide_eq_true k1) (IH _ hz ls _ H locs ws ⟨hl, hL, hrest, hH, hP, hD, hS, hnc, hns, hpre⟩)
    · cases hz
  case ifnonnull off =>
    simp only [zstep] at hz
    split at hz
    · obtain ⟨w, rest, rfl, ⟨b0, hb0, rfl⟩, hrest⟩ := zL2_cons hst
      obtain ⟨t, ht, hk⟩ := zof_sp hz
      exact lv_ifnonnull hx hb (of_decide_eq_true k1) ht (IH _ hk ls _ H locs ws ⟨hl, hL, hrest, hH, hP, hD, hS, hnc, hns, hpre⟩)
    · obtain ⟨w, rest, rfl, hg, hrest⟩ := zL2_cons hst
      cases hg
      exact lv_ifnonnullN hx hb (of_decide_eq_true k1) (IH _ hz ls _ H locs ws ⟨hl, hL, hrest, hH, hP, hD, hS, hnc, hns, hpre⟩)
    · cases hz
  case tableswitch df lo hi offs => exact z_tsw C IH hrel k1 hz
  case getfield ix => exact z_getf C IH hrel k1 k2 k3 hz
  case putfield ix => exact z_putf C IH hrel k1 k2 k3 hz
  case new ix => exact z_new C IH hrel k1 k2 k3 hz
  case newarray ty => exact z_newa C IH hrel k1 k3 hz
  case anewarray ix => exact z_newq C IH hrel k1 k3 hz
  case multianewarray ix dd => exact z_mna C IH hrel k1 k2 k3 hz
  case iaload => exact z_ild C IH hrel k1 hz
  case baload => exact z_zld C IH hrel k1 hz
  case bastore => exact z_zst C IH hrel k1 hz
  case getstatic ix => exact z_gst C IH hrel k1 k3 hz
  case laload => exact z_lld C IH hrel k1 hz
  case aaload => exact z_ald C IH hrel k1 hz
  case iastore => exact z_ist C IH hrel k1 hz
  case lastore => exact z_lst C IH hrel k1 hz
  case aastore => exact z_ast C IH hrel k1 hz
  case arraylength => exact z_alen C IH hrel k1 hz
  case ldc ix => exact z_ldc C IH hrel k1 k2 k3 hz
  case ldc_w ix =>
    simp only [zside] at k2
    split at k2
    · exact lv_ldcw hx hb hown (hts _ (k3 _ List.mem_cons_self)) (of_decide_eq_true k1) (IH _ hz ls _ H locs ws ⟨hl, hL, ⟨rfl, hst⟩, hH, hP, hD, hS, hnc, hns, hpre⟩)
    · cases k2
  case ldc2_w ix =>
    simp only [zside] at k2
    split at k2
    · exact lv_ldc2 hx hb hown (hts _ (k3 _ List.mem_cons_self)) (of_decide_eq_true k1) (IH _ hz ls _ H locs ws ⟨hl, hL, ⟨rfl, hst⟩, hH, hP, hD, hS, hnc, hns, hpre⟩)
    · cases k2
  case invokevirtual ix =>
    simp only [zstep] at hz
    split at hz
    · refine z_invV C hG hTN hOk HM IH hrel (fun E' hE => ?_) (of_decide_eq_true k1) hz
      have k5 : (match prog a with | some E => Nat.blt (zEk E) 6 && (decide (E.1.name ≠ "<init>")) | none => false) = true := k2
      rw [hE] at k5
      obtain ⟨q1, q2⟩ := z_and k5
      refine ⟨z_blt q1, of_decide_eq_true q2, k3 _ ?_⟩
      simp only [zwords]
      rw [hE]
      exact List.mem_cons_self
    · split at hz
      · next q r =>
        split at hz
        · next x hx1 =>
          obtain ⟨h1, hk⟩ := z_and hz
          exact z_invL C hG hTN HL hLw IH hrel (k3 _ List.mem_cons_self) (of_decide_eq_true k1) hx1 (z_ble h1) hk
        · cases hz
      · cases hz
    · split at hz
      · next y q r =>
        split at hz
        · next x hx1 =>
          obtain ⟨h1, hk⟩ := z_and hz
          exact z_invC C hG hTN HL hLw IH hrel (k3 _ List.mem_cons_self) (of_decide_eq_true k1) hx1 (z_ble h1) hk
        · cases hz
      · cases hz
    · cases hz
  case invokespecial ix =>
    simp only [zstep] at hz
    split at hz
    · split at hz
      · next q r =>
        obtain ⟨w, rest, rfl, ⟨b0, hb0, rfl⟩, hrest⟩ := zL2_cons hst
        obtain ⟨h1, hk⟩ := z_and hz
        have h8 : (rest.map fun v => v.category).sum ≤ 8 := by
          rw [zL2_sum hrest]
          exact z_ble h1
        have h9 := lv_room (m := m) (pc := pc) (ls := ls) (rest := .ref b0 :: rest) (st := rest) h8
        exact W.objInit hx hb hown (hts _ (k3 _ List.mem_cons_self)) (hts _ (hgl _ (by simp [zglob]))) (hts _ (hgl _ (by simp [zglob]))) rfl (by rw [hml]; exact hl.1) rfl (of_decide_eq_true k1) (by omega) (by omega) (IH _ hk ls _ H locs ws ⟨hl, hL, hrest, hH, hP, hD, hS, hnc, hns, hpre⟩)
      · cases hz
    · next hb6 =>
      refine z_invI C hG hTN hOk HM IH hrel (fun E' hE => ?_) (of_decide_eq_true k1) hz
      have k5 : (Nat.beq b 6 || (Nat.ble b 1 && (match prog a with | some E => Nat.blt (zEk E) 6 && (decide (E.1.name = "<init>")) | none => false))) = true := k2
      have n6 : Nat.beq b 6 = false := by
        rw [z_beq]
        simpa using hb6
      rw [n6, Bool.false_or, hE] at k5
      obtain ⟨q0, q1⟩ := z_and k5
      obtain ⟨q1, q2⟩ := z_and q1
      have q0 := z_ble q0
      refine ⟨z_blt q1, of_decide_eq_true q2, ?_⟩
      match b, q0 with
      | 0, _ =>
        refine Or.inl (k3 _ ?_)
        simp only [zwords]
        rw [hE]
        exact List.mem_cons_self
      | 1, _ =>
        refine Or.inr (k4 _ ?_)
        simp only [zwordsN]
        rw [hE]
        exact List.mem_cons_self
  case invokestatic ix =>
    simp only [zstep] at hz
    split at hz
    · split at hz
      · next n dp q1 sp q0 =>
        split at hz
        · cases hz
        · next g1 =>
          split at hz
          · cases hz
          · next g2 =>
            split at hz
            · cases hz
            · next g3 =>
              obtain ⟨f, j1, j2, hz⟩ := zrow_sp hz
              obtain ⟨g, j3, j4, hz⟩ := zrow_sp hz
              obtain ⟨j5, hz⟩ := z_and hz
              obtain ⟨j6, hz⟩ := z_and hz
              exact z_acopy C hgl IH hrel (of_decide_eq_true k1) (k3 _ List.mem_cons_self) rfl g1 g2 g3 j1 j3 j2 j4 (z_ble j5) (z_ble j6) hz
      · cases hz
    · split at hz
      · obtain ⟨w1, w2, rest, rfl, g1, g2, hrest⟩ := zL2_2 hst
        cases g1
        cases g2
        obtain ⟨h1, hk⟩ := z_and hz
        have h8 : (rest.map fun v => v.category).sum ≤ 8 := by
          rw [zL2_sum hrest]
          exact z_ble h1
        exact va_mmin hx hb (by rw [hml]; exact hl.1.symm) hown (hts _ (k3 _ List.mem_cons_self)) (hts _ (hgl _ (by simp [zglob]))) (hts _ (hgl _ (by simp [zglob]))) (hts _ (hgl _ (by simp [zglob]))) (by omega) (by omega) (by omega) (by omega) (of_decide_eq_true k1) (IH _ hk ls _ H locs ws ⟨hl, hL, ⟨rfl, hrest⟩, hH, hP, hD, hS, hnc, hns, hpre⟩)
      · cases hz
    · split at hz
      · obtain ⟨w1, w2, rest, rfl, g1, g2, hrest⟩ := zL2_2 hst
        cases g1
        cases g2
        obtain ⟨h1, hk⟩ := z_and hz
        have h8 : (rest.map fun v => v.category).sum ≤ 8 := by
          rw [zL2_sum hrest]
          exact z_ble h1
        exact va_mmax hx hb (by rw [hml]; exact hl.1.symm) hown (hts _ (k3 _ List.mem_cons_self)) (hts _ (hgl _ (by simp [zglob]))) (hts _ (hgl _ (by simp [zglob]))) (hts _ (hgl _ (by simp [zglob]))) (by omega) (by omega) (by omega) (by omega) (of_decide_eq_true k1) (IH _ hk ls _ H locs ws ⟨hl, hL, ⟨rfl, hrest⟩, hH, hP, hD, hS, hnc, hns, hpre⟩)
      · cases hz
    · split at hz
      · next n dp q1 sp q0 =>
        split at hz
        · cases hz
        · next g1 =>
          split at hz
          · cases hz
          · next g2 =>
            split at hz
            · cases hz
            · next g3 =>
              obtain ⟨f, j1, j2, hz⟩ := zrow_sp hz
              obtain ⟨g, j3, j4, hz⟩ := zrow_sp hz
              obtain ⟨j5, hz⟩ := z_and hz
              obtain ⟨j6, hz⟩ := z_and hz
              exact z_acopyl C hgl IH hrel (of_decide_eq_true k1) (k3 _ List.mem_cons_self) rfl g1 g2 g3 j1 j3 j2 j4 (z_ble j5) (z_ble j6) hz
      · cases hz
    · next hb7 hb9 hb10 hb12 =>
      refine z_invS C hG hTN hOk HM IH hrel (fun E' hE => ?_) (of_decide_eq_true k1) hz
      have k5 : (Nat.beq b 7 || Nat.beq b 9 || Nat.beq b 10 || Nat.beq b 12 || (Nat.ble b 1 && (match prog a with | some E => Nat.beq (zEk E) 99 | none => false))) = true := k2
      have n7 : Nat.beq b 7 = false := by
        rw [z_beq]
        simpa using hb7
      have n9 : Nat.beq b 9 = false := by
        rw [z_beq]
        simpa using hb9
      have n10 : Nat.beq b 10 = false := by
        rw [z_beq]
        simpa using hb10
      have n12 : Nat.beq b 12 = false := by
        rw [z_beq]
        simpa using hb12
      rw [n7, n9, n10, n12, Bool.false_or, Bool.false_or, Bool.false_or, Bool.false_or, hE] at k5
      obtain ⟨q0, q1⟩ := z_and k5
      have q0 := z_ble q0
      refine ⟨Nat.eq_of_beq_eq_true q1, ?_⟩
      match b, q0 with
      | 0, _ =>
        refine Or.inl (k3 _ ?_)
        simp only [zwords]
        rw [hE]
        exact List.mem_cons_self
      | 1, _ =>
        refine Or.inr (k4 _ ?_)
        simp only [zwordsN]
        rw [hE]
        exact List.mem_cons_self
end
end
section
theorem z_sl : ∀ (vs : List Value), (lg_sl vs).length = (vs.map fun v => v.category).sum
  | [] => rfl
  | v :: vs => by
    have h := z_sl vs
    cases v <;> simp_all [lg_sl, Value.category] <;> omega
section
variable {p : Program} {l : Launch} {e : Env} {R : Room} {s : State} {m : MethodId} {args : Array Value} {below : List Frame} {meth : Method} {c : Code} {Q : State → Prop}
variable {prog : Nat → Option zE} {zst : zSt} {TG TN : List Cond} {scr : List zV} {adK adV : Nat → Nat} {ext : Nat → Option Nat} {D : va_G} {ct : Nat → ClassId} {A : Nat → Prop} {E : zE} {rc rs d : Nat} {ws0 : va_W} {cc : zK}
theorem zrun_sound (C : zCx p R s m args meth c prog zst TG TN scr adK adV ext D ct A E rc rs d) (hG : zGood TG) (hTN : zTNok TN) (hOk : zOkP prog zst TG TN) (HL : zSL l zst TG TN scr adK adV ext D ct d) (hLw : ∀ w ∈ zmwords zESL ++ zmwords zESC, w ∈ TG) (hgl : ∀ w ∈ zglob, w ∈ TG)
    (HM : ∀ j vs h post, cc j vs h post = true → zMet l prog zst TG TN scr adK adV ext D ct d j vs h post) {fin : Nat → zS → Bool} {post : Option zV → zH → Bool}
    (hfin : ∀ x : zS, fin x.1 x = true → zGo p l e R s m args below meth c Q ext D ct (zEm E) rc rs A ws0 x)
    (hret : ∀ (x : zS) (i : zI), zft (zEd E) x.1 = some i → zisRet i.1 = true → zret E.2.2.2.1 i.1 x.2.2.1 x.2.2.2.1 post = true → zGo p l e R s m args below meth c Q ext D ct (zEm E) rc rs A ws0 x) :
    ∀ (n : Nat) (x : zS), zrun zNf zdfl zslen prog E scr rc rs cc fin post n x = true → zGo p l e R s m args below meth c Q ext D ct (zEm E) rc rs A ws0 x := by
  intro n
  induction n with
  | zero =>
    intro x hx
    exact absurd hx Bool.false_ne_true
  | succ n ih =>
    intro x hx
    have hx : (if fin x.1 x then true else match zft (zEd E) x.1 with
      | some i => if zisRet i.1 then zret E.2.2.2.1 i.1 x.2.2.1 x.2.2.2.1 post else zstep zNf zdfl zslen prog (zEm E) rc rs scr cc (zrun zNf zdfl zslen prog E scr rc rs cc fin post n) i.1 i.2.1 i.2.2.1 i.2.2.2.1 i.2.2.2.2.1 x.1 x.2.1 x.2.2.1 x.2.2.2.1 x.2.2.2.2.1 x.2.2.2.2.2
      | none => false) = true := hx
    by_cases hf : fin x.1 x = true
    · exact hfin x hf
    · rw [if_neg hf] at hx
      split at hx
      · next i hi =>
        by_cases hr : zisRet i.1 = true
        · rw [if_pos hr] at hx
          exact hret x i hi hr hx
        · rw [if_neg hr] at hx
          have hC := C.2.2.2.2.2.2.2.2.2.2.2.2.2.2.2.2.2.1
          obtain ⟨k1, k2, k3, k4⟩ := hC x.1 i hi
          intro ls stc H locs ws hrel
          exact zstep_sound C hG hTN hOk HL hLw hgl HM ih hrel k1 k2 k3 k4 hx
      · cases hx
end
theorem zret_sp {ret : Option FieldType} {i : Instr} {st : List zV} {h : zH} {post : Option zV → zH → Bool} (hr : zret ret i st h post = true) :
    (∃ v, i = .ireturn ∧ st = [v] ∧ ((ret = some .int ∧ zisI v = true) ∨ (ret = some .boolean ∧ zfit 3 v = true)) ∧ post (some v) h = true) ∨ (∃ v, i = .lreturn ∧ st = [v] ∧ ret = some .long ∧ zisL v = true ∧ post (some v) h = true) ∨ (∃ v n, i = .areturn ∧ st = [v] ∧ ret = some (.object n) ∧ zisR v = true ∧ post (some v) h = true) ∨ (i = .return_ ∧ st = [] ∧ ret = none ∧ post none h = true) := by
  unfold zret at hr
  split at hr
  · next v =>
    split at hr
    · obtain ⟨h1, h2⟩ := z_and hr
      exact Or.inl ⟨v, rfl, rfl, Or.inl ⟨rfl, h1⟩, h2⟩
    · obtain ⟨h1, h2⟩ := z_and hr
      exact Or.inl ⟨v, rfl, rfl, Or.inr ⟨rfl, h1⟩, h2⟩
    · cases hr
  · next v =>
    obtain ⟨h0, hr⟩ := z_and hr
    obtain ⟨h1, h2⟩ := z_and hr
    exact Or.inr (Or.inl ⟨v, rfl, rfl, of_decide_eq_true h0, h1, h2⟩)
  · next v =>
    split at hr
    · next n =>
      obtain ⟨h1, h2⟩ := z_and hr
      exact Or.inr (Or.inr (Or.inl ⟨v, n, rfl, rfl, rfl, h1, h2⟩))
    · cases hr
  · obtain ⟨h0, h2⟩ := z_and hr
    exact Or.inr (Or.inr (Or.inr ⟨rfl, rfl, of_decide_eq_true h0, h2⟩))
  · cases hr
theorem z_metG {l : Launch} {prog : Nat → Option zE} {zst : zSt} {TG TN : List Cond} {scr : List zV} {adK adV : Nat → Nat} {ext : Nat → Option Nat} {D : va_G} {ct : Nat → ClassId} {d j : Nat} {vs : List zV} {h : zH} {post : Option zV → zH → Bool}
    (hOk : zOkP prog zst TG TN) (huw : ∀ w ∈ zuws, w ∈ TG)
    {E : zE} (hE : prog j = some E) (hsum : zsum vs ≤ zEm E)
    (HB : ∀ {p : Program} {e : Env} {s : State} {m : MethodId} {args : Array Value} {below : List Frame} {meth : Method} {c : Code} {Q : State → Prop} {A : Nat → Prop} {ws0 : va_W}, zCx p (zrm E (d + 1)) s m args meth c prog zst TG TN scr adK adV ext D ct A E (zEc E) (zEs E) d →
      (∀ (x : zS) (i : zI), zft (zEd E) x.1 = some i → zisRet i.1 = true → zret E.2.2.2.1 i.1 x.2.2.1 x.2.2.2.1 post = true → zGo p l e (zrm E (d + 1)) s m args below meth c Q ext D ct (zEm E) (zEc E) (zEs E) A ws0 x) →
      zGo p l e (zrm E (d + 1)) s m args below meth c Q ext D ct (zEm E) (zEc E) (zEs E) A ws0 (0, zarg 0 vs, [], h, 0, 0)) {ws : va_W} {sz : Nat} {argv : List Value} (hv : zL2 (zrho ws ext) vs argv) (hH : zHp (zrho ws ext) ct h ws) :
    Met l E.1 (zWS TG E) (zrm E (d + 1)) (va_Pc argv (zPcB zst TN scr adK adV ext D ct ws sz)) (zQr ext D ct ws sz post) (zEc E) (zEs E) (va_A ws sz) := by
  obtain ⟨hC, hms, hmw⟩ := hOk j E hE
  refine Met.ofW (cc := E.2.1) (maxL := zEm E) (ret := E.2.2.2.1) (z_mside hms).2.2.2.2.1 rfl ?_
  intro p e s m args below meth c s₁ B hml hpv
  obtain ⟨rfl, hsz, hP, hK, hD0, hN, hF, h1, h2, h3⟩ := hpv
  subst hsz
  have hts := atoms_spec (ws := zWS TG E) B.pre
  have hlocks := B.notSynchronized
  have C : zCx p (zrm E (d + 1)) s m argv.toArray meth c prog zst TG TN scr adK adV ext D ct (va_A ws s.heap.size) E (zEc E) (zEs E) d := by
    refine ⟨B.exec, B.bytes, hml, findClass_of_methodNamed B.named, fun w hw => hts w (List.mem_cons_of_mem _ hw), fun hi => ?_, hK, hN, hF, h1, h2, h3, fun q hq => Or.inr hq, Nat.le_refl _, Nat.le_refl _, Nat.le_refl _, Nat.le_refl _, hC, huw⟩
    rw [← hi]
    exact (name_of_methodNamed B.named B.method).1
  have hlen : (lg_sl argv).length ≤ zEm E := by
    rw [z_sl, zL2_sum hv]
    exact hsum
  have hl := lv_entry argv (n := zEm E) hlen
  rw [lg_entry_eq]
  generalize (lg_sl argv ++ List.replicate (zEm E - (lg_sl argv).length) Slot.unset).toArray = ls at hl ⊢
  have key : zGo p l e (zrm E (d + 1)) s m argv.toArray below meth c (MQ below (zQr ext D ct ws s.heap.size post) argv.toArray s (zEc E) (zEs E) (va_A ws s.heap.size)) ext D ct (zEm E) (zEc E) (zEs E) (va_A ws s.heap.size) ws (0, zarg 0 vs, [], h, 0, 0) := by
    refine HB C (fun x i hi hr hx => ?_)
    intro ls stc H locs ws' hrel
    obtain ⟨hl', hL', hst, hH', hP', hD', hS', hnc, hns, hpre⟩ := hrel
    have k1 := (hC x.1 i hi).1
    have hq : ∀ (r : Option zV) (v : Option Value), post r x.2.2.2.1 = true → zgo (zrho ws' ext) r v → ∀ t : State, t.heap = H → s.WarmedH t.vm → zQr ext D ct ws s.heap.size post argv.toArray s (.returned v) t := fun r v hp hg t ht _ =>
      ⟨⟨r, _, v, ws', hp, rfl, hg, hH', by rw [ht]; exact hP', hD', hpre⟩, by rw [ht]; exact hS'.1, fun q h8 h9 => by rw [ht]; exact hS'.2.1 q h8 h9⟩
    refine W.widen hnc hns ?_
    rcases zret_sp hx with ⟨v, hi1, hst1, hty, hp⟩ | ⟨v, hi1, hst1, hty, h9, hp⟩ | ⟨v, n9, hi1, hst1, hty, h9, hp⟩ | ⟨hi1, hst1, hty, hp⟩
    · rw [hi1] at k1
      rw [hst1] at hst
      obtain ⟨w, r', rfl, hg, hr'⟩ := zL2_cons hst
      have e0 := zL2_nil hr'
      subst e0
      rcases hty with ⟨hty, h9⟩ | ⟨hty, h9⟩
      · obtain ⟨xv, rfl, -⟩ := zg_I hg h9
        exact W.iret B.exec B.bytes (by rw [← hty]; exact B.returns) (hq (some v) (some (.int xv)) hp hg) hS'.2.2 (of_decide_eq_true k1)
      · obtain ⟨xv, rfl, hxv⟩ := zfit3 h9
        cases hg
        refine W.zret (ty := .boolean) B.exec B.bytes (by rw [← hty]; exact B.returns) ?_ (hq (some (.inl (.int xv))) (some (.int xv)) hp rfl) hS'.2.2 (of_decide_eq_true k1)
        rcases hxv with rfl | rfl <;> decide
    · rw [hi1] at k1
      rw [hst1] at hst
      obtain ⟨w, r', rfl, hg, hr'⟩ := zL2_cons hst
      have e0 := zL2_nil hr'
      subst e0
      obtain ⟨xv, rfl, -⟩ := zg_L hg h9
      exact W.lret B.exec B.bytes (by rw [← hty]; exact B.returns) (hq (some v) (some (.long xv)) hp hg) hS'.2.2 (of_decide_eq_true k1)
    · rw [hi1] at k1
      rw [hst1] at hst
      obtain ⟨w, r', rfl, hg, hr'⟩ := zL2_cons hst
      have e0 := zL2_nil hr'
      subst e0
      refine W.aret (rt := .object n9) B.exec B.bytes (by rw [← hty]; exact B.returns) (Or.inl ⟨n9, rfl⟩) ?_ (hq (some v) (some w) hp hg) hS'.2.2 (of_decide_eq_true k1)
      rcases zg_R hg h9 with ⟨-, rfl⟩ | ⟨_, a9, -, -, rfl⟩
      · exact Or.inl rfl
      · exact Or.inr ⟨a9, rfl⟩
    · rw [hi1] at k1
      rw [hst1] at hst
      have e0 := zL2_nil hst
      subst e0
      exact W.vret B.exec B.bytes (by rw [← hty]; exact B.returns) (hq none none hp trivial) hS'.2.2 (of_decide_eq_true k1)
  exact key ls [] s.heap [] ws ⟨lv_sub hl [] rfl, zLo_arg (nL := zEm E) 0 hv hl.2.2, trivial, hH, hP, hD0.self, va_S.rf, Nat.zero_le _, Nat.zero_le _, zPre_rf ws⟩
theorem z_met {l : Launch} {prog : Nat → Option zE} {zst : zSt} {TG TN : List Cond} {scr : List zV} {adK adV : Nat → Nat} {ext : Nat → Option Nat} {D : va_G} {ct : Nat → ClassId} {d j : Nat} {cc : zK} {vs : List zV} {h : zH} {post : Option zV → zH → Bool}
    (hG : zGood TG) (hTN : zTNok TN) (hOk : zOkP prog zst TG TN) (huw : ∀ w ∈ zuws, w ∈ TG) (HL : zSL l zst TG TN scr adK adV ext D ct d) (hLw : ∀ w ∈ zmwords zESL ++ zmwords zESC, w ∈ TG) (hgl : ∀ w ∈ zglob, w ∈ TG)
    (HM : ∀ j vs h post, cc j vs h post = true → zMet l prog zst TG TN scr adK adV ext D ct d j vs h post) {E : zE} (hE : prog j = some E) (hsum : zsum vs ≤ zEm E) {n : Nat}
    (hz : zrun zNf zdfl zslen prog E scr (zEc E) (zEs E) cc (fun _ _ => false) post n (0, zarg 0 vs, [], h, 0, 0) = true) {ws : va_W} {sz : Nat} {argv : List Value} (hv : zL2 (zrho ws ext) vs argv) (hH : zHp (zrho ws ext) ct h ws) :
    Met l E.1 (zWS TG E) (zrm E (d + 1)) (va_Pc argv (zPcB zst TN scr adK adV ext D ct ws sz)) (zQr ext D ct ws sz post) (zEc E) (zEs E) (va_A ws sz) := by
  exact z_metG hOk huw hE hsum (fun C hr => zrun_sound C hG hTN hOk HL hLw hgl HM (fun x hx => absurd hx Bool.false_ne_true) hr n _ hz) hv hH
theorem zdeep_sound {l : Launch} {prog : Nat → Option zE} {zst : zSt} {TG TN : List Cond} {scr : List zV} {adK adV : Nat → Nat} {ext : Nat → Option Nat} {D : va_G} {ct : Nat → ClassId}
    (hG : zGood TG) (hTN : zTNok TN) (hOk : zOkP prog zst TG TN) (huw : ∀ w ∈ zuws, w ∈ TG) (HL : ∀ d, zSL l zst TG TN scr adK adV ext D ct d) (hLw : ∀ w ∈ zmwords zESL ++ zmwords zESC, w ∈ TG) (hgl : ∀ w ∈ zglob, w ∈ TG) :
    ∀ (d j : Nat) (vs : List zV) (h : zH) (post : Option zV → zH → Bool), zdeep zNf zdfl zslen prog scr d j vs h post = true → zMet l prog zst TG TN scr adK adV ext D ct d j vs h post := by
  intro d
  induction d with
  | zero =>
    intro j vs h post hz
    exact absurd hz Bool.false_ne_true
  | succ d ih =>
    intro j vs h post hz E hE ws sz argv hv hH
    have hz : (match prog j with
      | some E => Nat.ble (zsum vs) (zEm E) && zrun zNf zdfl zslen prog E scr (zEc E) (zEs E) (zdeep zNf zdfl zslen prog scr d) (fun _ _ => false) post 20000 (0, zarg 0 vs, [], h, 0, 0)
      | none => false) = true := hz
    rw [hE] at hz
    obtain ⟨h1, h2⟩ := z_and hz
    exact z_met hG hTN hOk huw (HL d) hLw hgl ih hE (z_ble h1) h2 hv hH
end
section
noncomputable def zB (P : Prop) : Bool := @decide P (Classical.propDecidable P)
theorem zB_iff {P : Prop} : zB P = true ↔ P := by
  unfold zB
  exact @decide_eq_true_iff P (Classical.propDecidable P)
/-- one step of E's code from x, its ends sent to K -/
noncomputable def zS1 (prog : Nat → Option zE) (E : zE) (scr : List zV) (rc rs : Nat) (cc : zK) (post : Option zV → zH → Bool) (K : zS → Bool) (i : zI) (x : zS) : Bool :=
  if zisRet i.1 then zret E.2.2.2.1 i.1 x.2.2.1 x.2.2.2.1 post else zstep zNf zdfl zslen prog (zEm E) rc rs scr cc K i.1 i.2.1 i.2.2.1 i.2.2.2.1 i.2.2.2.2.1 x.1 x.2.1 x.2.2.1 x.2.2.2.1 x.2.2.2.2.1 x.2.2.2.2.2
def zWalk (prog : Nat → Option zE) (E : zE) (scr : List zV) (rc rs : Nat) (cc : zK) (post : Option zV → zH → Bool) (G : zS → Prop) : Prop :=
  ∀ (x : zS) (i : zI), zft (zEd E) x.1 = some i → zS1 prog E scr rc rs cc post (fun y => zB (G y)) i x = true → G x
noncomputable def zD (prog : Nat → Option zE) (scr : List zV) (d : Nat) : zK :=
  Nat.rec (fun _ _ _ _ => false) (fun _ ih j vs h post => match prog j with
    | some E => Nat.ble (zsum vs) (zEm E) && zB (∀ G : zS → Prop, zWalk prog E scr (zEc E) (zEs E) ih post G → G (0, zarg 0 vs, [], h, 0, 0))
    | none => false) d
theorem zD_intro {prog : Nat → Option zE} {scr : List zV} {d j : Nat} {vs : List zV} {h : zH} {post : Option zV → zH → Bool} {E : zE} (hE : prog j = some E) (hs : Nat.ble (zsum vs) (zEm E) = true)
    (hw : ∀ G : zS → Prop, zWalk prog E scr (zEc E) (zEs E) (zD prog scr d) post G → G (0, zarg 0 vs, [], h, 0, 0)) : zD prog scr (d + 1) j vs h post = true := by
  show (match prog j with
    | some E => Nat.ble (zsum vs) (zEm E) && zB (∀ G : zS → Prop, zWalk prog E scr (zEc E) (zEs E) (zD prog scr d) post G → G (0, zarg 0 vs, [], h, 0, 0))
    | none => false) = true
  rw [hE]
  show (_ && _) = true
  rw [hs, zB_iff.mpr hw]
  rfl
theorem zD_sound {l : Launch} {prog : Nat → Option zE} {zst : zSt} {TG TN : List Cond} {scr : List zV} {adK adV : Nat → Nat} {ext : Nat → Option Nat} {D : va_G} {ct : Nat → ClassId}
    (hG : zGood TG) (hTN : zTNok TN) (hOk : zOkP prog zst TG TN) (huw : ∀ w ∈ zuws, w ∈ TG) (HL : ∀ d, zSL l zst TG TN scr adK adV ext D ct d) (hLw : ∀ w ∈ zmwords zESL ++ zmwords zESC, w ∈ TG) (hgl : ∀ w ∈ zglob, w ∈ TG) :
    ∀ (d j : Nat) (vs : List zV) (h : zH) (post : Option zV → zH → Bool), zD prog scr d j vs h post = true → zMet l prog zst TG TN scr adK adV ext D ct d j vs h post := by
  intro d
  induction d with
  | zero =>
    intro j vs h post hz
    exact absurd hz Bool.false_ne_true
  | succ d ih =>
    intro j vs h post hz E hE ws sz argv hv hH
    have hz : (match prog j with
      | some E => Nat.ble (zsum vs) (zEm E) && zB (∀ G : zS → Prop, zWalk prog E scr (zEc E) (zEs E) (zD prog scr d) post G → G (0, zarg 0 vs, [], h, 0, 0))
      | none => false) = true := hz
    rw [hE] at hz
    obtain ⟨h1, h2⟩ := z_and hz
    have h2 := zB_iff.mp h2
    refine z_metG hOk huw hE (z_ble h1) (fun {p e s m args below meth c Q A ws0} C hr => h2 _ ?_) hv hH
    intro x i hi hx
    unfold zS1 at hx
    by_cases hri : zisRet i.1 = true
    · rw [if_pos hri] at hx
      exact hr x i hi hri hx
    · rw [if_neg hri] at hx
      obtain ⟨k1, k2, k3, k4⟩ := C.2.2.2.2.2.2.2.2.2.2.2.2.2.2.2.2.2.1 x.1 i hi
      intro ls stc H locs ws' hrel
      exact zstep_sound C hG hTN hOk (HL d) hLw hgl ih (fun y hy => zB_iff.mp hy) hrel k1 k2 k3 k4 hx
end
section
abbrev zEco : zE := (yJ0_coder_7d493, cJ0_coder_7d493, 1, some .byte, 0, 98, 0, 0, [])
def zco (i : Nat) (h : zH) : Option zV → zH → Bool := fun r h' => decide (r = some (.inl (.int 0))) && decide (h' = h)
def zslw : List Cond := [.fieldLink "java/lang/String" 9 "java/lang/String" "value" "[B", .methodLink "java/lang/String" 335 yJ0_coder_7d493, .instanceMethod yJ0_coder_7d493, .selects "java/lang/String" yJ0_coder_7d493 yJ0_coder_7d493, .initialized "java/lang/String", .code yJ0_coder_7d493 cJ0_coder_7d493 1 (some .byte), .fieldLink "java/lang/String" 38 "java/lang/String" "COMPACT_STRINGS" "Z", .fieldLink "java/lang/String" 15 "java/lang/String" "coder" "B"]
theorem zl0 : decode cJ0_length_8abf5 0 = .ok (.aload_n 0, 1) := by decide +kernel
theorem zl1 : decode cJ0_length_8abf5 1 = .ok (.getfield 9, 3) := by decide +kernel
theorem zl4 : decode cJ0_length_8abf5 4 = .ok (.arraylength, 1) := by decide +kernel
theorem zl5 : decode cJ0_length_8abf5 5 = .ok (.aload_n 0, 1) := by decide +kernel
theorem zl6 : decode cJ0_length_8abf5 6 = .ok (.invokevirtual 335, 3) := by decide +kernel
theorem zl9 : decode cJ0_length_8abf5 9 = .ok (.ishr, 1) := by decide +kernel
theorem zl10 : decode cJ0_length_8abf5 10 = .ok (.ireturn, 1) := by decide +kernel
theorem zc0 : decode cJ0_coder_7d493 0 = .ok (.getstatic 38, 3) := by decide +kernel
theorem zc3 : decode cJ0_coder_7d493 3 = .ok (.ifCond .eq 10, 3) := by decide +kernel
theorem zc6 : decode cJ0_coder_7d493 6 = .ok (.aload_n 0, 1) := by decide +kernel
theorem zc7 : decode cJ0_coder_7d493 7 = .ok (.getfield 15, 3) := by decide +kernel
theorem zc10 : decode cJ0_coder_7d493 10 = .ok (.goto 4, 3) := by decide +kernel
theorem zc14 : decode cJ0_coder_7d493 14 = .ok (.ireturn, 1) := by decide +kernel
theorem z_coder {l : Launch} {zst : zSt} {TG TN : List Cond} {scr : List zV} {adK adV : Nat → Nat} {ext : Nat → Option Nat} {D : va_G} {ct : Nat → ClassId} (hw : ∀ w ∈ zslw, w ∈ TG) {i : Nat} (hi : i < 8) (h : zH) (ws : va_W) (sz : Nat) (hH : zHp (zrho ws ext) ct h ws) :
    Met l yJ0_coder_7d493 (zWS TG zEco) ({ frames := 0, cells := 0, slots := 0, locals := 0 }) (va_Pc [.ref (adK i)] (zPcB zst TN scr adK adV ext D ct ws sz)) (zQr ext D ct ws sz (zco i h)) 0 0 (va_A ws sz) := by
  refine Met.ofW (cc := cJ0_coder_7d493) (maxL := 1) (ret := some .byte) (by decide) rfl ?_
  intro p e s m args below meth c s₁ B hml hpv
  obtain ⟨rfl, hsz, hP, hK, hD0, hN, hF, h1, h2, h3⟩ := hpv
  subst hsz
  have hts := atoms_spec (ws := zWS TG zEco) B.pre
  have hlocks := B.notSynchronized
  have hx := B.exec
  have hb := B.bytes
  have hown : s.vm.findClass "java/lang/String" = some m.cls := findClass_of_methodNamed B.named
  have hS : va_S (va_A ws s.heap.size) s.heap s.heap [] := va_S.rf
  have hl := lv_entry [.ref (adK i)] (n := 1) (Nat.le_of_ble_eq_true rfl)
  rw [lg_entry_eq]
  generalize (lg_sl [.ref (adK i)] ++ List.replicate (1 - (lg_sl [.ref (adK i)]).length) Slot.unset).toArray = ls at hl ⊢
  have hl : lv_has ls 1 [(0, .ref (adK i))] := hl
  have hwt : ∀ w ∈ zslw, w.before #[Value.ref (adK i)] s = true := fun w h => hts w (List.mem_cons_of_mem _ (hw w h))
  refine va_gets hx hb (ref := "java/lang/String") hF.2.2.2.1 hS hown (hwt _ (by simp [zslw])) (fun x hx => hx) zc0 ?_
  refine lv_if_eq (tgt := 13) hx hb zc3 (by decide) (fun q => absurd q (by decide)) (fun _ => ?_)
  refine lv_aload_n hx hb zc6 rfl (lv_at hl 0 rfl) ?_
  refine vk_getf hx hb (ref := "java/lang/String") (hF.2.2.1.1 i hi).2.1 hS hown (hwt _ (by simp [zslw])) (fun x hx => hx) zc7 ?_
  refine lv_goto (tgt := 14) hx hb zc10 (by decide) ?_
  exact W.zret (ty := .byte) hx hb B.returns (by decide) (fun t ht _ => ⟨⟨some (.inl (.int 0)), h, some (.int 0), ws, by simp [zco], rfl, rfl, hH, by rw [ht]; exact hP, hD0.self, zPre_rf ws⟩, by rw [ht]; exact Nat.le_refl _, fun q h8 h9 => by rw [ht]⟩) (fun q hq => by cases hq) zc14
theorem z_slen {l : Launch} {zst : zSt} {TG TN : List Cond} {scr : List zV} {adK adV : Nat → Nat} {ext : Nat → Option Nat} {D : va_G} {ct : Nat → ClassId} (hG : zGood TG) (hTN : zTNok TN) (hw : ∀ w ∈ zslw, w ∈ TG) (huw : ∀ w ∈ zuws, w ∈ TG) (d : Nat) : zSL1 l zst TG TN scr adK adV ext D ct d := by
  intro i hi h ws sz hH
  refine Met.ofW (cc := cJ0_length_8abf5) (maxL := 1) (ret := some .int) (by decide) rfl ?_
  intro p e s m args below meth c s₁ B hml hpv
  obtain ⟨rfl, hsz, hP, hK, hD0, hN, hF, h1, h2, h3⟩ := hpv
  subst hsz
  have hts := atoms_spec (ws := zWS TG zESL) B.pre
  have hlocks := B.notSynchronized
  have hx := B.exec
  have hb := B.bytes
  have hown : s.vm.findClass "java/lang/String" = some m.cls := findClass_of_methodNamed B.named
  have hS : va_S (va_A ws s.heap.size) s.heap s.heap [] := va_S.rf
  have hl := lv_entry [.ref (adK i)] (n := 1) (Nat.le_of_ble_eq_true rfl)
  rw [lg_entry_eq]
  generalize (lg_sl [.ref (adK i)] ++ List.replicate (1 - (lg_sl [.ref (adK i)]).length) Slot.unset).toArray = ls at hl ⊢
  have hl : lv_has ls 1 [(0, .ref (adK i))] := hl
  have hwt : ∀ w ∈ zslw, w.before #[Value.ref (adK i)] s = true := fun w h => hts w (List.mem_cons_of_mem _ (hw w h))
  have hTG : ∀ w ∈ TG, w.before #[Value.ref (adK i)] s = true := fun w h => hts w (List.mem_cons_of_mem _ h)
  obtain ⟨s1, s2, s3, s4⟩ := hF.2.2.1.1 i hi
  have C : zCx p { frames := d + 2, cells := 0, slots := 0, locals := 60 * (d + 2) } s m [Value.ref (adK i)].toArray meth c (fun _ => none) zst TG TN scr adK adV ext D ct (va_A ws s.heap.size) zESL 0 0 d :=
    ⟨hx, hb, hml, hown, hTG, fun q => absurd q (by decide), hK, hN, hF, h1, h2, h3, fun q hq => Or.inr hq, Nat.le_refl _, Nat.le_refl _, Nat.le_refl _, Nat.le_refl _, fun pc i hi => (by cases hi), huw⟩
  refine lv_aload_n hx hb zl0 rfl (lv_at hl 0 rfl) ?_
  refine vk_getf hx hb (ref := "java/lang/String") s3 hS hown (hwt _ (by simp [zslw])) (fun x hx => hx) zl1 ?_
  refine va_tlen hx hb s4 hS rfl zl4 ?_
  refine lv_aload_n hx hb zl5 rfl (lv_at hl 0 rfl) ?_
  have hpay : ∀ w ∈ zWS TG zEco, ∀ (a' : Array Value) (U : State), s.WarmedH U.vm → w.before a' U = true := by
    intro w hw9 a' U hW
    rcases List.mem_cons.mp hw9 with rfl | hw9
    · have hc := hw (.code yJ0_coder_7d493 cJ0_coder_7d493 1 (some .byte)) (by simp [zslw])
      exact word_at hW (hG _ hc) (hTG _ hc)
    · exact word_at hW (hG _ hw9) (hTG _ hw9)
  have cb : CallB (zrm zESL d) s [Value.ref (adK i)].toArray "java/lang/String" 335 yJ0_coder_7d493 cJ0_coder_7d493 1 (some .byte) (zWS TG zEco) ({ frames := 0, cells := 0, slots := 0, locals := 0 }) 0 0 0 := by
    refine ⟨rfl, rfl, by show 0 + 1 ≤ d + 1; omega, by show 8 + (1 + 11) + 0 ≤ 60 * (d + 1); omega, hpay, List.mem_cons_self, hwt _ (by simp [zslw]), hwt _ (by simp [zslw, yJ0_coder_7d493, RJ0]), ⟨by decide, by decide⟩, fun sig h => ?_, hwt _ (by simp [zslw])⟩
    have h9 : (parseMethodDescriptor yJ0_coder_7d493.desc).map (fun d => d.parameters.length) = some 0 := by decide +kernel
    rw [h] at h9
    exact (Option.some.inj h9).symm
  have hpcB : ∀ U : State, U.heap = s.heap → s.WarmedH U.vm → va_Pc [Value.ref (adK i)] (zPcB zst TN scr adK adV ext D ct ws s.heap.size) (Value.ref (adK i) :: []).toArray U := fun U hU hW => ⟨rfl, zPcB_at C hTN hP hD0.self hS hU hW⟩
  refine z_after (e := e) (rc := 0) (rs := 0) (mc := 0) (ms := 0) (nL := 1) (L := []) (r0 := [.inl (.int (Int32.ofNat (zlens.getD i 0)))]) (ws0 := ws) (post := zco i h) (fun q hq => Or.inr hq) (lv_sub hl [] rfl) (fun q hq => by cases hq) (show zL2 (zrho ws ext) [.inl (.int (Int32.ofNat (zlens.getD i 0)))] [.int (Int32.ofNat (zlens.getD i 0))] from ⟨rfl, trivial⟩) hD0.self hS (Nat.le_refl _) (Nat.le_refl _) (zPre_rf ws) (va_runV (As := []) (n := 0) (C := "java/lang/String") (nL := 1) ⟨hx, hb, hml, hown, hTG⟩ (z_coder hw hi h ws s.heap.size hH) ⟨cb, hwt _ (by simp [zslw]), hwt _ (by simp [zslw])⟩ ⟨zPcB_blind hTN, vk_recv hF.2.2.1 hi hS, hpcB⟩ rfl rfl hl.1 rfl (lv_room (by show 1 + 0 ≤ 8; omega)) zl6 ⟨by show 0 + 0 ≤ 0; omega, by show 0 + 0 ≤ 0; omega⟩) (fun r' h' hp => ?_)
  obtain ⟨p1, p2⟩ := z_and hp
  have p1 := of_decide_eq_true p1
  have p2 := of_decide_eq_true p2
  subst p1
  subst p2
  intro ls2 stc H locs ws' hrel
  obtain ⟨hl', hL', hst, hH', hP', hD', hS', hnc, hns, hpre⟩ := hrel
  obtain ⟨w1, w2, r2, rfl, e1, e2, hr2⟩ := zL2_2 hst
  have e3 := zL2_nil hr2
  subst e3
  cases e1
  cases e2
  refine lv_ishr hx hb zl9 ?_
  have hsh : ∀ j, j < 8 → Int32.ofNat (zlens.getD j 0) >>> ((0 : Int32) &&& 31) = Int32.ofNat (zlens.getD j 0) := by decide +kernel
  rw [hsh i hi]
  exact W.iret hx hb B.returns (fun t ht _ => ⟨⟨some (.inl (.int (Int32.ofNat (zlens.getD i 0)))), h', some (.int (Int32.ofNat (zlens.getD i 0))), ws', by simp, rfl, rfl, hH', by rw [ht]; exact hP', hD', hpre⟩, by rw [ht]; exact hS'.1, fun q h8 h9 => by rw [ht]; exact hS'.2.1 q h8 h9⟩) hS'.2.2 zl10
end
section
abbrev tC : Type := List (Nat × Int × Int)
abbrev tA : Type := Nat × Int × Int × Nat × tC
abbrev tL : Type := List (Nat × tA)
/-- a slot: kind, lo, hi, type, may be written -/
abbrev tSl : Type := Nat × Int × Int × Nat × Bool
/-- a type: the cell's tag, how many slots, the slots -/
abbrev tTy : Type := Nat × Nat × (Nat → tSl)
/-- a summary: the arguments; 0 none, 1 a value with conditions by argument, 2 within; the answer -/
abbrev tE : Type := List tA × Nat × tA × tC
def tval : zV → Int
  | .inl (.int x) => x.toInt
  | .inl (.long x) => x.toInt
  | _ => 0
def okS (T : List Nat) (s : tSl) (v : zV) : Prop := match s.1 with
  | 0 => ∃ x : Int32, v = .inl (.int x) ∧ s.2.1 ≤ x.toInt ∧ x.toInt ≤ s.2.2.1
  | 1 => ∃ x : Int64, v = .inl (.long x)
  | 4 => ∃ q : Nat, v = .inl (.ref q) ∧ T[q]? = some s.2.2.2.1
  | _ => True
def hOK (ty : Nat → tTy) (T : List Nat) (h : zH) : Prop := h.length = T.length ∧ h.length ≤ 1000000 ∧ ∀ q τ : Nat, T[q]? = some τ → ∃ vs : List zV, h[q]? = some ((ty τ).1, vs) ∧ vs.length = (ty τ).2.1 ∧ ∀ (i : Nat) (v : zV), vs[i]? = some v → okS T ((ty τ).2.2 i) v
def okA (T : List Nat) (a : tA) (v : zV) : Prop := match a.1 with
  | 0 => ∃ x : Int32, v = .inl (.int x) ∧ a.2.1 ≤ x.toInt ∧ x.toInt ≤ a.2.2.1
  | 1 => ∃ x : Int64, v = .inl (.long x) ∧ a.2.1 ≤ x.toInt ∧ x.toInt ≤ a.2.2.1
  | 2 => ∃ q : Nat, v = .inl (.ref q) ∧ T[q]? = some a.2.2.2.1
  | 4 => v = .inl (.ref a.2.2.2.1)
  | _ => False
def okTag (L : zL) (a : tA) (v : zV) : Prop := (∀ k : Nat, a.1 ≤ 1 → a.2.2.2.1 = k + 1 → ∃ x : Int32, zget L k = some (.inl (.int x)) ∧ tval v = x.toInt) ∧ ∀ c ∈ a.2.2.2.2, v ≠ .inl (.int 0) → ∃ x : Int32, zget L c.1 = some (.inl (.int x)) ∧ c.2.1 ≤ x.toInt ∧ x.toInt ≤ c.2.2
def okSt (T : List Nat) (L : zL) : List tA → List zV → Prop
  | [], [] => True
  | a :: l, v :: vs => (okA T a v ∧ okTag L a v) ∧ okSt T L l vs
  | _, _ => False
def okL (T : List Nat) (aL : tL) (L : zL) : Prop := ∀ p ∈ aL, ∃ v : zV, zget L p.1 = some v ∧ okA T p.2 v
def tI (lo hi : Int) : tA := (0, lo, hi, 0, [])
def tIf : tA := (0, -2147483648, 2147483647, 0, [])
def tIc (lo hi : Int) : tA := if -2147483648 ≤ lo ∧ hi ≤ 2147483647 then tI lo hi else tIf
def tLf : tA := (1, -9223372036854775808, 9223372036854775807, 0, [])
def tR (τ : Nat) : tA := (2, 0, 0, τ, [])
def tX (k : Nat) : tA := (4, 0, 0, k, [])
def tlo (a : tA) : Int := a.2.1
def thi (a : tA) : Int := a.2.2.1
def taux (a : tA) : Nat := a.2.2.2.1
def tcnd (a : tA) : tC := a.2.2.2.2
def tint (a : tA) : Bool := Nat.beq a.1 0
def tlong (a : tA) : Bool := Nat.beq a.1 1
def tref (a : tA) : Bool := Nat.beq a.1 2
def tcat (a : tA) : Nat := if a.1 = 1 then 2 else 1
def tsum : List tA → Nat
  | [] => 0
  | a :: l => tcat a + tsum l
def tget (aL : tL) (k : Nat) : Option tA := match aL.find? (fun p => Nat.beq p.1 k) with
  | some p => some p.2
  | none => none
/-- the stack forgets what it knows of local k -/
def tfog1 (k : Nat) (a : tA) : tA := (a.1, a.2.1, a.2.2.1, if a.1 ≤ 1 ∧ a.2.2.2.1 = k + 1 then 0 else a.2.2.2.1, a.2.2.2.2.filter (fun c => !(Nat.beq c.1 k)))
def tfog (k : Nat) (st : List tA) : List tA := st.map (tfog1 k)
def tput (aL : tL) (k : Nat) (a : tA) : tL := (k, (a.1, a.2.1, a.2.2.1, (if a.1 ≤ 1 then 0 else a.2.2.2.1), [])) :: aL.filter (fun p => !(Nat.beq p.1 k) && !(Nat.beq (p.1 + 1) k && Nat.beq p.2.1 1))
def tput2 (aL : tL) (k : Nat) (a : tA) : tL := (k, (a.1, a.2.1, a.2.2.1, 0, [])) :: aL.filter (fun p => !(Nat.beq p.1 k) && (!(Nat.beq p.1 (k + 1)) && !(Nat.beq (p.1 + 1) k && Nat.beq p.2.1 1)))
/-- what is on top, when local k is laid there -/
def tpush (k : Nat) (a : tA) : tA := if a.1 ≤ 1 then (a.1, a.2.1, a.2.2.1, (if a.1 = 0 then k + 1 else 0), []) else (a.1, a.2.1, a.2.2.1, a.2.2.2.1, [])
/-- local k is known to lie between -/
def tcut (aL : tL) (k : Nat) (lo hi : Int) : Option tL := match tget aL k with
  | some a => if a.1 = 0 then (if max a.2.1 lo ≤ min a.2.2.1 hi then some ((k, tI (max a.2.1 lo) (min a.2.2.1 hi)) :: aL.filter (fun p => !(Nat.beq p.1 k))) else none) else some aL
  | none => some aL
def tcutO (aL : tL) (k : Nat) (lo hi : Int) (K : tL → Bool) : Bool := match tcut aL k lo hi with
  | some aL' => K aL'
  | none => true
/-- cut by the tag of a -/
def tcutA (aL : tL) (a : tA) (lo hi : Int) (K : tL → Bool) : Bool := if lo ≤ hi ∧ lo ≤ thi a ∧ tlo a ≤ hi then (match taux a with
  | 0 => K aL
  | k + 1 => tcutO aL k lo hi K) else true
def tcutC : tC → tL → (tL → Bool) → Bool
  | [], aL, K => K aL
  | c :: cs, aL, K => tcutO aL c.1 c.2.1 c.2.2 (fun aL' => tcutC cs aL' K)
/-- both sides of a comparison x cd y, known to hold -/
def tcmp (cd : ClassFile.Cond) (aL : tL) (a b : tA) (K : tL → Bool) : Bool := match cd with
  | .eq => tcutA aL a (tlo b) (thi b) (fun aL' => tcutA aL' b (tlo a) (thi a) K)
  | .ne => if tlo b = thi b then (if tlo a = tlo b then tcutA aL a (tlo a + 1) (thi a) K else if thi a = tlo b then tcutA aL a (tlo a) (thi a - 1) K else K aL) else if tlo a = thi a then (if tlo b = tlo a then tcutA aL b (tlo b + 1) (thi b) K else if thi b = tlo a then tcutA aL b (tlo b) (thi b - 1) K else K aL) else K aL
  | .lt => tcutA aL a (tlo a) (thi b - 1) (fun aL' => tcutA aL' b (tlo a + 1) (thi b) K)
  | .ge => tcutA aL a (tlo b) (thi a) (fun aL' => tcutA aL' b (tlo b) (thi a) K)
  | .gt => tcutA aL a (tlo b + 1) (thi a) (fun aL' => tcutA aL' b (tlo b) (thi a - 1) K)
  | .le => tcutA aL a (tlo a) (thi b) (fun aL' => tcutA aL' b (tlo a) (thi b) K)
def tneg : ClassFile.Cond → ClassFile.Cond
  | .eq => .ne
  | .ne => .eq
  | .lt => .ge
  | .ge => .lt
  | .gt => .le
  | .le => .gt
/-- what a condition on top says, if it isn't 0 (cd against 0 holds) -/
def tknow (cd : ClassFile.Cond) (a : tA) : tC := match cd with
  | .ne => tcnd a
  | .gt => tcnd a
  | .lt => tcnd a
  | _ => []
def tup (n : Int) : Int := if n ≤ 1 then 1 else if n ≤ 3 then 3 else if n ≤ 7 then 7 else if n ≤ 15 then 15 else if n ≤ 31 then 31 else if n ≤ 63 then 63 else if n ≤ 127 then 127 else if n ≤ 255 then 255 else if n ≤ 511 then 511 else if n ≤ 1023 then 1023 else 2147483647
def tadd (a b : tA) : tA := tIc (tlo a + tlo b) (thi a + thi b)
def tsub (a b : tA) : tA := tIc (tlo a - thi b) (thi a - tlo b)
def tmul (a b : tA) : tA := if 0 ≤ tlo a ∧ 0 ≤ tlo b then tIc (tlo a * tlo b) (thi a * thi b) else tIf
def tand (a b : tA) : tA := if 0 ≤ tlo a then (if 0 ≤ tlo b then tI 0 (min (thi a) (thi b)) else tI 0 (thi a)) else if 0 ≤ tlo b then tI 0 (thi b) else tIf
def tor (a b : tA) : tA := if 0 ≤ tlo a ∧ 0 ≤ tlo b then tI 0 (tup (max (thi a) (thi b))) else tIf
def tshl (a b : tA) : tA := if tlo a = 1 ∧ thi a = 1 ∧ 0 ≤ tlo b ∧ thi b ≤ 30 then tI (2 ^ (tlo b).toNat) (2 ^ (thi b).toNat) else tIf
def tshr (a : tA) : tA := if 0 ≤ tlo a then tI 0 (thi a) else tIf
def tdiv (a b : tA) : tA := if 0 ≤ tlo a ∧ 1 ≤ tlo b then tI (tlo a / thi b) (thi a / tlo b) else tIf
def trem (a b : tA) : tA := if 0 ≤ tlo a ∧ 1 ≤ tlo b then tI 0 (thi b - 1) else tIf
def tl2i (a : tA) : tA := if -2147483648 ≤ tlo a ∧ thi a ≤ 2147483647 then tI (tlo a) (thi a) else tIf
def tmin (a b : tA) : tA := tI (min (tlo a) (tlo b)) (min (thi a) (thi b))
def tmax (a b : tA) : tA := tI (max (tlo a) (tlo b)) (max (thi a) (thi b))
/-- a is a kind of f -/
def tle (a f : tA) : Bool := Nat.beq a.1 f.1 && (match f.1 with
  | 0 => decide (tlo f ≤ tlo a) && decide (thi a ≤ thi f)
  | 1 => decide (tlo f ≤ tlo a) && decide (thi a ≤ thi f)
  | 2 => Nat.beq (taux a) (taux f)
  | 4 => Nat.beq (taux a) (taux f)
  | _ => false)
def tles : List tA → List tA → Bool
  | [], [] => true
  | a :: l, f :: fs => tle a f && tles l fs
  | _, _ => false
def tleL (aL fL : tL) : Bool := fL.all (fun p => match tget aL p.1 with
  | some a => tle a p.2
  | none => false)
/-- the conditions of an answer, by the callers' locals -/
def tconds (as : List tA) : tC → tC
  | [] => []
  | c :: cs => (match as[c.1]? with
    | some a => if a.1 ≤ 1 then (match taux a with
      | 0 => tconds as cs
      | k + 1 => (k, c.2.1, c.2.2) :: tconds as cs) else tconds as cs
    | none => tconds as cs)
def twith (as : List tA) : tC := match as with
  | a :: l :: m :: _ => if a.1 ≤ 1 then (match taux a with
    | 0 => []
    | k + 1 => [(k, tlo l, thi m)]) else []
  | _ => []
abbrev tK : Type := Nat → tL → List tA → Nat → Nat → Bool
def tcall (prog : Nat → Option zE) (sm : Nat → List tE) (hts : Nat → Nat) (D0 rc rs j : Nat) (E : zE) (as rest : List tA) (nc ns : Nat) (K : List tA → Nat → Nat → Bool) : Bool :=
  Nat.ble (hts j) D0 && (Nat.ble (nc + zEc E) rc && (Nat.ble (ns + zEs E) rs && (Nat.ble (tsum rest) 8 && (match (sm j).find? (fun e => tles as e.1) with
    | some e => (match e.2.1 with
      | 0 => K rest (nc + zEc E) (ns + zEs E)
      | 1 => K ((e.2.2.1.1, e.2.2.1.2.1, e.2.2.1.2.2.1, (if e.2.2.1.1 ≤ 1 then 0 else e.2.2.1.2.2.2.1), tconds as e.2.2.2) :: rest) (nc + zEc E) (ns + zEs E)
      | _ => as.all (fun x => Nat.ble x.1 1) && K ((0, 0, 1, 0, twith as) :: rest) (nc + zEc E) (ns + zEs E))
    | none => false))))
end
section
def tslot (s : tSl) (K : tA → Bool) : Bool := match s.1 with
  | 0 => K (tI s.2.1 s.2.2.1)
  | 1 => K tLf
  | 4 => K (tR s.2.2.2.1)
  | _ => false
def tfits (s : tSl) (c : Nat) (v : tA) : Bool := s.2.2.2.2 && (match s.1 with
  | 0 => tint v && (decide (s.2.1 ≤ tlo v) && (decide (thi v ≤ s.2.2.1) && (Nat.beq c 0 || (Nat.beq c 3 && (decide (0 ≤ tlo v) && decide (thi v ≤ 1))))))
  | 1 => tlong v && Nat.beq c 1
  | _ => false)
def tidx (ty : Nat → tTy) (tag : Nat) (r i : tA) (K : tSl → Bool) : Bool := tref r && (tint i && (Nat.beq (ty (taux r)).1 tag && (decide (0 ≤ tlo i) && (decide (thi i < ((ty (taux r)).2.1 : Int)) && K ((ty (taux r)).2.2 0)))))
def tbin (st : List tA) (f : tA → tA → tA) (K : List tA → Bool) : Bool := match st with
  | b :: a :: r => tint a && (tint b && K (f a b :: r))
  | _ => false
def tbinL (st : List tA) (K : List tA → Bool) : Bool := match st with
  | b :: a :: r => tlong a && (tlong b && K (tLf :: r))
  | _ => false
def tshL (st : List tA) (K : List tA → Bool) : Bool := match st with
  | b :: a :: r => tlong a && (tint b && K (tLf :: r))
  | _ => false
def tun (st : List tA) (f : tA → tA) (K : List tA → Bool) : Bool := match st with
  | a :: r => tint a && K (f a :: r)
  | _ => false
def tst (fx : List Nat) (nL k : Nat) (P : tA → Bool) (st : List tA) (aL : tL) (K : tL → List tA → Bool) : Bool := match st with
  | a :: r => P a && (Nat.blt k nL && (!(fx.contains k) && K (tput aL k a) (tfog k r)))
  | _ => false
def tst2 (fx : List Nat) (nL k : Nat) (st : List tA) (aL : tL) (K : tL → List tA → Bool) : Bool := match st with
  | a :: r => tlong a && (Nat.blt (k + 1) nL && (!(fx.contains k) && (!(fx.contains (k + 1)) && K (tput2 aL k a) (tfog k (tfog (k + 1) r)))))
  | _ => false
def tld (P : tA → Bool) (aL : tL) (k : Nat) (K : tA → Bool) : Bool := match tget aL k with
  | some a => P a && K (tpush k a)
  | none => false
def tisR (a : tA) : Bool := Nat.beq a.1 2 || Nat.beq a.1 4
def tbr (cd : ClassFile.Cond) (aL : tL) (a b : tA) (cs : tC) (K : tL → Bool) : Bool := tcmp cd aL a b (fun aL' => tcutC cs aL' K)
def tsw (aL : tL) (a : tA) (pc : Nat) (lo : Int) (offs : List Int) (K : Nat → tL → Bool) : Nat → Bool := fun i => match offs with
  | [] => true
  | o :: os => (if lo + (i : Int) ≤ thi a ∧ tlo a ≤ lo + (i : Int) then zof pc o (fun t => tcutA aL a (lo + (i : Int)) (lo + (i : Int)) (fun aL' => K t aL')) else true) && tsw aL a pc lo os K (i + 1)
def tstep (ty : Nat → tTy) (tB : Nat) (prog : Nat → Option zE) (sm : Nat → List tE) (hts : Nat → Nat) (fx : List Nat) (D0 nL rc rs : Nat) (K : tK) (ins : Instr) (cv : zV) (a b c pc : Nat) (aL : tL) (st : List tA) (nc ns : Nat) : Bool :=
  match ins with
  | .iconst n => K (pc + 1) aL (tI (Int32.ofInt n).toInt (Int32.ofInt n).toInt :: st) nc ns
  | .bipush n => K (pc + 2) aL (tI (Int8.ofInt n).toInt32.toInt (Int8.ofInt n).toInt32.toInt :: st) nc ns
  | .sipush n => K (pc + 3) aL (tI (Int16.ofInt n).toInt32.toInt (Int16.ofInt n).toInt32.toInt :: st) nc ns
  | .lconst n => K (pc + 1) aL ((1, (Int64.ofNat (n : Nat)).toInt, (Int64.ofNat (n : Nat)).toInt, 0, []) :: st) nc ns
  | .iload_n k => tld tint aL k.val (fun v => K (pc + 1) aL (v :: st) nc ns)
  | .iload k => tld tint aL k (fun v => K (pc + 2) aL (v :: st) nc ns)
  | .lload_n k => tld tlong aL k.val (fun v => K (pc + 1) aL (v :: st) nc ns)
  | .lload k => tld tlong aL k (fun v => K (pc + 2) aL (v :: st) nc ns)
  | .aload_n k => tld tisR aL k.val (fun v => K (pc + 1) aL (v :: st) nc ns)
  | .aload k => tld tisR aL k (fun v => K (pc + 2) aL (v :: st) nc ns)
  | .istore_n k => tst fx nL k.val tint st aL (fun aL' r => K (pc + 1) aL' r nc ns)
  | .istore k => tst fx nL k tint st aL (fun aL' r => K (pc + 2) aL' r nc ns)
  | .astore_n k => tst fx nL k.val tisR st aL (fun aL' r => K (pc + 1) aL' r nc ns)
  | .astore k => tst fx nL k tisR st aL (fun aL' r => K (pc + 2) aL' r nc ns)
  | .lstore_n k => tst2 fx nL k.val st aL (fun aL' r => K (pc + 1) aL' r nc ns)
  | .lstore k => tst2 fx nL k st aL (fun aL' r => K (pc + 2) aL' r nc ns)
  | .iinc k n => (match tget aL k with
    | some v => tint v && (Nat.blt k nL && (!(fx.contains k) && K (pc + 3) (tput aL k (tadd v (tI (Int32.ofInt n).toInt (Int32.ofInt n).toInt))) (tfog k st) nc ns))
    | none => false)
  | .iadd => tbin st tadd (fun st' => K (pc + 1) aL st' nc ns)
  | .isub => tbin st tsub (fun st' => K (pc + 1) aL st' nc ns)
  | .imul => tbin st tmul (fun st' => K (pc + 1) aL st' nc ns)
  | .iand => tbin st tand (fun st' => K (pc + 1) aL st' nc ns)
  | .ior => tbin st tor (fun st' => K (pc + 1) aL st' nc ns)
  | .ixor => tbin st (fun _ _ => tIf) (fun st' => K (pc + 1) aL st' nc ns)
  | .ishl => tbin st tshl (fun st' => K (pc + 1) aL st' nc ns)
  | .ishr => tbin st (fun x _ => tshr x) (fun st' => K (pc + 1) aL st' nc ns)
  | .iushr => tbin st (fun _ _ => tIf) (fun st' => K (pc + 1) aL st' nc ns)
  | .idiv => (match st with
    | y :: x :: r => tint x && (tint y && (decide (1 ≤ tlo y) && K (pc + 1) aL (tdiv x y :: r) nc ns))
    | _ => false)
  | .irem => (match st with
    | y :: x :: r => tint x && (tint y && (decide (1 ≤ tlo y) && K (pc + 1) aL (trem x y :: r) nc ns))
    | _ => false)
  | .ineg => tun st (fun x => tIc (-thi x) (-tlo x)) (fun st' => K (pc + 1) aL st' nc ns)
  | .ladd => tbinL st (fun st' => K (pc + 1) aL st' nc ns)
  | .lsub => tbinL st (fun st' => K (pc + 1) aL st' nc ns)
  | .lmul => tbinL st (fun st' => K (pc + 1) aL st' nc ns)
  | .land => tbinL st (fun st' => K (pc + 1) aL st' nc ns)
  | .lor => tbinL st (fun st' => K (pc + 1) aL st' nc ns)
  | .lxor => tbinL st (fun st' => K (pc + 1) aL st' nc ns)
  | .lshl => tshL st (fun st' => K (pc + 1) aL st' nc ns)
  | .lushr => tshL st (fun st' => K (pc + 1) aL st' nc ns)
  | .ldiv => (match st with
    | y :: x :: r => tlong x && (tlong y && (decide (1 ≤ tlo y) && K (pc + 1) aL (tLf :: r) nc ns))
    | _ => false)
  | .i2l => (match st with
    | x :: r => tint x && K (pc + 1) aL ((1, tlo x, thi x, taux x, []) :: r) nc ns
    | _ => false)
  | .l2i => (match st with
    | x :: r => tlong x && K (pc + 1) aL (tl2i x :: r) nc ns
    | _ => false)
  | .i2b => tun st (fun _ => tI (-128) 127) (fun st' => K (pc + 1) aL st' nc ns)
  | .i2s => tun st (fun _ => tI (-32768) 32767) (fun st' => K (pc + 1) aL st' nc ns)
  | .lcmp => (match st with
    | y :: x :: r => tlong x && (tlong y && K (pc + 1) aL (tI (-1) 1 :: r) nc ns)
    | _ => false)
  | .dup => (match st with
    | x :: r => !(tlong x) && K (pc + 1) aL (x :: x :: r) nc ns
    | _ => false)
  | .dup2 => (match st with
    | x :: y :: r => !(tlong x) && (!(tlong y) && K (pc + 1) aL (x :: y :: x :: y :: r) nc ns)
    | _ => false)
  | .dup_x1 => (match st with
    | x :: y :: r => !(tlong x) && (!(tlong y) && K (pc + 1) aL (x :: y :: x :: r) nc ns)
    | _ => false)
  | .pop => (match st with
    | x :: r => !(tlong x) && K (pc + 1) aL r nc ns
    | _ => false)
  | .ifCond cd off => (match st with
    | x :: r => tint x && zof pc off (fun t => tbr cd aL x (tI 0 0) (tknow cd x) (fun aL' => K t aL' r nc ns) && tbr (tneg cd) aL x (tI 0 0) (tknow (tneg cd) x) (fun aL' => K (pc + 3) aL' r nc ns))
    | _ => false)
  | .if_icmp cd off => (match st with
    | y :: x :: r => tint x && (tint y && zof pc off (fun t => tbr cd aL x y [] (fun aL' => K t aL' r nc ns) && tbr (tneg cd) aL x y [] (fun aL' => K (pc + 3) aL' r nc ns)))
    | _ => false)
  | .goto off => zof pc off (fun t => K t aL st nc ns)
  | .tableswitch d lo hi offs => (match st with
    | x :: r => tint x && (decide (hi - lo < (offs.size : Int)) && ((if tlo x < lo ∨ hi < thi x then zof pc d (fun t => K t aL r nc ns) else true) && tsw aL x pc lo offs.toList (fun t aL' => K t aL' r nc ns) 0))
    | _ => false)
  | .getfield _ => (match st with
    | x :: r => tref x && (Nat.beq (ty (taux x)).1 a && (Nat.blt b (ty (taux x)).2.1 && tslot ((ty (taux x)).2.2 b) (fun v => K (pc + 3) aL (v :: r) nc ns)))
    | _ => false)
  | .putfield _ => (match st with
    | v :: x :: r => tref x && (Nat.beq (ty (taux x)).1 a && (Nat.blt b (ty (taux x)).2.1 && (tfits ((ty (taux x)).2.2 b) c v && K (pc + 3) aL r nc ns)))
    | _ => false)
  | .newarray .boolean => (match st with
    | n :: r => tint n && (decide (tlo n = ((ty tB).2.1 : Int)) && (decide (thi n = ((ty tB).2.1 : Int)) && (Nat.ble (nc + 1) rc && (Nat.ble (ns + (ty tB).2.1) rs && K (pc + 2) aL (tR tB :: r) (nc + 1) (ns + (ty tB).2.1)))))
    | _ => false)
  | .iaload => (match st with
    | i :: x :: r => if Nat.beq x.1 4 then Nat.beq (taux x) 10000001 && (tint i && (decide (0 ≤ tlo i) && (decide (thi i ≤ 5) && K (pc + 1) aL (tI (-1) 4 :: r) nc ns))) else tidx ty 10 x i (fun s => tslot s (fun v => tint v && K (pc + 1) aL (v :: r) nc ns))
    | _ => false)
  | .laload => (match st with
    | i :: x :: r => tidx ty 11 x i (fun s => tslot s (fun v => tlong v && K (pc + 1) aL (v :: r) nc ns))
    | _ => false)
  | .baload => (match st with
    | i :: x :: r => tidx ty 15 x i (fun s => tslot s (fun v => tint v && K (pc + 1) aL (v :: r) nc ns))
    | _ => false)
  | .aaload => (match st with
    | i :: x :: r => (Nat.ble 12 (ty (taux x)).1 && Nat.ble (ty (taux x)).1 14) && tidx ty (ty (taux x)).1 x i (fun s => tslot s (fun v => tref v && K (pc + 1) aL (v :: r) nc ns))
    | _ => false)
  | .iastore => (match st with
    | v :: i :: x :: r => tidx ty 10 x i (fun s => tfits s 0 v && (tint v && K (pc + 1) aL r nc ns))
    | _ => false)
  | .lastore => (match st with
    | v :: i :: x :: r => tidx ty 11 x i (fun s => tfits s 1 v && (tlong v && K (pc + 1) aL r nc ns))
    | _ => false)
  | .bastore => (match st with
    | v :: i :: x :: r => tidx ty 15 x i (fun s => s.2.2.2.2 && (Nat.beq s.1 0 && (decide (s.2.1 ≤ 0) && (decide (1 ≤ s.2.2.1) && (tint v && K (pc + 1) aL r nc ns)))))
    | _ => false)
  | .arraylength => (match st with
    | x :: r => tref x && (Nat.ble 10 (ty (taux x)).1 && (Nat.ble (ty (taux x)).2.1 1000000 && K (pc + 1) aL (tI ((ty (taux x)).2.1 : Int) ((ty (taux x)).2.1 : Int) :: r) nc ns))
    | _ => false)
  | .ldc _ => (match cv with
    | .inl (.int x) => K (pc + 2) aL (tI x.toInt x.toInt :: st) nc ns
    | .inl (.ref k) => K (pc + 2) aL (tX k :: st) nc ns
    | _ => false)
  | .ldc_w _ => (match cv with
    | .inl (.int x) => K (pc + 3) aL (tI x.toInt x.toInt :: st) nc ns
    | _ => false)
  | .ldc2_w _ => (match cv with
    | .inl (.long x) => K (pc + 3) aL ((1, x.toInt, x.toInt, 0, []) :: st) nc ns
    | _ => false)
  | .getstatic _ => K (pc + 3) aL (tX 10000001 :: st) nc ns
  | .invokevirtual _ => (match b with
    | 0 => (match prog a with
      | some E => Nat.ble (zEp E) st.length && (match st.drop (zEp E) with
        | x :: r => tref x && (Nat.beq (ty (taux x)).1 (zEk E) && tcall prog sm hts D0 rc rs a E (x :: (st.take (zEp E)).reverse) r nc ns (fun st' nc' ns' => K (pc + 3) aL st' nc' ns'))
        | [] => false)
      | none => false)
    | _ => false)
  | .invokestatic _ => (match b with
    | 7 => (match st with
      | [n, dp, r1, sp, r0] => tint n && (tint dp && (tint sp && (tref r1 && (tref r0 && (Nat.beq (ty (taux r0)).1 10 && (Nat.beq (ty (taux r1)).1 10 && (decide (0 ≤ tlo n) && (decide (0 ≤ tlo dp) && (decide (0 ≤ tlo sp) && (decide (thi sp + thi n ≤ ((ty (taux r0)).2.1 : Int)) && (decide (thi dp + thi n ≤ ((ty (taux r1)).2.1 : Int)) && (tslot ((ty (taux r0)).2.2 0) (fun v => tfits ((ty (taux r1)).2.2 0) 0 v) && K (pc + 3) aL [] nc ns))))))))))))
      | _ => false)
    | 9 => (match st with
      | y :: x :: r => tint x && (tint y && (Nat.ble (tsum r) 8 && K (pc + 3) aL (tmin x y :: r) nc ns))
      | _ => false)
    | 10 => (match st with
      | y :: x :: r => tint x && (tint y && (Nat.ble (tsum r) 8 && K (pc + 3) aL (tmax x y :: r) nc ns))
      | _ => false)
    | 12 => false
    | _ => (match prog a with
      | some E => Nat.ble (zEp E) st.length && tcall prog sm hts D0 rc rs a E ((st.take (zEp E)).reverse) (st.drop (zEp E)) nc ns (fun st' nc' ns' => K (pc + 3) aL st' nc' ns')
      | none => false))
  | _ => false
def tretc (aL : tL) (a : tA) (c : Nat × Int × Int) : Bool := decide (thi a ≤ 0) && decide (0 ≤ tlo a) || ((match tget aL c.1 with
  | some v => tint v && (decide (c.2.1 ≤ tlo v) && decide (thi v ≤ c.2.2))
  | none => false) || (tcnd a).any (fun k => Nat.beq k.1 c.1 && (decide (c.2.1 ≤ k.2.1) && decide (k.2.2 ≤ c.2.2))))
def tret (ret : Option FieldType) (fx : List Nat) (e : tE) (ins : Instr) (aL : tL) (st : List tA) : Bool := match ins, st with
  | .ireturn, [a] => (match ret with
    | some .int => true
    | some .boolean => decide (0 ≤ tlo a) && decide (thi a ≤ 1)
    | _ => false) && (tint a && (Nat.beq e.2.1 1 && (tle a e.2.2.1 && e.2.2.2.all (fun c => fx.contains c.1 && tretc aL a c))))
  | .lreturn, [a] => decide (ret = some .long) && (tlong a && (Nat.beq e.2.1 1 && (tle a e.2.2.1 && e.2.2.2.isEmpty)))
  | .return_, [] => decide (ret = none) && Nat.beq e.2.1 0
  | _, _ => false
abbrev tCut : Type := Nat × tL × Nat × Nat
def tmt (rest : List tCut) (pc : Nat) (nc ns : Nat) (aL : tL) : Bool := rest.any (fun c => Nat.beq c.1 pc && (Nat.beq nc c.2.2.1 && (Nat.beq ns c.2.2.2 && tleL aL c.2.1)))
def tfin (heads : List Nat) (sp : Nat → Option (Nat × Int × Int)) (rest : List tCut) (pc : Nat) (aL : tL) (st : List tA) (nc ns : Nat) : Bool := heads.contains pc && (st.isEmpty && (match sp pc with
  | some q => (match tget aL q.1 with
    | some v => tint v && (tcutO aL q.1 (-2147483648) (q.2.1 - 1) (tmt rest pc nc ns) && (tcutO aL q.1 (q.2.2 + 1) 2147483647 (tmt rest pc nc ns) && (List.range (min (thi v) q.2.2 - max (tlo v) q.2.1 + 1).toNat).all (fun i => tcutO aL q.1 (max (tlo v) q.2.1 + (i : Int)) (max (tlo v) q.2.1 + (i : Int)) (tmt rest pc nc ns))))
    | none => false)
  | none => tmt rest pc nc ns aL))
def tone (ty : Nat → tTy) (tB : Nat) (prog : Nat → Option zE) (sm : Nat → List tE) (hts : Nat → Nat) (fx : List Nat) (D0 : Nat) (E : zE) (e : tE) (K : tK) : tK := fun pc aL st nc ns => match zft (zEd E) pc with
  | some i => if zisRet i.1 then tret E.2.2.2.1 fx e i.1 aL st else tstep ty tB prog sm hts fx D0 (zEm E) (zEc E) (zEs E) K i.1 i.2.1 i.2.2.1 i.2.2.2.1 i.2.2.2.2.1 pc aL st nc ns
  | none => false
def trun (ty : Nat → tTy) (tB : Nat) (prog : Nat → Option zE) (sm : Nat → List tE) (hts : Nat → Nat) (fx : List Nat) (D0 : Nat) (E : zE) (e : tE) (fin : tK) (n : Nat) : tK :=
  Nat.rec (fun _ _ _ _ _ => false) (fun _ ih pc aL st nc ns => if fin pc aL st nc ns then true else tone ty tB prog sm hts fx D0 E e ih pc aL st nc ns) n
def tchk (ty : Nat → tTy) (tB : Nat) (prog : Nat → Option zE) (sm : Nat → List tE) (hts : Nat → Nat) (fx : List Nat) (D0 : Nat) (E : zE) (e : tE) (heads : List Nat) (sp : Nat → Option (Nat × Int × Int)) (fuel : Nat) : List tCut → Bool
  | [] => true
  | c :: rest => tone ty tB prog sm hts fx D0 E e (trun ty tB prog sm hts fx D0 E e (tfin heads sp rest) fuel) c.1 c.2.1 [] c.2.2.1 c.2.2.2 && tchk ty tB prog sm hts fx D0 E e heads sp fuel rest
end
section
theorem t_bm {z : Int} (h1 : -2147483648 ≤ z) (h2 : z ≤ 2147483647) : z.bmod (2 ^ 32) = z := Int.bmod_eq_of_le (by omega) (by omega)
theorem t_lo (x : Int32) : -2147483648 ≤ x.toInt := by simpa using x.le_toInt
theorem t_hi (x : Int32) : x.toInt ≤ 2147483647 := by
  have := x.toInt_lt
  have h2 : x.toInt < 2147483648 := by simpa using this
  omega
theorem t_Llo (x : Int64) : -9223372036854775808 ≤ x.toInt := by simpa using x.le_toInt
theorem t_Lhi (x : Int64) : x.toInt ≤ 9223372036854775807 := by
  have := x.toInt_lt
  have h2 : x.toInt < 9223372036854775808 := by simpa using this
  omega
theorem t_add {x y : Int32} (h1 : -2147483648 ≤ x.toInt + y.toInt) (h2 : x.toInt + y.toInt ≤ 2147483647) : (x + y).toInt = x.toInt + y.toInt := by
  rw [Int32.toInt_add]; exact t_bm h1 h2
theorem t_sub {x y : Int32} (h1 : -2147483648 ≤ x.toInt - y.toInt) (h2 : x.toInt - y.toInt ≤ 2147483647) : (x - y).toInt = x.toInt - y.toInt := by
  rw [Int32.toInt_sub]; exact t_bm h1 h2
theorem t_mul {x y : Int32} (h1 : -2147483648 ≤ x.toInt * y.toInt) (h2 : x.toInt * y.toInt ≤ 2147483647) : (x * y).toInt = x.toInt * y.toInt := by
  rw [Int32.toInt_mul]; exact t_bm h1 h2
theorem t_neg {x : Int32} (h1 : -2147483648 ≤ -x.toInt) (h2 : -x.toInt ≤ 2147483647) : (-x).toInt = -x.toInt := by
  rw [Int32.toInt_neg]; exact t_bm h1 h2
theorem t_nn {x : Int32} (h : 0 ≤ x.toInt) : x.toInt = (x.toBitVec.toNat : Int) ∧ x.toBitVec.toNat < 2147483648 := by
  have h1 : x.toInt = x.toBitVec.toInt := rfl
  rw [h1, BitVec.toInt_eq_toNat_cond] at h ⊢
  have h3 := x.toBitVec.isLt
  by_cases h2 : 2 * x.toBitVec.toNat < 2 ^ 32
  · rw [if_pos h2]
    exact ⟨rfl, by omega⟩
  · rw [if_neg h2] at h
    omega
theorem t_of {x : Int32} (h : x.toBitVec.toNat < 2147483648) : x.toInt = (x.toBitVec.toNat : Int) := by
  have h1 : x.toInt = x.toBitVec.toInt := rfl
  rw [h1, BitVec.toInt_eq_toNat_cond, if_pos (by omega)]
theorem t_and {x y : Int32} (h : 0 ≤ x.toInt) : 0 ≤ (x &&& y).toInt ∧ (x &&& y).toInt ≤ x.toInt := by
  obtain ⟨h1, h2⟩ := t_nn h
  have e : (x &&& y).toBitVec.toNat = x.toBitVec.toNat &&& y.toBitVec.toNat := by
    rw [Int32.toBitVec_and, BitVec.toNat_and]
  have h3 : (x &&& y).toBitVec.toNat ≤ x.toBitVec.toNat := by
    rw [e]
    exact Nat.and_le_left
  have h4 := t_of (x := x &&& y) (by omega)
  omega
theorem t_andC (x y : Int32) : x &&& y = y &&& x := by
  apply Int32.toBitVec_inj.mp
  rw [Int32.toBitVec_and, Int32.toBitVec_and, BitVec.and_comm]
theorem t_or {x y : Int32} {n : Nat} (hn : n ≤ 31) (h : 0 ≤ x.toInt) (h' : 0 ≤ y.toInt) (hx : x.toInt < 2 ^ n) (hy : y.toInt < 2 ^ n) : 0 ≤ (x ||| y).toInt ∧ (x ||| y).toInt < 2 ^ n := by
  obtain ⟨h1, h2⟩ := t_nn h
  obtain ⟨g1, g2⟩ := t_nn h'
  have e : (x ||| y).toBitVec.toNat = x.toBitVec.toNat ||| y.toBitVec.toNat := by
    rw [Int32.toBitVec_or, BitVec.toNat_or]
  have c : ((2 ^ n : Nat) : Int) = (2 : Int) ^ n := by simp
  have hx2 : x.toBitVec.toNat < 2 ^ n := by
    rw [h1, ← c] at hx
    exact Int.ofNat_lt.mp hx
  have hy2 : y.toBitVec.toNat < 2 ^ n := by
    rw [g1, ← c] at hy
    exact Int.ofNat_lt.mp hy
  have h3 : (x ||| y).toBitVec.toNat < 2 ^ n := by
    rw [e]
    exact Nat.or_lt_two_pow hx2 hy2
  have h31 : (2 ^ n : Nat) ≤ 2 ^ 31 := Nat.pow_le_pow_right (by omega) hn
  have h4 := t_of (x := x ||| y) (by omega)
  rw [h4, ← c]
  exact ⟨Int.natCast_nonneg _, Int.ofNat_lt.mpr h3⟩
theorem t_shl {y : Int32} (h : 0 ≤ y.toInt) (h2 : y.toInt ≤ 30) : ((1 : Int32) <<< (y &&& 31)).toInt = 2 ^ y.toInt.toNat := by
  have h3 : ∀ k, k < 31 → ((1 : Int32) <<< (Int32.ofNat k &&& 31)).toInt = 2 ^ k := by decide +kernel
  have e : y = Int32.ofNat y.toInt.toNat := by
    have h5 : Int32.ofInt y.toInt = y := Int32.ofInt_toInt y
    have h6 : y.toInt = (y.toInt.toNat : Int) := by omega
    rw [h6] at h5
    exact h5.symm
  have := h3 y.toInt.toNat (by omega)
  rw [← e] at this
  exact this
theorem t_shr {x y : Int32} (h : 0 ≤ x.toInt) : 0 ≤ (x >>> (y &&& 31)).toInt ∧ (x >>> (y &&& 31)).toInt ≤ x.toInt := by
  obtain ⟨h1, h2⟩ := t_nn h
  have e : (x >>> (y &&& 31)).toInt = x.toBitVec.toInt >>> ((y &&& 31).toBitVec.smod 32).toNat := by
    show (x >>> (y &&& 31)).toBitVec.toInt = _
    rw [Int32.toBitVec_shiftRight, BitVec.sshiftRight_eq', BitVec.toInt_sshiftRight]
  rw [e]
  generalize ((y &&& 31).toBitVec.smod 32).toNat = n
  have e2 : x.toBitVec.toInt = (x.toBitVec.toNat : Int) := h1
  rw [e2, Int.shiftRight_eq_div_pow]
  have c : ((2 ^ n : Nat) : Int) = (2 : Int) ^ n := by simp
  rw [h1]
  refine ⟨Int.ediv_nonneg (Int.natCast_nonneg _) (by first | (rw [← c]; exact Int.natCast_nonneg _) | exact Int.natCast_nonneg _), ?_⟩
  exact Int.ediv_le_self _ (Int.natCast_nonneg _)
theorem t_dv {x y : Int32} (h : 0 ≤ x.toInt) (h2 : 1 ≤ y.toInt) : (x / y).toInt = x.toInt / y.toInt := by
  have h3 : x.toInt.tdiv y.toInt = x.toInt / y.toInt := Int.tdiv_eq_ediv_of_nonneg h
  rw [Int32.toInt_div, h3]
  have h4 := t_hi x
  have h5 : x.toInt / y.toInt ≤ x.toInt := Int.ediv_le_self _ h
  have h6 : 0 ≤ x.toInt / y.toInt := Int.ediv_nonneg h (by omega)
  exact t_bm (by omega) (by omega)
theorem t_dmono {a b c d : Int} (h0 : 0 ≤ a) (h1 : a ≤ b) (h2 : d ≤ c) (h3 : 1 ≤ d) : a / c ≤ b / d := by
  have e1 : a = (a.toNat : Int) := by omega
  have e2 : b = (b.toNat : Int) := by omega
  have e3 : c = (c.toNat : Int) := by omega
  have e4 : d = (d.toNat : Int) := by omega
  rw [e1, e2, e3, e4, ← Int.natCast_ediv, ← Int.natCast_ediv]
  exact Int.ofNat_le.mpr (Nat.div_le_div (by omega) (by omega) (by omega))
theorem t_rem {x y : Int32} (h : 0 ≤ x.toInt) (h2 : 1 ≤ y.toInt) : 0 ≤ (x - x / y * y).toInt ∧ (x - x / y * y).toInt ≤ y.toInt - 1 := by
  have h3 := t_dv h h2
  have h4 := t_hi x
  have h5 : 0 ≤ x.toInt % y.toInt := Int.emod_nonneg _ (by omega)
  have h6 : x.toInt % y.toInt < y.toInt := Int.emod_lt_of_pos _ (by omega)
  have h7 : x.toInt / y.toInt * y.toInt + x.toInt % y.toInt = x.toInt := Int.ediv_mul_add_emod _ _
  have h8 : 0 ≤ x.toInt / y.toInt * y.toInt := Int.mul_nonneg (Int.ediv_nonneg h (by omega)) (by omega)
  have h9 : (x / y * y).toInt = x.toInt / y.toInt * y.toInt := by
    rw [← h3]
    rw [← h3] at h8 h7
    exact t_mul (by omega) (by omega)
  have h10 : (x - x / y * y).toInt = x.toInt - x.toInt / y.toInt * y.toInt := by
    rw [← h9]
    exact t_sub (by omega) (by omega)
  omega
theorem tq_l2i {x : Int64} (h1 : -2147483648 ≤ x.toInt) (h2 : x.toInt ≤ 2147483647) : x.toInt32.toInt = x.toInt := by
  rw [Int64.toInt_toInt32]
  exact t_bm h1 h2
end
section
theorem tint_sp {T : List Nat} {a : tA} {v : zV} (h : tint a = true) (ho : okA T a v) : ∃ x : Int32, v = .inl (.int x) ∧ tlo a ≤ x.toInt ∧ x.toInt ≤ thi a := by
  have h1 : a.1 = 0 := Nat.eq_of_beq_eq_true h
  unfold okA at ho
  rw [h1] at ho
  exact ho
theorem tlong_sp {T : List Nat} {a : tA} {v : zV} (h : tlong a = true) (ho : okA T a v) : ∃ x : Int64, v = .inl (.long x) ∧ tlo a ≤ x.toInt ∧ x.toInt ≤ thi a := by
  have h1 : a.1 = 1 := Nat.eq_of_beq_eq_true h
  unfold okA at ho
  rw [h1] at ho
  exact ho
theorem tref_sp {T : List Nat} {a : tA} {v : zV} (h : tref a = true) (ho : okA T a v) : ∃ q : Nat, v = .inl (.ref q) ∧ T[q]? = some (taux a) := by
  have h1 : a.1 = 2 := Nat.eq_of_beq_eq_true h
  unfold okA at ho
  rw [h1] at ho
  exact ho
theorem okA_I {T : List Nat} {lo hi : Int} {x : Int32} (h1 : lo ≤ x.toInt) (h2 : x.toInt ≤ hi) : okA T (tI lo hi) (.inl (.int x)) := ⟨x, rfl, h1, h2⟩
theorem okA_If {T : List Nat} (x : Int32) : okA T tIf (.inl (.int x)) := ⟨x, rfl, t_lo x, t_hi x⟩
theorem okA_Lf {T : List Nat} (x : Int64) : okA T tLf (.inl (.long x)) := ⟨x, rfl, t_Llo x, t_Lhi x⟩
theorem okA_Ic {T : List Nat} {lo hi : Int} {x : Int32} (h : -2147483648 ≤ lo → hi ≤ 2147483647 → lo ≤ x.toInt ∧ x.toInt ≤ hi) : okA T (tIc lo hi) (.inl (.int x)) := by
  unfold tIc
  split
  · next q => exact okA_I (h q.1 q.2).1 (h q.1 q.2).2
  · exact okA_If x
/-- an int of this kind knows no more than its place -/
theorem okTag_none {L : zL} {a : tA} {v : zV} (h1 : taux a = 0 ∨ 2 ≤ a.1) (h2 : tcnd a = []) : okTag L a v := by
  refine ⟨fun k hk he => ?_, fun c hc => ?_⟩
  · rcases h1 with h1 | h1
    · have : a.2.2.2.1 = 0 := h1
      omega
    · omega
  · have h3 : a.2.2.2.2 = [] := h2
    rw [h3] at hc
    cases hc
theorem tIc_plain (lo hi : Int) : taux (tIc lo hi) = 0 ∧ tcnd (tIc lo hi) = [] ∧ tint (tIc lo hi) = true := by
  unfold tIc
  split <;> exact ⟨rfl, rfl, rfl⟩
def tplain (a : tA) : Prop := taux a = 0 ∧ tcnd a = []
theorem okTag_plain {L : zL} {a : tA} {v : zV} (h : tplain a) : okTag L a v := okTag_none (Or.inl h.1) h.2
section
variable {T : List Nat} {a b : tA} {x y : Int32}
theorem tadd_ok (ha : tlo a ≤ x.toInt ∧ x.toInt ≤ thi a) (hb : tlo b ≤ y.toInt ∧ y.toInt ≤ thi b) : okA T (tadd a b) (.inl (.int (x + y))) := okA_Ic (fun h1 h2 => by
  rw [t_add (by omega) (by omega)]
  omega)
theorem tsub_ok (ha : tlo a ≤ x.toInt ∧ x.toInt ≤ thi a) (hb : tlo b ≤ y.toInt ∧ y.toInt ≤ thi b) : okA T (tsub a b) (.inl (.int (x - y))) := okA_Ic (fun h1 h2 => by
  rw [t_sub (by omega) (by omega)]
  omega)
theorem tneg_ok (ha : tlo a ≤ x.toInt ∧ x.toInt ≤ thi a) : okA T (tIc (-thi a) (-tlo a)) (.inl (.int (-x))) := okA_Ic (fun h1 h2 => by
  rw [t_neg (by omega) (by omega)]
  omega)
theorem tmul_ok (ha : tlo a ≤ x.toInt ∧ x.toInt ≤ thi a) (hb : tlo b ≤ y.toInt ∧ y.toInt ≤ thi b) : okA T (tmul a b) (.inl (.int (x * y))) := by
  unfold tmul
  split
  · next h =>
    have h3 : tlo a * tlo b ≤ x.toInt * y.toInt := Int.mul_le_mul ha.1 hb.1 h.2 (by omega)
    have h4 : x.toInt * y.toInt ≤ thi a * thi b := Int.mul_le_mul ha.2 hb.2 (by omega) (by omega)
    refine okA_Ic (fun h1 h2 => ?_)
    rw [t_mul (by omega) (by omega)]
    exact ⟨h3, h4⟩
  · exact okA_If _
theorem tand_ok (ha : tlo a ≤ x.toInt ∧ x.toInt ≤ thi a) (hb : tlo b ≤ y.toInt ∧ y.toInt ≤ thi b) : okA T (tand a b) (.inl (.int (x &&& y))) := by
  unfold tand
  split
  · have h1 := t_and (x := x) (y := y) (by omega)
    split
    · have h2 := t_and (x := y) (y := x) (by omega)
      rw [t_andC] at h2
      exact okA_I h1.1 (by omega)
    · exact okA_I h1.1 (by omega)
  · split
    · have h2 := t_and (x := y) (y := x) (by omega)
      rw [t_andC] at h2
      exact okA_I h2.1 (by omega)
    · exact okA_If _
theorem tup_ok (n : Int) : ∃ k : Nat, k ≤ 31 ∧ tup n = 2 ^ k - 1 ∧ (n ≤ 2147483647 → n < 2 ^ k) := by
  unfold tup
  by_cases h1 : n ≤ 1
  · exact ⟨1, by omega, by rw [if_pos h1]; rfl, fun _ => by omega⟩
  rw [if_neg h1]
  by_cases h2 : n ≤ 3
  · exact ⟨2, by omega, by rw [if_pos h2]; rfl, fun _ => by omega⟩
  rw [if_neg h2]
  by_cases h3 : n ≤ 7
  · exact ⟨3, by omega, by rw [if_pos h3]; rfl, fun _ => by omega⟩
  rw [if_neg h3]
  by_cases h4 : n ≤ 15
  · exact ⟨4, by omega, by rw [if_pos h4]; rfl, fun _ => by omega⟩
  rw [if_neg h4]
  by_cases h5 : n ≤ 31
  · exact ⟨5, by omega, by rw [if_pos h5]; rfl, fun _ => by omega⟩
  rw [if_neg h5]
  by_cases h6 : n ≤ 63
  · exact ⟨6, by omega, by rw [if_pos h6]; rfl, fun _ => by omega⟩
  rw [if_neg h6]
  by_cases h7 : n ≤ 127
  · exact ⟨7, by omega, by rw [if_pos h7]; rfl, fun _ => by omega⟩
  rw [if_neg h7]
  by_cases h8 : n ≤ 255
  · exact ⟨8, by omega, by rw [if_pos h8]; rfl, fun _ => by omega⟩
  rw [if_neg h8]
  by_cases h9 : n ≤ 511
  · exact ⟨9, by omega, by rw [if_pos h9]; rfl, fun _ => by omega⟩
  rw [if_neg h9]
  by_cases h10 : n ≤ 1023
  · exact ⟨10, by omega, by rw [if_pos h10]; rfl, fun _ => by omega⟩
  rw [if_neg h10]
  exact ⟨31, by omega, rfl, fun h => by omega⟩
theorem tor_ok (ha : tlo a ≤ x.toInt ∧ x.toInt ≤ thi a) (hb : tlo b ≤ y.toInt ∧ y.toInt ≤ thi b) : okA T (tor a b) (.inl (.int (x ||| y))) := by
  unfold tor
  split
  · next h =>
    by_cases hm : max (thi a) (thi b) ≤ 2147483647
    · obtain ⟨k, h1, h2, h3⟩ := tup_ok (max (thi a) (thi b))
      have h3 := h3 hm
      have h4 := t_or (x := x) (y := y) (n := k) h1 (by omega) (by omega) (by omega) (by omega)
      refine okA_I h4.1 ?_
      rw [h2]
      omega
    · have h5 : tup (max (thi a) (thi b)) = 2147483647 := by
        unfold tup
        rw [if_neg (by omega), if_neg (by omega), if_neg (by omega), if_neg (by omega), if_neg (by omega), if_neg (by omega), if_neg (by omega), if_neg (by omega), if_neg (by omega), if_neg (by omega)]
      have h4 := t_or (x := x) (y := y) (n := 31) (by omega) (by omega) (by omega) (by have := t_hi x; omega) (by have := t_hi y; omega)
      rw [h5]
      exact okA_I h4.1 (t_hi _)
  · exact okA_If _
theorem tshl_ok (ha : tlo a ≤ x.toInt ∧ x.toInt ≤ thi a) (hb : tlo b ≤ y.toInt ∧ y.toInt ≤ thi b) : okA T (tshl a b) (.inl (.int (x <<< (y &&& 31)))) := by
  unfold tshl
  split
  · next h =>
    have hx : x = 1 := by
      apply Int32.toInt_inj.mp
      show x.toInt = 1
      omega
    subst hx
    have h1 := t_shl (y := y) (by omega) (by omega)
    refine okA_I ?_ ?_
    · rw [h1]
      have : ((2 ^ (tlo b).toNat : Nat) : Int) ≤ ((2 ^ y.toInt.toNat : Nat) : Int) := Int.ofNat_le.mpr (Nat.pow_le_pow_right (by omega) (by omega))
      simpa using this
    · rw [h1]
      have : ((2 ^ y.toInt.toNat : Nat) : Int) ≤ ((2 ^ (thi b).toNat : Nat) : Int) := Int.ofNat_le.mpr (Nat.pow_le_pow_right (by omega) (by omega))
      simpa using this
  · exact okA_If _
theorem tshr_ok (ha : tlo a ≤ x.toInt ∧ x.toInt ≤ thi a) : okA T (tshr a) (.inl (.int (x >>> (y &&& 31)))) := by
  unfold tshr
  split
  · have h1 := t_shr (x := x) (y := y) (by omega)
    exact okA_I h1.1 (by omega)
  · exact okA_If _
theorem tdiv_ok (ha : tlo a ≤ x.toInt ∧ x.toInt ≤ thi a) (hb : tlo b ≤ y.toInt ∧ y.toInt ≤ thi b) : okA T (tdiv a b) (.inl (.int (x / y))) := by
  unfold tdiv
  split
  · next h =>
    have h1 := t_dv (x := x) (y := y) (by omega) (by omega)
    refine okA_I ?_ ?_
    · rw [h1]
      exact t_dmono h.1 ha.1 hb.2 (by omega)
    · rw [h1]
      exact t_dmono (by omega) ha.2 hb.1 h.2
  · exact okA_If _
theorem trem_ok (ha : tlo a ≤ x.toInt ∧ x.toInt ≤ thi a) (hb : tlo b ≤ y.toInt ∧ y.toInt ≤ thi b) : okA T (trem a b) (.inl (.int (x - x / y * y))) := by
  unfold trem
  split
  · have h1 := t_rem (x := x) (y := y) (by omega) (by omega)
    exact okA_I h1.1 (by omega)
  · exact okA_If _
theorem tmin_ok (ha : tlo a ≤ x.toInt ∧ x.toInt ≤ thi a) (hb : tlo b ≤ y.toInt ∧ y.toInt ≤ thi b) : okA T (tmin a b) (.inl (.int (if y < x then y else x))) := by
  unfold tmin
  split
  · next h =>
    have := Int32.lt_iff_toInt_lt.mp h
    exact okA_I (by omega) (by omega)
  · next h =>
    have : ¬ y.toInt < x.toInt := fun q => h (Int32.lt_iff_toInt_lt.mpr q)
    exact okA_I (by omega) (by omega)
theorem tmax_ok (ha : tlo a ≤ x.toInt ∧ x.toInt ≤ thi a) (hb : tlo b ≤ y.toInt ∧ y.toInt ≤ thi b) : okA T (tmax a b) (.inl (.int (if x < y then y else x))) := by
  unfold tmax
  split
  · next h =>
    have := Int32.lt_iff_toInt_lt.mp h
    exact okA_I (by omega) (by omega)
  · next h =>
    have : ¬ x.toInt < y.toInt := fun q => h (Int32.lt_iff_toInt_lt.mpr q)
    exact okA_I (by omega) (by omega)
end
theorem tl2i_ok {T : List Nat} {a : tA} {x : Int64} (ha : tlo a ≤ x.toInt ∧ x.toInt ≤ thi a) : okA T (tl2i a) (.inl (.int x.toInt32)) := by
  unfold tl2i
  split
  · have h := tq_l2i (x := x) (by omega) (by omega)
    exact okA_I (by omega) (by omega)
  · exact okA_If _
theorem tplain_I (lo hi : Int) : tplain (tI lo hi) := ⟨rfl, rfl⟩
theorem tplain_c (lo hi : Int) : tplain (tIc lo hi) := ⟨(tIc_plain lo hi).1, (tIc_plain lo hi).2.1⟩
theorem tplain_f : tplain tIf := ⟨rfl, rfl⟩
theorem tplain_add (a b : tA) : tplain (tadd a b) := tplain_c _ _
theorem tplain_sub (a b : tA) : tplain (tsub a b) := tplain_c _ _
theorem tplain_mul (a b : tA) : tplain (tmul a b) := by unfold tmul; split <;> first | exact tplain_c _ _ | exact tplain_f
theorem tplain_and (a b : tA) : tplain (tand a b) := by unfold tand; split <;> (try split) <;> first | exact tplain_I _ _ | exact tplain_f
theorem tplain_or (a b : tA) : tplain (tor a b) := by unfold tor; split <;> first | exact tplain_I _ _ | exact tplain_f
theorem tplain_shl (a b : tA) : tplain (tshl a b) := by unfold tshl; split <;> first | exact tplain_I _ _ | exact tplain_f
theorem tplain_shr (a : tA) : tplain (tshr a) := by unfold tshr; split <;> first | exact tplain_I _ _ | exact tplain_f
theorem tplain_div (a b : tA) : tplain (tdiv a b) := by unfold tdiv; split <;> first | exact tplain_I _ _ | exact tplain_f
theorem tplain_rem (a b : tA) : tplain (trem a b) := by unfold trem; split <;> first | exact tplain_I _ _ | exact tplain_f
theorem tplain_l2i (a : tA) : tplain (tl2i a) := by unfold tl2i; split <;> first | exact tplain_I _ _ | exact tplain_f
theorem tplain_Lf : tplain tLf := ⟨rfl, rfl⟩
end
section
theorem tget_mem {aL : tL} {k : Nat} {a : tA} (h : tget aL k = some a) : (k, a) ∈ aL := by
  unfold tget at h
  split at h
  · next p hp =>
    cases h
    have h1 := List.find?_some hp
    have h2 : p.1 = k := Nat.eq_of_beq_eq_true h1
    rw [← h2]
    exact List.mem_of_find?_eq_some hp
  · cases h
theorem tget_ok {T : List Nat} {aL : tL} {L : zL} {k : Nat} {a : tA} (hL : okL T aL L) (h : tget aL k = some a) : ∃ v, zget L k = some v ∧ okA T a v := hL _ (tget_mem h)
theorem okSt_cons {T : List Nat} {L : zL} {a : tA} {l : List tA} {vs : List zV} (h : okSt T L (a :: l) vs) : ∃ v vs', vs = v :: vs' ∧ okA T a v ∧ okTag L a v ∧ okSt T L l vs' := by
  cases vs with
  | nil => exact h.elim
  | cons v vs' => exact ⟨v, vs', rfl, h.1.1, h.1.2, h.2⟩
theorem okSt_nil {T : List Nat} {L : zL} {vs : List zV} (h : okSt T L [] vs) : vs = [] := by
  cases vs with
  | nil => rfl
  | cons v vs' => exact h.elim
theorem okSt_len {T : List Nat} {L : zL} : ∀ {l : List tA} {vs : List zV}, okSt T L l vs → l.length = vs.length
  | [], [], _ => rfl
  | _ :: _, _ :: _, h => by simp only [List.length_cons]; rw [okSt_len h.2]
  | [], _ :: _, h => h.elim
  | _ :: _, [], h => h.elim
theorem okSt_take {T : List Nat} {L : zL} : ∀ (n : Nat) {l : List tA} {vs : List zV}, okSt T L l vs → okSt T L (l.take n) (vs.take n)
  | 0, _, _, _ => by simp only [List.take_zero]; trivial
  | n + 1, [], [], _ => trivial
  | n + 1, _ :: _, _ :: _, h => ⟨h.1, okSt_take n h.2⟩
  | n + 1, [], _ :: _, h => h.elim
  | n + 1, _ :: _, [], h => h.elim
theorem okSt_drop {T : List Nat} {L : zL} : ∀ (n : Nat) {l : List tA} {vs : List zV}, okSt T L l vs → okSt T L (l.drop n) (vs.drop n)
  | 0, _, _, h => h
  | n + 1, [], [], _ => trivial
  | n + 1, _ :: _, _ :: _, h => okSt_drop n h.2
  | n + 1, [], _ :: _, h => h.elim
  | n + 1, _ :: _, [], h => h.elim
theorem okSt_app {T : List Nat} {L : zL} : ∀ {l l2 : List tA} {vs vs2 : List zV}, okSt T L l vs → okSt T L l2 vs2 → okSt T L (l ++ l2) (vs ++ vs2)
  | [], _, [], _, _, h2 => h2
  | _ :: _, _, _ :: _, _, h, h2 => ⟨h.1, okSt_app h.2 h2⟩
  | [], _, _ :: _, _, h, _ => h.elim
  | _ :: _, _, [], _, h, _ => h.elim
theorem okSt_rev {T : List Nat} {L : zL} : ∀ {l : List tA} {vs : List zV}, okSt T L l vs → okSt T L l.reverse vs.reverse
  | [], [], _ => trivial
  | a :: l, v :: vs, h => by
    rw [List.reverse_cons, List.reverse_cons]
    exact okSt_app (okSt_rev h.2) ⟨h.1, trivial⟩
  | [], _ :: _, h => h.elim
  | _ :: _, [], h => h.elim
theorem okSt_get {T : List Nat} {L : zL} : ∀ (n : Nat) {l : List tA} {vs : List zV} {a : tA}, okSt T L l vs → l[n]? = some a → ∃ v, vs[n]? = some v ∧ okA T a v ∧ okTag L a v
  | _, [], _, _, _, h => by simp at h
  | 0, _ :: _, _ :: _, _, h, h2 => by
    simp only [List.getElem?_cons_zero, Option.some.injEq] at h2
    subst h2
    exact ⟨_, rfl, h.1.1, h.1.2⟩
  | n + 1, _ :: _, _ :: _, _, h, h2 => by
    simp only [List.getElem?_cons_succ] at h2 ⊢
    exact okSt_get n h.2 h2
  | _, _ :: _, [], _, h, _ => h.elim
theorem okA_cat {T : List Nat} {a : tA} {v : zV} (h : okA T a v) : zcat v = tcat a := by
  unfold okA at h
  unfold tcat
  split at h
  · next q => obtain ⟨x, rfl, -⟩ := h; rw [q]; rfl
  · next q => obtain ⟨x, rfl, -⟩ := h; rw [q]; rfl
  · next q => obtain ⟨x, rfl, -⟩ := h; rw [q]; rfl
  · next q => rw [h, q]; rfl
  · exact h.elim
theorem okSt_sum {T : List Nat} {L : zL} : ∀ {l : List tA} {vs : List zV}, okSt T L l vs → zsum vs = tsum l
  | [], [], _ => rfl
  | _ :: _, _ :: _, h => by
    simp only [zsum, tsum]
    rw [okA_cat h.1.1, okSt_sum h.2]
  | [], _ :: _, h => h.elim
  | _ :: _, [], h => h.elim
theorem okA_mono {T T' : List Nat} (hT : ∀ q τ : Nat, T[q]? = some τ → T'[q]? = some τ) {a : tA} {v : zV} (h : okA T a v) : okA T' a v := by
  unfold okA at h ⊢
  split at h
  · exact h
  · exact h
  · obtain ⟨q, h1, h2⟩ := h
    exact ⟨q, h1, hT _ _ h2⟩
  · exact h
  · exact h.elim
theorem okL_mono {T T' : List Nat} (hT : ∀ q τ : Nat, T[q]? = some τ → T'[q]? = some τ) {aL : tL} {L : zL} (h : okL T aL L) : okL T' aL L := fun p hp => by
  obtain ⟨v, h1, h2⟩ := h p hp
  exact ⟨v, h1, okA_mono hT h2⟩
theorem okSt_mono {T T' : List Nat} (hT : ∀ q τ : Nat, T[q]? = some τ → T'[q]? = some τ) {L : zL} : ∀ {l : List tA} {vs : List zV}, okSt T L l vs → okSt T' L l vs
  | [], [], _ => trivial
  | _ :: _, _ :: _, h => ⟨⟨okA_mono hT h.1.1, h.1.2⟩, okSt_mono hT h.2⟩
  | [], _ :: _, h => h.elim
  | _ :: _, [], h => h.elim
/-- the stack where one local is laid anew -/
theorem okTag_fog {L L' : zL} {k : Nat} (hk : ∀ (j : Nat) (x : Int32), j ≠ k → zget L j = some (.inl (.int x)) → zget L' j = some (.inl (.int x))) {a : tA} {v : zV} (h : okTag L a v) : okTag L' (tfog1 k a) v := by
  refine ⟨fun j hj he => ?_, fun c hc hv => ?_⟩
  · have hj : a.1 ≤ 1 := hj
    have he : (if a.1 ≤ 1 ∧ a.2.2.2.1 = k + 1 then 0 else a.2.2.2.1) = j + 1 := he
    split at he
    · omega
    · next q =>
      obtain ⟨x, h1, h2⟩ := h.1 j hj he
      exact ⟨x, hk j x (fun e => q ⟨hj, by omega⟩) h1, h2⟩
  · obtain ⟨hc1, hc2⟩ := List.mem_filter.mp hc
    obtain ⟨x, h1, h2⟩ := h.2 c hc1 hv
    refine ⟨x, hk _ x (fun e => ?_) h1, h2⟩
    rw [z_beq, e] at hc2
    simp at hc2
theorem okA_fog {T : List Nat} {k : Nat} {a : tA} {v : zV} (h : okA T a v) : okA T (tfog1 k a) v := by
  have h0 : (tfog1 k a).1 = a.1 := rfl
  unfold okA at h ⊢
  rw [h0]
  split at h
  · exact h
  · exact h
  · next q =>
    have e : (tfog1 k a).2.2.2.1 = a.2.2.2.1 := by
      show (if a.1 ≤ 1 ∧ a.2.2.2.1 = k + 1 then 0 else a.2.2.2.1) = _
      rw [if_neg (by omega)]
    rw [e]
    exact h
  · next q =>
    have e : (tfog1 k a).2.2.2.1 = a.2.2.2.1 := by
      show (if a.1 ≤ 1 ∧ a.2.2.2.1 = k + 1 then 0 else a.2.2.2.1) = _
      rw [if_neg (by omega)]
    rw [e]
    exact h
  · exact h.elim
theorem okSt_fog {T : List Nat} {L L' : zL} {k : Nat} (hk : ∀ (j : Nat) (x : Int32), j ≠ k → zget L j = some (.inl (.int x)) → zget L' j = some (.inl (.int x))) : ∀ {l : List tA} {vs : List zV}, okSt T L l vs → okSt T L' (tfog k l) vs
  | [], [], _ => trivial
  | _ :: _, _ :: _, h => ⟨⟨okA_fog h.1.1, okTag_fog hk h.1.2⟩, okSt_fog hk h.2⟩
  | [], _ :: _, h => h.elim
  | _ :: _, [], h => h.elim
theorem zget_cons_ne {L : zL} {i j : Nat} {v : zV} (h : j ≠ i) : zget ((i, v) :: L) j = zget L j := by
  unfold zget
  rw [List.find?_cons_of_neg (by simp only [z_beq]; simpa using Ne.symm h)]
theorem zget_cons_eq {L : zL} {i : Nat} {v : zV} : zget ((i, v) :: L) i = some v := by
  unfold zget
  rw [List.find?_cons_of_pos (by simp only [z_beq]; simp)]
theorem zget_filter {L : zL} {P : Nat × zV → Bool} {j : Nat} {v : zV} (h : zget L j = some v) (hP : P (j, v) = true) : zget (L.filter P) j = some v := by
  induction L with
  | nil => exact absurd h (by simp [zget])
  | cons p L ih =>
    obtain ⟨i, w⟩ := p
    by_cases hi : j = i
    · subst hi
      rw [zget_cons_eq] at h
      cases h
      rw [List.filter_cons_of_pos hP]
      exact zget_cons_eq
    · rw [zget_cons_ne hi] at h
      by_cases hp : P (i, w) = true
      · rw [List.filter_cons_of_pos hp, zget_cons_ne hi]
        exact ih h
      · rw [List.filter_cons_of_neg hp]
        exact ih h
theorem zst1_get {L : zL} {i j : Nat} {v w : zV} (h : zget L j = some w) (hj : j ≠ i) (hc : j + 1 ≠ i ∨ zcat w ≠ 2) : zget (zst1 L i v) j = some w := by
  unfold zst1
  rw [zget_cons_ne hj]
  refine zget_filter h ?_
  simp only [z_beq]
  rcases hc with hc | hc <;> simp [hj, hc]
theorem zst2_get {L : zL} {i j : Nat} {v w : zV} (h : zget L j = some w) (hj : j ≠ i) (hj2 : j ≠ i + 1) (hc : j + 1 ≠ i ∨ zcat w ≠ 2) : zget (zst2 L i v) j = some w := by
  unfold zst2
  rw [zget_cons_ne hj]
  refine zget_filter h ?_
  simp only [z_beq]
  rcases hc with hc | hc <;> simp [hj, hj2, hc]
theorem okA_norm {T : List Nat} {a : tA} {v : zV} (h : okA T a v) : okA T (a.1, a.2.1, a.2.2.1, (if a.1 ≤ 1 then 0 else a.2.2.2.1), []) v := by
  unfold okA at h ⊢
  split at h
  · next q => simp only [q]; exact h
  · next q => simp only [q]; exact h
  · next q => simp only [q]; exact h
  · next q => simp only [q]; exact h
  · exact h.elim
theorem tput_ok {T : List Nat} {aL : tL} {L : zL} {k : Nat} {a : tA} {v : zV} (hL : okL T aL L) (ha : okA T a v) : okL T (tput aL k a) (zst1 L k v) := by
  intro p hp
  rcases List.mem_cons.mp hp with rfl | hp
  · exact ⟨v, zget_cons_eq, okA_norm ha⟩
  · obtain ⟨h1, h2⟩ := List.mem_filter.mp hp
    obtain ⟨w, h3, h4⟩ := hL p h1
    simp only [z_beq, Bool.and_eq_true, Bool.not_eq_true', beq_eq_false_iff_ne, Bool.and_eq_false_iff, ne_eq] at h2
    refine ⟨w, zst1_get h3 h2.1 ?_, h4⟩
    rcases h2.2 with h5 | h5
    · exact Or.inl h5
    · refine Or.inr ?_
      rw [okA_cat h4]
      unfold tcat
      rw [if_neg h5]
      omega
theorem tput2_ok {T : List Nat} {aL : tL} {L : zL} {k : Nat} {a : tA} {v : zV} (hL : okL T aL L) (ha : okA T a v) (hl : tlong a = true) : okL T (tput2 aL k a) (zst2 L k v) := by
  intro p hp
  rcases List.mem_cons.mp hp with rfl | hp
  · refine ⟨v, zget_cons_eq, ?_⟩
    have h1 : a.1 = 1 := Nat.eq_of_beq_eq_true hl
    have := okA_norm ha
    rw [if_pos (by omega)] at this
    exact this
  · obtain ⟨h1, h2⟩ := List.mem_filter.mp hp
    obtain ⟨w, h3, h4⟩ := hL p h1
    simp only [z_beq, Bool.and_eq_true, Bool.not_eq_true', beq_eq_false_iff_ne, Bool.and_eq_false_iff, ne_eq] at h2
    refine ⟨w, zst2_get h3 h2.1 h2.2.1 ?_, h4⟩
    rcases h2.2.2 with h5 | h5
    · exact Or.inl h5
    · refine Or.inr ?_
      rw [okA_cat h4]
      unfold tcat
      rw [if_neg h5]
      omega
theorem zst1_keep {L : zL} {k : Nat} {v : zV} (j : Nat) (x : Int32) (hj : j ≠ k) (h : zget L j = some (.inl (.int x))) : zget (zst1 L k v) j = some (.inl (.int x)) := zst1_get h hj (Or.inr (by show (1 : Nat) ≠ 2; omega))
theorem tpush_ok {T : List Nat} {L : zL} {k : Nat} {a : tA} {v : zV} (h : okA T a v) (hg : zget L k = some v) : okA T (tpush k a) v ∧ okTag L (tpush k a) v := by
  unfold tpush
  by_cases h1 : a.1 ≤ 1
  · rw [if_pos h1]
    by_cases h0 : a.1 = 0
    · rw [if_pos h0]
      obtain ⟨x, rfl, hx⟩ := tint_sp (T := T) (a := a) (by unfold tint; rw [h0]; rfl) h
      refine ⟨?_, fun j hj he => ?_, fun c hc => by cases hc⟩
      · unfold okA
        simp only [h0]
        exact ⟨x, rfl, hx⟩
      · have he : k + 1 = j + 1 := he
        have : j = k := by omega
        subst this
        exact ⟨x, hg, rfl⟩
    · rw [if_neg h0]
      refine ⟨?_, okTag_none (Or.inl rfl) rfl⟩
      have := okA_norm h
      rw [if_pos h1] at this
      exact this
  · rw [if_neg h1]
    refine ⟨?_, okTag_none (Or.inr (by show 2 ≤ a.1; omega)) rfl⟩
    have := okA_norm h
    rw [if_neg h1] at this
    exact this
/-- local k is cut: what is known of it is true -/
theorem tcutO_ok {T : List Nat} {aL : tL} {L : zL} {k : Nat} {lo hi : Int} {K : tL → Bool} {x : Int32} (hL : okL T aL L) (hg : zget L k = some (.inl (.int x))) (hx : lo ≤ x.toInt ∧ x.toInt ≤ hi) (h : tcutO aL k lo hi K = true) : ∃ aL', okL T aL' L ∧ K aL' = true := by
  unfold tcutO tcut at h
  split at h
  · next aL' he =>
    refine ⟨aL', ?_, h⟩
    split at he
    · next a ha =>
      obtain ⟨v, h1, h2⟩ := tget_ok hL ha
      rw [hg] at h1
      cases h1
      split at he
      · next h0 =>
        obtain ⟨y, hy, hb⟩ := tint_sp (T := T) (a := a) (by unfold tint; rw [h0]; rfl) h2
        cases hy
        split at he
        · cases he
          intro p hp
          rcases List.mem_cons.mp hp with rfl | hp
          · refine ⟨_, hg, okA_I ?_ ?_⟩
            · exact Int.max_le.mpr ⟨hb.1, hx.1⟩
            · exact Int.le_min.mpr ⟨hb.2, hx.2⟩
          · exact hL p (List.mem_filter.mp hp).1
        · cases he
      · cases he
        exact hL
    · cases he
      exact hL
  · next he =>
    exfalso
    split at he
    · next a ha =>
      obtain ⟨v, h1, h2⟩ := tget_ok hL ha
      rw [hg] at h1
      cases h1
      split at he
      · next h0 =>
        obtain ⟨y, hy, hb⟩ := tint_sp (T := T) (a := a) (by unfold tint; rw [h0]; rfl) h2
        cases hy
        split at he
        · cases he
        · next q =>
          have q1 : max a.2.1 lo ≤ x.toInt := Int.max_le.mpr ⟨hb.1, hx.1⟩
          have q2 : x.toInt ≤ min a.2.2.1 hi := Int.le_min.mpr ⟨hb.2, hx.2⟩
          exact q (Int.le_trans q1 q2)
      · cases he
    · cases he
theorem tcutA_ok {T : List Nat} {aL : tL} {L : zL} {a : tA} {lo hi : Int} {K : tL → Bool} {x : Int32} (hL : okL T aL L) (ht : okTag L a (.inl (.int x))) (hi0 : tint a = true) (ha : tlo a ≤ x.toInt ∧ x.toInt ≤ thi a) (hx : lo ≤ x.toInt ∧ x.toInt ≤ hi) (h : tcutA aL a lo hi K = true) : ∃ aL', okL T aL' L ∧ K aL' = true := by
  unfold tcutA at h
  rw [if_pos ⟨by omega, by omega, by omega⟩] at h
  split at h
  · exact ⟨aL, hL, h⟩
  · next k hk =>
    have h0 : a.1 = 0 := Nat.eq_of_beq_eq_true hi0
    obtain ⟨y, h1, h2⟩ := ht.1 k (by omega) hk
    have h2 : x.toInt = y.toInt := h2
    have := Int32.toInt_inj.mp h2
    subst this
    exact tcutO_ok hL h1 hx h
theorem tcutC_ok {T : List Nat} {L : zL} {K : tL → Bool} : ∀ {cs : tC} {aL : tL}, okL T aL L → (∀ c ∈ cs, ∃ x : Int32, zget L c.1 = some (.inl (.int x)) ∧ c.2.1 ≤ x.toInt ∧ x.toInt ≤ c.2.2) → tcutC cs aL K = true → ∃ aL', okL T aL' L ∧ K aL' = true
  | [], aL, hL, _, h => ⟨aL, hL, h⟩
  | c :: cs, aL, hL, hc, h => by
    obtain ⟨x, h1, h2⟩ := hc c List.mem_cons_self
    obtain ⟨aL', h3, h4⟩ := tcutO_ok hL h1 h2 h
    exact tcutC_ok h3 (fun d hd => hc d (List.mem_cons_of_mem _ hd)) h4
theorem tcmp_ok {T : List Nat} {aL : tL} {L : zL} {cd : ClassFile.Cond} {a b : tA} {K : tL → Bool} {x y : Int32} (hL : okL T aL L) (ta : okTag L a (.inl (.int x))) (tb : okTag L b (.inl (.int y))) (ia : tint a = true) (ib : tint b = true) (ha : tlo a ≤ x.toInt ∧ x.toInt ≤ thi a) (hb : tlo b ≤ y.toInt ∧ y.toInt ≤ thi b) (hc : zop cd x y) (h : tcmp cd aL a b K = true) : ∃ aL', okL T aL' L ∧ K aL' = true := by
  cases cd with
  | eq =>
    have e : x.toInt = y.toInt := congrArg Int32.toInt hc
    simp only [tcmp] at h
    obtain ⟨aL1, h1, h2⟩ := tcutA_ok hL ta ia ha (by omega) h
    exact tcutA_ok h1 tb ib hb (by omega) h2
  | ne =>
    have e : x.toInt ≠ y.toInt := fun q => hc (Int32.toInt_inj.mp q)
    simp only [tcmp] at h
    split at h
    · split at h
      · exact tcutA_ok hL ta ia ha (by omega) h
      · split at h
        · exact tcutA_ok hL ta ia ha (by omega) h
        · exact ⟨aL, hL, h⟩
    · split at h
      · split at h
        · exact tcutA_ok hL tb ib hb (by omega) h
        · split at h
          · exact tcutA_ok hL tb ib hb (by omega) h
          · exact ⟨aL, hL, h⟩
      · exact ⟨aL, hL, h⟩
  | lt =>
    have e : x.toInt < y.toInt := Int32.lt_iff_toInt_lt.mp hc
    simp only [tcmp] at h
    obtain ⟨aL1, h1, h2⟩ := tcutA_ok hL ta ia ha (by omega) h
    exact tcutA_ok h1 tb ib hb (by omega) h2
  | ge =>
    have e : y.toInt ≤ x.toInt := Int32.le_iff_toInt_le.mp hc
    simp only [tcmp] at h
    obtain ⟨aL1, h1, h2⟩ := tcutA_ok hL ta ia ha (by omega) h
    exact tcutA_ok h1 tb ib hb (by omega) h2
  | gt =>
    have e : y.toInt < x.toInt := Int32.lt_iff_toInt_lt.mp hc
    simp only [tcmp] at h
    obtain ⟨aL1, h1, h2⟩ := tcutA_ok hL ta ia ha (by omega) h
    exact tcutA_ok h1 tb ib hb (by omega) h2
  | le =>
    have e : x.toInt ≤ y.toInt := Int32.le_iff_toInt_le.mp hc
    simp only [tcmp] at h
    obtain ⟨aL1, h1, h2⟩ := tcutA_ok hL ta ia ha (by omega) h
    exact tcutA_ok h1 tb ib hb (by omega) h2
theorem zcond_some (cd : ClassFile.Cond) (x y : Int32) : ∃ b, zcond cd (.inl (.int x)) (.inl (.int y)) = some b := by
  have hlt : ∀ u w : Int32, ∃ b, zlt (.inl (.int u)) (.inl (.int w)) = some b := fun u w => by
    unfold zlt
    by_cases g : zhi (.inl (.int u)) < zlo (.inl (.int w))
    · exact ⟨true, if_pos g⟩
    · refine ⟨false, ?_⟩
      rw [if_neg g, if_pos]
      have g : ¬ u.toInt < w.toInt := g
      show w.toInt ≤ u.toInt
      omega
  have heq : ∀ u w : Int32, ∃ b, zeq (.inl (.int u)) (.inl (.int w)) = some b := fun u w => by
    unfold zeq
    by_cases g : zhi (.inl (.int u)) < zlo (.inl (.int w)) ∨ zhi (.inl (.int w)) < zlo (.inl (.int u))
    · exact ⟨false, if_pos g⟩
    · refine ⟨true, ?_⟩
      rw [if_neg g, if_pos]
      have g : ¬ (u.toInt < w.toInt ∨ w.toInt < u.toInt) := g
      show u.toInt ≤ w.toInt ∧ w.toInt ≤ u.toInt
      omega
  cases cd with
  | eq => exact heq x y
  | ne => obtain ⟨b, hb⟩ := heq x y; exact ⟨!b, by show znot (zeq _ _) = _; rw [hb]; rfl⟩
  | lt => exact hlt x y
  | ge => obtain ⟨b, hb⟩ := hlt x y; exact ⟨!b, by show znot (zlt _ _) = _; rw [hb]; rfl⟩
  | gt => exact hlt y x
  | le => obtain ⟨b, hb⟩ := hlt y x; exact ⟨!b, by show znot (zlt _ _) = _; rw [hb]; rfl⟩
/-- a comparison of the machine, on exact ints -/
theorem zbr_ex {cd : ClassFile.Cond} {x y : Int32} {kt kf : Bool} (ht : zop cd x y → kt = true) (hf : ¬ zop cd x y → kf = true) : zbr (zcond cd (.inl (.int x)) (.inl (.int y))) kt kf = true := by
  have bx : zlo (.inl (.int x)) ≤ x.toInt ∧ x.toInt ≤ zhi (.inl (.int x)) := ⟨Int.le_refl _, Int.le_refl _⟩
  have bb : zlo (.inl (.int y)) ≤ y.toInt ∧ y.toInt ≤ zhi (.inl (.int y)) := ⟨Int.le_refl _, Int.le_refl _⟩
  obtain ⟨b, hb⟩ := zcond_some cd x y
  by_cases h : zop cd x y
  · have h1 := zcond_t bx bb h
    rw [hb] at h1 ⊢
    cases b
    · exact absurd rfl h1
    · exact ht h
  · have h1 := zcond_f bx bb h
    rw [hb] at h1 ⊢
    cases b
    · exact hf h
    · exact absurd rfl h1
theorem zop_neg {cd : ClassFile.Cond} {x y : Int32} (h : ¬ zop cd x y) : zop (tneg cd) x y := by
  cases cd with
  | eq => exact h
  | ne => exact Classical.not_not.mp h
  | lt => exact Int32.not_lt.mp h
  | ge => exact Int32.not_le.mp h
  | gt => exact Int32.not_lt.mp h
  | le => exact Int32.not_le.mp h
end
section
def okAs (T : List Nat) : List tA → List zV → Prop
  | [], [] => True
  | a :: l, v :: vs => okA T a v ∧ okAs T l vs
  | _, _ => False
def tExt (T T' : List Nat) : Prop := ∀ q τ : Nat, T[q]? = some τ → T'[q]? = some τ
def tRes (T : List Nat) (vs : List zV) (e : tE) (r : Option zV) : Prop := match e.2.1 with
  | 0 => r = none
  | 1 => ∃ v, r = some v ∧ okA T e.2.2.1 v ∧ ∀ c ∈ e.2.2.2, v ≠ .inl (.int 0) → ∃ a, vs[c.1]? = some a ∧ c.2.1 ≤ tval a ∧ tval a ≤ c.2.2
  | _ => ∃ v, r = some v ∧ okA T (tI 0 1) v ∧ (v ≠ .inl (.int 0) → ∃ a l m, vs[0]? = some a ∧ vs[1]? = some l ∧ vs[2]? = some m ∧ tval l ≤ tval a ∧ tval a ≤ tval m)
/-- what a method keeps: the types and Φ -/
def tCon (ty : Nat → tTy) (Φ : List Nat → zH → Prop) (E : zE) (cc : zK) (j : Nat) (e : tE) : Prop :=
  ∀ (T : List Nat) (h : zH) (vs : List zV) (post : Option zV → zH → Bool), hOK ty T h → Φ T h → h.length + zEc E ≤ 1000000 → okAs T e.1 vs →
    (∀ (r : Option zV) (T' : List Nat) (h' : zH), tExt T T' → hOK ty T' h' → Φ T' h' → h'.length ≤ h.length + zEc E → tRes T' vs e r → post r h' = true) → cc j vs h post = true
def tStab (ty : Nat → tTy) (tB : Nat) (Φ : List Nat → zH → Prop) : Prop :=
  (∀ (T : List Nat) (h : zH) (q τ : Nat) (vs vs' : List zV), hOK ty T h → Φ T h → T[q]? = some τ → h[q]? = some ((ty τ).1, vs) → vs'.length = vs.length → (∀ i, ((ty τ).2.2 i).2.2.2.2 = false → vs'[i]? = vs[i]?) → (∀ (i : Nat) (v : zV), vs'[i]? = some v → okS T ((ty τ).2.2 i) v) → Φ T (h.set q ((ty τ).1, vs'))) ∧
  (∀ (T : List Nat) (h : zH), hOK ty T h → Φ T h → Φ (T ++ [tB]) (h ++ [(15, List.replicate (ty tB).2.1 (.inl (.int 0)))])) ∧
  (∀ τ i : Nat, 10 ≤ (ty τ).1 → (ty τ).2.2 i = (ty τ).2.2 0) ∧ (ty tB).1 = 15 ∧ ((ty tB).2.2 0).1 = 0 ∧ ((ty tB).2.2 0).2.1 ≤ 0 ∧ 0 ≤ ((ty tB).2.2 0).2.2.1 ∧ (ty tB).2.1 ≤ 65536
theorem tExt_rf (T : List Nat) : tExt T T := fun _ _ h => h
theorem tExt_tr {A B C : List Nat} (h1 : tExt A B) (h2 : tExt B C) : tExt A C := fun q τ h => h2 q τ (h1 q τ h)
theorem tExt_app (T U : List Nat) : tExt T (T ++ U) := fun q τ h => by
  rw [List.getElem?_append_left (List.getElem?_eq_some_iff.mp h).1]
  exact h
theorem okS_mono {T T' : List Nat} (hT : tExt T T') {s : tSl} {v : zV} (h : okS T s v) : okS T' s v := by
  unfold okS at h ⊢
  split at h
  · exact h
  · exact h
  · obtain ⟨q, h1, h2⟩ := h
    exact ⟨q, h1, hT _ _ h2⟩
  · trivial
theorem hOK_set {ty : Nat → tTy} {T : List Nat} {h : zH} {q τ : Nat} {vs vs' : List zV} (hh : hOK ty T h) (hq : T[q]? = some τ) (hv : h[q]? = some ((ty τ).1, vs)) (hl : vs'.length = vs.length) (hs : ∀ (i : Nat) (v : zV), vs'[i]? = some v → okS T ((ty τ).2.2 i) v) : hOK ty T (h.set q ((ty τ).1, vs')) := by
  obtain ⟨h1, h2, h3⟩ := hh
  refine ⟨by rw [List.length_set]; exact h1, by rw [List.length_set]; exact h2, fun p σ hp => ?_⟩
  by_cases e : q = p
  · subst e
    rw [hq] at hp
    cases hp
    obtain ⟨us, g1, g2, -⟩ := h3 q τ hq
    rw [hv] at g1
    cases g1
    exact ⟨vs', List.getElem?_set_self (List.getElem?_eq_some_iff.mp hv).1, by rw [hl]; exact g2, hs⟩
  · rw [List.getElem?_set_ne e]
    exact h3 p σ hp
theorem hOK_app {ty : Nat → tTy} {T : List Nat} {h : zH} {τ : Nat} {vs : List zV} (hh : hOK ty T h) (hb : h.length < 1000000) (hl : vs.length = (ty τ).2.1) (hs : ∀ (i : Nat) (v : zV), vs[i]? = some v → okS (T ++ [τ]) ((ty τ).2.2 i) v) : hOK ty (T ++ [τ]) (h ++ [((ty τ).1, vs)]) := by
  obtain ⟨h1, h2, h3⟩ := hh
  refine ⟨by simp [h1], by simp; omega, fun p σ hp => ?_⟩
  by_cases e : p < T.length
  · rw [List.getElem?_append_left e] at hp
    obtain ⟨us, g1, g2, g3⟩ := h3 p σ hp
    exact ⟨us, by rw [List.getElem?_append_left (by omega)]; exact g1, g2, fun i v hi => okS_mono (tExt_app T [τ]) (g3 i v hi)⟩
  · rw [List.getElem?_append_right (by omega)] at hp
    have e2 : p - T.length = 0 := by
      have := (List.getElem?_eq_some_iff.mp hp).1
      simp at this
      omega
    rw [e2] at hp
    cases hp
    exact ⟨vs, by rw [List.getElem?_append_right (by omega), h1, e2]; rfl, hl, hs⟩
theorem okAs_get {T : List Nat} : ∀ (n : Nat) {l : List tA} {vs : List zV} {a : tA}, okAs T l vs → l[n]? = some a → ∃ v, vs[n]? = some v ∧ okA T a v
  | _, [], _, _, _, h => by simp at h
  | 0, _ :: _, _ :: _, _, h, h2 => by
    simp only [List.getElem?_cons_zero, Option.some.injEq] at h2
    subst h2
    exact ⟨_, rfl, h.1⟩
  | n + 1, _ :: _, _ :: _, _, h, h2 => by
    simp only [List.getElem?_cons_succ] at h2 ⊢
    exact okAs_get n h.2 h2
  | _, _ :: _, [], _, h, _ => h.elim
theorem tle_ok {T : List Nat} {a f : tA} {v : zV} (h : tle a f = true) (ho : okA T a v) : okA T f v := by
  unfold tle at h
  obtain ⟨h1, h2⟩ := z_and h
  have h1 := Nat.eq_of_beq_eq_true h1
  unfold okA at ho ⊢
  rw [h1] at ho
  split at h2
  · next q =>
    simp only [q] at ho ⊢
    obtain ⟨g1, g2⟩ := z_and h2
    obtain ⟨x, e, b1, b2⟩ := ho
    exact ⟨x, e, Int.le_trans (of_decide_eq_true g1) b1, Int.le_trans b2 (of_decide_eq_true g2)⟩
  · next q =>
    simp only [q] at ho ⊢
    obtain ⟨g1, g2⟩ := z_and h2
    obtain ⟨x, e, b1, b2⟩ := ho
    exact ⟨x, e, Int.le_trans (of_decide_eq_true g1) b1, Int.le_trans b2 (of_decide_eq_true g2)⟩
  · next q =>
    simp only [q] at ho ⊢
    have h2 : a.2.2.2.1 = f.2.2.2.1 := Nat.eq_of_beq_eq_true h2
    rw [h2] at ho
    exact ho
  · next q =>
    simp only [q] at ho ⊢
    have h2 : a.2.2.2.1 = f.2.2.2.1 := Nat.eq_of_beq_eq_true h2
    rw [h2] at ho
    exact ho
  · cases h2
theorem tles_ok {T : List Nat} {L : zL} : ∀ {l f : List tA} {vs : List zV}, tles l f = true → okSt T L l vs → okAs T f vs
  | [], [], [], _, _ => trivial
  | _ :: _, _ :: _, _ :: _, h, h2 => ⟨tle_ok (z_and h).1 h2.1.1, tles_ok (z_and h).2 h2.2⟩
  | [], [], _ :: _, _, h2 => h2.elim
  | _ :: _, _ :: _, [], _, h2 => h2.elim
  | [], _ :: _, _, h, _ => absurd h Bool.false_ne_true
  | _ :: _, [], _, h, _ => absurd h Bool.false_ne_true
theorem tleL_ok {T : List Nat} {aL fL : tL} {L : zL} (h : tleL aL fL = true) (hL : okL T aL L) : okL T fL L := by
  intro p hp
  have h1 := List.all_eq_true.mp h p hp
  split at h1
  · next a ha =>
    obtain ⟨v, h2, h3⟩ := tget_ok hL ha
    exact ⟨v, h2, tle_ok h1 h3⟩
  · cases h1
theorem zof_mk {pc t : Nat} {off : Int} {k : Nat → Bool} (h : (pc : Int) + off = (t : Int)) (hk : k t = true) : zof pc off k = true := by
  unfold zof
  rw [h]
  exact hk
theorem zmk_cmp (p q : Int) : ∃ z : Int32, zmk (if q < p then 1 else if q ≤ p then 0 else -1) (if p < q then -1 else if p ≤ q then 0 else 1) = .inl (.int z) ∧ -1 ≤ z.toInt ∧ z.toInt ≤ 1 := by
  by_cases h1 : q < p
  · have n1 : ¬ p < q := by omega
    have n2 : ¬ p ≤ q := by omega
    rw [if_pos h1, if_neg n1, if_neg n2]
    exact ⟨1, rfl, by decide, by decide⟩
  · by_cases h2 : p < q
    · have n2 : ¬ q ≤ p := by omega
      rw [if_neg h1, if_neg n2, if_pos h2]
      exact ⟨-1, rfl, by decide, by decide⟩
    · have n2 : q ≤ p := by omega
      have n3 : p ≤ q := by omega
      rw [if_neg h1, if_pos n2, if_neg h2, if_pos n3]
      exact ⟨0, rfl, by decide, by decide⟩
theorem zcmp_ex (x y : Int64) : ∃ z : Int32, zcmpL (.inl (.long x)) (.inl (.long y)) = .inl (.int z) ∧ -1 ≤ z.toInt ∧ z.toInt ≤ 1 := zmk_cmp x.toInt y.toInt
theorem okTag_fog2 {L L' : zL} {k : Nat} (hk : ∀ (j : Nat) (x : Int32), j ≠ k → j ≠ k + 1 → zget L j = some (.inl (.int x)) → zget L' j = some (.inl (.int x))) {a : tA} {v : zV} (h : okTag L a v) : okTag L' (tfog1 k (tfog1 (k + 1) a)) v := by
  refine ⟨fun j hj he => ?_, fun c hc hv => ?_⟩
  · have hj : a.1 ≤ 1 := hj
    have he : (if a.1 ≤ 1 ∧ (if a.1 ≤ 1 ∧ a.2.2.2.1 = k + 1 + 1 then 0 else a.2.2.2.1) = k + 1 then 0 else (if a.1 ≤ 1 ∧ a.2.2.2.1 = k + 1 + 1 then 0 else a.2.2.2.1)) = j + 1 := he
    by_cases q1 : a.1 ≤ 1 ∧ a.2.2.2.1 = k + 1 + 1
    · rw [if_pos q1] at he
      split at he <;> omega
    · rw [if_neg q1] at he
      split at he
      · omega
      · next q2 =>
        obtain ⟨x, h1, h2⟩ := h.1 j hj he
        exact ⟨x, hk j x (fun e => q2 ⟨hj, by omega⟩) (fun e => q1 ⟨hj, by omega⟩) h1, h2⟩
  · obtain ⟨hc1, hc2⟩ := List.mem_filter.mp hc
    obtain ⟨hc3, hc4⟩ := List.mem_filter.mp hc1
    obtain ⟨x, h1, h2⟩ := h.2 c hc3 hv
    refine ⟨x, hk _ x (fun e => ?_) (fun e => ?_) h1, h2⟩
    · rw [z_beq, e] at hc2
      simp at hc2
    · rw [z_beq, e] at hc4
      simp at hc4
theorem okSt_fog2 {T : List Nat} {L L' : zL} {k : Nat} (hk : ∀ (j : Nat) (x : Int32), j ≠ k → j ≠ k + 1 → zget L j = some (.inl (.int x)) → zget L' j = some (.inl (.int x))) : ∀ {l : List tA} {vs : List zV}, okSt T L l vs → okSt T L' (tfog k (tfog (k + 1) l)) vs
  | [], [], _ => trivial
  | _ :: _, _ :: _, h => ⟨⟨okA_fog (okA_fog h.1.1), okTag_fog2 hk h.1.2⟩, okSt_fog2 hk h.2⟩
  | [], _ :: _, h => h.elim
  | _ :: _, [], h => h.elim
def tSt (ty : Nat → tTy) (Φ : List Nat → zH → Prop) (fx : List Nat) (L0 : zL) (N0 rc : Nat) (T0 T : List Nat) (aL : tL) (st : List tA) (nc ns : Nat) (x : zS) : Prop :=
  okL T aL x.2.1 ∧ okSt T x.2.1 st x.2.2.1 ∧ hOK ty T x.2.2.2.1 ∧ Φ T x.2.2.2.1 ∧ x.2.2.2.1.length ≤ N0 + nc ∧ x.2.2.2.2.1 = nc ∧ x.2.2.2.2.2 = ns ∧ (∀ k ∈ fx, zget x.2.1 k = zget L0 k) ∧ tExt T0 T ∧ nc ≤ rc
section
variable {ty : Nat → tTy} {tB : Nat} {prog : Nat → Option zE} {sm : Nat → List tE} {hts : Nat → Nat} {fx : List Nat} {D0 nL rc rs N0 : Nat} {scr : List zV} {cc : zK} {Φ : List Nat → zH → Prop} {G : zS → Prop} {L0 L : zL} {T0 T : List Nat} {K : tK} {aL : tL} {st : List tA} {stk : List zV} {h : zH} {pc nc ns : Nat}
theorem tpu (KG : ∀ (T : List Nat) (pc : Nat) (aL : tL) (st : List tA) (nc ns : Nat) (x : zS), x.1 = pc → K pc aL st nc ns = true → tSt ty Φ fx L0 N0 rc T0 T aL st nc ns x → G x) (hS : tSt ty Φ fx L0 N0 rc T0 T aL st nc ns (pc, L, stk, h, nc, ns)) {pc' : Nat} {st' : List tA} {stk' : List zV} (hk : K pc' aL st' nc ns = true) (hst : okSt T L st' stk') : zB (G (pc', L, stk', h, nc, ns)) = true :=
  zB_iff.mpr (KG T pc' aL st' nc ns _ rfl hk ⟨hS.1, hst, hS.2.2.1, hS.2.2.2.1, hS.2.2.2.2.1, rfl, rfl, hS.2.2.2.2.2.2.2⟩)
theorem tlc (KG : ∀ (T : List Nat) (pc : Nat) (aL : tL) (st : List tA) (nc ns : Nat) (x : zS), x.1 = pc → K pc aL st nc ns = true → tSt ty Φ fx L0 N0 rc T0 T aL st nc ns x → G x) (hS : tSt ty Φ fx L0 N0 rc T0 T aL st nc ns (pc, L, stk, h, nc, ns)) {pc' : Nat} {aL' : tL} {st' : List tA} {stk' : List zV} (hk : K pc' aL' st' nc ns = true) (hL : okL T aL' L) (hst : okSt T L st' stk') : zB (G (pc', L, stk', h, nc, ns)) = true :=
  zB_iff.mpr (KG T pc' aL' st' nc ns _ rfl hk ⟨hL, hst, hS.2.2.1, hS.2.2.2.1, hS.2.2.2.2.1, rfl, rfl, hS.2.2.2.2.2.2.2⟩)
theorem tlc1 (KG : ∀ (T : List Nat) (pc : Nat) (aL : tL) (st : List tA) (nc ns : Nat) (x : zS), x.1 = pc → K pc aL st nc ns = true → tSt ty Φ fx L0 N0 rc T0 T aL st nc ns x → G x) (hS : tSt ty Φ fx L0 N0 rc T0 T aL st nc ns (pc, L, stk, h, nc, ns)) (hf0 : ∀ k ∈ fx, ∃ x : Int32, zget L0 k = some (.inl (.int x))) {pc' k : Nat} {a : tA} {v : zV} {st' : List tA} {stk' : List zV} (hk : K pc' (tput aL k a) (tfog k st') nc ns = true) (ha : okA T a v) (hfx : fx.contains k = false) (hst : okSt T L st' stk') : zB (G (pc', zst1 L k v, stk', h, nc, ns)) = true := by
  refine zB_iff.mpr (KG T pc' _ _ nc ns _ rfl hk ⟨tput_ok hS.1 ha, okSt_fog (fun j x hj hg => zst1_keep j x hj hg) hst, hS.2.2.1, hS.2.2.2.1, hS.2.2.2.2.1, rfl, rfl, fun j hj => ?_, hS.2.2.2.2.2.2.2.2⟩)
  have hne : j ≠ k := fun e => by
    subst e
    rw [List.contains_iff_mem.mpr hj] at hfx
    cases hfx
  have h9 : zget L j = zget L0 j := hS.2.2.2.2.2.2.2.1 j hj
  obtain ⟨x, hx⟩ := hf0 j hj
  show zget (zst1 L k v) j = _
  rw [hx]
  rw [hx] at h9
  exact zst1_keep j x hne h9
theorem tlc2 (KG : ∀ (T : List Nat) (pc : Nat) (aL : tL) (st : List tA) (nc ns : Nat) (x : zS), x.1 = pc → K pc aL st nc ns = true → tSt ty Φ fx L0 N0 rc T0 T aL st nc ns x → G x) (hS : tSt ty Φ fx L0 N0 rc T0 T aL st nc ns (pc, L, stk, h, nc, ns)) (hf0 : ∀ k ∈ fx, ∃ x : Int32, zget L0 k = some (.inl (.int x))) {pc' k : Nat} {a : tA} {v : zV} {st' : List tA} {stk' : List zV} (hk : K pc' (tput2 aL k a) (tfog k (tfog (k + 1) st')) nc ns = true) (ha : okA T a v) (hl : tlong a = true) (hfx : fx.contains k = false) (hfx2 : fx.contains (k + 1) = false) (hst : okSt T L st' stk') : zB (G (pc', zst2 L k v, stk', h, nc, ns)) = true := by
  refine zB_iff.mpr (KG T pc' _ _ nc ns _ rfl hk ⟨tput2_ok hS.1 ha hl, ?_, hS.2.2.1, hS.2.2.2.1, hS.2.2.2.2.1, rfl, rfl, fun j hj => ?_, hS.2.2.2.2.2.2.2.2⟩)
  · exact okSt_fog2 (fun j x hj hj2 hg => zst2_get hg hj hj2 (Or.inr (by show (1 : Nat) ≠ 2; omega))) hst
  · have hne : j ≠ k := fun e => by
      subst e
      rw [List.contains_iff_mem.mpr hj] at hfx
      cases hfx
    have hne2 : j ≠ k + 1 := fun e => by
      subst e
      rw [List.contains_iff_mem.mpr hj] at hfx2
      cases hfx2
    have h9 : zget L j = zget L0 j := hS.2.2.2.2.2.2.2.1 j hj
    obtain ⟨x, hx⟩ := hf0 j hj
    show zget (zst2 L k v) j = _
    rw [hx]
    rw [hx] at h9
    exact zst2_get h9 hne hne2 (Or.inr (by show (1 : Nat) ≠ 2; omega))
end
end
section
theorem zld_mk {P : zV → Bool} {L : zL} {i : Nat} {k : zV → Bool} {v : zV} (h : zget L i = some v) (hp : P v = true) (hk : k v = true) : zld P L i k = true := by
  unfold zld
  rw [h]
  show (P v && k v) = true
  rw [hp, hk]
  rfl
theorem t_blt {a b : Nat} (h : a < b) : Nat.blt a b = true := by simpa [Nat.blt_eq] using h
theorem t_ble {a b : Nat} (h : a ≤ b) : Nat.ble a b = true := Nat.ble_eq_true_of_le h
theorem t_and2 {a b : Bool} (h1 : a = true) (h2 : b = true) : (a && b) = true := by rw [h1, h2]; rfl
theorem zs1_mk {P : zV → Bool} {L : zL} {nL i : Nat} {v : zV} {r : List zV} {k : zL → List zV → Bool} (hp : P v = true) (hi : i < nL) (hk : k (zst1 L i v) r = true) : zs1 P L nL i (v :: r) k = true := t_and2 hp (t_and2 (t_blt hi) hk)
theorem zs2_mk {L : zL} {nL i : Nat} {v : zV} {r : List zV} {k : zL → List zV → Bool} (hp : zisL v = true) (hi : i + 1 < nL) (hk : k (zst2 L i v) r = true) : zs2 L nL i (v :: r) k = true := t_and2 hp (t_and2 (t_blt hi) hk)
theorem zrow_mk {h : zH} {q t : Nat} {vs : List zV} {k : List zV → Bool} (hq : h[q]? = some (t, vs)) (hl : q < 1000000) (hk : k vs = true) : zrow h q t k = true := by
  unfold zrow
  rw [hq]
  exact t_and2 (t_blt hl) (t_and2 (by rw [z_beq]; simp) hk)
theorem zel_mk {vs : List zV} {i : Int32} {v : zV} {k : zV → Bool} (hi : 0 ≤ i.toInt) (hv : vs[i.toInt.toNat]? = some v) (hk : k v = true) : zel vs i k = true := by
  unfold zel
  rw [if_neg (fun q => by have := Int32.lt_iff_toInt_lt.mp q; have h0 : (0 : Int32).toInt = 0 := rfl; omega)]
  have e : i.toNatClampNeg = i.toInt.toNat := rfl
  rw [e, hv]
  exact hk
theorem zix_mk {vs : List zV} {i : Int32} (hi : 0 ≤ i.toInt) (hl : i.toInt < (vs.length : Int)) : zix vs i = true := by
  unfold zix
  rw [if_neg (fun q => by have := Int32.lt_iff_toInt_lt.mp q; have h0 : (0 : Int32).toInt = 0 := rfl; omega)]
  have e : i.toNatClampNeg = i.toInt.toNat := rfl
  rw [e]
  exact t_blt (by omega)
theorem tst_sp {fx : List Nat} {nL k : Nat} {P : tA → Bool} {st : List tA} {aL : tL} {K : tL → List tA → Bool} (h : tst fx nL k P st aL K = true) : ∃ a r, st = a :: r ∧ P a = true ∧ k < nL ∧ fx.contains k = false ∧ K (tput aL k a) (tfog k r) = true := by
  unfold tst at h
  split at h
  · next a r =>
    obtain ⟨h1, h⟩ := z_and h
    obtain ⟨h2, h⟩ := z_and h
    obtain ⟨h3, h⟩ := z_and h
    exact ⟨a, r, rfl, h1, z_blt h2, by simpa using h3, h⟩
  · cases h
theorem tst2_sp {fx : List Nat} {nL k : Nat} {st : List tA} {aL : tL} {K : tL → List tA → Bool} (h : tst2 fx nL k st aL K = true) : ∃ a r, st = a :: r ∧ tlong a = true ∧ k + 1 < nL ∧ fx.contains k = false ∧ fx.contains (k + 1) = false ∧ K (tput2 aL k a) (tfog k (tfog (k + 1) r)) = true := by
  unfold tst2 at h
  split at h
  · next a r =>
    obtain ⟨h1, h⟩ := z_and h
    obtain ⟨h2, h⟩ := z_and h
    obtain ⟨h3, h⟩ := z_and h
    obtain ⟨h4, h⟩ := z_and h
    exact ⟨a, r, rfl, h1, z_blt h2, by simpa using h3, by simpa using h4, h⟩
  · cases h
theorem tld_sp {P : tA → Bool} {aL : tL} {k : Nat} {K : tA → Bool} (h : tld P aL k K = true) : ∃ a, tget aL k = some a ∧ P a = true ∧ K (tpush k a) = true := by
  unfold tld at h
  split at h
  · next a ha => exact ⟨a, ha, (z_and h).1, (z_and h).2⟩
  · cases h
theorem tbin_sp {st : List tA} {f : tA → tA → tA} {K : List tA → Bool} (h : tbin st f K = true) : ∃ b a r, st = b :: a :: r ∧ tint a = true ∧ tint b = true ∧ K (f a b :: r) = true := by
  unfold tbin at h
  split at h
  · next b a r => exact ⟨b, a, r, rfl, (z_and h).1, (z_and (z_and h).2).1, (z_and (z_and h).2).2⟩
  · cases h
theorem tbinL_sp {st : List tA} {K : List tA → Bool} (h : tbinL st K = true) : ∃ b a r, st = b :: a :: r ∧ tlong a = true ∧ tlong b = true ∧ K (tLf :: r) = true := by
  unfold tbinL at h
  split at h
  · next b a r => exact ⟨b, a, r, rfl, (z_and h).1, (z_and (z_and h).2).1, (z_and (z_and h).2).2⟩
  · cases h
theorem tshL_sp {st : List tA} {K : List tA → Bool} (h : tshL st K = true) : ∃ b a r, st = b :: a :: r ∧ tlong a = true ∧ tint b = true ∧ K (tLf :: r) = true := by
  unfold tshL at h
  split at h
  · next b a r => exact ⟨b, a, r, rfl, (z_and h).1, (z_and (z_and h).2).1, (z_and (z_and h).2).2⟩
  · cases h
theorem tun_sp {st : List tA} {f : tA → tA} {K : List tA → Bool} (h : tun st f K = true) : ∃ a r, st = a :: r ∧ tint a = true ∧ K (f a :: r) = true := by
  unfold tun at h
  split at h
  · next a r => exact ⟨a, r, rfl, (z_and h).1, (z_and h).2⟩
  · cases h
theorem tisR_sp {T : List Nat} {a : tA} {v : zV} (h : tisR a = true) (ho : okA T a v) : ∃ q : Nat, v = .inl (.ref q) := by
  unfold tisR at h
  rcases (Bool.or_eq_true _ _).mp h with h1 | h1
  · obtain ⟨q, h2, -⟩ := tref_sp (a := a) h1 ho
    exact ⟨q, h2⟩
  · have h1 : a.1 = 4 := Nat.eq_of_beq_eq_true h1
    unfold okA at ho
    rw [h1] at ho
    exact ⟨_, ho⟩
theorem ncat {T : List Nat} {a : tA} {v : zV} (h : (!(tlong a)) = true) (ho : okA T a v) : Nat.beq (zcat v) 1 = true := by
  rw [okA_cat ho]
  have h1 : ¬ a.1 = 1 := fun q => by
    unfold tlong at h
    rw [q] at h
    exact absurd h (by decide)
  unfold tcat
  rw [if_neg h1]
  rfl
theorem tslot_sp {T : List Nat} {s : tSl} {v : zV} {K : tA → Bool} (h : tslot s K = true) (ho : okS T s v) : ∃ a, K a = true ∧ okA T a v ∧ ∀ L, okTag L a v := by
  unfold tslot at h
  unfold okS at ho
  split at h
  · next q =>
    rw [q] at ho
    obtain ⟨x, rfl, h1, h2⟩ := ho
    exact ⟨_, h, okA_I h1 h2, fun _ => okTag_plain (tplain_I _ _)⟩
  · next q =>
    rw [q] at ho
    obtain ⟨x, rfl⟩ := ho
    exact ⟨_, h, okA_Lf x, fun _ => okTag_plain tplain_Lf⟩
  · next q =>
    rw [q] at ho
    obtain ⟨k, rfl, h1⟩ := ho
    exact ⟨_, h, ⟨k, rfl, h1⟩, fun _ => okTag_none (Or.inr (by show 2 ≤ 2; omega)) rfl⟩
  · cases h
theorem tfits_sp {T : List Nat} {s : tSl} {c : Nat} {a : tA} {v : zV} (h : tfits s c a = true) (ho : okA T a v) : s.2.2.2.2 = true ∧ okS T s v ∧ zfit c v = true := by
  unfold tfits at h
  obtain ⟨h1, h2⟩ := z_and h
  refine ⟨h1, ?_⟩
  unfold okS
  split at h2
  · next q =>
    obtain ⟨g1, h2⟩ := z_and h2
    obtain ⟨g2, h2⟩ := z_and h2
    obtain ⟨g3, h2⟩ := z_and h2
    obtain ⟨x, rfl, b1, b2⟩ := tint_sp g1 ho
    have g2 := of_decide_eq_true g2
    have g3 := of_decide_eq_true g3
    simp only [q]
    refine ⟨⟨x, rfl, by omega, by omega⟩, ?_⟩
    rcases (Bool.or_eq_true _ _).mp h2 with h3 | h3
    · rw [Nat.eq_of_beq_eq_true h3]
      rfl
    · obtain ⟨h3, h4⟩ := z_and h3
      obtain ⟨h4, h5⟩ := z_and h4
      have h4 := of_decide_eq_true h4
      have h5 := of_decide_eq_true h5
      rw [Nat.eq_of_beq_eq_true h3]
      show (x == 0 || x == 1) = true
      have h6 : x.toInt = 0 ∨ x.toInt = 1 := by omega
      rcases h6 with h6 | h6
      · have : x = 0 := Int32.toInt_inj.mp h6
        rw [this]
        rfl
      · have : x = 1 := Int32.toInt_inj.mp h6
        rw [this]
        rfl
  · next q =>
    obtain ⟨g1, h2⟩ := z_and h2
    obtain ⟨x, rfl, -⟩ := tlong_sp g1 ho
    simp only [q]
    refine ⟨⟨x, rfl⟩, ?_⟩
    rw [Nat.eq_of_beq_eq_true h2]
    rfl
  · cases h2
theorem tidx_sp {ty : Nat → tTy} {T : List Nat} {h : zH} {tag : Nat} {r i : tA} {vr vi : zV} {K : tSl → Bool} (hh : hOK ty T h) (hk : tidx ty tag r i K = true) (hr : okA T r vr) (hi : okA T i vi) : ∃ (q : Nat) (x : Int32) (vs : List zV) (v : zV), vr = .inl (.ref q) ∧ vi = .inl (.int x) ∧ T[q]? = some (taux r) ∧ (ty (taux r)).1 = tag ∧ h[q]? = some (tag, vs) ∧ q < 1000000 ∧ 0 ≤ x.toInt ∧ x.toInt < (vs.length : Int) ∧ vs[x.toInt.toNat]? = some v ∧ (∀ (i : Nat) (v : zV), vs[i]? = some v → okS T ((ty (taux r)).2.2 i) v) ∧ K ((ty (taux r)).2.2 0) = true := by
  unfold tidx at hk
  obtain ⟨h1, hk⟩ := z_and hk
  obtain ⟨h2, hk⟩ := z_and hk
  obtain ⟨h3, hk⟩ := z_and hk
  obtain ⟨h4, hk⟩ := z_and hk
  obtain ⟨h5, hk⟩ := z_and hk
  obtain ⟨q, rfl, hq⟩ := tref_sp h1 hr
  obtain ⟨x, rfl, b1, b2⟩ := tint_sp h2 hi
  have h3 := Nat.eq_of_beq_eq_true h3
  have h4 := of_decide_eq_true h4
  have h5 := of_decide_eq_true h5
  obtain ⟨e1, e2, e3⟩ := hh
  obtain ⟨vs, g1, g2, g3⟩ := e3 q _ hq
  rw [h3] at g1
  have hlt : x.toInt.toNat < vs.length := by rw [g2]; omega
  exact ⟨q, x, vs, vs[x.toInt.toNat], rfl, rfl, hq, h3, g1, by have := (List.getElem?_eq_some_iff.mp g1).1; omega, by omega, by omega, List.getElem?_eq_getElem hlt, g3, hk⟩
theorem tconds_ok {T : List Nat} {L : zL} {as : List tA} {vs : List zV} (hs : okSt T L as vs) : ∀ {cs : tC}, (∀ c ∈ cs, ∃ a, vs[c.1]? = some a ∧ c.2.1 ≤ tval a ∧ tval a ≤ c.2.2) → ∀ c ∈ tconds as cs, ∃ x : Int32, zget L c.1 = some (.inl (.int x)) ∧ c.2.1 ≤ x.toInt ∧ x.toInt ≤ c.2.2
  | [], _, c, hc => by cases hc
  | d :: cs, h, c, hc => by
    have ih := tconds_ok hs (cs := cs) (fun e he => h e (List.mem_cons_of_mem _ he))
    unfold tconds at hc
    split at hc
    · next a ha =>
      split at hc
      · next h1 =>
        split at hc
        · exact ih c hc
        · next k hk =>
          rcases List.mem_cons.mp hc with rfl | hc
          · obtain ⟨v, g1, g2, g3⟩ := okSt_get d.1 hs ha
            obtain ⟨w, e1, e2⟩ := h d List.mem_cons_self
            rw [g1] at e1
            cases e1
            obtain ⟨x, k1, k2⟩ := g3.1 k h1 hk
            refine ⟨x, k1, ?_⟩
            rw [← k2]
            exact e2
          · exact ih c hc
      · exact ih c hc
    · exact ih c hc
theorem okA_val {T : List Nat} {a : tA} {v : zV} (h : okA T a v) (h1 : a.1 ≤ 1) : tlo a ≤ tval v ∧ tval v ≤ thi a := by
  unfold okA at h
  split at h
  · obtain ⟨x, rfl, h2⟩ := h
    exact h2
  · obtain ⟨x, rfl, h2⟩ := h
    exact h2
  · omega
  · omega
  · exact h.elim
theorem twith_ok {T : List Nat} {L : zL} {as : List tA} {vs : List zV} (hs : okSt T L as vs) (hk : ∀ a ∈ as, a.1 ≤ 1) (hw : ∃ a l m, vs[0]? = some a ∧ vs[1]? = some l ∧ vs[2]? = some m ∧ tval l ≤ tval a ∧ tval a ≤ tval m) : ∀ c ∈ twith as, ∃ x : Int32, zget L c.1 = some (.inl (.int x)) ∧ c.2.1 ≤ x.toInt ∧ x.toInt ≤ c.2.2 := by
  intro c hc
  unfold twith at hc
  split at hc
  · next a l m r =>
    split at hc
    · next h1 =>
      split at hc
      · cases hc
      · next k hk2 =>
        rcases List.mem_cons.mp hc with rfl | hc
        · obtain ⟨va, vl, vm, e1, e2, e3, e4, e5⟩ := hw
          obtain ⟨va', g1, -, g3⟩ := okSt_get 0 hs (a := a) rfl
          obtain ⟨vl', f1, f2, -⟩ := okSt_get 1 hs (a := l) rfl
          obtain ⟨vm', p1, p2, -⟩ := okSt_get 2 hs (a := m) rfl
          rw [g1] at e1
          rw [f1] at e2
          rw [p1] at e3
          cases e1
          cases e2
          cases e3
          obtain ⟨x, k1, k2⟩ := g3.1 k h1 hk2
          have b1 := okA_val f2 (hk l (by simp))
          have b2 := okA_val p2 (hk m (by simp))
          refine ⟨x, k1, ?_⟩
          show tlo l ≤ x.toInt ∧ x.toInt ≤ thi m
          omega
        · cases hc
    · cases hc
  · cases hc
end
section
section
variable {ty : Nat → tTy} {tB : Nat} {prog : Nat → Option zE} {sm : Nat → List tE} {hts : Nat → Nat} {fx : List Nat} {D0 nL rc rs N0 : Nat} {scr : List zV} {cc : zK} {Φ : List Nat → zH → Prop} {G : zS → Prop} {L0 L : zL} {T0 T : List Nat} {K : tK} {aL : tL} {st : List tA} {stk : List zV} {h : zH} {pc nc ns : Nat}
theorem tcall_ok (KG : ∀ (T : List Nat) (pc : Nat) (aL : tL) (st : List tA) (nc ns : Nat) (x : zS), x.1 = pc → K pc aL st nc ns = true → tSt ty Φ fx L0 N0 rc T0 T aL st nc ns x → G x) (hS : tSt ty Φ fx L0 N0 rc T0 T aL st nc ns (pc, L, stk, h, nc, ns)) (hN : N0 + rc ≤ 1000000) (hsm : ∀ (j : Nat) (E : zE) (e : tE), prog j = some E → e ∈ sm j → hts j ≤ D0 → tCon ty Φ E cc j e) {j pc' : Nat} {E : zE} {as rest : List tA} {vs restS : List zV} (hE : prog j = some E)
    (ht : tcall prog sm hts D0 rc rs j E as rest nc ns (fun st' nc' ns' => K pc' aL st' nc' ns') = true) (has : okSt T L as vs) (hr : okSt T L rest restS) :
    nc + zEc E ≤ rc ∧ ns + zEs E ≤ rs ∧ zsum restS ≤ 8 ∧ cc j vs h (fun v h' => zB (G (pc', L, zpush v restS, h', nc + zEc E, ns + zEs E))) = true := by
  unfold tcall at ht
  obtain ⟨h1, ht⟩ := z_and ht
  obtain ⟨h2, ht⟩ := z_and ht
  obtain ⟨h3, ht⟩ := z_and ht
  obtain ⟨h4, ht⟩ := z_and ht
  have h1 := z_ble h1
  have h2 := z_ble h2
  have h3 := z_ble h3
  have h4 := z_ble h4
  refine ⟨h2, h3, by rw [okSt_sum hr]; exact h4, ?_⟩
  split at ht
  · next e he =>
    have hm := List.mem_of_find?_eq_some he
    have hp := List.find?_some he
    refine hsm j E e hE hm h1 T h vs _ hS.2.2.1 hS.2.2.2.1 (by have := hS.2.2.2.2.1; show h.length + zEc E ≤ 1000000; have h5 : h.length ≤ N0 + nc := this; omega) (tles_ok hp has) (fun r T' h' hx hok hΦ hlen hres => ?_)
    have base : ∀ (st' : List tA) (stk' : List zV), okSt T' L st' stk' → K pc' aL st' (nc + zEc E) (ns + zEs E) = true → zB (G (pc', L, stk', h', nc + zEc E, ns + zEs E)) = true := fun st' stk' g1 g2 =>
      zB_iff.mpr (KG T' pc' aL st' _ _ _ rfl g2 ⟨okL_mono hx hS.1, g1, hok, hΦ, by have h5 : h.length ≤ N0 + nc := hS.2.2.2.2.1; show h'.length ≤ N0 + (nc + zEc E); omega, rfl, rfl, hS.2.2.2.2.2.2.2.1, tExt_tr hS.2.2.2.2.2.2.2.2.1 hx, h2⟩)
    have hr' := okSt_mono hx hr
    unfold tRes at hres
    split at ht
    · next q =>
      rw [q] at hres
      have hres : r = none := hres
      subst hres
      exact base rest restS hr' ht
    · next q =>
      rw [q] at hres
      obtain ⟨v, rfl, g1, g2⟩ := hres
      refine base ((e.2.2.1.1, e.2.2.1.2.1, e.2.2.1.2.2.1, (if e.2.2.1.1 ≤ 1 then 0 else e.2.2.1.2.2.2.1), tconds as e.2.2.2) :: rest) (v :: restS) ⟨⟨?_, ⟨fun k hk he => ?_, fun c hc hv => ?_⟩⟩, hr'⟩ ht
      · have g3 := okA_norm g1
        unfold okA at g3 ⊢
        exact g3
      · have he : (if e.2.2.1.1 ≤ 1 then 0 else e.2.2.1.2.2.2.1) = k + 1 := he
        have hk : e.2.2.1.1 ≤ 1 := hk
        rw [if_pos hk] at he
        omega
      · exact tconds_ok has (fun c hc => g2 c hc hv) c hc
    · next q1 q2 =>
      have hres : ∃ v, r = some v ∧ okA T' (tI 0 1) v ∧ (v ≠ .inl (.int 0) → ∃ a l m, vs[0]? = some a ∧ vs[1]? = some l ∧ vs[2]? = some m ∧ tval l ≤ tval a ∧ tval a ≤ tval m) := by
        split at hres
        · next q => exact absurd q q1
        · next q => exact absurd q q2
        · exact hres
      obtain ⟨v, rfl, g1, g2⟩ := hres
      obtain ⟨h5, ht⟩ := z_and ht
      refine base ((0, 0, 1, 0, twith as) :: rest) (v :: restS) ⟨⟨?_, ⟨fun k hk he => (by cases he), fun c hc hv => ?_⟩⟩, hr'⟩ ht
      · exact g1
      · exact twith_ok has (fun a ha => z_ble (List.all_eq_true.mp h5 a ha)) (g2 hv) c hc
  · cases ht
theorem tsw_ok {a : tA} {z : Int32} {lo : Int} {Kt : Nat → tL → Bool} (hL : okL T aL L) (ta : okTag L a (.inl (.int z))) (ia : tint a = true) (ha : tlo a ≤ z.toInt ∧ z.toInt ≤ thi a) : ∀ (offs : List Int) (i : Nat), tsw aL a pc lo offs Kt i = true → ∀ (n : Nat) (o : Int), offs[n]? = some o → lo + ((i + n : Nat) : Int) = z.toInt → ∃ t : Nat, (pc : Int) + o = (t : Int) ∧ ∃ aL', okL T aL' L ∧ Kt t aL' = true
  | [], _, _, n, o, ho, _ => by simp at ho
  | o0 :: os, i, hh, n, o, ho, hz => by
    unfold tsw at hh
    obtain ⟨h1, h2⟩ := z_and hh
    cases n with
    | zero =>
      simp only [List.getElem?_cons_zero, Option.some.injEq] at ho
      subst ho
      have hz : lo + (i : Int) = z.toInt := by simpa using hz
      rw [if_pos ⟨by omega, by omega⟩] at h1
      obtain ⟨t, e1, e2⟩ := zof_sp h1
      exact ⟨t, e1, tcutA_ok hL ta ia ha (by omega) e2⟩
    | succ n =>
      simp only [List.getElem?_cons_succ] at ho
      exact tsw_ok hL ta ia ha os (i + 1) h2 n o ho (by rw [← hz]; congr 2; omega)
end
end
section
section
variable {ty : Nat → tTy} {tB : Nat} {prog : Nat → Option zE} {sm : Nat → List tE} {hts : Nat → Nat} {fx : List Nat} {D0 nL rc rs N0 : Nat} {scr : List zV} {cc : zK} {Φ : List Nat → zH → Prop} {G : zS → Prop} {L0 L : zL} {T0 T : List Nat} {K : tK} {aL : tL} {st : List tA} {stk : List zV} {h : zH} {pc nc ns : Nat}
theorem tI_ok (x : Int32) : okA T (tI x.toInt x.toInt) (.inl (.int x)) ∧ okTag L (tI x.toInt x.toInt) (.inl (.int x)) := ⟨okA_I (Int.le_refl _) (Int.le_refl _), okTag_plain (tplain_I _ _)⟩
theorem tJ_ok (x : Int64) : okA T ((1, x.toInt, x.toInt, 0, []) : tA) (.inl (.long x)) ∧ okTag L ((1, x.toInt, x.toInt, 0, []) : tA) (.inl (.long x)) := ⟨⟨x, rfl, Int.le_refl _, Int.le_refl _⟩, okTag_none (Or.inl rfl) rfl⟩
/-- what a write to a cell keeps -/
theorem twr (KG : ∀ (T : List Nat) (pc : Nat) (aL : tL) (st : List tA) (nc ns : Nat) (x : zS), x.1 = pc → K pc aL st nc ns = true → tSt ty Φ fx L0 N0 rc T0 T aL st nc ns x → G x) (hS : tSt ty Φ fx L0 N0 rc T0 T aL st nc ns (pc, L, stk, h, nc, ns)) (hst : tStab ty tB Φ) {pc' q τ : Nat} {st' : List tA} {stk' vs vs' : List zV} (hk : K pc' aL st' nc ns = true) (hr : okSt T L st' stk') (hq : T[q]? = some τ) (hv : h[q]? = some ((ty τ).1, vs)) (hl : vs'.length = vs.length) (hw : ∀ i, ((ty τ).2.2 i).2.2.2.2 = false → vs'[i]? = vs[i]?) (hs : ∀ (i : Nat) (v : zV), vs'[i]? = some v → okS T ((ty τ).2.2 i) v) :
    zB (G (pc', L, stk', h.set q ((ty τ).1, vs'), nc, ns)) = true :=
  zB_iff.mpr (KG T pc' aL st' nc ns _ rfl hk ⟨hS.1, hr, hOK_set hS.2.2.1 hq hv hl hs, hst.1 T h q τ vs vs' hS.2.2.1 hS.2.2.2.1 hq hv hl hw hs, by show (h.set q _).length ≤ _; rw [List.length_set]; exact hS.2.2.2.2.1, rfl, rfl, hS.2.2.2.2.2.2.2⟩)
theorem tset_s {τ i : Nat} {v : zV} {vs : List zV} (hv : okS T ((ty τ).2.2 i) v) (hs : ∀ (i : Nat) (v : zV), vs[i]? = some v → okS T ((ty τ).2.2 i) v) : ∀ (j : Nat) (w : zV), (vs.set i v)[j]? = some w → okS T ((ty τ).2.2 j) w := fun j w hw => by
  rcases zset_get hw with ⟨rfl, rfl⟩ | ⟨hne, hj⟩
  · exact hv
  · exact hs j w hj
theorem tset_w {τ i : Nat} {v : zV} {vs : List zV} (hv : ((ty τ).2.2 i).2.2.2.2 = true) : ∀ j, ((ty τ).2.2 j).2.2.2.2 = false → (vs.set i v)[j]? = vs[j]? := fun j hj => by
  have : i ≠ j := fun e => by
    subst e
    rw [hv] at hj
    cases hj
  exact List.getElem?_set_ne this
theorem tstep_sound (KG : ∀ (T : List Nat) (pc : Nat) (aL : tL) (st : List tA) (nc ns : Nat) (x : zS), x.1 = pc → K pc aL st nc ns = true → tSt ty Φ fx L0 N0 rc T0 T aL st nc ns x → G x) (hS : tSt ty Φ fx L0 N0 rc T0 T aL st nc ns (pc, L, stk, h, nc, ns)) (hf0 : ∀ k ∈ fx, ∃ x : Int32, zget L0 k = some (.inl (.int x))) (hN : N0 + rc ≤ 1000000) (hst : tStab ty tB Φ) (hsm : ∀ (j : Nat) (E : zE) (e : tE), prog j = some E → e ∈ sm j → hts j ≤ D0 → tCon ty Φ E cc j e) {ins : Instr} {cv : zV} {a b c : Nat}
    (ht : tstep ty tB prog sm hts fx D0 nL rc rs K ins cv a b c pc aL st nc ns = true) : zstep zNf zdfl zslen prog nL rc rs scr cc (fun y => zB (G y)) ins cv a b c pc L stk h nc ns = true := by
  have hL : okL T aL L := hS.1
  have hSt : okSt T L st stk := hS.2.1
  have hOk : hOK ty T h := hS.2.2.1
  have hlen : h.length ≤ N0 + nc := hS.2.2.2.2.1
  have hq6 : ∀ q τ : Nat, T[q]? = some τ → q < 1000000 := fun q τ hq => by
    have h1 := (List.getElem?_eq_some_iff.mp hq).1
    have h2 := hOk.1
    have h3 := hOk.2.1
    omega
  cases ins <;> try (exact absurd ht Bool.false_ne_true)
  case iconst n => exact tpu KG hS ht ⟨tI_ok _, hSt⟩
  case bipush n => exact tpu KG hS ht ⟨tI_ok _, hSt⟩
  case sipush n => exact tpu KG hS ht ⟨tI_ok _, hSt⟩
  case lconst n => exact tpu KG hS ht ⟨tJ_ok _, hSt⟩
  case iload_n k =>
    simp only [tstep] at ht
    obtain ⟨w, h1, h2, h3⟩ := tld_sp ht
    obtain ⟨v, g1, g2⟩ := tget_ok hL h1
    have g3 := tpush_ok g2 g1
    obtain ⟨x, rfl, -⟩ := tint_sp h2 g2
    exact zld_mk g1 rfl (tpu KG hS h3 ⟨g3, hSt⟩)
  case iload k =>
    simp only [tstep] at ht
    obtain ⟨w, h1, h2, h3⟩ := tld_sp ht
    obtain ⟨v, g1, g2⟩ := tget_ok hL h1
    have g3 := tpush_ok g2 g1
    obtain ⟨x, rfl, -⟩ := tint_sp h2 g2
    exact zld_mk g1 rfl (tpu KG hS h3 ⟨g3, hSt⟩)
  case lload_n k =>
    simp only [tstep] at ht
    obtain ⟨w, h1, h2, h3⟩ := tld_sp ht
    obtain ⟨v, g1, g2⟩ := tget_ok hL h1
    have g3 := tpush_ok g2 g1
    obtain ⟨x, rfl, -⟩ := tlong_sp h2 g2
    exact zld_mk g1 rfl (tpu KG hS h3 ⟨g3, hSt⟩)
  case lload k =>
    simp only [tstep] at ht
    obtain ⟨w, h1, h2, h3⟩ := tld_sp ht
    obtain ⟨v, g1, g2⟩ := tget_ok hL h1
    have g3 := tpush_ok g2 g1
    obtain ⟨x, rfl, -⟩ := tlong_sp h2 g2
    exact zld_mk g1 rfl (tpu KG hS h3 ⟨g3, hSt⟩)
  case aload_n k =>
    simp only [tstep] at ht
    obtain ⟨w, h1, h2, h3⟩ := tld_sp ht
    obtain ⟨v, g1, g2⟩ := tget_ok hL h1
    have g3 := tpush_ok g2 g1
    obtain ⟨x, rfl⟩ := tisR_sp h2 g2
    exact zld_mk g1 rfl (tpu KG hS h3 ⟨g3, hSt⟩)
  case aload k =>
    simp only [tstep] at ht
    obtain ⟨w, h1, h2, h3⟩ := tld_sp ht
    obtain ⟨v, g1, g2⟩ := tget_ok hL h1
    have g3 := tpush_ok g2 g1
    obtain ⟨x, rfl⟩ := tisR_sp h2 g2
    exact zld_mk g1 rfl (tpu KG hS h3 ⟨g3, hSt⟩)
  case istore_n k =>
    simp only [tstep] at ht
    obtain ⟨w, r, rfl, h2, h3, h4, h5⟩ := tst_sp ht
    obtain ⟨v, vs', rfl, g1, g2, g3⟩ := okSt_cons hSt
    obtain ⟨x, rfl, -⟩ := tint_sp h2 g1
    simp only [zstep]
    refine zs1_mk rfl h3 ?_
    exact tlc1 KG hS hf0 h5 g1 h4 g3
  case istore k =>
    simp only [tstep] at ht
    obtain ⟨w, r, rfl, h2, h3, h4, h5⟩ := tst_sp ht
    obtain ⟨v, vs', rfl, g1, g2, g3⟩ := okSt_cons hSt
    obtain ⟨x, rfl, -⟩ := tint_sp h2 g1
    simp only [zstep]
    refine zs1_mk rfl h3 ?_
    exact tlc1 KG hS hf0 h5 g1 h4 g3
  case astore_n k =>
    simp only [tstep] at ht
    obtain ⟨w, r, rfl, h2, h3, h4, h5⟩ := tst_sp ht
    obtain ⟨v, vs', rfl, g1, g2, g3⟩ := okSt_cons hSt
    obtain ⟨x, rfl⟩ := tisR_sp h2 g1
    simp only [zstep]
    refine zs1_mk rfl h3 ?_
    exact tlc1 KG hS hf0 h5 g1 h4 g3
  case astore k =>
    simp only [tstep] at ht
    obtain ⟨w, r, rfl, h2, h3, h4, h5⟩ := tst_sp ht
    obtain ⟨v, vs', rfl, g1, g2, g3⟩ := okSt_cons hSt
    obtain ⟨x, rfl⟩ := tisR_sp h2 g1
    simp only [zstep]
    refine zs1_mk rfl h3 ?_
    exact tlc1 KG hS hf0 h5 g1 h4 g3
  case lstore_n k =>
    simp only [tstep] at ht
    obtain ⟨w, r, rfl, h2, h3, h4, h6, h5⟩ := tst2_sp ht
    obtain ⟨v, vs', rfl, g1, g2, g3⟩ := okSt_cons hSt
    have g4 := g1
    obtain ⟨x, rfl, -⟩ := tlong_sp h2 g1
    simp only [zstep]
    refine zs2_mk rfl h3 ?_
    exact tlc2 KG hS hf0 h5 g4 h2 h4 h6 g3
  case lstore k =>
    simp only [tstep] at ht
    obtain ⟨w, r, rfl, h2, h3, h4, h6, h5⟩ := tst2_sp ht
    obtain ⟨v, vs', rfl, g1, g2, g3⟩ := okSt_cons hSt
    have g4 := g1
    obtain ⟨x, rfl, -⟩ := tlong_sp h2 g1
    simp only [zstep]
    refine zs2_mk rfl h3 ?_
    exact tlc2 KG hS hf0 h5 g4 h2 h4 h6 g3
  case iinc k n =>
    simp only [tstep] at ht
    split at ht
    · next w hw =>
      obtain ⟨h1, ht⟩ := z_and ht
      obtain ⟨h2, ht⟩ := z_and ht
      obtain ⟨h3, ht⟩ := z_and ht
      obtain ⟨v, g1, g2⟩ := tget_ok hL hw
      obtain ⟨x, rfl, b1⟩ := tint_sp h1 g2
      have g4 : okA T (tadd w (tI (Int32.ofInt n).toInt (Int32.ofInt n).toInt)) (.inl (.int (x + Int32.ofInt n))) := tadd_ok b1 ⟨Int.le_refl _, Int.le_refl _⟩
      simp only [zstep, g1]
      exact t_and2 h2 (tlc1 KG hS hf0 ht g4 (by simpa using h3) hSt)
    · cases ht
  case iadd =>
    simp only [tstep] at ht
    obtain ⟨y0, x0, r, rfl, h1, h2, h3⟩ := tbin_sp ht
    obtain ⟨vy, vs1, rfl, gy, -, g3⟩ := okSt_cons hSt
    obtain ⟨vx, vs2, rfl, gx, -, g5⟩ := okSt_cons g3
    obtain ⟨x, rfl, ha⟩ := tint_sp h1 gx
    obtain ⟨y, rfl, hb⟩ := tint_sp h2 gy
    exact tpu KG hS h3 ⟨⟨tadd_ok ha hb, okTag_plain (tplain_add _ _)⟩, g5⟩
  case isub =>
    simp only [tstep] at ht
    obtain ⟨y0, x0, r, rfl, h1, h2, h3⟩ := tbin_sp ht
    obtain ⟨vy, vs1, rfl, gy, -, g3⟩ := okSt_cons hSt
    obtain ⟨vx, vs2, rfl, gx, -, g5⟩ := okSt_cons g3
    obtain ⟨x, rfl, ha⟩ := tint_sp h1 gx
    obtain ⟨y, rfl, hb⟩ := tint_sp h2 gy
    exact tpu KG hS h3 ⟨⟨tsub_ok ha hb, okTag_plain (tplain_sub _ _)⟩, g5⟩
  case imul =>
    simp only [tstep] at ht
    obtain ⟨y0, x0, r, rfl, h1, h2, h3⟩ := tbin_sp ht
    obtain ⟨vy, vs1, rfl, gy, -, g3⟩ := okSt_cons hSt
    obtain ⟨vx, vs2, rfl, gx, -, g5⟩ := okSt_cons g3
    obtain ⟨x, rfl, ha⟩ := tint_sp h1 gx
    obtain ⟨y, rfl, hb⟩ := tint_sp h2 gy
    exact tpu KG hS h3 ⟨⟨tmul_ok ha hb, okTag_plain (tplain_mul _ _)⟩, g5⟩
  case iand =>
    simp only [tstep] at ht
    obtain ⟨y0, x0, r, rfl, h1, h2, h3⟩ := tbin_sp ht
    obtain ⟨vy, vs1, rfl, gy, -, g3⟩ := okSt_cons hSt
    obtain ⟨vx, vs2, rfl, gx, -, g5⟩ := okSt_cons g3
    obtain ⟨x, rfl, ha⟩ := tint_sp h1 gx
    obtain ⟨y, rfl, hb⟩ := tint_sp h2 gy
    exact tpu KG hS h3 ⟨⟨tand_ok ha hb, okTag_plain (tplain_and _ _)⟩, g5⟩
  case ior =>
    simp only [tstep] at ht
    obtain ⟨y0, x0, r, rfl, h1, h2, h3⟩ := tbin_sp ht
    obtain ⟨vy, vs1, rfl, gy, -, g3⟩ := okSt_cons hSt
    obtain ⟨vx, vs2, rfl, gx, -, g5⟩ := okSt_cons g3
    obtain ⟨x, rfl, ha⟩ := tint_sp h1 gx
    obtain ⟨y, rfl, hb⟩ := tint_sp h2 gy
    exact tpu KG hS h3 ⟨⟨tor_ok ha hb, okTag_plain (tplain_or _ _)⟩, g5⟩
  case ixor =>
    simp only [tstep] at ht
    obtain ⟨y0, x0, r, rfl, h1, h2, h3⟩ := tbin_sp ht
    obtain ⟨vy, vs1, rfl, gy, -, g3⟩ := okSt_cons hSt
    obtain ⟨vx, vs2, rfl, gx, -, g5⟩ := okSt_cons g3
    obtain ⟨x, rfl, ha⟩ := tint_sp h1 gx
    obtain ⟨y, rfl, hb⟩ := tint_sp h2 gy
    exact tpu KG hS h3 ⟨⟨okA_If _, okTag_plain (tplain_f)⟩, g5⟩
  case ishl =>
    simp only [tstep] at ht
    obtain ⟨y0, x0, r, rfl, h1, h2, h3⟩ := tbin_sp ht
    obtain ⟨vy, vs1, rfl, gy, -, g3⟩ := okSt_cons hSt
    obtain ⟨vx, vs2, rfl, gx, -, g5⟩ := okSt_cons g3
    obtain ⟨x, rfl, ha⟩ := tint_sp h1 gx
    obtain ⟨y, rfl, hb⟩ := tint_sp h2 gy
    exact tpu KG hS h3 ⟨⟨tshl_ok ha hb, okTag_plain (tplain_shl _ _)⟩, g5⟩
  case ishr =>
    simp only [tstep] at ht
    obtain ⟨y0, x0, r, rfl, h1, h2, h3⟩ := tbin_sp ht
    obtain ⟨vy, vs1, rfl, gy, -, g3⟩ := okSt_cons hSt
    obtain ⟨vx, vs2, rfl, gx, -, g5⟩ := okSt_cons g3
    obtain ⟨x, rfl, ha⟩ := tint_sp h1 gx
    obtain ⟨y, rfl, hb⟩ := tint_sp h2 gy
    exact tpu KG hS h3 ⟨⟨tshr_ok ha, okTag_plain (tplain_shr _)⟩, g5⟩
  case iushr =>
    simp only [tstep] at ht
    obtain ⟨y0, x0, r, rfl, h1, h2, h3⟩ := tbin_sp ht
    obtain ⟨vy, vs1, rfl, gy, -, g3⟩ := okSt_cons hSt
    obtain ⟨vx, vs2, rfl, gx, -, g5⟩ := okSt_cons g3
    obtain ⟨x, rfl, ha⟩ := tint_sp h1 gx
    obtain ⟨y, rfl, hb⟩ := tint_sp h2 gy
    exact tpu KG hS h3 ⟨⟨okA_If _, okTag_plain (tplain_f)⟩, g5⟩
  case idiv =>
    simp only [tstep] at ht
    split at ht
    · next y0 x0 r =>
      obtain ⟨h1, ht⟩ := z_and ht
      obtain ⟨h2, ht⟩ := z_and ht
      obtain ⟨h3, ht⟩ := z_and ht
      have h3 := of_decide_eq_true h3
      obtain ⟨vy, vs1, rfl, gy, -, g3⟩ := okSt_cons hSt
      obtain ⟨vx, vs2, rfl, gx, -, g5⟩ := okSt_cons g3
      obtain ⟨x, rfl, ha⟩ := tint_sp h1 gx
      obtain ⟨y, rfl, hb⟩ := tint_sp h2 gy
      have hy : (!(y == 0)) = true := by
        have : y ≠ 0 := fun e => by
          subst e
          have h0 : (0 : Int32).toInt = 0 := rfl
          omega
        simpa using this
      exact t_and2 hy (tpu KG hS ht ⟨⟨tdiv_ok ha hb, okTag_plain (tplain_div _ _)⟩, g5⟩)
    · cases ht
  case irem =>
    simp only [tstep] at ht
    split at ht
    · next y0 x0 r =>
      obtain ⟨h1, ht⟩ := z_and ht
      obtain ⟨h2, ht⟩ := z_and ht
      obtain ⟨h3, ht⟩ := z_and ht
      have h3 := of_decide_eq_true h3
      obtain ⟨vy, vs1, rfl, gy, -, g3⟩ := okSt_cons hSt
      obtain ⟨vx, vs2, rfl, gx, -, g5⟩ := okSt_cons g3
      obtain ⟨x, rfl, ha⟩ := tint_sp h1 gx
      obtain ⟨y, rfl, hb⟩ := tint_sp h2 gy
      have hy : (!(y == 0)) = true := by
        have : y ≠ 0 := fun e => by
          subst e
          have h0 : (0 : Int32).toInt = 0 := rfl
          omega
        simpa using this
      exact t_and2 hy (tpu KG hS ht ⟨⟨trem_ok ha hb, okTag_plain (tplain_rem _ _)⟩, g5⟩)
    · cases ht
  case ldiv =>
    simp only [tstep] at ht
    split at ht
    · next y0 x0 r =>
      obtain ⟨h1, ht⟩ := z_and ht
      obtain ⟨h2, ht⟩ := z_and ht
      obtain ⟨h3, ht⟩ := z_and ht
      have h3 := of_decide_eq_true h3
      obtain ⟨vy, vs1, rfl, gy, -, g3⟩ := okSt_cons hSt
      obtain ⟨vx, vs2, rfl, gx, -, g5⟩ := okSt_cons g3
      obtain ⟨x, rfl, ha⟩ := tlong_sp h1 gx
      obtain ⟨y, rfl, hb⟩ := tlong_sp h2 gy
      have hy : (!(y == 0)) = true := by
        have : y ≠ 0 := fun e => by
          subst e
          have h0 : (0 : Int64).toInt = 0 := rfl
          omega
        simpa using this
      exact t_and2 hy (tpu KG hS ht ⟨⟨okA_Lf _, okTag_plain tplain_Lf⟩, g5⟩)
    · cases ht
  case ineg =>
    simp only [tstep] at ht
    obtain ⟨x0, r, rfl, h1, h3⟩ := tun_sp ht
    obtain ⟨vx, vs2, rfl, gx, -, g5⟩ := okSt_cons hSt
    obtain ⟨x, rfl, ha⟩ := tint_sp h1 gx
    exact tpu KG hS h3 ⟨⟨tneg_ok ha, okTag_plain (tplain_c _ _)⟩, g5⟩
  case i2b =>
    simp only [tstep] at ht
    obtain ⟨x0, r, rfl, h1, h3⟩ := tun_sp ht
    obtain ⟨vx, vs2, rfl, gx, -, g5⟩ := okSt_cons hSt
    obtain ⟨x, rfl, ha⟩ := tint_sp h1 gx
    exact tpu KG hS h3 ⟨⟨okA_I ((lg_i2b_range _).1) (by have := (lg_i2b_range x).2; omega), okTag_plain (tplain_I _ _)⟩, g5⟩
  case i2s =>
    simp only [tstep] at ht
    obtain ⟨x0, r, rfl, h1, h3⟩ := tun_sp ht
    obtain ⟨vx, vs2, rfl, gx, -, g5⟩ := okSt_cons hSt
    obtain ⟨x, rfl, ha⟩ := tint_sp h1 gx
    exact tpu KG hS h3 ⟨⟨okA_I ((lg_i2s_range _).1) (by have := (lg_i2s_range x).2; omega), okTag_plain (tplain_I _ _)⟩, g5⟩
  case ladd =>
    simp only [tstep] at ht
    obtain ⟨y0, x0, r, rfl, h1, h2, h3⟩ := tbinL_sp ht
    obtain ⟨vy, vs1, rfl, gy, -, g3⟩ := okSt_cons hSt
    obtain ⟨vx, vs2, rfl, gx, -, g5⟩ := okSt_cons g3
    obtain ⟨x, rfl, ha⟩ := tlong_sp h1 gx
    obtain ⟨y, rfl, hb⟩ := tlong_sp h2 gy
    exact tpu KG hS h3 ⟨⟨okA_Lf _, okTag_plain tplain_Lf⟩, g5⟩
  case lsub =>
    simp only [tstep] at ht
    obtain ⟨y0, x0, r, rfl, h1, h2, h3⟩ := tbinL_sp ht
    obtain ⟨vy, vs1, rfl, gy, -, g3⟩ := okSt_cons hSt
    obtain ⟨vx, vs2, rfl, gx, -, g5⟩ := okSt_cons g3
    obtain ⟨x, rfl, ha⟩ := tlong_sp h1 gx
    obtain ⟨y, rfl, hb⟩ := tlong_sp h2 gy
    exact tpu KG hS h3 ⟨⟨okA_Lf _, okTag_plain tplain_Lf⟩, g5⟩
  case lmul =>
    simp only [tstep] at ht
    obtain ⟨y0, x0, r, rfl, h1, h2, h3⟩ := tbinL_sp ht
    obtain ⟨vy, vs1, rfl, gy, -, g3⟩ := okSt_cons hSt
    obtain ⟨vx, vs2, rfl, gx, -, g5⟩ := okSt_cons g3
    obtain ⟨x, rfl, ha⟩ := tlong_sp h1 gx
    obtain ⟨y, rfl, hb⟩ := tlong_sp h2 gy
    exact tpu KG hS h3 ⟨⟨okA_Lf _, okTag_plain tplain_Lf⟩, g5⟩
  case land =>
    simp only [tstep] at ht
    obtain ⟨y0, x0, r, rfl, h1, h2, h3⟩ := tbinL_sp ht
    obtain ⟨vy, vs1, rfl, gy, -, g3⟩ := okSt_cons hSt
    obtain ⟨vx, vs2, rfl, gx, -, g5⟩ := okSt_cons g3
    obtain ⟨x, rfl, ha⟩ := tlong_sp h1 gx
    obtain ⟨y, rfl, hb⟩ := tlong_sp h2 gy
    exact tpu KG hS h3 ⟨⟨okA_Lf _, okTag_plain tplain_Lf⟩, g5⟩
  case lor =>
    simp only [tstep] at ht
    obtain ⟨y0, x0, r, rfl, h1, h2, h3⟩ := tbinL_sp ht
    obtain ⟨vy, vs1, rfl, gy, -, g3⟩ := okSt_cons hSt
    obtain ⟨vx, vs2, rfl, gx, -, g5⟩ := okSt_cons g3
    obtain ⟨x, rfl, ha⟩ := tlong_sp h1 gx
    obtain ⟨y, rfl, hb⟩ := tlong_sp h2 gy
    exact tpu KG hS h3 ⟨⟨okA_Lf _, okTag_plain tplain_Lf⟩, g5⟩
  case lxor =>
    simp only [tstep] at ht
    obtain ⟨y0, x0, r, rfl, h1, h2, h3⟩ := tbinL_sp ht
    obtain ⟨vy, vs1, rfl, gy, -, g3⟩ := okSt_cons hSt
    obtain ⟨vx, vs2, rfl, gx, -, g5⟩ := okSt_cons g3
    obtain ⟨x, rfl, ha⟩ := tlong_sp h1 gx
    obtain ⟨y, rfl, hb⟩ := tlong_sp h2 gy
    exact tpu KG hS h3 ⟨⟨okA_Lf _, okTag_plain tplain_Lf⟩, g5⟩
  case lshl =>
    simp only [tstep] at ht
    obtain ⟨y0, x0, r, rfl, h1, h2, h3⟩ := tshL_sp ht
    obtain ⟨vy, vs1, rfl, gy, -, g3⟩ := okSt_cons hSt
    obtain ⟨vx, vs2, rfl, gx, -, g5⟩ := okSt_cons g3
    obtain ⟨x, rfl, ha⟩ := tlong_sp h1 gx
    obtain ⟨y, rfl, hb⟩ := tint_sp h2 gy
    exact tpu KG hS h3 ⟨⟨okA_Lf _, okTag_plain tplain_Lf⟩, g5⟩
  case lushr =>
    simp only [tstep] at ht
    obtain ⟨y0, x0, r, rfl, h1, h2, h3⟩ := tshL_sp ht
    obtain ⟨vy, vs1, rfl, gy, -, g3⟩ := okSt_cons hSt
    obtain ⟨vx, vs2, rfl, gx, -, g5⟩ := okSt_cons g3
    obtain ⟨x, rfl, ha⟩ := tlong_sp h1 gx
    obtain ⟨y, rfl, hb⟩ := tint_sp h2 gy
    exact tpu KG hS h3 ⟨⟨okA_Lf _, okTag_plain tplain_Lf⟩, g5⟩
  case i2l =>
    simp only [tstep] at ht
    split at ht
    · next x0 r =>
      obtain ⟨h1, ht⟩ := z_and ht
      obtain ⟨vx, vs2, rfl, gx, gt, g5⟩ := okSt_cons hSt
      obtain ⟨x, rfl, ha⟩ := tint_sp h1 gx
      have h0 : x0.1 = 0 := Nat.eq_of_beq_eq_true h1
      refine tpu KG hS ht ⟨⟨⟨x.toInt64, rfl, ?_, ?_⟩, ⟨fun k hk he => ?_, fun c hc => by cases hc⟩⟩, g5⟩
      · show tlo x0 ≤ x.toInt64.toInt
        rw [Int32.toInt_toInt64]
        exact ha.1
      · show x.toInt64.toInt ≤ thi x0
        rw [Int32.toInt_toInt64]
        exact ha.2
      · obtain ⟨y, h2, h3⟩ := gt.1 k (by omega) he
        refine ⟨y, h2, ?_⟩
        show x.toInt64.toInt = y.toInt
        rw [Int32.toInt_toInt64]
        exact h3
    · cases ht
  case l2i =>
    simp only [tstep] at ht
    split at ht
    · next x0 r =>
      obtain ⟨h1, ht⟩ := z_and ht
      obtain ⟨vx, vs2, rfl, gx, gt, g5⟩ := okSt_cons hSt
      obtain ⟨x, rfl, ha⟩ := tlong_sp h1 gx
      exact tpu KG hS ht ⟨⟨tl2i_ok ha, okTag_plain (tplain_l2i _)⟩, g5⟩
    · cases ht
  case lcmp =>
    simp only [tstep] at ht
    split at ht
    · next y0 x0 r =>
      obtain ⟨h1, ht⟩ := z_and ht
      obtain ⟨h2, ht⟩ := z_and ht
      obtain ⟨vy, vs1, rfl, gy, -, g3⟩ := okSt_cons hSt
      obtain ⟨vx, vs2, rfl, gx, -, g5⟩ := okSt_cons g3
      obtain ⟨x, rfl, ha⟩ := tlong_sp h1 gx
      obtain ⟨y, rfl, hb⟩ := tlong_sp h2 gy
      obtain ⟨z, hz, hz1, hz2⟩ := zcmp_ex x y
      refine t_and2 rfl (t_and2 rfl ?_)
      rw [hz]
      exact tpu KG hS ht ⟨⟨okA_I hz1 hz2, okTag_plain (tplain_I _ _)⟩, g5⟩
    · cases ht
  case dup =>
    simp only [tstep] at ht
    split at ht
    · next x0 r =>
      obtain ⟨h1, ht⟩ := z_and ht
      obtain ⟨vx, vs2, rfl, gx, gt, g5⟩ := okSt_cons hSt
      exact t_and2 (ncat h1 gx) (tpu KG hS ht ⟨⟨gx, gt⟩, ⟨gx, gt⟩, g5⟩)
    · cases ht
  case pop =>
    simp only [tstep] at ht
    split at ht
    · next x0 r =>
      obtain ⟨h1, ht⟩ := z_and ht
      obtain ⟨vx, vs2, rfl, gx, gt, g5⟩ := okSt_cons hSt
      exact t_and2 (ncat h1 gx) (tpu KG hS ht g5)
    · cases ht
  case dup2 =>
    simp only [tstep] at ht
    split at ht
    · next x0 y0 r =>
      obtain ⟨h1, ht⟩ := z_and ht
      obtain ⟨h2, ht⟩ := z_and ht
      obtain ⟨vx, vs1, rfl, gx, tx, g3⟩ := okSt_cons hSt
      obtain ⟨vy, vs2, rfl, gy, ty', g5⟩ := okSt_cons g3
      exact t_and2 (ncat h1 gx) (t_and2 (ncat h2 gy) (tpu KG hS ht ⟨⟨gx, tx⟩, ⟨gy, ty'⟩, ⟨gx, tx⟩, ⟨gy, ty'⟩, g5⟩))
    · cases ht
  case dup_x1 =>
    simp only [tstep] at ht
    split at ht
    · next x0 y0 r =>
      obtain ⟨h1, ht⟩ := z_and ht
      obtain ⟨h2, ht⟩ := z_and ht
      obtain ⟨vx, vs1, rfl, gx, tx, g3⟩ := okSt_cons hSt
      obtain ⟨vy, vs2, rfl, gy, ty', g5⟩ := okSt_cons g3
      exact t_and2 (ncat h1 gx) (t_and2 (ncat h2 gy) (tpu KG hS ht ⟨⟨gx, tx⟩, ⟨gy, ty'⟩, ⟨gx, tx⟩, g5⟩))
    · cases ht
  case ifCond cd off =>
    simp only [tstep] at ht
    split at ht
    · next x0 r =>
      obtain ⟨h1, ht⟩ := z_and ht
      obtain ⟨t, e1, ht⟩ := zof_sp ht
      obtain ⟨h2, h3⟩ := z_and ht
      obtain ⟨vx, vs2, rfl, gx, gt, g5⟩ := okSt_cons hSt
      obtain ⟨x, rfl, ha⟩ := tint_sp h1 gx
      have key : ∀ (cd' : ClassFile.Cond) (pc' : Nat), zop cd' x 0 → tbr cd' aL x0 (tI 0 0) (tknow cd' x0) (fun aL' => K pc' aL' r nc ns) = true → zB (G (pc', L, vs2, h, nc, ns)) = true := fun cd' pc' hc hk => by
        unfold tbr at hk
        obtain ⟨aL1, g6, g7⟩ := tcmp_ok hL gt (okTag_plain (tplain_I 0 0)) h1 rfl ha ⟨Int.le_refl _, Int.le_refl _⟩ hc hk
        have hcs : ∀ c ∈ tknow cd' x0, ∃ y : Int32, zget L c.1 = some (.inl (.int y)) ∧ c.2.1 ≤ y.toInt ∧ y.toInt ≤ c.2.2 := fun c hcc => by
          have hx0 : x ≠ 0 → c ∈ tcnd x0 → ∃ y : Int32, zget L c.1 = some (.inl (.int y)) ∧ c.2.1 ≤ y.toInt ∧ y.toInt ≤ c.2.2 := fun hne hm => gt.2 c hm (fun q => hne (by cases q; rfl))
          have h00 : ¬ (0 : Int32) < 0 := by decide
          cases cd' with
          | ne => exact hx0 hc hcc
          | gt => exact hx0 (fun q => by have hc : (0 : Int32) < x := hc; rw [q] at hc; exact h00 hc) hcc
          | lt => exact hx0 (fun q => by have hc : x < (0 : Int32) := hc; rw [q] at hc; exact h00 hc) hcc
          | eq => cases hcc
          | le => cases hcc
          | ge => cases hcc
        obtain ⟨aL2, g8, g9⟩ := tcutC_ok g6 hcs g7
        exact tlc KG hS g9 g8 g5
      exact t_and2 rfl (zof_mk e1 (zbr_ex (fun hc => key cd t hc h2) (fun hc => key (tneg cd) (pc + 3) (zop_neg hc) h3)))
    · cases ht
  case if_icmp cd off =>
    simp only [tstep] at ht
    split at ht
    · next y0 x0 r =>
      obtain ⟨h1, ht⟩ := z_and ht
      obtain ⟨h1', ht⟩ := z_and ht
      obtain ⟨t, e1, ht⟩ := zof_sp ht
      obtain ⟨h2, h3⟩ := z_and ht
      obtain ⟨vy, vs1, rfl, gy, ty', g3⟩ := okSt_cons hSt
      obtain ⟨vx, vs2, rfl, gx, tx, g5⟩ := okSt_cons g3
      obtain ⟨x, rfl, ha⟩ := tint_sp h1 gx
      obtain ⟨y, rfl, hb⟩ := tint_sp h1' gy
      have key : ∀ (cd' : ClassFile.Cond) (pc' : Nat), zop cd' x y → tbr cd' aL x0 y0 [] (fun aL' => K pc' aL' r nc ns) = true → zB (G (pc', L, vs2, h, nc, ns)) = true := fun cd' pc' hc hk => by
        unfold tbr at hk
        obtain ⟨aL1, g6, g7⟩ := tcmp_ok hL tx ty' h1 h1' ha hb hc hk
        exact tlc KG hS g7 g6 g5
      exact t_and2 rfl (t_and2 rfl (zof_mk e1 (zbr_ex (fun hc => key cd t hc h2) (fun hc => key (tneg cd) (pc + 3) (zop_neg hc) h3))))
    · cases ht
  case goto off =>
    simp only [tstep] at ht
    obtain ⟨t, e1, ht⟩ := zof_sp ht
    exact zof_mk e1 (tpu KG hS ht hSt)
  case ldc ix =>
    simp only [tstep] at ht
    split at ht
    · exact tpu KG hS ht ⟨tI_ok _, hSt⟩
    · exact tpu KG hS ht ⟨⟨rfl, okTag_none (Or.inr (by show 2 ≤ 4; omega)) rfl⟩, hSt⟩
    · cases ht
  case ldc_w ix =>
    simp only [tstep] at ht
    split at ht
    · exact tpu KG hS ht ⟨tI_ok _, hSt⟩
    · cases ht
  case ldc2_w ix =>
    simp only [tstep] at ht
    split at ht
    · exact tpu KG hS ht ⟨tJ_ok _, hSt⟩
    · cases ht
  case getstatic ix =>
    exact tpu KG hS ht ⟨⟨rfl, okTag_none (Or.inr (by show 2 ≤ 4; omega)) rfl⟩, hSt⟩
  case tableswitch df lo hi offs =>
    simp only [tstep] at ht
    split at ht
    · next x0 r =>
      obtain ⟨h1, ht⟩ := z_and ht
      obtain ⟨h2, ht⟩ := z_and ht
      obtain ⟨h3, h4⟩ := z_and ht
      have h2 := of_decide_eq_true h2
      obtain ⟨vx, vs2, rfl, gx, gt, g5⟩ := okSt_cons hSt
      obtain ⟨x, rfl, ha⟩ := tint_sp h1 gx
      have hzl : zlo (.inl (.int x)) = x.toInt := rfl
      have hzh : zhi (.inl (.int x)) = x.toInt := rfl
      simp only [zstep]
      refine t_and2 rfl ?_
      by_cases ho : x.toInt < lo ∨ hi < x.toInt
      · have ho' : zhi (.inl (.int x)) < lo ∨ hi < zlo (.inl (.int x)) := ho
        rw [if_pos ho']
        rw [if_pos (by omega)] at h3
        obtain ⟨t, e1, h3⟩ := zof_sp h3
        refine zof_mk e1 ?_
        exact tpu KG hS h3 g5
      · have ho' : ¬ (zhi (.inl (.int x)) < lo ∨ hi < zlo (.inl (.int x))) := ho
        rw [if_neg ho']
        have n1 : ¬ x.toInt < lo := fun q => ho (Or.inl q)
        have n2 : ¬ hi < x.toInt := fun q => ho (Or.inr q)
        refine t_and2 (by simpa using n1) (t_and2 (by simpa using n2) ?_)
        have hlt : (x.toInt - lo).toNat < offs.size := by omega
        have hof : offs[(x.toInt - lo).toNat]? = some offs[(x.toInt - lo).toNat] := Array.getElem?_eq_getElem hlt
        rw [hof]
        have hof2 : offs.toList[(x.toInt - lo).toNat]? = some offs[(x.toInt - lo).toNat] := by
          rw [Array.getElem?_toList]
          exact hof
        obtain ⟨t, e1, aL', g6, g7⟩ := tsw_ok hL gt h1 ha offs.toList 0 h4 _ _ hof2 (by omega)
        refine zof_mk e1 ?_
        exact tlc KG hS g7 g6 g5
    · cases ht
  case getfield ix =>
    simp only [tstep] at ht
    split at ht
    · next x0 r =>
      obtain ⟨h1, ht⟩ := z_and ht
      obtain ⟨h2, ht⟩ := z_and ht
      obtain ⟨h3, ht⟩ := z_and ht
      have h2 := Nat.eq_of_beq_eq_true h2
      have h3 := z_blt h3
      obtain ⟨vx, vs2, rfl, gx, gt, g5⟩ := okSt_cons hSt
      obtain ⟨q, rfl, hq⟩ := tref_sp h1 gx
      obtain ⟨fs, k1, k2, k3⟩ := hOk.2.2 q _ hq
      rw [h2] at k1
      have hb : b < fs.length := by omega
      have hv := List.getElem?_eq_getElem hb
      obtain ⟨w, g6, g7, g8⟩ := tslot_sp ht (k3 _ _ hv)
      simp only [zstep]
      refine zrow_mk k1 (hq6 _ _ hq) ?_
      rw [hv]
      exact tpu KG hS g6 ⟨⟨g7, g8 L⟩, g5⟩
    · cases ht
  case putfield ix =>
    simp only [tstep] at ht
    split at ht
    · next v0 x0 r =>
      obtain ⟨h1, ht⟩ := z_and ht
      obtain ⟨h2, ht⟩ := z_and ht
      obtain ⟨h3, ht⟩ := z_and ht
      obtain ⟨h4, ht⟩ := z_and ht
      have h2 := Nat.eq_of_beq_eq_true h2
      have h3 := z_blt h3
      obtain ⟨vv, vs1, rfl, gv, -, g3⟩ := okSt_cons hSt
      obtain ⟨vx, vs2, rfl, gx, gt, g5⟩ := okSt_cons g3
      obtain ⟨q, rfl, hq⟩ := tref_sp h1 gx
      obtain ⟨fs, k1, k2, k3⟩ := hOk.2.2 q _ hq
      obtain ⟨f1, f2, f3⟩ := tfits_sp h4 gv
      have hb : b < fs.length := by omega
      have k1' := k1
      rw [h2] at k1'
      have := twr KG hS hst ht g5 hq k1 (List.length_set) (tset_w f1) (tset_s f2 k3)
      rw [h2] at this
      simp only [zstep]
      refine zrow_mk k1' (hq6 _ _ hq) ?_
      exact t_and2 (t_blt hb) (t_and2 f3 this)
    · cases ht
  case newarray aty =>
    cases aty <;> try (exact absurd ht Bool.false_ne_true)
    case boolean =>
      simp only [tstep] at ht
      split at ht
      · next n0 r =>
        obtain ⟨h1, ht⟩ := z_and ht
        obtain ⟨h2, ht⟩ := z_and ht
        obtain ⟨h3, ht⟩ := z_and ht
        obtain ⟨h4, ht⟩ := z_and ht
        obtain ⟨h5, ht⟩ := z_and ht
        have h2 := of_decide_eq_true h2
        have h3 := of_decide_eq_true h3
        have h4' := z_ble h4
        obtain ⟨vn, vs1, rfl, gn, -, g3⟩ := okSt_cons hSt
        obtain ⟨n, rfl, bn⟩ := tint_sp h1 gn
        obtain ⟨s1, s2, s3, s4, s5, s6, s7, s8⟩ := hst
        have en : n.toInt = ((ty tB).2.1 : Int) := by omega
        have en2 : n.toNatClampNeg = (ty tB).2.1 := by
          show n.toInt.toNat = _
          omega
        have hn0 : ¬ n < 0 := fun q => by
          have := Int32.lt_iff_toInt_lt.mp q
          have h0 : (0 : Int32).toInt = 0 := rfl
          omega
        show (if n < 0 then false else _) = true
        rw [if_neg hn0, en2]
        refine t_and2 (t_ble s8) (t_and2 h4 (t_and2 h5 (t_and2 (t_blt (by omega)) ?_)))
        have hsz : h.length = T.length := hOk.1
        have hok2 : hOK ty (T ++ [tB]) (h ++ [(15, List.replicate (ty tB).2.1 (.inl (.int 0)))]) := by
          rw [← s4]
          refine hOK_app hOk (by omega) (by simp) (fun i v hv => ?_)
          have e := List.eq_of_mem_replicate (List.mem_of_getElem? hv)
          rw [e, s3 tB i (by omega)]
          unfold okS
          rw [s5]
          exact ⟨0, rfl, s6, s7⟩
        refine zB_iff.mpr (KG (T ++ [tB]) _ _ _ _ _ _ rfl ht ⟨okL_mono (tExt_app T _) hL, ⟨⟨⟨h.length, rfl, ?_⟩, okTag_none (Or.inr (by show 2 ≤ 2; omega)) rfl⟩, okSt_mono (tExt_app T _) g3⟩, hok2, s2 T h hOk hS.2.2.2.1, ?_, rfl, rfl, hS.2.2.2.2.2.2.2.1, tExt_tr hS.2.2.2.2.2.2.2.2.1 (tExt_app T _), h4'⟩)
        · rw [hsz, List.getElem?_append_right (Nat.le_refl _), Nat.sub_self]
          rfl
        · show (h ++ _).length ≤ N0 + (nc + 1)
          rw [List.length_append]
          show h.length + 1 ≤ _
          omega
      · cases ht
  case iaload =>
    simp only [tstep] at ht
    split at ht
    · next i0 x0 r =>
      obtain ⟨vi, vs1, rfl, gi, -, g3⟩ := okSt_cons hSt
      obtain ⟨vx, vs2, rfl, gx, -, g5⟩ := okSt_cons g3
      split at ht
      · next h4 =>
        have h4 : x0.1 = 4 := Nat.eq_of_beq_eq_true h4
        obtain ⟨h1, ht⟩ := z_and ht
        obtain ⟨h2, ht⟩ := z_and ht
        obtain ⟨h3, ht⟩ := z_and ht
        obtain ⟨h5, ht⟩ := z_and ht
        have h3 := of_decide_eq_true h3
        have h5 := of_decide_eq_true h5
        have h1 : x0.2.2.2.1 = 10000001 := Nat.eq_of_beq_eq_true h1
        unfold okA at gx
        rw [h4, h1] at gx
        have gx : vx = .inl (.ref 10000001) := gx
        subst gx
        obtain ⟨i, rfl, bi⟩ := tint_sp h2 gi
        have hz : ∀ k, k < 6 → ∃ y : Int32, zund[k]? = some (.inl (.int y)) ∧ -1 ≤ y.toInt ∧ y.toInt ≤ 4 := by
          intro k hk
          match k, hk with
          | 0, _ => exact ⟨-1, rfl, by decide, by decide⟩
          | 1, _ => exact ⟨0, rfl, by decide, by decide⟩
          | 2, _ => exact ⟨0, rfl, by decide, by decide⟩
          | 3, _ => exact ⟨1, rfl, by decide, by decide⟩
          | 4, _ => exact ⟨0, rfl, by decide, by decide⟩
          | 5, _ => exact ⟨4, rfl, by decide, by decide⟩
        obtain ⟨y, y1, y2, y3⟩ := hz i.toInt.toNat (by omega)
        simp only [zstep]
        (try rw [if_neg (by decide)])
        (try rw [if_pos rfl])
        refine zel_mk (by omega) y1 ?_
        exact tpu KG hS ht ⟨⟨okA_I y2 y3, okTag_plain (tplain_I _ _)⟩, g5⟩
      · obtain ⟨q, i, vs, v, rfl, rfl, e1, e2, e3, e4, e5, e6, e7, e8, ht⟩ := tidx_sp hOk ht gx gi
        obtain ⟨w, g6, g7, g8⟩ := tslot_sp ht (by have := e8 _ _ e7; rw [hst.2.2.1 _ _ (by omega)] at this; exact this)
        obtain ⟨g9, g6⟩ := z_and g6
        show (if q = 10000000 then _ else if q = 10000001 then _ else zrow h q 10 _) = true
        rw [if_neg (by omega), if_neg (by omega)]
        refine zrow_mk e3 e4 ?_
        refine zel_mk e5 e7 ?_
        exact tpu KG hS g6 ⟨⟨g7, g8 L⟩, g5⟩
    · cases ht
  case laload =>
    simp only [tstep] at ht
    split at ht
    · next i0 x0 r =>
      obtain ⟨vi, vs1, rfl, gi, -, g3⟩ := okSt_cons hSt
      obtain ⟨vx, vs2, rfl, gx, -, g5⟩ := okSt_cons g3
      obtain ⟨q, i, vs, v, rfl, rfl, e1, e2, e3, e4, e5, e6, e7, e8, ht⟩ := tidx_sp hOk ht gx gi
      obtain ⟨w, g6, g7, g8⟩ := tslot_sp ht (by have := e8 _ _ e7; rw [hst.2.2.1 _ _ (by omega)] at this; exact this)
      obtain ⟨g9, g6⟩ := z_and g6
      simp only [zstep]
      refine zrow_mk e3 e4 ?_
      refine zel_mk e5 e7 ?_
      exact tpu KG hS g6 ⟨⟨g7, g8 L⟩, g5⟩
    · cases ht
  case baload =>
    simp only [tstep] at ht
    split at ht
    · next i0 x0 r =>
      obtain ⟨vi, vs1, rfl, gi, -, g3⟩ := okSt_cons hSt
      obtain ⟨vx, vs2, rfl, gx, -, g5⟩ := okSt_cons g3
      obtain ⟨q, i, vs, v, rfl, rfl, e1, e2, e3, e4, e5, e6, e7, e8, ht⟩ := tidx_sp hOk ht gx gi
      obtain ⟨w, g6, g7, g8⟩ := tslot_sp ht (by have := e8 _ _ e7; rw [hst.2.2.1 _ _ (by omega)] at this; exact this)
      obtain ⟨g9, g6⟩ := z_and g6
      simp only [zstep]
      refine zrow_mk e3 e4 ?_
      refine zel_mk e5 e7 ?_
      exact tpu KG hS g6 ⟨⟨g7, g8 L⟩, g5⟩
    · cases ht
  case aaload =>
    simp only [tstep] at ht
    split at ht
    · next i0 x0 r =>
      obtain ⟨h0, ht⟩ := z_and ht
      obtain ⟨h01, h02⟩ := z_and h0
      have h01' := z_ble h01
      obtain ⟨vi, vs1, rfl, gi, -, g3⟩ := okSt_cons hSt
      obtain ⟨vx, vs2, rfl, gx, -, g5⟩ := okSt_cons g3
      obtain ⟨q, i, vs, v, rfl, rfl, e1, e2, e3, e4, e5, e6, e7, e8, ht⟩ := tidx_sp hOk ht gx gi
      obtain ⟨w, g6, g7, g8⟩ := tslot_sp ht (by have := e8 _ _ e7; rw [hst.2.2.1 _ _ (by omega)] at this; exact this)
      obtain ⟨g9, g6⟩ := z_and g6
      show (match h[q]? with
        | some x => Nat.blt q 1000000 && (Nat.ble 12 x.1 && (Nat.ble x.1 14 && zel x.2 i _))
        | none => false) = true
      rw [e3]
      refine t_and2 (t_blt e4) (t_and2 h01 (t_and2 h02 ?_))
      refine zel_mk e5 e7 ?_
      exact tpu KG hS g6 ⟨⟨g7, g8 L⟩, g5⟩
    · cases ht
  case iastore =>
    simp only [tstep] at ht
    split at ht
    · next v0 i0 x0 r =>
      obtain ⟨vv, vs0, rfl, gv, -, g2⟩ := okSt_cons hSt
      obtain ⟨vi, vs1, rfl, gi, -, g3⟩ := okSt_cons g2
      obtain ⟨vx, vs2, rfl, gx, -, g5⟩ := okSt_cons g3
      obtain ⟨q, i, vs, v, rfl, rfl, e1, e2, e3, e4, e5, e6, e7, e8, ht⟩ := tidx_sp hOk ht gx gi
      obtain ⟨h1, ht⟩ := z_and ht
      obtain ⟨h2, ht⟩ := z_and ht
      have hu := hst.2.2.1 (taux x0) i.toInt.toNat (by omega)
      rw [← hu] at h1
      obtain ⟨f1, f2, f3⟩ := tfits_sp h1 gv
      have e3' := e3
      rw [← e2] at e3'
      have := twr KG hS hst ht g5 e1 e3' (List.length_set) (tset_w f1) (tset_s f2 e8)
      rw [e2] at this
      obtain ⟨x, rfl, -⟩ := tint_sp h2 gv
      simp only [zstep]
      refine t_and2 rfl ?_
      refine zrow_mk e3 e4 ?_
      exact t_and2 (zix_mk e5 e6) this
    · cases ht
  case lastore =>
    simp only [tstep] at ht
    split at ht
    · next v0 i0 x0 r =>
      obtain ⟨vv, vs0, rfl, gv, -, g2⟩ := okSt_cons hSt
      obtain ⟨vi, vs1, rfl, gi, -, g3⟩ := okSt_cons g2
      obtain ⟨vx, vs2, rfl, gx, -, g5⟩ := okSt_cons g3
      obtain ⟨q, i, vs, v, rfl, rfl, e1, e2, e3, e4, e5, e6, e7, e8, ht⟩ := tidx_sp hOk ht gx gi
      obtain ⟨h1, ht⟩ := z_and ht
      obtain ⟨h2, ht⟩ := z_and ht
      have hu := hst.2.2.1 (taux x0) i.toInt.toNat (by omega)
      rw [← hu] at h1
      obtain ⟨f1, f2, f3⟩ := tfits_sp h1 gv
      have e3' := e3
      rw [← e2] at e3'
      have := twr KG hS hst ht g5 e1 e3' (List.length_set) (tset_w f1) (tset_s f2 e8)
      rw [e2] at this
      obtain ⟨x, rfl, -⟩ := tlong_sp h2 gv
      simp only [zstep]
      refine t_and2 rfl ?_
      refine zrow_mk e3 e4 ?_
      exact t_and2 (zix_mk e5 e6) this
    · cases ht
  case bastore =>
    simp only [tstep] at ht
    split at ht
    · next v0 i0 x0 r =>
      obtain ⟨vv, vs0, rfl, gv, -, g2⟩ := okSt_cons hSt
      obtain ⟨vi, vs1, rfl, gi, -, g3⟩ := okSt_cons g2
      obtain ⟨vx, vs2, rfl, gx, -, g5⟩ := okSt_cons g3
      obtain ⟨q, i, vs, v, rfl, rfl, e1, e2, e3, e4, e5, e6, e7, e8, ht⟩ := tidx_sp hOk ht gx gi
      obtain ⟨h1, ht⟩ := z_and ht
      obtain ⟨h2, ht⟩ := z_and ht
      obtain ⟨h3, ht⟩ := z_and ht
      obtain ⟨h4, ht⟩ := z_and ht
      obtain ⟨h5, ht⟩ := z_and ht
      have h2 := Nat.eq_of_beq_eq_true h2
      have h3 := of_decide_eq_true h3
      have h4 := of_decide_eq_true h4
      have hu := hst.2.2.1 (taux x0) i.toInt.toNat (by omega)
      obtain ⟨x, rfl, -⟩ := tint_sp h5 gv
      have hx : 0 ≤ (x &&& 1).toInt ∧ (x &&& 1).toInt ≤ 1 := by
        have h := t_and (x := 1) (y := x) (by decide)
        rw [t_andC] at h
        exact h
      have f2 : okS T ((ty (taux x0)).2.2 i.toInt.toNat) (.inl (.int (x &&& 1))) := by
        rw [hu]
        unfold okS
        rw [h2]
        exact ⟨_, rfl, by omega, by omega⟩
      have e3' := e3
      rw [← e2] at e3'
      have := twr KG hS hst ht g5 e1 e3' (List.length_set) (tset_w (by rw [hu]; exact h1)) (tset_s f2 e8)
      rw [e2] at this
      simp only [zstep]
      refine zrow_mk e3 e4 ?_
      exact t_and2 (zix_mk e5 e6) this
    · cases ht
  case arraylength =>
    simp only [tstep] at ht
    split at ht
    · next x0 r =>
      obtain ⟨h1, ht⟩ := z_and ht
      obtain ⟨h2, ht⟩ := z_and ht
      obtain ⟨h3, ht⟩ := z_and ht
      have h3 := z_ble h3
      obtain ⟨vx, vs2, rfl, gx, gt, g5⟩ := okSt_cons hSt
      obtain ⟨q, rfl, hq⟩ := tref_sp h1 gx
      obtain ⟨fs, k1, k2, k3⟩ := hOk.2.2 q _ hq
      have hq7 := hq6 _ _ hq
      show (if q = 10000000 then _ else _) = true
      rw [if_neg (by omega), k1]
      refine t_and2 (t_blt hq7) (t_and2 h2 (tpu KG hS ht ⟨⟨?_, okTag_plain (tplain_I _ _)⟩, g5⟩))
      have e : (Int32.ofNat fs.length).toInt = ((ty (taux x0)).2.1 : Int) := by
        have := nI_toInt (n := fs.length) (by omega)
        rw [k2] at this ⊢
        exact this
      show okA T _ (.inl (.int (Int32.ofNat fs.length)))
      exact okA_I (by omega) (by omega)
    · cases ht
  case invokevirtual ix =>
    simp only [tstep] at ht
    split at ht
    · split at ht
      · next E hE =>
        obtain ⟨h1, ht⟩ := z_and ht
        have h1' := z_ble h1
        split at ht
        · next x0 r hdr =>
          obtain ⟨h2, ht⟩ := z_and ht
          obtain ⟨h3, ht⟩ := z_and ht
          have h3 := Nat.eq_of_beq_eq_true h3
          have hd := okSt_drop (zEp E) hSt
          rw [hdr] at hd
          obtain ⟨vx, vs2, hdv, gx, gt, g5⟩ := okSt_cons hd
          obtain ⟨q, rfl, hq⟩ := tref_sp h2 gx
          obtain ⟨fs, k1, k2, k3⟩ := hOk.2.2 q _ hq
          rw [h3] at k1
          obtain ⟨c1, c2, c3, c4⟩ := tcall_ok KG hS hN hsm hE ht (vs := .inl (.ref q) :: (stk.take (zEp E)).reverse) (restS := vs2) ⟨⟨gx, gt⟩, okSt_rev (okSt_take _ hSt)⟩ g5
          have hl := okSt_len hSt
          simp only [zstep, zcalv, hE, hdv]
          refine t_and2 (t_ble (by omega)) (t_and2 (t_ble c1) (t_and2 (t_ble c2) ?_))
          refine zrow_mk k1 (hq6 _ _ hq) ?_
          exact t_and2 (t_ble c3) c4
        · cases ht
      · cases ht
    · cases ht
  case invokestatic ix =>
    simp only [tstep] at ht
    split at ht
    · split at ht
      · next n0 dp0 r1 sp0 r0 =>
        obtain ⟨h1, ht⟩ := z_and ht
        obtain ⟨h2, ht⟩ := z_and ht
        obtain ⟨h3, ht⟩ := z_and ht
        obtain ⟨h4, ht⟩ := z_and ht
        obtain ⟨h5, ht⟩ := z_and ht
        obtain ⟨h6, ht⟩ := z_and ht
        obtain ⟨h7, ht⟩ := z_and ht
        obtain ⟨h8, ht⟩ := z_and ht
        obtain ⟨h9, ht⟩ := z_and ht
        obtain ⟨h10, ht⟩ := z_and ht
        obtain ⟨h11, ht⟩ := z_and ht
        obtain ⟨h12, ht⟩ := z_and ht
        obtain ⟨h13, ht⟩ := z_and ht
        have h6 := Nat.eq_of_beq_eq_true h6
        have h7 := Nat.eq_of_beq_eq_true h7
        have h8 := of_decide_eq_true h8
        have h9 := of_decide_eq_true h9
        have h10 := of_decide_eq_true h10
        have h11 := of_decide_eq_true h11
        have h12 := of_decide_eq_true h12
        obtain ⟨v1, s1, rfl, g1, -, k1⟩ := okSt_cons hSt
        obtain ⟨v2, s2, rfl, g2, -, k2⟩ := okSt_cons k1
        obtain ⟨v3, s3, rfl, g3, -, k3⟩ := okSt_cons k2
        obtain ⟨v4, s4, rfl, g4, -, k4⟩ := okSt_cons k3
        obtain ⟨v5, s5, rfl, g5, -, k5⟩ := okSt_cons k4
        have e5 := okSt_nil k5
        subst e5
        obtain ⟨n, rfl, bn⟩ := tint_sp h1 g1
        obtain ⟨dp, rfl, bd⟩ := tint_sp h2 g2
        obtain ⟨sp, rfl, bs⟩ := tint_sp h3 g4
        obtain ⟨q1, rfl, hq1⟩ := tref_sp h4 g3
        obtain ⟨q0, rfl, hq0⟩ := tref_sp h5 g5
        obtain ⟨f, f1, f2, f3⟩ := hOk.2.2 q0 _ hq0
        obtain ⟨g, p1, p2, p3⟩ := hOk.2.2 q1 _ hq1
        have nz : ∀ z : Int32, 0 ≤ z.toInt → ¬ z < 0 := fun z hz q => by
          have := Int32.lt_iff_toInt_lt.mp q
          have h0 : (0 : Int32).toInt = 0 := rfl
          omega
        have m1 : n.toNatClampNeg = n.toInt.toNat := rfl
        have m2 : dp.toNatClampNeg = dp.toInt.toNat := rfl
        have m3 : sp.toNatClampNeg = sp.toInt.toNat := rfl
        have l1 : sp.toNatClampNeg + n.toNatClampNeg ≤ f.length := by rw [m1, m3]; omega
        have l2 : dp.toNatClampNeg + n.toNatClampNeg ≤ g.length := by rw [m1, m2]; omega
        have u0 := fun i => hst.2.2.1 (taux r0) i (by omega)
        have u1 := fun i => hst.2.2.1 (taux r1) i (by omega)
        have hwr : ((ty (taux r1)).2.2 0).2.2.2.2 = true := by
          unfold tslot at h13
          split at h13
          · exact (z_and h13).1
          · exact (z_and h13).1
          · exact (z_and h13).1
          · cases h13
        have := twr KG hS hst ht (stk' := []) trivial hq1 p1 (vs' := zcpy f g sp.toNatClampNeg dp.toNatClampNeg n.toNatClampNeg) (zcpy_len l1 l2) (fun i hi => by rw [u1 i, hwr] at hi; cases hi) (fun i v hv => by
          obtain ⟨c1, c2⟩ := zcpy_get l1 l2 hv
          by_cases hj : dp.toNatClampNeg ≤ i ∧ i < dp.toNatClampNeg + n.toNatClampNeg
          · have q1 := f3 _ _ (c1 hj)
            rw [u0] at q1
            obtain ⟨w, w1, w2, -⟩ := tslot_sp h13 q1
            rw [u1]
            exact (tfits_sp w1 w2).2.1
          · exact p3 _ _ (c2 hj))
        rw [h7] at this p1
        rw [h6] at f1
        simp only [zstep]
        rw [if_neg (nz n (by omega)), if_neg (nz dp (by omega)), if_neg (nz sp (by omega))]
        refine zrow_mk f1 (hq6 _ _ hq0) ?_
        refine zrow_mk p1 (hq6 _ _ hq1) ?_
        exact t_and2 (t_ble l1) (t_and2 (t_ble l2) this)
      · cases ht
    · split at ht
      · next y0 x0 r =>
        obtain ⟨h1, ht⟩ := z_and ht
        obtain ⟨h2, ht⟩ := z_and ht
        obtain ⟨h3, ht⟩ := z_and ht
        obtain ⟨vy, vs1, rfl, gy, -, g3⟩ := okSt_cons hSt
        obtain ⟨vx, vs2, rfl, gx, -, g5⟩ := okSt_cons g3
        obtain ⟨x, rfl, ha⟩ := tint_sp h1 gx
        obtain ⟨y, rfl, hb⟩ := tint_sp h2 gy
        have := tpu KG hS ht (stk' := .inl (.int (if y < x then y else x)) :: vs2) ⟨⟨tmin_ok ha hb, okTag_plain (tplain_I _ _)⟩, g5⟩
        simp only [zstep]
        exact t_and2 (by rw [okSt_sum g5]; exact h3) this
      · cases ht
    · split at ht
      · next y0 x0 r =>
        obtain ⟨h1, ht⟩ := z_and ht
        obtain ⟨h2, ht⟩ := z_and ht
        obtain ⟨h3, ht⟩ := z_and ht
        obtain ⟨vy, vs1, rfl, gy, -, g3⟩ := okSt_cons hSt
        obtain ⟨vx, vs2, rfl, gx, -, g5⟩ := okSt_cons g3
        obtain ⟨x, rfl, ha⟩ := tint_sp h1 gx
        obtain ⟨y, rfl, hb⟩ := tint_sp h2 gy
        have := tpu KG hS ht (stk' := .inl (.int (if x < y then y else x)) :: vs2) ⟨⟨tmax_ok ha hb, okTag_plain (tplain_I _ _)⟩, g5⟩
        simp only [zstep]
        exact t_and2 (by rw [okSt_sum g5]; exact h3) this
      · cases ht
    · cases ht
    · next n7 n9 n10 n12 =>
      split at ht
      · next E hE =>
        obtain ⟨h1, ht⟩ := z_and ht
        have h1' := z_ble h1
        have hl := okSt_len hSt
        obtain ⟨c1, c2, c3, c4⟩ := tcall_ok KG hS hN hsm hE ht (okSt_rev (okSt_take (zEp E) hSt)) (okSt_drop (zEp E) hSt)
        have key : zcall prog cc a stk h nc ns rc rs (fun st' h' nc' ns' => zB (G (pc + 3, L, st', h', nc', ns'))) = true := by
          simp only [zcall, hE]
          exact t_and2 (t_ble (by omega)) (t_and2 (t_ble c1) (t_and2 (t_ble c2) (t_and2 (t_ble c3) c4)))
        simp only [zstep]
        exact key
      · cases ht
end
end
section
def tinit : Nat → List tA → tL
  | _, [] => []
  | i, a :: as => (i, (a.1, a.2.1, a.2.2.1, (if a.1 ≤ 1 then 0 else a.2.2.2.1), [])) :: tinit (if a.1 = 1 then i + 2 else i + 1) as
theorem tinit_ok {T : List Nat} : ∀ (i : Nat) {as : List tA} {vs : List zV}, okAs T as vs → ∀ p ∈ tinit i as, i ≤ p.1 ∧ ∃ v : zV, zget (zarg i vs) p.1 = some v ∧ okA T p.2 v
  | _, [], [], _, p, hp => by cases hp
  | i, a :: as, v :: vs, h, p, hp => by
    rcases List.mem_cons.mp hp with rfl | hp
    · exact ⟨Nat.le_refl _, v, zget_cons_eq, okA_norm h.1⟩
    · have e : (if zcat v = 2 then i + 2 else i + 1) = (if a.1 = 1 then i + 2 else i + 1) := by
        rw [okA_cat h.1]
        unfold tcat
        by_cases q : a.1 = 1
        · rw [if_pos q, if_pos q, if_pos rfl]
        · rw [if_neg q, if_neg q, if_neg (by decide)]
      obtain ⟨h1, w, h2, h3⟩ := tinit_ok (if a.1 = 1 then i + 2 else i + 1) h.2 p hp
      have h4 : i + 1 ≤ (if a.1 = 1 then i + 2 else i + 1) := by split <;> omega
      refine ⟨by omega, w, ?_, h3⟩
      show zget ((i, v) :: zarg (if zcat v = 2 then i + 2 else i + 1) vs) p.1 = some w
      rw [zget_cons_ne (by omega), e]
      exact h2
  | _, [], _ :: _, h, _, _ => h.elim
  | _, _ :: _, [], h, _, _ => h.elim
theorem okAs_sum {T : List Nat} : ∀ {l : List tA} {vs : List zV}, okAs T l vs → zsum vs = tsum l
  | [], [], _ => rfl
  | _ :: _, _ :: _, h => by
    simp only [zsum, tsum]
    rw [okA_cat h.1, okAs_sum h.2]
  | [], _ :: _, h => h.elim
  | _ :: _, [], h => h.elim
/-- the arguments that conditions speak of: ints, each at its own place -/
def tfxok (as : List tA) (fx : List Nat) : Bool := as.all (fun a => !(tlong a)) && fx.all (fun k => match as[k]? with
  | some a => tint a
  | none => false)
theorem zarg_get : ∀ (i : Nat) {vs : List zV} (k : Nat) {v : zV}, (∀ w ∈ vs, zcat w ≠ 2) → vs[k]? = some v → zget (zarg i vs) (i + k) = some v
  | _, [], _, _, _, h => by simp at h
  | i, w :: vs, 0, v, _, h => by
    simp only [List.getElem?_cons_zero, Option.some.injEq] at h
    subst h
    exact zget_cons_eq
  | i, w :: vs, k + 1, v, hc, h => by
    simp only [List.getElem?_cons_succ] at h
    show zget ((i, w) :: zarg (if zcat w = 2 then i + 2 else i + 1) vs) (i + (k + 1)) = some v
    rw [zget_cons_ne (by omega), if_neg (hc w List.mem_cons_self), show i + (k + 1) = i + 1 + k by omega]
    exact zarg_get (i + 1) k (fun u hu => hc u (List.mem_cons_of_mem _ hu)) h
theorem tfx_ok {T : List Nat} {as : List tA} {vs : List zV} {fx : List Nat} (h : tfxok as fx = true) (hv : okAs T as vs) : ∀ k ∈ fx, ∃ x : Int32, zget (zarg 0 vs) k = some (.inl (.int x)) ∧ vs[k]? = some (.inl (.int x)) := by
  obtain ⟨h1, h2⟩ := z_and h
  have hc : ∀ (l : List tA) (us : List zV), okAs T l us → (∀ a ∈ l, (!(tlong a)) = true) → ∀ w ∈ us, zcat w ≠ 2 := by
    intro l
    induction l with
    | nil =>
      intro us hus _ w hw
      cases us with
      | nil => cases hw
      | cons _ _ => exact hus.elim
    | cons a l ih =>
      intro us hus hl w hw
      cases us with
      | nil => cases hw
      | cons u us =>
        rcases List.mem_cons.mp hw with rfl | hw
        · have := ncat (hl a List.mem_cons_self) hus.1
          have := Nat.eq_of_beq_eq_true this
          omega
        · exact ih us hus.2 (fun b hb => hl b (List.mem_cons_of_mem _ hb)) w hw
  intro k hk
  have h3 := List.all_eq_true.mp h2 k hk
  split at h3
  · next a ha =>
    obtain ⟨v, g1, g2⟩ := okAs_get k hv ha
    obtain ⟨x, rfl, -⟩ := tint_sp h3 g2
    have := zarg_get 0 k (hc as vs hv (fun a ha => List.all_eq_true.mp h1 a ha)) g1
    rw [Nat.zero_add] at this
    exact ⟨x, this, g1⟩
  · cases h3
section
variable {ty : Nat → tTy} {tB : Nat} {prog : Nat → Option zE} {sm : Nat → List tE} {hts : Nat → Nat} {fx : List Nat} {D0 N0 : Nat} {scr : List zV} {cc : zK} {Φ : List Nat → zH → Prop} {G : zS → Prop} {vs : List zV} {T0 : List Nat} {E : zE} {e : tE} {post : Option zV → zH → Bool}
theorem tone_sound (HW : zWalk prog E scr (zEc E) (zEs E) cc post G) (hp : ∀ (r : Option zV) (T' : List Nat) (h' : zH), tExt T0 T' → hOK ty T' h' → Φ T' h' → h'.length ≤ N0 + zEc E → tRes T' vs e r → post r h' = true) (hfx : ∀ k ∈ fx, ∃ x : Int32, zget (zarg 0 vs) k = some (.inl (.int x)) ∧ vs[k]? = some (.inl (.int x))) (hN : N0 + zEc E ≤ 1000000) (hst : tStab ty tB Φ) (hsm : ∀ (j : Nat) (E : zE) (e : tE), prog j = some E → e ∈ sm j → hts j ≤ D0 → tCon ty Φ E cc j e) {K : tK}
    (KG : ∀ (T : List Nat) (pc : Nat) (aL : tL) (st : List tA) (nc ns : Nat) (x : zS), x.1 = pc → K pc aL st nc ns = true → tSt ty Φ fx (zarg 0 vs) N0 (zEc E) T0 T aL st nc ns x → G x) {T : List Nat} {pc : Nat} {aL : tL} {st : List tA} {nc ns : Nat} {x : zS} (hx : x.1 = pc)
    (ht : tone ty tB prog sm hts fx D0 E e K pc aL st nc ns = true) (hS : tSt ty Φ fx (zarg 0 vs) N0 (zEc E) T0 T aL st nc ns x) : G x := by
  obtain ⟨xpc, L, stk, h, xnc, xns⟩ := x
  have hx : xpc = pc := hx
  subst hx
  have e1 : xnc = nc := hS.2.2.2.2.2.1
  have e2 : xns = ns := hS.2.2.2.2.2.2.1
  subst e1
  subst e2
  unfold tone at ht
  split at ht
  · next i hi =>
    refine HW _ i hi ?_
    unfold zS1
    by_cases hr : zisRet i.1 = true
    · rw [if_pos hr] at ht ⊢
      show zret E.2.2.2.1 i.1 stk h post = true
      have hlen : h.length ≤ N0 + zEc E := by
        have : h.length ≤ N0 + xnc := hS.2.2.2.2.1
        have h9 : xnc ≤ zEc E := hS.2.2.2.2.2.2.2.2.2
        omega
      have fin : ∀ r : Option zV, tRes T vs e r → post r h = true := fun r hr => hp r T h hS.2.2.2.2.2.2.2.2.1 hS.2.2.1 hS.2.2.2.1 hlen hr
      unfold tret at ht
      split at ht
      · next a he =>
        obtain ⟨v, vs1, est, g1, g2, g3⟩ := okSt_cons hS.2.1
        have est : stk = v :: vs1 := est
        have e5 := okSt_nil g3
        subst e5
        subst est
        obtain ⟨h0, ht⟩ := z_and ht
        obtain ⟨h1, ht⟩ := z_and ht
        obtain ⟨h2, ht⟩ := z_and ht
        obtain ⟨h3, ht⟩ := z_and ht
        obtain ⟨y, rfl, hy⟩ := tint_sp h1 g1
        have hpost := fin (some (.inl (.int y))) (by
          unfold tRes
          rw [Nat.eq_of_beq_eq_true h2]
          refine ⟨_, rfl, tle_ok h3 g1, fun c hc hv => ?_⟩
          obtain ⟨h4, h5⟩ := z_and (List.all_eq_true.mp ht c hc)
          have hm := List.contains_iff_mem.mp h4
          obtain ⟨u, u1, u2⟩ := hfx _ hm
          have u3 : zget L c.1 = zget (zarg 0 vs) c.1 := hS.2.2.2.2.2.2.2.1 _ hm
          rw [u1] at u3
          refine ⟨_, u2, ?_⟩
          show c.2.1 ≤ u.toInt ∧ u.toInt ≤ c.2.2
          unfold tretc at h5
          rcases (Bool.or_eq_true _ _).mp h5 with h6 | h6
          · obtain ⟨h6, h7⟩ := z_and h6
            have h6 := of_decide_eq_true h6
            have h7 := of_decide_eq_true h7
            have : y = 0 := Int32.toInt_inj.mp (by show y.toInt = 0; omega)
            rw [this] at hv
            exact absurd rfl hv
          · rcases (Bool.or_eq_true _ _).mp h6 with h6 | h6
            · split at h6
              · next w hw =>
                obtain ⟨h6, h7⟩ := z_and h6
                obtain ⟨h7, h8⟩ := z_and h7
                have h7 := of_decide_eq_true h7
                have h8 := of_decide_eq_true h8
                obtain ⟨vv, w1, w2⟩ := tget_ok hS.1 hw
                have w1 : zget L c.1 = some vv := w1
                rw [u3] at w1
                cases w1
                obtain ⟨z, hz, hz2⟩ := tint_sp h6 w2
                cases hz
                omega
              · cases h6
            · obtain ⟨k, hk, hk2⟩ := List.any_eq_true.mp h6
              obtain ⟨h7, h8⟩ := z_and hk2
              obtain ⟨h8, h9⟩ := z_and h8
              have h8 := of_decide_eq_true h8
              have h9 := of_decide_eq_true h9
              obtain ⟨z, hz1, hz2⟩ := g2.2 k hk hv
              have hz1 : zget L k.1 = some (.inl (.int z)) := hz1
              rw [Nat.eq_of_beq_eq_true h7, u3] at hz1
              cases hz1
              omega)
        rw [he]
        unfold zret
        split at h0
        · next hret =>
          simp only [hret]
          exact t_and2 rfl hpost
        · next hret =>
          obtain ⟨h6, h7⟩ := z_and h0
          have h6 := of_decide_eq_true h6
          have h7 := of_decide_eq_true h7
          simp only [hret]
          refine t_and2 ?_ hpost
          show (y == 0 || y == 1) = true
          have h8 : y.toInt = 0 ∨ y.toInt = 1 := by omega
          rcases h8 with h8 | h8
          · have : y = 0 := Int32.toInt_inj.mp h8
            rw [this]
            rfl
          · have : y = 1 := Int32.toInt_inj.mp h8
            rw [this]
            rfl
        · cases h0
      · next a he =>
        obtain ⟨v, vs1, est, g1, g2, g3⟩ := okSt_cons hS.2.1
        have est : stk = v :: vs1 := est
        have e5 := okSt_nil g3
        subst e5
        subst est
        obtain ⟨h0, ht⟩ := z_and ht
        obtain ⟨h1, ht⟩ := z_and ht
        obtain ⟨h2, ht⟩ := z_and ht
        obtain ⟨h3, ht⟩ := z_and ht
        obtain ⟨y, rfl, hy⟩ := tlong_sp h1 g1
        have hpost := fin (some (.inl (.long y))) (by
          unfold tRes
          rw [Nat.eq_of_beq_eq_true h2]
          refine ⟨_, rfl, tle_ok h3 g1, fun c hc hv => ?_⟩
          rw [List.isEmpty_iff.mp ht] at hc
          cases hc)
        rw [he]
        exact t_and2 h0 (t_and2 rfl hpost)
      · next he =>
        have est : stk = [] := okSt_nil hS.2.1
        subst est
        obtain ⟨h0, ht⟩ := z_and ht
        have hpost := fin none (by
          unfold tRes
          rw [Nat.eq_of_beq_eq_true ht]
          show (none : Option zV) = none
          rfl)
        rw [he]
        exact t_and2 h0 hpost
      · cases ht
    · rw [if_neg hr] at ht ⊢
      exact tstep_sound (K := K) KG hS (fun k hk => by obtain ⟨u, u1, -⟩ := hfx k hk; exact ⟨u, u1⟩) hN hst hsm ht
  · cases ht
theorem trun_sound (HW : zWalk prog E scr (zEc E) (zEs E) cc post G) (hp : ∀ (r : Option zV) (T' : List Nat) (h' : zH), tExt T0 T' → hOK ty T' h' → Φ T' h' → h'.length ≤ N0 + zEc E → tRes T' vs e r → post r h' = true) (hfx : ∀ k ∈ fx, ∃ x : Int32, zget (zarg 0 vs) k = some (.inl (.int x)) ∧ vs[k]? = some (.inl (.int x))) (hN : N0 + zEc E ≤ 1000000) (hst : tStab ty tB Φ) (hsm : ∀ (j : Nat) (E : zE) (e : tE), prog j = some E → e ∈ sm j → hts j ≤ D0 → tCon ty Φ E cc j e) {fin : tK}
    (hfin : ∀ (T : List Nat) (pc : Nat) (aL : tL) (st : List tA) (nc ns : Nat) (x : zS), x.1 = pc → fin pc aL st nc ns = true → tSt ty Φ fx (zarg 0 vs) N0 (zEc E) T0 T aL st nc ns x → G x) :
    ∀ (n : Nat) (T : List Nat) (pc : Nat) (aL : tL) (st : List tA) (nc ns : Nat) (x : zS), x.1 = pc → trun ty tB prog sm hts fx D0 E e fin n pc aL st nc ns = true → tSt ty Φ fx (zarg 0 vs) N0 (zEc E) T0 T aL st nc ns x → G x := by
  intro n
  induction n with
  | zero =>
    intro T pc aL st nc ns x hx ht _
    exact absurd ht Bool.false_ne_true
  | succ n ih =>
    intro T pc aL st nc ns x hx ht hS
    have ht : (if fin pc aL st nc ns then true else tone ty tB prog sm hts fx D0 E e (trun ty tB prog sm hts fx D0 E e fin n) pc aL st nc ns) = true := ht
    by_cases hf : fin pc aL st nc ns = true
    · exact hfin T pc aL st nc ns x hx hf hS
    · rw [if_neg hf] at ht
      exact tone_sound HW hp hfx hN hst hsm ih hx ht hS
theorem tmt_ok {rest : List tCut} (IH : ∀ c ∈ rest, ∀ (T : List Nat) (x : zS), x.1 = c.1 → tSt ty Φ fx (zarg 0 vs) N0 (zEc E) T0 T c.2.1 [] c.2.2.1 c.2.2.2 x → G x) {T : List Nat} {pc nc ns : Nat} {aL aL' : tL} {x : zS} (hx : x.1 = pc) (hm : tmt rest pc nc ns aL' = true) (hL : okL T aL' x.2.1) (hS : tSt ty Φ fx (zarg 0 vs) N0 (zEc E) T0 T aL [] nc ns x) : G x := by
  obtain ⟨c, hc, h1⟩ := List.any_eq_true.mp hm
  obtain ⟨k2, r2⟩ := z_and h1
  obtain ⟨k3, r3⟩ := z_and r2
  obtain ⟨k4, r4⟩ := z_and r3
  have e2 := Nat.eq_of_beq_eq_true k2
  have e3 := Nat.eq_of_beq_eq_true k3
  have e4 := Nat.eq_of_beq_eq_true k4
  refine IH c hc T x (by rw [hx, e2]) ?_
  rw [← e3, ← e4]
  exact ⟨tleL_ok r4 hL, hS.2⟩
theorem tfin_ok {heads : List Nat} {sp : Nat → Option (Nat × Int × Int)} {rest : List tCut} (IH : ∀ c ∈ rest, ∀ (T : List Nat) (x : zS), x.1 = c.1 → tSt ty Φ fx (zarg 0 vs) N0 (zEc E) T0 T c.2.1 [] c.2.2.1 c.2.2.2 x → G x) (T : List Nat) (pc : Nat) (aL : tL) (st : List tA) (nc ns : Nat) (x : zS) (hx : x.1 = pc) (hf : tfin heads sp rest pc aL st nc ns = true) (hS : tSt ty Φ fx (zarg 0 vs) N0 (zEc E) T0 T aL st nc ns x) : G x := by
  unfold tfin at hf
  obtain ⟨-, hf1⟩ := z_and hf
  obtain ⟨hem, hf2⟩ := z_and hf1
  obtain rfl : st = [] := List.isEmpty_iff.mp hem
  clear hf hf1 hem
  have hf := hf2
  clear hf2
  split at hf
  · next q hq =>
    split at hf
    · next v hv =>
      obtain ⟨h2, hf⟩ := z_and hf
      obtain ⟨h3, hf⟩ := z_and hf
      obtain ⟨h4, hf⟩ := z_and hf
      obtain ⟨w, g1, g2⟩ := tget_ok hS.1 hv
      obtain ⟨u, rfl, b1, b2⟩ := tint_sp h2 g2
      by_cases c1 : u.toInt ≤ q.2.1 - 1
      · obtain ⟨aL', k1, k2⟩ := tcutO_ok hS.1 g1 ⟨t_lo u, c1⟩ h3
        exact tmt_ok IH hx k2 k1 hS
      · by_cases c2 : q.2.2 + 1 ≤ u.toInt
        · obtain ⟨aL', k1, k2⟩ := tcutO_ok hS.1 g1 ⟨c2, t_hi u⟩ h4
          exact tmt_ok IH hx k2 k1 hS
        · have hmem : (u.toInt - max (tlo v) q.2.1).toNat ∈ List.range (min (thi v) q.2.2 - max (tlo v) q.2.1 + 1).toNat := List.mem_range.mpr (by omega)
          have h5 := List.all_eq_true.mp hf _ hmem
          have e : max (tlo v) q.2.1 + (((u.toInt - max (tlo v) q.2.1).toNat : Nat) : Int) = u.toInt := by omega
          rw [e] at h5
          obtain ⟨aL', k1, k2⟩ := tcutO_ok hS.1 g1 ⟨Int.le_refl _, Int.le_refl _⟩ h5
          exact tmt_ok IH hx k2 k1 hS
    · cases hf
  · exact tmt_ok IH hx hf hS.1 hS
theorem tchk_sound (HW : zWalk prog E scr (zEc E) (zEs E) cc post G) (hp : ∀ (r : Option zV) (T' : List Nat) (h' : zH), tExt T0 T' → hOK ty T' h' → Φ T' h' → h'.length ≤ N0 + zEc E → tRes T' vs e r → post r h' = true) (hfx : ∀ k ∈ fx, ∃ x : Int32, zget (zarg 0 vs) k = some (.inl (.int x)) ∧ vs[k]? = some (.inl (.int x))) (hN : N0 + zEc E ≤ 1000000) (hst : tStab ty tB Φ) (hsm : ∀ (j : Nat) (E : zE) (e : tE), prog j = some E → e ∈ sm j → hts j ≤ D0 → tCon ty Φ E cc j e) {heads : List Nat} {sp : Nat → Option (Nat × Int × Int)} {fuel : Nat} :
    ∀ (cuts : List tCut), tchk ty tB prog sm hts fx D0 E e heads sp fuel cuts = true → ∀ c ∈ cuts, ∀ (T : List Nat) (x : zS), x.1 = c.1 → tSt ty Φ fx (zarg 0 vs) N0 (zEc E) T0 T c.2.1 [] c.2.2.1 c.2.2.2 x → G x
  | [], _, c, hc => by cases hc
  | d :: rest, hk, c, hc => by
    obtain ⟨h1, h2⟩ := z_and hk
    have ih := tchk_sound HW hp hfx hN hst hsm rest h2
    rcases List.mem_cons.mp hc with rfl | hc
    · intro T x hx hS
      exact tone_sound HW hp hfx hN hst hsm (trun_sound HW hp hfx hN hst hsm (tfin_ok ih) fuel) hx h1 hS
    · exact ih c hc
end
/-- what all callers of a method may take for granted, at every depth from hts j on -/
def tAll (ty : Nat → tTy) (Φ : List Nat → zH → Prop) (prog : Nat → Option zE) (scr : List zV) (hts : Nat → Nat) (j : Nat) (e : tE) : Prop := ∀ (E : zE), prog j = some E → ∀ d, hts j ≤ d → tCon ty Φ E (zD prog scr d) j e
def tM (ty : Nat → tTy) (Φ : List Nat → zH → Prop) (prog : Nat → Option zE) (scr : List zV) (hts : Nat → Nat) (sm : Nat → List tE) (j : Nat) (e : tE) : Prop := (∀ (j' : Nat) (e' : tE), e' ∈ sm j' → hts j' < hts j → tAll ty Φ prog scr hts j' e') → tAll ty Φ prog scr hts j e
/-- a method whose rows the checker takes -/
theorem t_meth {ty : Nat → tTy} {tB : Nat} {prog : Nat → Option zE} {sm : Nat → List tE} {hts : Nat → Nat} {scr : List zV} {Φ : List Nat → zH → Prop} {j D0 fuel : Nat} {E : zE} {e : tE} {fx heads : List Nat} {sp : Nat → Option (Nat × Int × Int)} {cuts : List tCut} (hst : tStab ty tB Φ) (hE : prog j = some E) (hD : hts j = D0 + 1) (hs : Nat.ble (tsum e.1) (zEm E) = true) (hf : tfxok e.1 fx = true)
    (hk : tchk ty tB prog sm hts fx D0 E e heads sp fuel ((0, tinit 0 e.1, 0, 0) :: cuts) = true) : tM ty Φ prog scr hts sm j e := by
  intro IH E' hE' d hd T h vs post hok hΦ hlen hvs hp
  rw [hE] at hE'
  cases hE'
  obtain ⟨d, rfl⟩ : ∃ d', d = d' + 1 := ⟨d - 1, by omega⟩
  refine zD_intro hE (by rw [okAs_sum hvs]; exact hs) (fun G HW => ?_)
  refine tchk_sound (N0 := h.length) (T0 := T) HW hp (tfx_ok hf hvs) hlen hst (fun j' E' e' h1 h2 h3 => IH j' e' h2 (by omega) E' h1 d (by omega)) _ hk _ List.mem_cons_self T _ rfl ⟨fun p hq => (tinit_ok 0 hvs p hq).2, trivial, hok, hΦ, Nat.le_refl _, rfl, rfl, fun k _ => rfl, tExt_rf T, Nat.zero_le _⟩
end
