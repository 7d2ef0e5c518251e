section
-- ===== PART A: goes FIRST, ahead of the names: the tables' words, and 'selects' of the private methods out of them =====
/-- a private method of a class that the tables say can be made, by its rows of tables_1 -/
def lw_okq (q : MethodName × Nat) : Prop := (q.1.cls ≠ "java/lang/invoke/MethodHandle" ∧ q.1.cls ≠ "java/lang/invoke/VarHandle") ∧ Cond.instantiable q.1.cls q.2 ∈ tables_1 ∧ Cond.privateMethod q.1 ∈ tables_1 ∧ Cond.instanceMethod q.1 ∈ tables_1
theorem lw_p0 : lw_okq (⟨"BitumenNeedle$Part", "isSlotFull", "()Z"⟩, 5) := ⟨⟨by decide +kernel, by decide +kernel⟩, List.mem_of_getElem? (i := 206) (by decide +kernel), List.mem_of_getElem? (i := 297) (by decide +kernel), List.mem_of_getElem? (i := 298) (by decide +kernel)⟩
theorem lw_p1 : lw_okq (⟨"BitumenNeedle$Part", "slotKind", "()I"⟩, 5) := ⟨⟨by decide +kernel, by decide +kernel⟩, List.mem_of_getElem? (i := 206) (by decide +kernel), List.mem_of_getElem? (i := 301) (by decide +kernel), List.mem_of_getElem? (i := 302) (by decide +kernel)⟩
theorem lw_p2 : lw_okq (⟨"BitumenNeedle$Part", "fillSlot", "(C)Z"⟩, 5) := ⟨⟨by decide +kernel, by decide +kernel⟩, List.mem_of_getElem? (i := 206) (by decide +kernel), List.mem_of_getElem? (i := 361) (by decide +kernel), List.mem_of_getElem? (i := 362) (by decide +kernel)⟩
theorem lw_p3 : lw_okq (⟨"BitumenNeedle$Part", "fillWithSign", "(II)Z"⟩, 5) := ⟨⟨by decide +kernel, by decide +kernel⟩, List.mem_of_getElem? (i := 206) (by decide +kernel), List.mem_of_getElem? (i := 365) (by decide +kernel), List.mem_of_getElem? (i := 366) (by decide +kernel)⟩
theorem lw_p4 : lw_okq (⟨"BitumenNeedle", "mixedWithSample", "(JI)J"⟩, 3) := ⟨⟨by decide +kernel, by decide +kernel⟩, List.mem_of_getElem? (i := 25) (by decide +kernel), List.mem_of_getElem? (i := 509) (by decide +kernel), List.mem_of_getElem? (i := 510) (by decide +kernel)⟩
theorem lw_p5 : lw_okq (⟨"BitumenNeedle", "mixedWithTools", "(J)J"⟩, 3) := ⟨⟨by decide +kernel, by decide +kernel⟩, List.mem_of_getElem? (i := 25) (by decide +kernel), List.mem_of_getElem? (i := 554) (by decide +kernel), List.mem_of_getElem? (i := 555) (by decide +kernel)⟩
theorem lw_p6 : lw_okq (⟨"java/lang/Throwable", "fillInStackTrace", "(I)Ljava/lang/Throwable;"⟩, 6) := ⟨⟨by decide +kernel, by decide +kernel⟩, List.mem_of_getElem? (i := 628) (by decide +kernel), List.mem_of_getElem? (i := 626) (by decide +kernel), List.mem_of_getElem? (i := 627) (by decide +kernel)⟩
theorem lw_p7 : lw_okq (⟨"BitumenNeedle$History", "dropOldest", "()V"⟩, 4) := ⟨⟨by decide +kernel, by decide +kernel⟩, List.mem_of_getElem? (i := 176) (by decide +kernel), List.mem_of_getElem? (i := 696) (by decide +kernel), List.mem_of_getElem? (i := 697) (by decide +kernel)⟩
theorem lw_p8 : lw_okq (⟨"BitumenNeedle", "doPart", "(LBitumenNeedle$Part;)I"⟩, 3) := ⟨⟨by decide +kernel, by decide +kernel⟩, List.mem_of_getElem? (i := 25) (by decide +kernel), List.mem_of_getElem? (i := 901) (by decide +kernel), List.mem_of_getElem? (i := 902) (by decide +kernel)⟩
theorem lw_p9 : lw_okq (⟨"BitumenNeedle", "whyNotDone", "(III)I"⟩, 3) := ⟨⟨by decide +kernel, by decide +kernel⟩, List.mem_of_getElem? (i := 25) (by decide +kernel), List.mem_of_getElem? (i := 905) (by decide +kernel), List.mem_of_getElem? (i := 906) (by decide +kernel)⟩
theorem lw_p10 : lw_okq (⟨"BitumenNeedleModel", "holds", "(I)Z"⟩, 10) := ⟨⟨by decide +kernel, by decide +kernel⟩, List.mem_of_getElem? (i := 1023) (by decide +kernel), List.mem_of_getElem? (i := 1071) (by decide +kernel), List.mem_of_getElem? (i := 1072) (by decide +kernel)⟩
theorem lw_p11 : lw_okq (⟨"BitumenNeedleModel", "save", "()V"⟩, 10) := ⟨⟨by decide +kernel, by decide +kernel⟩, List.mem_of_getElem? (i := 1023) (by decide +kernel), List.mem_of_getElem? (i := 1075) (by decide +kernel), List.mem_of_getElem? (i := 1076) (by decide +kernel)⟩
theorem lw_p12 : lw_okq (⟨"BitumenNeedleModel", "copies", "(II)V"⟩, 10) := ⟨⟨by decide +kernel, by decide +kernel⟩, List.mem_of_getElem? (i := 1023) (by decide +kernel), List.mem_of_getElem? (i := 1079) (by decide +kernel), List.mem_of_getElem? (i := 1080) (by decide +kernel)⟩
theorem lw_p13 : lw_okq (⟨"BitumenNeedleModel", "drumAt", "(II)I"⟩, 10) := ⟨⟨by decide +kernel, by decide +kernel⟩, List.mem_of_getElem? (i := 1023) (by decide +kernel), List.mem_of_getElem? (i := 1087) (by decide +kernel), List.mem_of_getElem? (i := 1088) (by decide +kernel)⟩
theorem lw_p14 : lw_okq (⟨"BitumenNeedleModel", "isDrum", "(I)Z"⟩, 10) := ⟨⟨by decide +kernel, by decide +kernel⟩, List.mem_of_getElem? (i := 1023) (by decide +kernel), List.mem_of_getElem? (i := 1095) (by decide +kernel), List.mem_of_getElem? (i := 1096) (by decide +kernel)⟩
theorem lw_p15 : lw_okq (⟨"BitumenNeedleModel", "takes", "(I)I"⟩, 10) := ⟨⟨by decide +kernel, by decide +kernel⟩, List.mem_of_getElem? (i := 1023) (by decide +kernel), List.mem_of_getElem? (i := 1099) (by decide +kernel), List.mem_of_getElem? (i := 1100) (by decide +kernel)⟩
def lw_privs_1 : List (MethodName × Nat) := [(⟨"BitumenNeedle$Part", "isSlotFull", "()Z"⟩, 5), (⟨"BitumenNeedle$Part", "slotKind", "()I"⟩, 5), (⟨"BitumenNeedle$Part", "fillSlot", "(C)Z"⟩, 5), (⟨"BitumenNeedle$Part", "fillWithSign", "(II)Z"⟩, 5), (⟨"BitumenNeedle", "mixedWithSample", "(JI)J"⟩, 3), (⟨"BitumenNeedle", "mixedWithTools", "(J)J"⟩, 3), (⟨"java/lang/Throwable", "fillInStackTrace", "(I)Ljava/lang/Throwable;"⟩, 6), (⟨"BitumenNeedle$History", "dropOldest", "()V"⟩, 4), (⟨"BitumenNeedle", "doPart", "(LBitumenNeedle$Part;)I"⟩, 3), (⟨"BitumenNeedle", "whyNotDone", "(III)I"⟩, 3), (⟨"BitumenNeedleModel", "holds", "(I)Z"⟩, 10), (⟨"BitumenNeedleModel", "save", "()V"⟩, 10), (⟨"BitumenNeedleModel", "copies", "(II)V"⟩, 10), (⟨"BitumenNeedleModel", "drumAt", "(II)I"⟩, 10), (⟨"BitumenNeedleModel", "isDrum", "(I)Z"⟩, 10), (⟨"BitumenNeedleModel", "takes", "(I)I"⟩, 10)]
theorem lw_r1 : ∀ q ∈ lw_privs_1, lw_okq q := List.forall_mem_cons.mpr ⟨lw_p0, List.forall_mem_cons.mpr ⟨lw_p1, List.forall_mem_cons.mpr ⟨lw_p2, List.forall_mem_cons.mpr ⟨lw_p3, List.forall_mem_cons.mpr ⟨lw_p4, List.forall_mem_cons.mpr ⟨lw_p5, List.forall_mem_cons.mpr ⟨lw_p6, List.forall_mem_cons.mpr ⟨lw_p7, List.forall_mem_cons.mpr ⟨lw_p8, List.forall_mem_cons.mpr ⟨lw_p9, List.forall_mem_cons.mpr ⟨lw_p10, List.forall_mem_cons.mpr ⟨lw_p11, List.forall_mem_cons.mpr ⟨lw_p12, List.forall_mem_cons.mpr ⟨lw_p13, List.forall_mem_cons.mpr ⟨lw_p14, List.forall_mem_cons.mpr ⟨lw_p15, fun _ h => absurd h List.not_mem_nil⟩⟩⟩⟩⟩⟩⟩⟩⟩⟩⟩⟩⟩⟩⟩⟩
theorem lw_p16 : lw_okq (⟨"BitumenNeedleModel", "lay", "(III)V"⟩, 10) := ⟨⟨by decide +kernel, by decide +kernel⟩, List.mem_of_getElem? (i := 1023) (by decide +kernel), List.mem_of_getElem? (i := 1103) (by decide +kernel), List.mem_of_getElem? (i := 1104) (by decide +kernel)⟩
theorem lw_p17 : lw_okq (⟨"BitumenNeedleModel", "hardness", "(I)I"⟩, 10) := ⟨⟨by decide +kernel, by decide +kernel⟩, List.mem_of_getElem? (i := 1023) (by decide +kernel), List.mem_of_getElem? (i := 1107) (by decide +kernel), List.mem_of_getElem? (i := 1108) (by decide +kernel)⟩
theorem lw_p18 : lw_okq (⟨"BitumenNeedleModel", "isSample", "(I)Z"⟩, 10) := ⟨⟨by decide +kernel, by decide +kernel⟩, List.mem_of_getElem? (i := 1023) (by decide +kernel), List.mem_of_getElem? (i := 1115) (by decide +kernel), List.mem_of_getElem? (i := 1116) (by decide +kernel)⟩
theorem lw_p19 : lw_okq (⟨"BitumenNeedleModel", "of", "(II)I"⟩, 10) := ⟨⟨by decide +kernel, by decide +kernel⟩, List.mem_of_getElem? (i := 1023) (by decide +kernel), List.mem_of_getElem? (i := 1119) (by decide +kernel), List.mem_of_getElem? (i := 1120) (by decide +kernel)⟩
theorem lw_p20 : lw_okq (⟨"BitumenNeedleModel", "hasRoom", "(II)Z"⟩, 10) := ⟨⟨by decide +kernel, by decide +kernel⟩, List.mem_of_getElem? (i := 1023) (by decide +kernel), List.mem_of_getElem? (i := 1130) (by decide +kernel), List.mem_of_getElem? (i := 1131) (by decide +kernel)⟩
theorem lw_p21 : lw_okq (⟨"BitumenNeedleModel", "inBath", "(I)I"⟩, 10) := ⟨⟨by decide +kernel, by decide +kernel⟩, List.mem_of_getElem? (i := 1023) (by decide +kernel), List.mem_of_getElem? (i := 1134) (by decide +kernel), List.mem_of_getElem? (i := 1135) (by decide +kernel)⟩
theorem lw_p22 : lw_okq (⟨"BitumenNeedleModel", "changed", "(II)I"⟩, 10) := ⟨⟨by decide +kernel, by decide +kernel⟩, List.mem_of_getElem? (i := 1023) (by decide +kernel), List.mem_of_getElem? (i := 1138) (by decide +kernel), List.mem_of_getElem? (i := 1139) (by decide +kernel)⟩
theorem lw_p23 : lw_okq (⟨"BitumenNeedleModel", "passes", "(I)I"⟩, 10) := ⟨⟨by decide +kernel, by decide +kernel⟩, List.mem_of_getElem? (i := 1023) (by decide +kernel), List.mem_of_getElem? (i := 1150) (by decide +kernel), List.mem_of_getElem? (i := 1151) (by decide +kernel)⟩
theorem lw_p24 : lw_okq (⟨"BitumenNeedleModel", "whyNot", "(II)I"⟩, 10) := ⟨⟨by decide +kernel, by decide +kernel⟩, List.mem_of_getElem? (i := 1023) (by decide +kernel), List.mem_of_getElem? (i := 1164) (by decide +kernel), List.mem_of_getElem? (i := 1165) (by decide +kernel)⟩
theorem lw_p25 : lw_okq (⟨"BitumenNeedleModel", "needleAt", "(II)I"⟩, 10) := ⟨⟨by decide +kernel, by decide +kernel⟩, List.mem_of_getElem? (i := 1023) (by decide +kernel), List.mem_of_getElem? (i := 1168) (by decide +kernel), List.mem_of_getElem? (i := 1169) (by decide +kernel)⟩
theorem lw_p26 : lw_okq (⟨"BitumenNeedleModel", "sinks", "(IIII)I"⟩, 10) := ⟨⟨by decide +kernel, by decide +kernel⟩, List.mem_of_getElem? (i := 1023) (by decide +kernel), List.mem_of_getElem? (i := 1175) (by decide +kernel), List.mem_of_getElem? (i := 1176) (by decide +kernel)⟩
theorem lw_p27 : lw_okq (⟨"BitumenNeedleModel", "depth", "(IIII)I"⟩, 10) := ⟨⟨by decide +kernel, by decide +kernel⟩, List.mem_of_getElem? (i := 1023) (by decide +kernel), List.mem_of_getElem? (i := 1179) (by decide +kernel), List.mem_of_getElem? (i := 1180) (by decide +kernel)⟩
theorem lw_p28 : lw_okq (⟨"BitumenNeedleModel", "rings", "(I)I"⟩, 10) := ⟨⟨by decide +kernel, by decide +kernel⟩, List.mem_of_getElem? (i := 1023) (by decide +kernel), List.mem_of_getElem? (i := 1191) (by decide +kernel), List.mem_of_getElem? (i := 1192) (by decide +kernel)⟩
theorem lw_p29 : lw_okq (⟨"BitumenNeedleModel", "whyNotSold", "(I)I"⟩, 10) := ⟨⟨by decide +kernel, by decide +kernel⟩, List.mem_of_getElem? (i := 1023) (by decide +kernel), List.mem_of_getElem? (i := 1199) (by decide +kernel), List.mem_of_getElem? (i := 1200) (by decide +kernel)⟩
theorem lw_p30 : lw_okq (⟨"BitumenNeedleModel", "penetration", "(I)I"⟩, 10) := ⟨⟨by decide +kernel, by decide +kernel⟩, List.mem_of_getElem? (i := 1023) (by decide +kernel), List.mem_of_getElem? (i := 1203) (by decide +kernel), List.mem_of_getElem? (i := 1204) (by decide +kernel)⟩
theorem lw_p31 : lw_okq (⟨"BitumenNeedleModel", "whyNone", "(I)I"⟩, 10) := ⟨⟨by decide +kernel, by decide +kernel⟩, List.mem_of_getElem? (i := 1023) (by decide +kernel), List.mem_of_getElem? (i := 1207) (by decide +kernel), List.mem_of_getElem? (i := 1208) (by decide +kernel)⟩
def lw_privs_2 : List (MethodName × Nat) := [(⟨"BitumenNeedleModel", "lay", "(III)V"⟩, 10), (⟨"BitumenNeedleModel", "hardness", "(I)I"⟩, 10), (⟨"BitumenNeedleModel", "isSample", "(I)Z"⟩, 10), (⟨"BitumenNeedleModel", "of", "(II)I"⟩, 10), (⟨"BitumenNeedleModel", "hasRoom", "(II)Z"⟩, 10), (⟨"BitumenNeedleModel", "inBath", "(I)I"⟩, 10), (⟨"BitumenNeedleModel", "changed", "(II)I"⟩, 10), (⟨"BitumenNeedleModel", "passes", "(I)I"⟩, 10), (⟨"BitumenNeedleModel", "whyNot", "(II)I"⟩, 10), (⟨"BitumenNeedleModel", "needleAt", "(II)I"⟩, 10), (⟨"BitumenNeedleModel", "sinks", "(IIII)I"⟩, 10), (⟨"BitumenNeedleModel", "depth", "(IIII)I"⟩, 10), (⟨"BitumenNeedleModel", "rings", "(I)I"⟩, 10), (⟨"BitumenNeedleModel", "whyNotSold", "(I)I"⟩, 10), (⟨"BitumenNeedleModel", "penetration", "(I)I"⟩, 10), (⟨"BitumenNeedleModel", "whyNone", "(I)I"⟩, 10)]
theorem lw_r2 : ∀ q ∈ lw_privs_2, lw_okq q := List.forall_mem_cons.mpr ⟨lw_p16, List.forall_mem_cons.mpr ⟨lw_p17, List.forall_mem_cons.mpr ⟨lw_p18, List.forall_mem_cons.mpr ⟨lw_p19, List.forall_mem_cons.mpr ⟨lw_p20, List.forall_mem_cons.mpr ⟨lw_p21, List.forall_mem_cons.mpr ⟨lw_p22, List.forall_mem_cons.mpr ⟨lw_p23, List.forall_mem_cons.mpr ⟨lw_p24, List.forall_mem_cons.mpr ⟨lw_p25, List.forall_mem_cons.mpr ⟨lw_p26, List.forall_mem_cons.mpr ⟨lw_p27, List.forall_mem_cons.mpr ⟨lw_p28, List.forall_mem_cons.mpr ⟨lw_p29, List.forall_mem_cons.mpr ⟨lw_p30, List.forall_mem_cons.mpr ⟨lw_p31, fun _ h => absurd h List.not_mem_nil⟩⟩⟩⟩⟩⟩⟩⟩⟩⟩⟩⟩⟩⟩⟩⟩
theorem lw_p32 : lw_okq (⟨"BitumenNeedleModel", "latest", "(III)I"⟩, 10) := ⟨⟨by decide +kernel, by decide +kernel⟩, List.mem_of_getElem? (i := 1023) (by decide +kernel), List.mem_of_getElem? (i := 1211) (by decide +kernel), List.mem_of_getElem? (i := 1212) (by decide +kernel)⟩
theorem lw_p33 : lw_okq (⟨"BitumenNeedleModel", "needles", "(I)I"⟩, 10) := ⟨⟨by decide +kernel, by decide +kernel⟩, List.mem_of_getElem? (i := 1023) (by decide +kernel), List.mem_of_getElem? (i := 1215) (by decide +kernel), List.mem_of_getElem? (i := 1216) (by decide +kernel)⟩
theorem lw_p34 : lw_okq (⟨"BitumenNeedleModel", "mean", "(IZ)I"⟩, 10) := ⟨⟨by decide +kernel, by decide +kernel⟩, List.mem_of_getElem? (i := 1023) (by decide +kernel), List.mem_of_getElem? (i := 1219) (by decide +kernel), List.mem_of_getElem? (i := 1220) (by decide +kernel)⟩
theorem lw_p35 : lw_okq (⟨"BitumenNeedleModel", "told", "(IZ)I"⟩, 10) := ⟨⟨by decide +kernel, by decide +kernel⟩, List.mem_of_getElem? (i := 1023) (by decide +kernel), List.mem_of_getElem? (i := 1223) (by decide +kernel), List.mem_of_getElem? (i := 1224) (by decide +kernel)⟩
theorem lw_p36 : lw_okq (⟨"BitumenNeedleModel", "index", "(I)I"⟩, 10) := ⟨⟨by decide +kernel, by decide +kernel⟩, List.mem_of_getElem? (i := 1023) (by decide +kernel), List.mem_of_getElem? (i := 1227) (by decide +kernel), List.mem_of_getElem? (i := 1228) (by decide +kernel)⟩
theorem lw_p37 : lw_okq (⟨"BitumenNeedleModel", "sells", "(I)I"⟩, 10) := ⟨⟨by decide +kernel, by decide +kernel⟩, List.mem_of_getElem? (i := 1023) (by decide +kernel), List.mem_of_getElem? (i := 1231) (by decide +kernel), List.mem_of_getElem? (i := 1232) (by decide +kernel)⟩
theorem lw_p38 : lw_okq (⟨"BitumenNeedleModel", "areOrders", "()Z"⟩, 10) := ⟨⟨by decide +kernel, by decide +kernel⟩, List.mem_of_getElem? (i := 1023) (by decide +kernel), List.mem_of_getElem? (i := 1251) (by decide +kernel), List.mem_of_getElem? (i := 1252) (by decide +kernel)⟩
theorem lw_p39 : lw_okq (⟨"BitumenNeedleModel", "readsPart", "()Z"⟩, 10) := ⟨⟨by decide +kernel, by decide +kernel⟩, List.mem_of_getElem? (i := 1023) (by decide +kernel), List.mem_of_getElem? (i := 1255) (by decide +kernel), List.mem_of_getElem? (i := 1256) (by decide +kernel)⟩
theorem lw_p40 : lw_okq (⟨"BitumenNeedleModel", "sign", "()I"⟩, 10) := ⟨⟨by decide +kernel, by decide +kernel⟩, List.mem_of_getElem? (i := 1023) (by decide +kernel), List.mem_of_getElem? (i := 1259) (by decide +kernel), List.mem_of_getElem? (i := 1260) (by decide +kernel)⟩
theorem lw_p41 : lw_okq (⟨"BitumenNeedleModel", "readsDigit", "(II)Z"⟩, 10) := ⟨⟨by decide +kernel, by decide +kernel⟩, List.mem_of_getElem? (i := 1023) (by decide +kernel), List.mem_of_getElem? (i := 1263) (by decide +kernel), List.mem_of_getElem? (i := 1264) (by decide +kernel)⟩
theorem lw_p42 : lw_okq (⟨"BitumenNeedleModel", "takesSign", "(I)Z"⟩, 10) := ⟨⟨by decide +kernel, by decide +kernel⟩, List.mem_of_getElem? (i := 1023) (by decide +kernel), List.mem_of_getElem? (i := 1267) (by decide +kernel), List.mem_of_getElem? (i := 1268) (by decide +kernel)⟩
theorem lw_p43 : lw_okq (⟨"BitumenNeedleModel", "readsNumber", "(III)Z"⟩, 10) := ⟨⟨by decide +kernel, by decide +kernel⟩, List.mem_of_getElem? (i := 1023) (by decide +kernel), List.mem_of_getElem? (i := 1271) (by decide +kernel), List.mem_of_getElem? (i := 1272) (by decide +kernel)⟩
theorem lw_p44 : lw_okq (⟨"BitumenNeedleModel", "stops", "()I"⟩, 10) := ⟨⟨by decide +kernel, by decide +kernel⟩, List.mem_of_getElem? (i := 1023) (by decide +kernel), List.mem_of_getElem? (i := 1282) (by decide +kernel), List.mem_of_getElem? (i := 1283) (by decide +kernel)⟩
theorem lw_p45 : lw_okq (⟨"BitumenNeedleModel", "does", "()V"⟩, 10) := ⟨⟨by decide +kernel, by decide +kernel⟩, List.mem_of_getElem? (i := 1023) (by decide +kernel), List.mem_of_getElem? (i := 1286) (by decide +kernel), List.mem_of_getElem? (i := 1287) (by decide +kernel)⟩
theorem lw_p46 : lw_okq (⟨"BitumenNeedleModel", "ofDrum", "(II)I"⟩, 10) := ⟨⟨by decide +kernel, by decide +kernel⟩, List.mem_of_getElem? (i := 1023) (by decide +kernel), List.mem_of_getElem? (i := 1310) (by decide +kernel), List.mem_of_getElem? (i := 1311) (by decide +kernel)⟩
theorem lw_p47 : lw_okq (⟨"BitumenNeedleModel", "samplesOf", "(I)I"⟩, 10) := ⟨⟨by decide +kernel, by decide +kernel⟩, List.mem_of_getElem? (i := 1023) (by decide +kernel), List.mem_of_getElem? (i := 1314) (by decide +kernel), List.mem_of_getElem? (i := 1315) (by decide +kernel)⟩
def lw_privs_3 : List (MethodName × Nat) := [(⟨"BitumenNeedleModel", "latest", "(III)I"⟩, 10), (⟨"BitumenNeedleModel", "needles", "(I)I"⟩, 10), (⟨"BitumenNeedleModel", "mean", "(IZ)I"⟩, 10), (⟨"BitumenNeedleModel", "told", "(IZ)I"⟩, 10), (⟨"BitumenNeedleModel", "index", "(I)I"⟩, 10), (⟨"BitumenNeedleModel", "sells", "(I)I"⟩, 10), (⟨"BitumenNeedleModel", "areOrders", "()Z"⟩, 10), (⟨"BitumenNeedleModel", "readsPart", "()Z"⟩, 10), (⟨"BitumenNeedleModel", "sign", "()I"⟩, 10), (⟨"BitumenNeedleModel", "readsDigit", "(II)Z"⟩, 10), (⟨"BitumenNeedleModel", "takesSign", "(I)Z"⟩, 10), (⟨"BitumenNeedleModel", "readsNumber", "(III)Z"⟩, 10), (⟨"BitumenNeedleModel", "stops", "()I"⟩, 10), (⟨"BitumenNeedleModel", "does", "()V"⟩, 10), (⟨"BitumenNeedleModel", "ofDrum", "(II)I"⟩, 10), (⟨"BitumenNeedleModel", "samplesOf", "(I)I"⟩, 10)]
theorem lw_r3 : ∀ q ∈ lw_privs_3, lw_okq q := List.forall_mem_cons.mpr ⟨lw_p32, List.forall_mem_cons.mpr ⟨lw_p33, List.forall_mem_cons.mpr ⟨lw_p34, List.forall_mem_cons.mpr ⟨lw_p35, List.forall_mem_cons.mpr ⟨lw_p36, List.forall_mem_cons.mpr ⟨lw_p37, List.forall_mem_cons.mpr ⟨lw_p38, List.forall_mem_cons.mpr ⟨lw_p39, List.forall_mem_cons.mpr ⟨lw_p40, List.forall_mem_cons.mpr ⟨lw_p41, List.forall_mem_cons.mpr ⟨lw_p42, List.forall_mem_cons.mpr ⟨lw_p43, List.forall_mem_cons.mpr ⟨lw_p44, List.forall_mem_cons.mpr ⟨lw_p45, List.forall_mem_cons.mpr ⟨lw_p46, List.forall_mem_cons.mpr ⟨lw_p47, fun _ h => absurd h List.not_mem_nil⟩⟩⟩⟩⟩⟩⟩⟩⟩⟩⟩⟩⟩⟩⟩⟩
theorem lw_p48 : lw_okq (⟨"BitumenNeedleModel", "ofSample", "(II)I"⟩, 10) := ⟨⟨by decide +kernel, by decide +kernel⟩, List.mem_of_getElem? (i := 1023) (by decide +kernel), List.mem_of_getElem? (i := 1322) (by decide +kernel), List.mem_of_getElem? (i := 1323) (by decide +kernel)⟩
theorem lw_p49 : lw_okq (⟨"BitumenNeedleModel", "ofBath", "(II)I"⟩, 10) := ⟨⟨by decide +kernel, by decide +kernel⟩, List.mem_of_getElem? (i := 1023) (by decide +kernel), List.mem_of_getElem? (i := 1338) (by decide +kernel), List.mem_of_getElem? (i := 1339) (by decide +kernel)⟩
theorem lw_p50 : lw_okq (⟨"BitumenNeedleModel", "farthest", "(I)I"⟩, 10) := ⟨⟨by decide +kernel, by decide +kernel⟩, List.mem_of_getElem? (i := 1023) (by decide +kernel), List.mem_of_getElem? (i := 1342) (by decide +kernel), List.mem_of_getElem? (i := 1343) (by decide +kernel)⟩
theorem lw_p51 : lw_okq (⟨"BitumenNeedleModel", "counted", "(I)I"⟩, 10) := ⟨⟨by decide +kernel, by decide +kernel⟩, List.mem_of_getElem? (i := 1023) (by decide +kernel), List.mem_of_getElem? (i := 1350) (by decide +kernel), List.mem_of_getElem? (i := 1351) (by decide +kernel)⟩
theorem lw_p52 : lw_okq (⟨"BitumenNeedleModel", "soldDrums", "()I"⟩, 10) := ⟨⟨by decide +kernel, by decide +kernel⟩, List.mem_of_getElem? (i := 1023) (by decide +kernel), List.mem_of_getElem? (i := 1354) (by decide +kernel), List.mem_of_getElem? (i := 1355) (by decide +kernel)⟩
theorem lw_p53 : lw_okq (⟨"BitumenNeedleModel", "penetrated", "()I"⟩, 10) := ⟨⟨by decide +kernel, by decide +kernel⟩, List.mem_of_getElem? (i := 1023) (by decide +kernel), List.mem_of_getElem? (i := 1358) (by decide +kernel), List.mem_of_getElem? (i := 1359) (by decide +kernel)⟩
theorem lw_p54 : lw_okq (⟨"BitumenNeedleModel", "readyNow", "(I)I"⟩, 10) := ⟨⟨by decide +kernel, by decide +kernel⟩, List.mem_of_getElem? (i := 1023) (by decide +kernel), List.mem_of_getElem? (i := 1382) (by decide +kernel), List.mem_of_getElem? (i := 1383) (by decide +kernel)⟩
theorem lw_p55 : lw_okq (⟨"BitumenNeedleModel", "ready", "(II)I"⟩, 10) := ⟨⟨by decide +kernel, by decide +kernel⟩, List.mem_of_getElem? (i := 1023) (by decide +kernel), List.mem_of_getElem? (i := 1386) (by decide +kernel), List.mem_of_getElem? (i := 1387) (by decide +kernel)⟩
theorem lw_p56 : lw_okq (⟨"BitumenNeedleModel", "best", "(I)I"⟩, 10) := ⟨⟨by decide +kernel, by decide +kernel⟩, List.mem_of_getElem? (i := 1023) (by decide +kernel), List.mem_of_getElem? (i := 1394) (by decide +kernel), List.mem_of_getElem? (i := 1395) (by decide +kernel)⟩
theorem lw_p57 : lw_okq (⟨"BitumenNeedleModel", "share", "()D"⟩, 10) := ⟨⟨by decide +kernel, by decide +kernel⟩, List.mem_of_getElem? (i := 1023) (by decide +kernel), List.mem_of_getElem? (i := 1402) (by decide +kernel), List.mem_of_getElem? (i := 1403) (by decide +kernel)⟩
theorem lw_p58 : lw_okq (⟨"BitumenNeedleModel", "mix", "(J)V"⟩, 10) := ⟨⟨by decide +kernel, by decide +kernel⟩, List.mem_of_getElem? (i := 1023) (by decide +kernel), List.mem_of_getElem? (i := 1411) (by decide +kernel), List.mem_of_getElem? (i := 1412) (by decide +kernel)⟩
theorem lw_p59 : lw_okq (⟨"BitumenNeedleModel", "mixSample", "(I)V"⟩, 10) := ⟨⟨by decide +kernel, by decide +kernel⟩, List.mem_of_getElem? (i := 1023) (by decide +kernel), List.mem_of_getElem? (i := 1416) (by decide +kernel), List.mem_of_getElem? (i := 1417) (by decide +kernel)⟩
def lw_privs_4 : List (MethodName × Nat) := [(⟨"BitumenNeedleModel", "ofSample", "(II)I"⟩, 10), (⟨"BitumenNeedleModel", "ofBath", "(II)I"⟩, 10), (⟨"BitumenNeedleModel", "farthest", "(I)I"⟩, 10), (⟨"BitumenNeedleModel", "counted", "(I)I"⟩, 10), (⟨"BitumenNeedleModel", "soldDrums", "()I"⟩, 10), (⟨"BitumenNeedleModel", "penetrated", "()I"⟩, 10), (⟨"BitumenNeedleModel", "readyNow", "(I)I"⟩, 10), (⟨"BitumenNeedleModel", "ready", "(II)I"⟩, 10), (⟨"BitumenNeedleModel", "best", "(I)I"⟩, 10), (⟨"BitumenNeedleModel", "share", "()D"⟩, 10), (⟨"BitumenNeedleModel", "mix", "(J)V"⟩, 10), (⟨"BitumenNeedleModel", "mixSample", "(I)V"⟩, 10)]
theorem lw_r4 : ∀ q ∈ lw_privs_4, lw_okq q := List.forall_mem_cons.mpr ⟨lw_p48, List.forall_mem_cons.mpr ⟨lw_p49, List.forall_mem_cons.mpr ⟨lw_p50, List.forall_mem_cons.mpr ⟨lw_p51, List.forall_mem_cons.mpr ⟨lw_p52, List.forall_mem_cons.mpr ⟨lw_p53, List.forall_mem_cons.mpr ⟨lw_p54, List.forall_mem_cons.mpr ⟨lw_p55, List.forall_mem_cons.mpr ⟨lw_p56, List.forall_mem_cons.mpr ⟨lw_p57, List.forall_mem_cons.mpr ⟨lw_p58, List.forall_mem_cons.mpr ⟨lw_p59, fun _ h => absurd h List.not_mem_nil⟩⟩⟩⟩⟩⟩⟩⟩⟩⟩⟩⟩
def lw_privs : List (MethodName × Nat) := lw_privs_1 ++ (lw_privs_2 ++ (lw_privs_3 ++ (lw_privs_4)))
def lw_tbl : List Cond := k2_sels lw_privs ++ tables_1
theorem lw_privs_ok : ∀ q ∈ lw_privs, lw_okq q := by
  show ∀ q ∈ lw_privs_1 ++ (lw_privs_2 ++ (lw_privs_3 ++ (lw_privs_4))), lw_okq q
  exact List.forall_mem_append.mpr ⟨lw_r1, List.forall_mem_append.mpr ⟨lw_r2, List.forall_mem_append.mpr ⟨lw_r3, lw_r4⟩⟩⟩
/-- the streams that the claim lets the run draw from -/
abbrev lw_cs : List Choice := [Jvm.Choice.named "NaN.bits"]
theorem lw_bits : nanBits ∈ lw_cs := by first | decide | exact List.mem_cons_self | simp [lw_cs, nanBits]
/-! ===== BEGIN words of one list among another's, by their places ===== -/
theorem goodIn_r {big : List Cond} (ws : List Cond) (ps : List Nat) (hp : ws = ps.filterMap (fun i => big[i]?)) (h : ws.all goodWord = true) : GoodIn big ws := by
  intro w hw
  have h1 := List.all_eq_true.mp h w hw
  rw [hp] at hw
  obtain ⟨i, -, hi⟩ := List.mem_filterMap.mp hw
  have hm : w ∈ big := by first | exact List.mem_of_getElem? hi | exact List.getElem?_mem hi
  exact ⟨hm, good_of_word h1⟩
theorem goodIn_app {big a b : List Cond} (ha : GoodIn big a) (hb : GoodIn big b) : GoodIn big (a ++ b) := fun w h => (List.mem_append.mp h).elim (ha w) (hb w)
theorem goodIn_ca {big a b : List Cond} {c : Cond} (ha : GoodIn big (c :: a)) (hb : GoodIn big b) : GoodIn big (c :: (a ++ b)) := fun w h => (List.mem_cons.mp h).elim (fun e => ha w (List.mem_cons.mpr (Or.inl e))) (fun h => (List.mem_append.mp h).elim (fun h => ha w (List.mem_cons.mpr (Or.inr h))) (hb w))
theorem goodIn_sub {big ws : List Cond} (hm : ∀ w ∈ ws, w ∈ big) (h : ws.all goodWord = true) : GoodIn big ws := fun w hw => ⟨hm w hw, good_of_word (List.all_eq_true.mp h w hw)⟩
/-! ===== END ===== -/

/-! ===== BEGIN exceptions that leave a method, and their catching by the caller (launches without stack traces) ===== -/
section VXA
/-! The laws vx_back, vx_callV, vx_callS, vx_callSW, vx_throw0, vx_throwS follow proofs of the library, with one case more: JvmDerived/Free/Laws.lean (Back.of_free), Shelf42/LK1.lean (callV, callS), Shelf/KitTraced.lean (throwNew0V, throwNewS). -/
/-- where a method has thrown q: the class by its name, the cell, what was written, the world -/
def vx_T (XC : String → State → State → Prop) (st : State) (q : Addr) (t : State) (mc ms : Nat) (free : Addr → Prop) : Prop :=
  ∃ (E : String) (ce : Cell) (L : List Loc), XC E st t ∧ t.heap[q]? = some ce ∧ ce.vm = .none ∧ st.vm.findClass E = some ce.cls ∧ st.WarmedH t.vm ∧ st.sameButNew ({ t with vm := st.vm } : State) L mc ms ∧ ∀ z ∈ L, free z.base
def vx_Q (Qc : Array Value → State → Outcome → State → Prop) (XC : String → State → State → Prop) (mc ms : Nat) (free : Addr → Prop) : Array Value → State → Outcome → State → Prop := fun a st o t =>
  (Qc a st o t ∧ ∃ L, FrameEnd st o t L mc ms ∧ ∀ q ∈ L, free q.base) ∨ ∃ q, o = .threw q ∧ vx_T XC st q t mc ms free
/-- a callee that returns or throws -/
def vx_Met (l : Launch) (y : MethodName) (ws : List Cond) (rm : Room) (Pc : Array Value → State → Prop) (Qc : Array Value → State → Outcome → State → Prop) (XC : String → State → State → Prop) (mc ms : Nat) (free : Addr → Prop) : Prop :=
  MetFree l y (headSpec ws rm) Pc (fun _ _ _ _ _ => True) (vx_Q Qc XC mc ms free)
def vx_Post (XC : String → State → State → Prop) (mc ms : Nat) (free : Addr → Prop) : Pt → Array Value → Addr → Pt → Prop := fun A a q B =>
  ∃ (g : JFrame) (mk : MethodId) (t : State) (L : List Loc) (E : String) (ce : Cell), B.U.heap = t.heap ∧ B.U.vm = t.vm ∧ XC E (A.U.calling g mk a) t ∧ t.heap[q]? = some ce ∧ ce.vm = .none ∧ A.U.vm.findClass E = some ce.cls ∧ B.locs = A.locs ++ L ∧ (∀ z ∈ L, free z.base) ∧ B.cells = A.cells + mc ∧ B.slots = A.slots + ms
def vx_Back (l : Launch) (R : Room) (p : Program) (e : Env) (below : List Frame) (s : State) (sargs : Array Value) (y : MethodName) (len W9 : Nat)
    (Pre : Pt → Array Value → Prop) (Post : Pt → Array Value → Option Value → Pt → Prop) (PostX : Pt → Array Value → Addr → Pt → Prop) : Prop :=
  ∀ (m : MethodId) (meth : Method) (c : Code) (A : Pt) (g : JFrame) (ig : Instr) (mk : MethodId) (a : Array Value),
    Stand p l e R s m sargs below meth c A.U A.locs A.cells A.slots → g.method = m → g.locals.size = c.maxLocals → decode c.code g.pc = .ok (ig, len) →
    2 * g.monitorRoom + (g.stack.map fun v => v.category).sum ≤ W9 → A.U.methodNamed? y = some mk → Pre A a →
    (∃ (v : Option Value) (B : Pt), Stand p l e R s m sargs below meth c B.U B.locs B.cells B.slots ∧ Post A a v B ∧
      Steps p.tables e below (doInvoke e (A.U.setTop g) [] mk a).1 (B.U.setTop { g with pc := g.pc + len, stack := v.toList ++ g.stack })) ∨
    (∃ (q : Addr) (B : Pt), Stand p l e R s m sargs below meth c B.U B.locs B.cells B.slots ∧ PostX A a q B ∧
      Steps p.tables e below (doInvoke e (A.U.setTop g) [] mk a).1 ((B.U.setTop g).pushFrame (.throwing q)))
section Payer
variable {l : Launch} {R : Room} {p : Program} {e : Env} {below : List Frame} {s : State} {sargs : Array Value} {y : MethodName} {len W9 : Nat}
theorem vx_back {ws : List Cond} {rm : Room} {Pc : Array Value → State → Prop} {Qc : Array Value → State → Outcome → State → Prop} {XC : String → State → State → Prop} {mc ms : Nat} {free : Addr → Prop} {bytes : ByteArray} {maxL : Nat} {ret : Option FieldType}
    (hM : vx_Met l y ws rm Pc Qc XC mc ms free) (hblind : FrameBlind Pc) (hrc : rm.cells = mc) (hrs : rm.slots = ms)
    (hframes : rm.frames + 1 ≤ R.frames) (hlocals : W9 + (maxL + 11) + rm.locals ≤ R.locals)
    (hws : ∀ w ∈ ws, ∀ a' U, s.WarmedH U.vm → w.before a' U = true) (hcode : Cond.code y bytes maxL ret ∈ ws) (hinit : ∀ a' U, s.WarmedH U.vm → (Cond.initialized y.cls).before a' U = true) :
    vx_Back l R p e below s sargs y len W9 (PreOf R mc ms Pc) (PostOf Qc mc ms free) (vx_Post XC mc ms free) := by
  intro m meth c A g ig mk a X hg hsize hdg hW hn hp
  have h1 : (headSpec ws rm).pre.before a A.U = true := atoms_intro fun w hw => hws w hw _ _ X.warmed
  have h2 : (Cond.code y bytes maxL ret).before a A.U = true := hws _ hcode _ _ X.warmed
  have h3 : (Cond.initialized y.cls).before a A.U = true := hinit _ _ X.warmed
  have h4 : A.cells + (headSpec ws rm).room.cells ≤ R.cells := by rw [show (headSpec ws rm).room.cells = mc from hrc]; exact hp.1
  have h5 : A.slots + (headSpec ws rm).room.slots ≤ R.slots := by rw [show (headSpec ws rm).room.slots = ms from hrs]; exact hp.2.1
  have hPc : Pc a (A.U.calling g mk a) := hblind _ _ _ _ hp.2.2
  obtain ⟨U, Ls, c0, s0⟩ := A
  dsimp only [Pt.U, Pt.locs, Pt.cells, Pt.slots] at h1 h2 h3 h4 h5 X hn hPc ⊢
  obtain ⟨methY, cY, hmY, hcY, -, hlY, -, -, -, -⟩ := Cond.code_spec hn h2
  obtain ⟨kY, hkY, -⟩ := className_of_methodNamed hn
  have hinitY : kY.init = .initialized := Cond.initialized_spec (findClass_of_methodNamed hn) hkY h3
  have h : At U g.method c below := by rw [hg]; exact X.here
  have hlocals9 : W9 + (maxL + 11) + (headSpec ws rm).room.locals ≤ R.locals := hlocals
  have happ : (headSpec ws rm).appliesLoose y e.platform (U.calling g mk a) = true :=
    Spec.appliesLoose_calling (g := g) h hdg hn hkY hinitY
      (X.room_calling (g := g) (R' := (headSpec ws rm).room) hsize hmY hcY hframes (by rw [hlY]; omega) h4 h5) h1
  obtain ⟨mid, hmid⟩ := h.above
  have hfr : (U.setTop g).frames = (.java g :: mid) ++ below := by rw [State.frames_setTop' g h.top, hmid]; rfl
  obtain ⟨o, s₂, hsteps, -, hend, hq⟩ := Steps.callFree hM p X.admits X.cas X.clock (acts := []) hfr happ hPc trivial
  have hq' : vx_Q Qc XC mc ms free a (U.calling g mk a) o s₂ := hq
  rw [State.frames_setTop' g h.top] at hend
  obtain ⟨g₀, hg0⟩ := Option.isSome_iff_exists.mp h.top
  obtain ⟨r, hr⟩ := State.topJava?_eq_some.mp hg0
  have hr' : (({ U with heap := s₂.heap, slotsUsed := s₂.slotsUsed } : State).setVm s₂.vm).frames = .java g₀ :: r := hr
  rcases hq' with ⟨hqc, L, hfe, hL⟩ | ⟨q, rfl, E, ce, L, hx, hce, hcv, hcl, hW₂, hsm, hL⟩
  · obtain ⟨⟨v, rfl⟩, hW₂, e2, q2, q3, q4, q5, q6⟩ := id hfe
    have e3 : s₂ = ({ (U.calling g mk a).setFrames s₂.frames with heap := s₂.heap, slotsUsed := s₂.slotsUsed } : State).setVm s₂.vm := by
      have : s₂ = ({ s₂ with vm := (U.calling g mk a).vm } : State).setVm s₂.vm := rfl
      rw [e2] at this
      exact this
    obtain ⟨c₂, i₂, len₂, hc₂, hd₂, hf₂⟩ := hend
    have hW' : U.WarmedH s₂.vm := hW₂
    have hcc : c₂ = c := by
      have h1 : s₂.code? g.method = U.code? g.method := by
        rw [State.code?_eq, State.code?_eq, hW'.alike.method?]
      exact Option.some.inj (hc₂.symm.trans (h1.trans h.code))
    subst hcc
    have hlen : len₂ = len := by rw [hdg] at hd₂; cases hd₂; rfl
    subst hlen
    have hs₂ : s₂ = (({ U with heap := s₂.heap, slotsUsed := s₂.slotsUsed } : State).setVm s₂.vm).setTop { g with pc := g.pc + len₂, stack := v.toList ++ g.stack } := by
      refine e3.trans ?_
      rw [hf₂, State.calling_eq h.top, State.setFrames_setFrames, State.setTop_of_frames _ hr', hr]
      rfl
    have hsame : U.sameButNew ({ U with heap := s₂.heap, slotsUsed := s₂.slotsUsed } : State) L mc ms := by
      refine ⟨?_, q2, q3, q4, q5, q6⟩
      obtain ⟨t, ht, -⟩ := State.frames_cons hr
      show ({ U with heap := s₂.heap, slotsUsed := s₂.slotsUsed } : State) = { U.setFrames U.frames with heap := s₂.heap, slotsUsed := s₂.slotsUsed }
      rw [State.setFrames_self ht]
    subst hg
    refine Or.inl ⟨v, ⟨(({ U with heap := s₂.heap, slotsUsed := s₂.slotsUsed } : State).setVm s₂.vm), Ls ++ L, c0 + mc, s0 + ms⟩,
      ⟨X.admits, X.cas, X.clock, X.frames, X.room, X.hears, X.method, X.code, (X.here.setHeapUsed s₂.heap s₂.slotsUsed).setVm hW'.alike, X.tail, State.WarmedH.trans X.warmed hW', X.limits, X.bytes, X.same.trans (hsame.setVm s.vm)⟩,
      ⟨g, mk, s₂, L, rfl, rfl, hqc, rfl, hL, rfl, rfl⟩, ?_⟩
    show Steps p.tables e below _ ((({ U with heap := s₂.heap, slotsUsed := s₂.slotsUsed } : State).setVm s₂.vm).setTop { g with pc := g.pc + len₂, stack := v.toList ++ g.stack })
    rw [← hs₂]
    exact hsteps
  · obtain ⟨e2, q2, q3, q4, q5, q6⟩ := id hsm
    have e3 : s₂ = ({ (U.calling g mk a).setFrames s₂.frames with heap := s₂.heap, slotsUsed := s₂.slotsUsed } : State).setVm s₂.vm := by
      have : s₂ = ({ s₂ with vm := (U.calling g mk a).vm } : State).setVm s₂.vm := rfl
      rw [e2] at this
      exact this
    have hf₂ : s₂.frames = .throwing q :: .java g :: U.frames.tail := hend
    have hW' : U.WarmedH s₂.vm := hW₂
    have hs₂ : s₂ = ((({ U with heap := s₂.heap, slotsUsed := s₂.slotsUsed } : State).setVm s₂.vm).setTop g).pushFrame (.throwing q) := by
      refine e3.trans ?_
      rw [hf₂, State.calling_eq h.top, State.setFrames_setFrames, State.pushFrame, State.frames_setTop _ hr', State.setTop_of_frames _ hr', State.setFrames_setFrames, hr]
      rfl
    have hsame : U.sameButNew ({ U with heap := s₂.heap, slotsUsed := s₂.slotsUsed } : State) L mc ms := by
      refine ⟨?_, q2, q3, q4, q5, q6⟩
      obtain ⟨t, ht, -⟩ := State.frames_cons hr
      show ({ U with heap := s₂.heap, slotsUsed := s₂.slotsUsed } : State) = { U.setFrames U.frames with heap := s₂.heap, slotsUsed := s₂.slotsUsed }
      rw [State.setFrames_self ht]
    subst hg
    refine Or.inr ⟨q, ⟨(({ U with heap := s₂.heap, slotsUsed := s₂.slotsUsed } : State).setVm s₂.vm), Ls ++ L, c0 + mc, s0 + ms⟩,
      ⟨X.admits, X.cas, X.clock, X.frames, X.room, X.hears, X.method, X.code, (X.here.setHeapUsed s₂.heap s₂.slotsUsed).setVm hW'.alike, X.tail, State.WarmedH.trans X.warmed hW', X.limits, X.bytes, X.same.trans (hsame.setVm s.vm)⟩,
      ⟨g, mk, s₂, L, E, ce, rfl, rfl, hx, hce, hcv, hcl, rfl, hL, rfl, rfl⟩, ?_⟩
    show Steps p.tables e below _ (((({ U with heap := s₂.heap, slotsUsed := s₂.slotsUsed } : State).setVm s₂.vm).setTop g).pushFrame (.throwing q))
    rw [← hs₂]
    exact hsteps
end Payer
section Calls
variable {p : Program} {l : Launch} {e : Env} {R : Room} {s : State} {m : MethodId} {args : Array Value} {below : List Frame} {meth : Method} {c : Code} {T : State} {locs : List Loc} {cells slots : Nat}
theorem vx_callV (X : Stand p l e R s m args below meth c T locs cells slots) (hexec : p.tables.exec = Jvm.exec) {own C : String} {index : Nat} {y : MethodName} {bytes : ByteArray} {maxL : Nat} {ret : Option FieldType}
    (hown : s.vm.findClass own = some m.cls) (hlink : (Cond.methodLink own index y).before args s = true) (hinst : (Cond.instanceMethod y).before args s = true) (hsel : (Cond.selects C y y).before args s = true)
    (hcode : (Cond.code y bytes maxL ret).before args s = true) (hy : y.cls ≠ "java/lang/invoke/MethodHandle" ∧ y.cls ≠ "java/lang/invoke/VarHandle")
    {W9 : Nat} {Pre : Pt → Array Value → Prop} {Post : Pt → Array Value → Option Value → Pt → Prop} {PostX : Pt → Array Value → Addr → Pt → Prop} (hK : vx_Back l R p e below s args y 3 W9 Pre Post PostX)
    {b : Addr} {cellB : Cell} (hcell : T.heap[b]? = some cellB) (hobj : cellB.vm.isStatics = false) (hcls : s.vm.findClass C = some cellB.cls)
    {g : JFrame} (hg : g.method = m) (hsize : g.locals.size = c.maxLocals) {argsL rest : List Value} (hlen : ∀ sig, parseMethodDescriptor y.desc = some sig → argsL.length = sig.parameters.length)
    (hstack : g.stack = argsL.reverse ++ .ref b :: rest) (hW : 2 * g.monitorRoom + (rest.map fun v => v.category).sum ≤ W9) (hdg : decode c.code g.pc = .ok (.invokevirtual index, 3))
    (hpre : ∀ vm₁, s.WarmedH vm₁ → Pre ⟨T.setVm vm₁, locs, cells, slots⟩ (Value.ref b :: argsL).toArray) :
    (∃ (v : Option Value) (vm₁ : Vm) (B : Pt), s.WarmedH vm₁ ∧ Stand p l e R s m args below meth c B.U B.locs B.cells B.slots ∧ Post ⟨T.setVm vm₁, locs, cells, slots⟩ (Value.ref b :: argsL).toArray v B ∧
      ∀ target, Steps p.tables e below (B.U.setTop { g with pc := g.pc + 3, stack := v.toList ++ rest }) target → Steps p.tables e below (T.setTop g) target) ∨
    (∃ (q : Addr) (vm₁ : Vm) (B : Pt), s.WarmedH vm₁ ∧ Stand p l e R s m args below meth c B.U B.locs B.cells B.slots ∧ PostX ⟨T.setVm vm₁, locs, cells, slots⟩ (Value.ref b :: argsL).toArray q B ∧
      Steps p.tables e below (T.setTop g) ((B.U.setTop { g with stack := rest }).pushFrame (.throwing q))) := by
  obtain ⟨mk, methM, hnamed, hmethM, hstM, habM⟩ := Cond.instanceMethod_spec hinst
  obtain ⟨methM', cM, hmethM', -, -, -, -, -, -, hsigM⟩ := Cond.code_spec hnamed hcode
  cases hmethM.symm.trans hmethM'
  obtain ⟨c2, r2, m2, q1, q2, q3, q4, kP, hkP, hkPi⟩ := Cond.selects_spec hsel
  cases hcls.symm.trans q1
  cases (State.methodFound?_of_named hnamed hy).symm.trans q2
  cases hnamed.symm.trans q3
  have hselP : selectMethod e.platform s.vm cellB.cls mk = .method mk := by rw [Launch.admits_selectMethod X.admits]; exact q4
  obtain ⟨vm₁, X₁, hstep₁⟩ := X.invokevirtual hexec hown hlink hnamed hmethM hstM hkP hkPi hy (a := b) (cell := cellB) hcell
    (fun z h => by rw [h] at hobj; cases hobj) hselP hmethM habM hkP hkPi (g := g) hg (argsL := argsL) (rest := rest) (hlen _ hsigM) hstack hdg
  rcases hK m meth c ⟨T.setVm vm₁, locs, cells, slots⟩ { g with stack := rest } (.invokevirtual index) mk (Value.ref b :: argsL).toArray X₁ hg hsize hdg hW (X₁.named hnamed) (hpre vm₁ X₁.warmed) with ⟨v, B, X', hpost, hsteps⟩ | ⟨q, B, X', hpost, hsteps⟩
  · exact Or.inl ⟨v, vm₁, B, X₁.warmed, X', hpost, fun target h => hstep₁ _ fun acts => by rw [doInvoke_state]; exact hsteps.trans h⟩
  · exact Or.inr ⟨q, vm₁, B, X₁.warmed, X', hpost, hstep₁ _ fun acts => by rw [doInvoke_state]; exact hsteps⟩
theorem vx_callS (X : Stand p l e R s m args below meth c T locs cells slots) (hexec : p.tables.exec = Jvm.exec) {own : String} {index : Nat} {y : MethodName} {bytes : ByteArray} {maxL : Nat} {ret : Option FieldType}
    (hown : s.vm.findClass own = some m.cls) (hlink : (Cond.methodLink own index y).before args s = true) (hstat : (Cond.static y).before args s = true) (hinit : (Cond.initialized y.cls).before args s = true)
    (hcode : (Cond.code y bytes maxL ret).before args s = true) (hy : y.cls ≠ "java/lang/invoke/MethodHandle" ∧ y.cls ≠ "java/lang/invoke/VarHandle")
    {W9 : Nat} {Pre : Pt → Array Value → Prop} {Post : Pt → Array Value → Option Value → Pt → Prop} {PostX : Pt → Array Value → Addr → Pt → Prop} (hK : vx_Back l R p e below s args y 3 W9 Pre Post PostX)
    {g : JFrame} (hg : g.method = m) (hsize : g.locals.size = c.maxLocals) {argsL rest : List Value} (hlen : ∀ sig, parseMethodDescriptor y.desc = some sig → argsL.length = sig.parameters.length)
    (hstack : g.stack = argsL.reverse ++ rest) (hW : 2 * g.monitorRoom + (rest.map fun v => v.category).sum ≤ W9) (hdg : decode c.code g.pc = .ok (.invokestatic index, 3))
    (hpre : ∀ vm₁, s.WarmedH vm₁ → Pre ⟨T.setVm vm₁, locs, cells, slots⟩ argsL.toArray) :
    (∃ (v : Option Value) (vm₁ : Vm) (B : Pt), s.WarmedH vm₁ ∧ Stand p l e R s m args below meth c B.U B.locs B.cells B.slots ∧ Post ⟨T.setVm vm₁, locs, cells, slots⟩ argsL.toArray v B ∧
      ∀ target, Steps p.tables e below (B.U.setTop { g with pc := g.pc + 3, stack := v.toList ++ rest }) target → Steps p.tables e below (T.setTop g) target) ∨
    (∃ (q : Addr) (vm₁ : Vm) (B : Pt), s.WarmedH vm₁ ∧ Stand p l e R s m args below meth c B.U B.locs B.cells B.slots ∧ PostX ⟨T.setVm vm₁, locs, cells, slots⟩ argsL.toArray q B ∧
      Steps p.tables e below (T.setTop g) ((B.U.setTop { g with stack := rest }).pushFrame (.throwing q))) := by
  obtain ⟨mk, hnamed⟩ := Cond.code_named hcode
  obtain ⟨methM, cM, hmethM, -, -, -, -, -, -, hsigM⟩ := Cond.code_spec hnamed hcode
  have hstatic : methM.isStatic = true := Cond.static_spec hnamed hmethM hstat
  obtain ⟨kP, hkP, -⟩ := className_of_methodNamed hnamed
  have hinitP : kP.init = .initialized := Cond.initialized_spec (findClass_of_methodNamed hnamed) hkP hinit
  obtain ⟨vm₁, X₁, hstep₁⟩ := X.invokestatic hexec hown hlink hnamed hmethM hstatic hkP hinitP hy (g := g) hg (argsL := argsL) (rest := rest) (hlen _ hsigM) hstack hdg
  rcases hK m meth c ⟨T.setVm vm₁, locs, cells, slots⟩ { g with stack := rest } (.invokestatic index) mk argsL.toArray X₁ hg hsize hdg hW (X₁.named hnamed) (hpre vm₁ X₁.warmed) with ⟨v, B, X', hpost, hsteps⟩ | ⟨q, B, X', hpost, hsteps⟩
  · exact Or.inl ⟨v, vm₁, B, X₁.warmed, X', hpost, fun target h => hstep₁ _ fun acts => by rw [doInvoke_state]; exact hsteps.trans h⟩
  · exact Or.inr ⟨q, vm₁, B, X₁.warmed, X', hpost, hstep₁ _ fun acts => by rw [doInvoke_state]; exact hsteps⟩
end Calls
theorem vx_cls {s : State} {T : State} {vm₁ : Vm} {E : String} {k : ClassId} (hW : s.WarmedH vm₁) (h : (T.setVm vm₁).vm.findClass E = some k) : s.vm.findClass E = some k := by
  have h1 : vm₁.findClass E = some k := h
  rw [hW.alike.findClass] at h1
  exact h1
/-- the method's frame g, with q thrown over it -/
def vx_W (p : Program) (l : Launch) (e : Env) (R : Room) (s : State) (m : MethodId) (args : Array Value) (below : List Frame) (meth : Method) (c : Code) (H : Heap) (locs : List Loc) (cells slots : Nat) (Q : State → Prop) (g : JFrame) (q : Addr) : Prop :=
  ∀ T : State, T.heap = H → Stand p l e R s m args below meth c T locs cells slots → ∃ t, Steps p.tables e below ((T.setTop g).pushFrame (.throwing q)) t ∧ Q t
def vx_Run (p : Program) (l : Launch) (e : Env) (R : Room) (s : State) (m : MethodId) (args : Array Value) (below : List Frame) (meth : Method) (c : Code) (H : Heap) (locs : List Loc) (cells slots mc ms : Nat) (g : JFrame) (rest : List Value) (Qa : State → Outcome → State → Prop) (XC : String → State → State → Prop) (free : Addr → Prop) : Prop :=
  ∀ T : State, T.heap = H → Stand p l e R s m args below meth c T locs cells slots →
    (∃ (v : Option Value) (st₀ t T' : State) (L : List Loc), st₀.heap = H ∧ Stand p l e R s m args below meth c T' (locs ++ L) (cells + mc) (slots + ms) ∧ (∀ q ∈ L, free q.base) ∧ T'.heap = t.heap ∧ T'.vm = t.vm ∧ Qa st₀ (.returned v) t ∧
      Goes p e below T g T' { g with pc := g.pc + 3, stack := v.toList ++ rest }) ∨
    (∃ (q : Addr) (st₀ t T' : State) (L : List Loc) (E : String) (ce : Cell), st₀.heap = H ∧ Stand p l e R s m args below meth c T' (locs ++ L) (cells + mc) (slots + ms) ∧ (∀ z ∈ L, free z.base) ∧ T'.heap = t.heap ∧ T'.vm = t.vm ∧ XC E st₀ t ∧ t.heap[q]? = some ce ∧ ce.vm = .none ∧ s.vm.findClass E = some ce.cls ∧
      Steps p.tables e below (T.setTop g) ((T'.setTop { g with stack := rest }).pushFrame (.throwing q)))
def vx_X {S : Type} (px : S → Prop) (B : String → S → State → Prop) (A : Nat → Prop) : String → State → State → Prop := fun E st t => ∃ u : S, px u ∧ B E u t ∧ va_F A st t
section Runs
variable {p : Program} {l : Launch} {e : Env} {R : Room} {s : State} {m : MethodId} {args : Array Value} {below : List Frame} {meth : Method} {c : Code} {H : Heap} {locs : List Loc} {cells slots : Nat}
variable {y : MethodName} {bytes cc : ByteArray} {maxL nL mc ms n index : Nat} {ret : Option FieldType} {ws : List Cond} {rm : Room} {Pc : Array Value → State → Prop} {Qc : Array Value → State → Outcome → State → Prop} {XC : String → State → State → Prop} {free : Addr → Prop} {Ts : List Cond} {own C : String} {b : Addr} {As rest : List Value} {g : JFrame}
theorem vx_callBack (cb : CallB R s args own index y bytes maxL ret ws rm mc ms n) (hM : vx_Met l y ws rm Pc Qc XC mc ms free) (hbl : FrameBlind Pc) : vx_Back l R p e below s args y 3 8 (PreOf R mc ms Pc) (PostOf Qc mc ms free) (vx_Post XC mc ms free) := by
  obtain ⟨hrc, hrs, hfr, hlo, hws, hcw, -, hini, -⟩ := cb
  exact vx_back (bytes := bytes) (maxL := maxL) (ret := ret) hM hbl hrc hrs hfr hlo hws hcw (fun a' U hW => word_at hW (Or.inl (by first | rfl | simp [Cond.onTables, Cond.keeps, Cond.steady])) hini)
theorem vx_runV (S : CallFix p m c cc nL s args Ts own) (hM : vx_Met l y ws rm Pc Qc XC mc ms free) (cw : CallW R s args own C index y bytes maxL ret ws rm mc ms n) (hp : PreV s H C b Pc As)
    (hg : g.method = m) (hn : As.length = n) (hsize : g.locals.size = nL) (hstack : g.stack = As.reverse ++ .ref b :: rest) (hW : 2 * g.monitorRoom + (rest.map fun v => v.category).sum ≤ 8) (hdg : decode cc g.pc = .ok (.invokevirtual index, 3)) (hf : cells + mc ≤ R.cells ∧ slots + ms ≤ R.slots) :
    vx_Run p l e R s m args below meth c H locs cells slots mc ms g rest (Qc (Value.ref b :: As).toArray) XC free := by
  have hK : vx_Back l R p e below s args y 3 8 (PreOf R mc ms Pc) (PostOf Qc mc ms free) (vx_Post XC mc ms free) := vx_callBack cw.1 hM hp.1
  obtain ⟨⟨-, -, -, -, -, -, hcode, -, hy, hlen, hl⟩, hin, hse⟩ := cw
  obtain ⟨hx, hb, hml, ho, -⟩ := S
  obtain ⟨-, ⟨cellB, hcB, hoB, hclB⟩, hPc⟩ := hp
  intro T hT X
  rcases vx_callV X hx (C := C) (bytes := bytes) (maxL := maxL) (ret := ret) ho hl hin hse hcode hy hK (by rw [hT]; exact hcB) hoB hclB hg (hsize.trans hml.symm) (argsL := As) (rest := rest) (fun sig h => hn.trans (hlen sig h)) hstack hW (by rw [hb]; exact hdg)
    (fun vm₁ hW₁ => ⟨hf.1, hf.2, hPc (T.setVm vm₁) hT hW₁⟩) with ⟨v, vm₁, ⟨U', l2, c2, s2⟩, hW₁, X', ⟨g', mk, t, L, e1, e2, hq, h1, hL, h2, h3⟩, st⟩ | ⟨q, vm₁, ⟨U', l2, c2, s2⟩, hW₁, X', ⟨g', mk, t, L, E, ce, e1, e2, hq, hce, hcv, hcl, h1, hL, h2, h3⟩, st⟩
  · dsimp only [Pt.U, Pt.locs, Pt.cells, Pt.slots] at X' e1 e2 h1 h2 h3 st
    subst h1; subst h2; subst h3
    exact Or.inl ⟨v, (T.setVm vm₁).calling g' mk (Value.ref b :: As).toArray, t, U', L, hT, X', hL, e1, e2, hq, st⟩
  · dsimp only [Pt.U, Pt.locs, Pt.cells, Pt.slots] at X' e1 e2 h1 h2 h3 st hcl
    subst h1; subst h2; subst h3
    exact Or.inr ⟨q, (T.setVm vm₁).calling g' mk (Value.ref b :: As).toArray, t, U', L, E, ce, hT, X', hL, e1, e2, hq, hce, hcv, vx_cls hW₁ hcl, st⟩
theorem vx_runS (S : CallFix p m c cc nL s args Ts own) (hM : vx_Met l y ws rm Pc Qc XC mc ms free) (cw : CallB R s args own index y bytes maxL ret ws rm mc ms n ∧ (Cond.static y).before args s = true) (hp : PreS s H Pc As)
    (hg : g.method = m) (hn : As.length = n) (hsize : g.locals.size = nL) (hstack : g.stack = As.reverse ++ rest) (hW : 2 * g.monitorRoom + (rest.map fun v => v.category).sum ≤ 8) (hdg : decode cc g.pc = .ok (.invokestatic index, 3)) (hf : cells + mc ≤ R.cells ∧ slots + ms ≤ R.slots) :
    vx_Run p l e R s m args below meth c H locs cells slots mc ms g rest (Qc As.toArray) XC free := by
  have hK : vx_Back l R p e below s args y 3 8 (PreOf R mc ms Pc) (PostOf Qc mc ms free) (vx_Post XC mc ms free) := vx_callBack cw.1 hM hp.1
  obtain ⟨⟨-, -, -, -, -, -, hcode, hini, hy, hlen, hl⟩, hstt⟩ := cw
  obtain ⟨hx, hb, hml, ho, -⟩ := S
  intro T hT X
  rcases vx_callS X hx (bytes := bytes) (maxL := maxL) (ret := ret) ho hl hstt hini hcode hy hK hg (hsize.trans hml.symm) (argsL := As) (rest := rest) (fun sig h => hn.trans (hlen sig h)) hstack hW (by rw [hb]; exact hdg)
    (fun vm₁ hW₁ => ⟨hf.1, hf.2, hp.2 (T.setVm vm₁) hT hW₁⟩) with ⟨v, vm₁, ⟨U', l2, c2, s2⟩, hW₁, X', ⟨g', mk, t, L, e1, e2, hq, h1, hL, h2, h3⟩, st⟩ | ⟨q, vm₁, ⟨U', l2, c2, s2⟩, hW₁, X', ⟨g', mk, t, L, E, ce, e1, e2, hq, hce, hcv, hcl, h1, hL, h2, h3⟩, st⟩
  · dsimp only [Pt.U, Pt.locs, Pt.cells, Pt.slots] at X' e1 e2 h1 h2 h3 st
    subst h1; subst h2; subst h3
    exact Or.inl ⟨v, (T.setVm vm₁).calling g' mk As.toArray, t, U', L, hT, X', hL, e1, e2, hq, st⟩
  · dsimp only [Pt.U, Pt.locs, Pt.cells, Pt.slots] at X' e1 e2 h1 h2 h3 st hcl
    subst h1; subst h2; subst h3
    exact Or.inr ⟨q, (T.setVm vm₁).calling g' mk As.toArray, t, U', L, E, ce, hT, X', hL, e1, e2, hq, hce, hcv, vx_cls hW₁ hcl, st⟩
end Runs
section Rows
variable {p : Program} {l : Launch} {e : Env} {R : Room} {s : State} {m : MethodId} {args : Array Value} {below : List Frame} {meth : Method} {c : Code} {H : Heap} {locs : List Loc} {cells slots : Nat} {Q : State → Prop}
variable {mc ms : Nat} {free : Addr → Prop} {A0 A1 : Nat → Prop} {H0 : Heap} {a : Array Value} {pc : Nat} {ls : Array Slot} {st0 rest : List Value}
theorem vx_keep {st₀ t T' : State} {L : List Loc} (h0 : st₀.heap = H) (e1 : T'.heap = t.heap) (hS : va_S A0 H0 H locs) (hA : ∀ q, q < H.size → A1 q → A0 q) (hf : ∀ q, free q → A0 q) (hL : ∀ q ∈ L, free q.base) (hF : va_F A1 st₀ t) :
    H.size ≤ T'.heap.size ∧ (∀ q : Nat, q < H.size → ¬ A1 q → T'.heap[q]? = H[q]?) ∧ va_S A0 H0 T'.heap (locs ++ L) := by
  obtain ⟨hz, hk⟩ := hF
  rw [h0] at hz hk
  exact ⟨by rw [e1]; exact hz, fun q h1 h2 => by rw [e1]; exact hk q h1 h2,
    ⟨Nat.le_trans hS.1 (by rw [e1]; exact hz), fun q h1 h2 => by rw [e1, hk q (Nat.lt_of_lt_of_le h1 hS.1) (fun z => h2 (hA q (Nat.lt_of_lt_of_le h1 hS.1) z))]; exact hS.2.1 q h1 h2, fun q hq => by
      rcases List.mem_append.mp hq with h | h
      · exact hS.2.2 q h
      · exact hf _ (hL q h)⟩⟩
theorem vx_calli {S SX : Type} {post : Int32 → S → Prop} {px : SX → Prop} {B : S → State → Prop} {BX : String → SX → State → Prop} {AX : Nat → Prop} (hr : vx_Run p l e R s m args below meth c H locs cells slots mc ms (F0 m pc ls st0) rest (va_Qi post B A1 a) (vx_X px BX AX) free) (hS : va_S A0 H0 H locs) (hA : ∀ q, q < H.size → A1 q → A0 q) (hf : ∀ q, free q → A0 q) (hAX : ∀ q, q < H.size → AX q → A0 q)
    (kx : ∀ (E : String) (ce : Cell) (q9 : Addr) (u : SX) (t : State) (H1 : Heap) (locs1 : List Loc), t.heap = H1 → s.vm.Alike t.vm → px u → BX E u t → H.size ≤ H1.size → (∀ q : Nat, q < H.size → ¬ AX q → H1[q]? = H[q]?) → va_S A0 H0 H1 locs1 → H1[q9]? = some ce → ce.vm = .none → s.vm.findClass E = some ce.cls → vx_W p l e R s m args below meth c H1 locs1 (cells + mc) (slots + ms) Q (F0 m pc ls rest) q9)
    (kk : ∀ (r : Int32) (u : S) (t : State) (H1 : Heap) (locs1 : List Loc), t.heap = H1 → s.vm.Alike t.vm → post r u → B u t → H.size ≤ H1.size → (∀ q : Nat, q < H.size → ¬ A1 q → H1[q]? = H[q]?) → va_S A0 H0 H1 locs1 → W p l e R s m args below meth c H1 locs1 (cells + mc) (slots + ms) Q (F0 m (pc + 3) ls (.int r :: rest))) : W p l e R s m args below meth c H locs cells slots Q (F0 m pc ls st0) := by
  intro T hT X
  rcases hr T hT X with ⟨v, st₀, t, T', L, h0, X', hL, e1, e2, ⟨⟨r, u, hv, hp, hb⟩, hF⟩, st⟩ | ⟨q, st₀, t, T', L, E, ce, h0, X', hL, e1, e2, ⟨u, hp, hb, hF⟩, hce, hcv, hcl, st⟩
  · cases hv
    obtain ⟨k1, k2, k3⟩ := vx_keep h0 e1 hS hA hf hL hF
    obtain ⟨t2, a1, b1⟩ := kk r u t T'.heap (locs ++ L) e1.symm (by rw [← e2]; exact X'.warmed.alike) hp hb k1 k2 k3 T' rfl X'
    exact ⟨t2, st t2 a1, b1⟩
  · obtain ⟨k1, k2, k3⟩ := vx_keep h0 e1 hS hAX hf hL hF
    obtain ⟨t2, a1, b1⟩ := kx E ce q u t T'.heap (locs ++ L) e1.symm (by rw [← e2]; exact X'.warmed.alike) hp hb k1 k2 k3 (by rw [e1]; exact hce) hcv hcl T' rfl X'
    exact ⟨t2, st.trans a1, b1⟩
theorem vx_calll {S SX : Type} {post : Int64 → S → Prop} {px : SX → Prop} {B : S → State → Prop} {BX : String → SX → State → Prop} {AX : Nat → Prop} (hr : vx_Run p l e R s m args below meth c H locs cells slots mc ms (F0 m pc ls st0) rest (va_Ql post B A1 a) (vx_X px BX AX) free) (hS : va_S A0 H0 H locs) (hA : ∀ q, q < H.size → A1 q → A0 q) (hf : ∀ q, free q → A0 q) (hAX : ∀ q, q < H.size → AX q → A0 q)
    (kx : ∀ (E : String) (ce : Cell) (q9 : Addr) (u : SX) (t : State) (H1 : Heap) (locs1 : List Loc), t.heap = H1 → s.vm.Alike t.vm → px u → BX E u t → H.size ≤ H1.size → (∀ q : Nat, q < H.size → ¬ AX q → H1[q]? = H[q]?) → va_S A0 H0 H1 locs1 → H1[q9]? = some ce → ce.vm = .none → s.vm.findClass E = some ce.cls → vx_W p l e R s m args below meth c H1 locs1 (cells + mc) (slots + ms) Q (F0 m pc ls rest) q9)
    (kk : ∀ (r : Int64) (u : S) (t : State) (H1 : Heap) (locs1 : List Loc), t.heap = H1 → s.vm.Alike t.vm → post r u → B u t → H.size ≤ H1.size → (∀ q : Nat, q < H.size → ¬ A1 q → H1[q]? = H[q]?) → va_S A0 H0 H1 locs1 → W p l e R s m args below meth c H1 locs1 (cells + mc) (slots + ms) Q (F0 m (pc + 3) ls (.long r :: rest))) : W p l e R s m args below meth c H locs cells slots Q (F0 m pc ls st0) := by
  intro T hT X
  rcases hr T hT X with ⟨v, st₀, t, T', L, h0, X', hL, e1, e2, ⟨⟨r, u, hv, hp, hb⟩, hF⟩, st⟩ | ⟨q, st₀, t, T', L, E, ce, h0, X', hL, e1, e2, ⟨u, hp, hb, hF⟩, hce, hcv, hcl, st⟩
  · cases hv
    obtain ⟨k1, k2, k3⟩ := vx_keep h0 e1 hS hA hf hL hF
    obtain ⟨t2, a1, b1⟩ := kk r u t T'.heap (locs ++ L) e1.symm (by rw [← e2]; exact X'.warmed.alike) hp hb k1 k2 k3 T' rfl X'
    exact ⟨t2, st t2 a1, b1⟩
  · obtain ⟨k1, k2, k3⟩ := vx_keep h0 e1 hS hAX hf hL hF
    obtain ⟨t2, a1, b1⟩ := kx E ce q u t T'.heap (locs ++ L) e1.symm (by rw [← e2]; exact X'.warmed.alike) hp hb k1 k2 k3 (by rw [e1]; exact hce) hcv hcl T' rfl X'
    exact ⟨t2, st.trans a1, b1⟩
theorem vx_callf {S SX : Type} {post : UInt32 → S → Prop} {px : SX → Prop} {B : S → State → Prop} {BX : String → SX → State → Prop} {AX : Nat → Prop} (hr : vx_Run p l e R s m args below meth c H locs cells slots mc ms (F0 m pc ls st0) rest (va_Qf post B A1 a) (vx_X px BX AX) free) (hS : va_S A0 H0 H locs) (hA : ∀ q, q < H.size → A1 q → A0 q) (hf : ∀ q, free q → A0 q) (hAX : ∀ q, q < H.size → AX q → A0 q)
    (kx : ∀ (E : String) (ce : Cell) (q9 : Addr) (u : SX) (t : State) (H1 : Heap) (locs1 : List Loc), t.heap = H1 → s.vm.Alike t.vm → px u → BX E u t → H.size ≤ H1.size → (∀ q : Nat, q < H.size → ¬ AX q → H1[q]? = H[q]?) → va_S A0 H0 H1 locs1 → H1[q9]? = some ce → ce.vm = .none → s.vm.findClass E = some ce.cls → vx_W p l e R s m args below meth c H1 locs1 (cells + mc) (slots + ms) Q (F0 m pc ls rest) q9)
    (kk : ∀ (r : UInt32) (u : S) (t : State) (H1 : Heap) (locs1 : List Loc), t.heap = H1 → s.vm.Alike t.vm → post r u → B u t → H.size ≤ H1.size → (∀ q : Nat, q < H.size → ¬ A1 q → H1[q]? = H[q]?) → va_S A0 H0 H1 locs1 → W p l e R s m args below meth c H1 locs1 (cells + mc) (slots + ms) Q (F0 m (pc + 3) ls (.float r :: rest))) : W p l e R s m args below meth c H locs cells slots Q (F0 m pc ls st0) := by
  intro T hT X
  rcases hr T hT X with ⟨v, st₀, t, T', L, h0, X', hL, e1, e2, ⟨⟨r, u, hv, hp, hb⟩, hF⟩, st⟩ | ⟨q, st₀, t, T', L, E, ce, h0, X', hL, e1, e2, ⟨u, hp, hb, hF⟩, hce, hcv, hcl, st⟩
  · cases hv
    obtain ⟨k1, k2, k3⟩ := vx_keep h0 e1 hS hA hf hL hF
    obtain ⟨t2, a1, b1⟩ := kk r u t T'.heap (locs ++ L) e1.symm (by rw [← e2]; exact X'.warmed.alike) hp hb k1 k2 k3 T' rfl X'
    exact ⟨t2, st t2 a1, b1⟩
  · obtain ⟨k1, k2, k3⟩ := vx_keep h0 e1 hS hAX hf hL hF
    obtain ⟨t2, a1, b1⟩ := kx E ce q u t T'.heap (locs ++ L) e1.symm (by rw [← e2]; exact X'.warmed.alike) hp hb k1 k2 k3 (by rw [e1]; exact hce) hcv hcl T' rfl X'
    exact ⟨t2, st.trans a1, b1⟩
theorem vx_calld {S SX : Type} {post : UInt64 → S → Prop} {px : SX → Prop} {B : S → State → Prop} {BX : String → SX → State → Prop} {AX : Nat → Prop} (hr : vx_Run p l e R s m args below meth c H locs cells slots mc ms (F0 m pc ls st0) rest (va_Qd post B A1 a) (vx_X px BX AX) free) (hS : va_S A0 H0 H locs) (hA : ∀ q, q < H.size → A1 q → A0 q) (hf : ∀ q, free q → A0 q) (hAX : ∀ q, q < H.size → AX q → A0 q)
    (kx : ∀ (E : String) (ce : Cell) (q9 : Addr) (u : SX) (t : State) (H1 : Heap) (locs1 : List Loc), t.heap = H1 → s.vm.Alike t.vm → px u → BX E u t → H.size ≤ H1.size → (∀ q : Nat, q < H.size → ¬ AX q → H1[q]? = H[q]?) → va_S A0 H0 H1 locs1 → H1[q9]? = some ce → ce.vm = .none → s.vm.findClass E = some ce.cls → vx_W p l e R s m args below meth c H1 locs1 (cells + mc) (slots + ms) Q (F0 m pc ls rest) q9)
    (kk : ∀ (r : UInt64) (u : S) (t : State) (H1 : Heap) (locs1 : List Loc), t.heap = H1 → s.vm.Alike t.vm → post r u → B u t → H.size ≤ H1.size → (∀ q : Nat, q < H.size → ¬ A1 q → H1[q]? = H[q]?) → va_S A0 H0 H1 locs1 → W p l e R s m args below meth c H1 locs1 (cells + mc) (slots + ms) Q (F0 m (pc + 3) ls (.double r :: rest))) : W p l e R s m args below meth c H locs cells slots Q (F0 m pc ls st0) := by
  intro T hT X
  rcases hr T hT X with ⟨v, st₀, t, T', L, h0, X', hL, e1, e2, ⟨⟨r, u, hv, hp, hb⟩, hF⟩, st⟩ | ⟨q, st₀, t, T', L, E, ce, h0, X', hL, e1, e2, ⟨u, hp, hb, hF⟩, hce, hcv, hcl, st⟩
  · cases hv
    obtain ⟨k1, k2, k3⟩ := vx_keep h0 e1 hS hA hf hL hF
    obtain ⟨t2, a1, b1⟩ := kk r u t T'.heap (locs ++ L) e1.symm (by rw [← e2]; exact X'.warmed.alike) hp hb k1 k2 k3 T' rfl X'
    exact ⟨t2, st t2 a1, b1⟩
  · obtain ⟨k1, k2, k3⟩ := vx_keep h0 e1 hS hAX hf hL hF
    obtain ⟨t2, a1, b1⟩ := kx E ce q u t T'.heap (locs ++ L) e1.symm (by rw [← e2]; exact X'.warmed.alike) hp hb k1 k2 k3 (by rw [e1]; exact hce) hcv hcl T' rfl X'
    exact ⟨t2, st.trans a1, b1⟩
theorem vx_callv {S SX : Type} {post : S → Prop} {px : SX → Prop} {B : S → State → Prop} {BX : String → SX → State → Prop} {AX : Nat → Prop} (hr : vx_Run p l e R s m args below meth c H locs cells slots mc ms (F0 m pc ls st0) rest (va_Qv post B A1 a) (vx_X px BX AX) free) (hS : va_S A0 H0 H locs) (hA : ∀ q, q < H.size → A1 q → A0 q) (hf : ∀ q, free q → A0 q) (hAX : ∀ q, q < H.size → AX q → A0 q)
    (kx : ∀ (E : String) (ce : Cell) (q9 : Addr) (u : SX) (t : State) (H1 : Heap) (locs1 : List Loc), t.heap = H1 → s.vm.Alike t.vm → px u → BX E u t → H.size ≤ H1.size → (∀ q : Nat, q < H.size → ¬ AX q → H1[q]? = H[q]?) → va_S A0 H0 H1 locs1 → H1[q9]? = some ce → ce.vm = .none → s.vm.findClass E = some ce.cls → vx_W p l e R s m args below meth c H1 locs1 (cells + mc) (slots + ms) Q (F0 m pc ls rest) q9)
    (kk : ∀ (u : S) (t : State) (H1 : Heap) (locs1 : List Loc), t.heap = H1 → s.vm.Alike t.vm → post u → B u t → H.size ≤ H1.size → (∀ q : Nat, q < H.size → ¬ A1 q → H1[q]? = H[q]?) → va_S A0 H0 H1 locs1 → W p l e R s m args below meth c H1 locs1 (cells + mc) (slots + ms) Q (F0 m (pc + 3) ls (rest))) : W p l e R s m args below meth c H locs cells slots Q (F0 m pc ls st0) := by
  intro T hT X
  rcases hr T hT X with ⟨v, st₀, t, T', L, h0, X', hL, e1, e2, ⟨⟨u, hv, hp, hb⟩, hF⟩, st⟩ | ⟨q, st₀, t, T', L, E, ce, h0, X', hL, e1, e2, ⟨u, hp, hb, hF⟩, hce, hcv, hcl, st⟩
  · cases hv
    obtain ⟨k1, k2, k3⟩ := vx_keep h0 e1 hS hA hf hL hF
    obtain ⟨t2, a1, b1⟩ := kk u t T'.heap (locs ++ L) e1.symm (by rw [← e2]; exact X'.warmed.alike) hp hb k1 k2 k3 T' rfl X'
    exact ⟨t2, st t2 a1, b1⟩
  · obtain ⟨k1, k2, k3⟩ := vx_keep h0 e1 hS hAX hf hL hF
    obtain ⟨t2, a1, b1⟩ := kx E ce q u t T'.heap (locs ++ L) e1.symm (by rw [← e2]; exact X'.warmed.alike) hp hb k1 k2 k3 (by rw [e1]; exact hce) hcv hcl T' rfl X'
    exact ⟨t2, st.trans a1, b1⟩
/-- caught by the row x of this method's table; the rows ahead don't take it -/
theorem vx_catch {own name : String} {E : String} {ce : Cell} {q : Addr} (hown : s.vm.findClass own = some m.cls) (pre : List ExceptionTableEntry) (x : ExceptionTableEntry) (suf : List ExceptionTableEntry) (hsplit : c.exceptionTable.toList = pre ++ x :: suf)
    (hpass : ∀ z ∈ pre, covers z pc = false ∨ (z.catchType ≠ 0 ∧ ∃ nm : String, (Cond.classLink own z.catchType nm).before args s = true ∧ va_Nc E nm s)) (hx : covers x pc = true) (h0 : x.catchType ≠ 0)
    (hlink : (Cond.classLink own x.catchType name).before args s = true) (hcast : (Cond.castable E name).before args s = true) (hcell : H[q]? = some ce) (hv : ce.vm = .none) (hcl : s.vm.findClass E = some ce.cls)
    (kk : W p l e R s m args below meth c H locs cells slots Q (F0 m x.handlerPc ls [.ref q])) : vx_W p l e R s m args below meth c H locs cells slots Q (F0 m pc ls rest) q := by
  intro T hT X
  have hpl : e.platform.magicAccessors = ({} : Platform).magicAccessors := by rw [X.admits.platform]
  obtain ⟨c3, c4, hc3, hc4, hasg⟩ := Cond.castable_spec hcast
  cases Option.some.inj (hc3.symm.trans hcl)
  obtain ⟨c5, hc5, hcl5⟩ := Cond.classLink_spec hown hlink e.platform hpl
  cases Option.some.inj (hc4.symm.trans hc5)
  obtain ⟨vm', X', st⟩ := X.thenCaughtThrough q (g := F0 m pc ls rest) rfl (Steps.refl _) (by rw [hT]; exact hcell) (by rw [hv]; rfl) (by obtain ⟨k9, h9, -⟩ := Vm.findClass_spec hcl; exact ⟨k9, h9⟩) pre x suf hsplit
    (fun z hz => by
      rcases hpass z hz with h | ⟨hz0, nm, hl1, hn1⟩
      · exact Or.inl h
      · obtain ⟨c6, hc6, hcl6⟩ := Cond.classLink_spec hown hl1 e.platform hpl
        obtain ⟨a8, b8, h1, h2, h3⟩ := hn1
        cases Option.some.inj (h1.symm.trans hcl)
        cases Option.some.inj (h2.symm.trans hc6)
        exact Or.inr ⟨hz0, _, hcl6, h3⟩) hx (Or.inr ⟨h0, c4, hcl5, hasg⟩)
  obtain ⟨t, a1, b1⟩ := kk (T.setVm vm') hT X'
  exact ⟨t, st.trans a1, b1⟩
end Rows
section Ends
variable {p : Program} {l : Launch} {e : Env} {R : Room} {s : State} {m : MethodId} {args : Array Value} {below : List Frame} {meth : Method} {c : Code} {H : Heap} {locs : List Loc} {cells slots : Nat} {Q : State → Prop}
variable {mc ms : Nat} {free : Addr → Prop} {A0 A1 : Nat → Prop} {H0 : Heap} {a : Array Value} {ls : Array Slot} {st0 rest : List Value}
variable {Qc : Array Value → State → Outcome → State → Prop} {XC : String → State → State → Prop}
/-- what a body that may throw owes at its end -/
def vx_MQ (below : List Frame) (Qc : Array Value → State → Outcome → State → Prop) (XC : String → State → State → Prop) (a : Array Value) (s : State) (mc ms : Nat) (free : Addr → Prop) : State → Prop := fun t =>
  ∃ o, t.status = .running ∧ Ended t below o ∧ vx_Q Qc XC mc ms free a s o t
theorem vx_ret {g : JFrame} {mc ms : Nat} (k : W p l e R s m args below meth c H locs cells slots (MQ below Qc args s mc ms free) g) : W p l e R s m args below meth c H locs cells slots (vx_MQ below Qc XC args s mc ms free) g := by
  intro T hT X
  obtain ⟨t, a1, o, b1, b2, b3, b4⟩ := k T hT X
  exact ⟨t, a1, o, b1, b2, Or.inl ⟨b3, b4⟩⟩
/-- not caught here: it goes on to the caller -/
theorem vx_widen {g : JFrame} {q : Addr} {k n : Nat} (h1 : cells ≤ k) (h2 : slots ≤ n) (kk : vx_W p l e R s m args below meth c H locs k n Q g q) : vx_W p l e R s m args below meth c H locs cells slots Q g q := fun T hT X => kk T hT (stand_widen X h1 h2)
theorem vx_out {pc : Nat} {E : String} {ce : Cell} {q : Addr} {mc ms : Nat} (hout : ∀ x ∈ c.exceptionTable.toList, covers x pc = false) (hlocks : meth.locks = false) (hcell : H[q]? = some ce) (hv : ce.vm = .none) (hcl : s.vm.findClass E = some ce.cls)
    (hx : ∀ t : State, t.heap = H → s.vm.Alike t.vm → XC E s t) (hf : ∀ z ∈ locs, free z.base) (hc : cells ≤ mc) (hs : slots ≤ ms) :
    vx_W p l e R s m args below meth c H locs cells slots (vx_MQ below Qc XC args s mc ms free) (F0 m pc ls rest) q := by
  intro T hT X
  obtain ⟨st1, hrun, hend, hW, hsm⟩ := X.leaveThrown q (g := F0 m pc ls rest) rfl rfl rfl hout hlocks
  have hcell9 : (T.setFrames (.throwing q :: below)).heap[q]? = some ce := by
    show T.heap[q]? = some ce
    rw [hT]; exact hcell
  exact ⟨_, st1, .threw q, hrun, hend, Or.inr ⟨q, rfl, E, ce, locs, hx _ hT hW.alike, hcell9, hv, hcl, hW, hsm.mono hc hs, hf⟩⟩
theorem vx_frame {U : State} {k n : Nat} (h : s.sameButNew ({ U with vm := s.vm } : State) locs k n) : s.heap.size ≤ U.heap.size ∧ ∀ q : Nat, q < s.heap.size → (∀ z ∈ locs, z.base ≠ q) → U.heap[q]? = s.heap[q]? := by
  obtain ⟨-, h2, -, -, -, h6⟩ := h
  refine ⟨h2, fun q hq hz => ?_⟩
  obtain ⟨c9, e1, e2, e3, e4⟩ := h6 q _ (Array.getElem?_eq_getElem hq)
  have hs : c9.slots = (s.heap[q]).slots := Array.ext_getElem? fun i => e4 i fun hm => hz _ hm rfl
  have h9 : c9 = s.heap[q] := by
    rw [hs] at e2
    exact e2
  have e5 : U.heap[q]? = some c9 := e1
  rw [e5, h9, Array.getElem?_eq_getElem hq]
/-- the words of a throw but the four that speak of the heap -/
def vx_no (w : Cond) : Bool := decide (w ≠ .isRef (.static Bundle.tN "UNASSIGNED_STACK" Bundle.steD)) && decide (w ≠ .isRef (.static Bundle.tN "SUPPRESSED_SENTINEL" Bundle.listD)) && decide (w ≠ .laysStatic Bundle.tN "UNASSIGNED_STACK" Bundle.steD) && decide (w ≠ .laysStatic Bundle.tN "SUPPRESSED_SENTINEL" Bundle.listD)
def vx_at0 (own : String) (ic : Nat) (X : String) (names : List String) : List Cond := (Bundle.ownAtoms0 own ic X names).filter vx_no
def vx_atS (own : String) (ic : Nat) (X : String) (names : List String) : List Cond := (Bundle.ownAtoms own ic X names).filter vx_no
/-- a word that the tables alone decide, or a good one -/
def vx_ot (w : Cond) : Bool := w.onTables || goodWord w
theorem vx_ot_at {args a' : Array Value} {s U : State} {w : Cond} (hW : s.WarmedH U.vm) (hvm : s.vm = U.vm) (hg : vx_ot w = true) (h : w.before args s = true) : w.before a' U = true := by
  simp only [vx_ot, Bool.or_eq_true] at hg
  rcases hg with hg | hg
  · exact va_tabs hg hvm h
  · exact word_at hW (good_of_word hg) h
/-- a list's words: the good ones out of the method's own list, the others by premises of their own -/
theorem vx_hat {args : Array Value} {s : State} {L B : List Cond} (h1 : ∀ w ∈ L.filter goodWord, w.before args s = true) (h2 : ∀ w ∈ L.filter (fun w => !goodWord w), w ∈ B) (h3 : ∀ w ∈ B, w.before args s = true) : ∀ w ∈ L, w.before args s = true := by
  intro w hw
  by_cases g : goodWord w = true
  · exact h1 w (List.mem_filter.mpr ⟨hw, g⟩)
  · refine h3 w (h2 w (List.mem_filter.mpr ⟨hw, ?_⟩))
    show (!goodWord w) = true
    cases hgw : goodWord w
    · rfl
    · exact absurd hgw g
theorem vx_c {args : Array Value} {s : State} {w : Cond} {B : List Cond} (h : w.before args s = true) (t : ∀ w ∈ B, w.before args s = true) : ∀ w' ∈ w :: B, w'.before args s = true := fun w' h' => (List.mem_cons.mp h').elim (fun e => by rw [e]; exact h) (t w')
theorem vx_n {args : Array Value} {s : State} : ∀ w ∈ ([] : List Cond), w.before args s = true := fun _ h => nomatch h
theorem vx_own {args : Array Value} {s : State} {L : List Cond} (h1 : ∀ w ∈ L.filter vx_no, w.before args s = true)
    (hU : (Cond.isRef (.static Bundle.tN "UNASSIGNED_STACK" Bundle.steD)).before args s = true) (hN : (Cond.isRef (.static Bundle.tN "SUPPRESSED_SENTINEL" Bundle.listD)).before args s = true)
    (lU : (Cond.laysStatic Bundle.tN "UNASSIGNED_STACK" Bundle.steD).before args s = true) (lN : (Cond.laysStatic Bundle.tN "SUPPRESSED_SENTINEL" Bundle.listD).before args s = true) : ∀ w ∈ L, w.before args s = true := by
  intro w hw
  by_cases e1 : w = .isRef (.static Bundle.tN "UNASSIGNED_STACK" Bundle.steD)
  · rw [e1]; exact hU
  · by_cases e2 : w = .isRef (.static Bundle.tN "SUPPRESSED_SENTINEL" Bundle.listD)
    · rw [e2]; exact hN
    · by_cases e3 : w = .laysStatic Bundle.tN "UNASSIGNED_STACK" Bundle.steD
      · rw [e3]; exact lU
      · by_cases e4 : w = .laysStatic Bundle.tN "SUPPRESSED_SENTINEL" Bundle.listD
        · rw [e4]; exact lN
        · exact h1 w (List.mem_filter.mpr ⟨hw, by unfold vx_no; rw [decide_eq_true e1, decide_eq_true e2, decide_eq_true e3, decide_eq_true e4]; rfl⟩)
/-- where a static field lies, its class's statics cell in H -/
def vx_L (C n d : String) (A : Nat → Prop) (U : State) (H : Heap) : Prop := ∃ (c : ClassId) (k : Class) (i : Nat) (f : Field) (a : Nat) (cell : Cell), U.vm.findClass C = some c ∧ U.fieldFound? C n d = some (c, k, i, f) ∧ f.isStatic = true ∧ k.statics = some a ∧ H[a]? = some cell ∧ cell.vm.isStatics = true ∧ cell.cls = c ∧ f.slot < cell.slots.size ∧ k.staticTypes[f.slot]? = some f.type ∧ ¬ A a
theorem vx_L.moved {C n d : String} {A : Nat → Prop} {u U : State} {H : Heap} (hvm : u.vm.Alike U.vm) (h : vx_L C n d A u H) : vx_L C n d A U H := by
  obtain ⟨c, k, i, f, a, cell, h1, h2, h3, h4, h5, h6, h7, h8, h9, h10⟩ := h
  obtain ⟨k', hi', he⟩ := State.fieldFound?_setVm hvm h2
  exact ⟨c, k', i, f, a, cell, by rw [hvm.findClass]; exact h1, hi', h3, by rw [he]; exact h4, h5, h6, h7, h8, by rw [he]; exact h9, h10⟩
theorem vx_L.kept {C n d : String} {A : Nat → Prop} {U : State} {H H1 : Heap} (h : vx_L C n d A U H) (hq : ∀ a : Nat, a < H.size → ¬ A a → H1[a]? = H[a]?) : vx_L C n d A U H1 := by
  obtain ⟨c, k, i, f, a, cell, h1, h2, h3, h4, h5, h6, h7, h8, h9, h10⟩ := h
  exact ⟨c, k, i, f, a, cell, h1, h2, h3, h4, by rw [hq a (Array.getElem?_eq_some_iff.mp h5).1 h10]; exact h5, h6, h7, h8, h9, h10⟩
theorem vx_L.narrow {C n d : String} {A B : Nat → Prop} {U : State} {H : Heap} (h : vx_L C n d A U H) (hAB : ∀ q, B q → A q) : vx_L C n d B U H := by
  obtain ⟨c, k, i, f, a, cell, h1, h2, h3, h4, h5, h6, h7, h8, h9, h10⟩ := h
  exact ⟨c, k, i, f, a, cell, h1, h2, h3, h4, h5, h6, h7, h8, h9, fun z => h10 (hAB _ z)⟩
theorem vx_L.word {C n d : String} {A : Nat → Prop} {s : State} {args : Array Value} (h : vx_L C n d A s s.heap) : (Cond.laysStatic C n d).before args s = true := by
  obtain ⟨c, k, i, f, a, cell, h1, h2, h3, h4, h5, h6, h7, h8, h9, -⟩ := h
  show (Cond.laysStatic C n d).holds args s none s [] = true
  exact Cond.laysStatic_of h1 h2 h3 h4 h5 h6 h7 h8 h9
/-- .. and what it holds: null or some reference -/
def vx_Zq (C n d : String) (A : Nat → Prop) (U : State) (H : Heap) : Prop := va_Zq C n d A U H ∧ vx_L C n d A U H
theorem vx_Zq.moved {C n d : String} {A : Nat → Prop} {u U : State} {H : Heap} (hvm : u.vm.Alike U.vm) (h : vx_Zq C n d A u H) : vx_Zq C n d A U H := ⟨va_Zq.moved hvm h.1, vx_L.moved hvm h.2⟩
theorem vx_Zq.kept {C n d : String} {A : Nat → Prop} {U : State} {H H1 : Heap} (h : vx_Zq C n d A U H) (hq : ∀ a : Nat, a < H.size → ¬ A a → H1[a]? = H[a]?) : vx_Zq C n d A U H1 := ⟨va_Zq.kept h.1 hq, vx_L.kept h.2 hq⟩
theorem vx_Zq.narrow {C n d : String} {A B : Nat → Prop} {U : State} {H : Heap} (h : vx_Zq C n d A U H) (hAB : ∀ q, B q → A q) : vx_Zq C n d B U H := ⟨va_Zq.narrow h.1 hAB, vx_L.narrow h.2 hAB⟩
theorem vx_Zqof {args : Array Value} {s : State} {C n d : String} {A : Nat → Prop} (hl : (Cond.laysStatic C n d).before args s = true) (hini : (Cond.initialized C).before args s = true) (h : (Cond.isRef (.static C n d)).before args s = true) (hA : ∀ a : Nat, a < s.heap.size → ¬ A a) : vx_Zq C n d A s s.heap := by
  refine ⟨va_Zqof hl hini h hA, ?_⟩
  obtain ⟨c, k, i, f, a, cell, h1, h2, h3, h4, h5, h6, h7, h8, h9⟩ := Cond.laysStatic_spec hl
  exact ⟨c, k, i, f, a, cell, h1, h2, h3, h4, h5, h6, h7, h8, h9, hA a (Array.getElem?_eq_some_iff.mp h5).1⟩
theorem vx_isRef {C n d : String} {v : Value} {A : Nat → Prop} {s : State} {args : Array Value} (h : va_Z C n d v A s s.heap) (hv : v.isRef = true) : (Cond.isRef (.static C n d)).before args s = true := by
  obtain ⟨cf, kf, fi, f, a, cell, h1, h2, h3, h4, h5, h6, h7, -⟩ := h
  have he : (Term.static C n d).eval args s none [] s = some v := by
    simp [Term.eval, State.fieldNamed?, h1, h2, h4, h5, h6, h7]
  simp only [Cond.before, Cond.holds, Cond.value, he]
  cases v <;> simp_all [Value.isRef]
theorem vx_isRefq {C n d : String} {A : Nat → Prop} {s : State} {args : Array Value} (h : va_Zq C n d A s s.heap) : (Cond.isRef (.static C n d)).before args s = true := by
  rcases h with h | ⟨t, h⟩
  · exact vx_isRef h rfl
  · exact vx_isRef h rfl
/-- the same frame, seen from here: as if the method were called anew in this heap -/
theorem vx_rebase {T : State} (X : Stand p l e R s m args below meth c T locs cells slots) {R' : Room} (hf : R'.frames ≤ R.frames) (hl : R'.locals ≤ R.locals) (hc : cells + R'.cells ≤ R.cells) (hs : slots + R'.slots ≤ R.slots) :
    Stand p l e R' ((T.setVm s.vm).setFrames (.invoking m args :: below)) m args below meth c T [] 0 0 := by
  have htop : (T.setVm s.vm).topJava?.isSome := X.here.top
  have hF : ((T.setVm s.vm).setFrames (.invoking m args :: below)).frames = .invoking m args :: below := State.frames_setFrames _ (State.cur_lt_of_top htop)
  obtain ⟨g₀, hg0⟩ := Option.isSome_iff_exists.mp htop
  obtain ⟨r, hr⟩ := State.topJava?_eq_some.mp hg0
  have hl9 : e.platform.stackLimits (T.setVm s.vm).me = e.platform.stackLimits s.me := X.limits
  have hb9 : (T.setVm s.vm).me.stackBytes = s.me.stackBytes := X.bytes
  refine ⟨X.admits, X.cas, X.clock, hF, ?_, X.hears, X.method, X.code, X.here, X.tail, X.warmed, ?_, ?_, ?_⟩
  · have h := X.room
    have hU : ((T.setVm s.vm).setFrames (.invoking m args :: below)).localsInUse = s.localsInUse := by
      rw [State.localsInUse_invoking hF (meth := meth) (c := c) X.method X.code, State.localsInUse_invoking X.frames X.method X.code]
    simp only [State.hasRoom, Bool.and_eq_true, decide_eq_true_eq] at h ⊢
    obtain ⟨⟨⟨⟨h1, h2, h3, h4, h5, h6⟩, h7⟩, h8⟩, h9⟩ := h
    rw [X.frames, List.length_cons] at h2 h3
    have q1 := X.heapSize
    have q2 := X.used
    simp only [hF, hU, List.length_cons, State.stackLimits_setFrames, State.stackBytes_setFrames, hl9, hb9]
    refine ⟨⟨⟨⟨by omega, by omega, by omega, by omega, by omega, h6⟩, ?_⟩, ?_⟩, X.book⟩
    · show T.heap.size + R'.cells ≤ e.platform.maxCells
      omega
    · show T.slotsUsed + R'.slots ≤ e.platform.maxSlots
      omega
  · rw [State.stackLimits_setFrames]; rfl
  · rw [State.stackBytes_setFrames]; rfl
  · refine ⟨?_, Nat.le_refl _, Nat.le_refl _, ?_, ?_, fun a c9 h9 => ⟨c9, h9, rfl, rfl, fun _ _ => rfl⟩⟩
    · obtain ⟨t, ht, -⟩ := State.frames_cons hr
      show T.setVm s.vm = { ((T.setVm s.vm).setFrames (.invoking m args :: below)).setFrames (T.setVm s.vm).frames with heap := T.heap, slotsUsed := T.slotsUsed }
      rw [State.setFrames_setFrames, State.setFrames_self ht]
      rfl
    · show T.slotsUsed = T.slotsUsed + ((T.heap.toList.drop T.heap.size).map (·.slots.size)).sum
      rw [List.drop_eq_nil_of_le (Nat.le_of_eq Array.length_toList)]
      rfl
    · show ((T.heap.toList.drop T.heap.size).map (·.slots.size)).sum ≤ 0
      rw [List.drop_eq_nil_of_le (Nat.le_of_eq Array.length_toList)]
      exact Nat.le_refl _
/-- 'throw new E()': new; dup; invokespecial; athrow -/
theorem vx_throw0 {cc : ByteArray} {pc : Nat} (hexec : p.tables.exec = Jvm.exec) (hb : c.code = cc) (hl : l.stackTraces = false) {own cls : String} {names : List String} {ik ic mc ms : Nat} {A : Nat → Prop}
    (hown : s.vm.findClass own = some m.cls) (hcls : Bundle.fit cls = true) (hnames : ∀ n ∈ names, Bundle.fit n = true)
    (hk : (Cond.classLink own ik cls).before args s = true) (hini : (Cond.initialized cls).before args s = true) (hat : ∀ w ∈ vx_at0 own ic cls names, w.before args s = true)
    (hgood : ∀ w ∈ Cond.classLink own ik cls :: Cond.initialized cls :: vx_at0 own ic cls names, vx_ot w = true)
    (hU : vx_Zq Bundle.tN "UNASSIGNED_STACK" Bundle.steD A s s.heap) (hN : vx_Zq Bundle.tN "SUPPRESSED_SENTINEL" Bundle.listD A s s.heap) (hS : va_S A s.heap H locs) (hsize : ls.size = c.maxLocals)
    (d0 : decode cc pc = .ok (.new ik, 3)) (d3 : decode cc (pc + 3) = .ok (.dup, 1)) (d4 : decode cc (pc + 4) = .ok (.invokespecial ic, 3)) (d7 : decode cc (pc + 7) = .ok (.athrow, 1))
    (hout : ∀ x ∈ c.exceptionTable.toList, covers x (pc + 7) = false)
    (hRframes : names.length + 3 < R.frames) (hRlocals : (rest.map fun v => v.category).sum + (13 * (names.length + 1) + 42) ≤ R.locals) (hRcells : cells + 1 ≤ R.cells) (hRslots : slots + 6 ≤ R.slots) (hlocks : meth.locks = false)
    (hx : ∀ t : State, s.vm.Alike t.vm → H.size ≤ t.heap.size → (∀ q : Nat, q < H.size → t.heap[q]? = H[q]?) → XC cls s t)
    (hf : ∀ z ∈ locs, free z.base) (hc : cells + 1 ≤ mc) (hs : slots + 6 ≤ ms) :
    W p l e R s m args below meth c H locs cells slots (vx_MQ below Qc XC args s mc ms free) (F0 m pc ls rest) := by
  intro T hT X
  have htr : e.platform.stackTraces = false := (show e.platform.stackTraces = l.stackTraces by rw [X.admits.platform]).trans hl
  have Y := vx_rebase X (R' := { frames := R.frames, locals := R.locals, cells := 1, slots := 6 }) (Nat.le_refl _) (Nat.le_refl _) hRcells hRslots
  obtain ⟨s', hA⟩ : ∃ z, z = (T.setVm s.vm).setFrames (.invoking m args :: below) := ⟨_, rfl⟩
  rw [← hA] at Y
  have hvm : s'.vm = s.vm := by rw [hA]; rfl
  have hhp : s'.heap = H := by rw [hA]; exact hT
  have hW0 : s.WarmedH s'.vm := by rw [hvm]; exact State.WarmedH.refl s
  have hat' : ∀ w ∈ vx_at0 own ic cls names, w.before args s' = true := fun w hw => vx_ot_at hW0 hvm.symm (hgood w (List.mem_cons_of_mem _ (List.mem_cons_of_mem _ hw))) (hat w hw)
  have hk' : (Cond.classLink own ik cls).before args s' = true := vx_ot_at hW0 hvm.symm (hgood _ List.mem_cons_self) hk
  have hini' : (Cond.initialized cls).before args s' = true := vx_ot_at hW0 hvm.symm (hgood _ (List.mem_cons_of_mem _ List.mem_cons_self)) hini
  have hU' : vx_Zq Bundle.tN "UNASSIGNED_STACK" Bundle.steD A s' s'.heap := by rw [hhp]; exact vx_Zq.moved hW0.alike (hU.kept hS.2.1)
  have hN' : vx_Zq Bundle.tN "SUPPRESSED_SENTINEL" Bundle.listD A s' s'.heap := by rw [hhp]; exact vx_Zq.moved hW0.alike (hN.kept hS.2.1)
  have h : ∀ w ∈ Bundle.ownAtoms0 own ic cls names, w.before args s' = true := vx_own hat' (vx_isRefq hU'.1) (vx_isRefq hN'.1) hU'.2.word hN'.2.word
  have hown' : s'.vm.findClass own = some m.cls := by rw [hvm]; exact hown
  have hins : (Cond.instantiable cls 6).before args s' = true := h _ (by simp [Bundle.ownAtoms0])
  obtain ⟨vm₁, cX, kX, hfX, hkX, -, -, X₁, st1⟩ := Y.newCold hexec (own := own) (C := cls) (index := ik) (n := 6) hown' hk' hins hini'
    (g := F0 m pc ls rest) rfl (by rw [hb]; exact d0) (Nat.le_refl _) (Nat.le_refl _)
  generalize hT1 : (T.setVm vm₁).pushCell { cls := cX, slots := kX.instanceTypes.map defaultValue, vm := .none } = T1 at X₁ st1
  have hcat : (Value.ref T.heap.size).category = 1 := rfl
  have hcellA : T1.heap[T.heap.size]? = some (freshCell cX kX) := by rw [← hT1]; exact State.heap_pushCell_size _ _
  have d3' : decode c.code (pc + 3) = .ok (.dup, 1) := by rw [hb]; exact d3
  obtain ⟨U, hsteps, hrun, hend, hW, hsame, ce, hce, hO⟩ := X₁.ctorThrow0 hexec htr (own := own) (cls := cls) (names := names) (ic := ic) hown' hcls hnames h (fun x hx => nomatch hx) hfX hkX hcellA (by rw [hhp, hT]; exact Nat.le_refl _)
    (g := { method := m, pc := pc + 4, locals := ls, stack := .ref T.heap.size :: .ref T.heap.size :: rest, locked := none }) rfl hsize rfl rfl (rest := rest) rfl
    (by rw [hb]; exact d4) (by rw [hb]; exact d7) hout hRframes (by simp only [List.map_cons, List.sum_cons, hcat]; omega) hlocks
  obtain ⟨f1, f2⟩ := vx_frame hsame
  rw [hhp] at f1 f2
  have hWs : s.WarmedH U.vm := State.WarmedH.trans hW0 hW
  have hcl : s.vm.findClass cls = some ce.cls := by
    have h9 := hO.cls
    rw [hvm] at h9
    exact h9
  have hall : s.sameButNew ({ U with vm := s.vm } : State) locs mc ms := by
    subst hA
    obtain ⟨e1, e2⟩ := hsame
    rw [State.setFrames_setFrames] at e1
    have h2 : (T.setVm s.vm).sameButNew ({ U with vm := s.vm } : State) [] (0 + 1) (0 + 6) := ⟨e1, e2⟩
    have h3 := X.same.trans h2
    rw [List.append_nil] at h3
    exact h3.mono hc hs
  refine ⟨U, ?_, .threw T.heap.size, hrun, hend, Or.inr ⟨T.heap.size, rfl, cls, ce, locs, hx U hWs.alike f1 (fun q hq => f2 q hq (fun z hz => nomatch hz)), hce, hO.vm, hcl, hWs, hall, hf⟩⟩
  refine st1 _ ?_
  show Steps p.tables e below (T1.setTop { method := m, pc := pc + 3, locals := ls, stack := .ref T.heap.size :: rest, locked := none }) _
  jvm_step X₁.here [X₁.here.top, hexec, d3', Value.category]
  exact hsteps
/-- 'throw new E("text")': new; dup; ldc; invokespecial; athrow -/
theorem vx_throwS {cc : ByteArray} {pc : Nat} (hexec : p.tables.exec = Jvm.exec) (hb : c.code = cc) (hl : l.stackTraces = false) {own cls text : String} {names : List String} {ik is ic mc ms sa : Nat} {A : Nat → Prop}
    (hown : s.vm.findClass own = some m.cls) (hcls : Bundle.fit cls = true) (hnames : ∀ n ∈ names, Bundle.fit n = true)
    (hk : (Cond.classLink own ik cls).before args s = true) (hini : (Cond.initialized cls).before args s = true) (hstr : vk_R own is text sa s) (hat : ∀ w ∈ vx_atS own ic cls names, w.before args s = true)
    (hgood : ∀ w ∈ Cond.classLink own ik cls :: Cond.initialized cls :: vx_atS own ic cls names, vx_ot w = true)
    (hU : vx_Zq Bundle.tN "UNASSIGNED_STACK" Bundle.steD A s s.heap) (hN : vx_Zq Bundle.tN "SUPPRESSED_SENTINEL" Bundle.listD A s s.heap) (hS : va_S A s.heap H locs) (hsize : ls.size = c.maxLocals)
    (d0 : decode cc pc = .ok (.new ik, 3)) (d3 : decode cc (pc + 3) = .ok (.dup, 1)) (d4 : decode cc (pc + 4) = .ok (.ldc is, 2)) (d6 : decode cc (pc + 6) = .ok (.invokespecial ic, 3)) (d9 : decode cc (pc + 9) = .ok (.athrow, 1))
    (hout : ∀ x ∈ c.exceptionTable.toList, covers x (pc + 9) = false)
    (hRframes : names.length + 3 < R.frames) (hRlocals : (rest.map fun v => v.category).sum + (13 * (names.length + 1) + 43) ≤ R.locals) (hRcells : cells + 1 ≤ R.cells) (hRslots : slots + 6 ≤ R.slots) (hlocks : meth.locks = false)
    (hx : ∀ t : State, s.vm.Alike t.vm → H.size ≤ t.heap.size → (∀ q : Nat, q < H.size → t.heap[q]? = H[q]?) → XC cls s t)
    (hf : ∀ z ∈ locs, free z.base) (hc : cells + 1 ≤ mc) (hs : slots + 6 ≤ ms) :
    W p l e R s m args below meth c H locs cells slots (vx_MQ below Qc XC args s mc ms free) (F0 m pc ls rest) := by
  intro T hT X
  have htr : e.platform.stackTraces = false := (show e.platform.stackTraces = l.stackTraces by rw [X.admits.platform]).trans hl
  have Y := vx_rebase X (R' := { frames := R.frames, locals := R.locals, cells := 1, slots := 6 }) (Nat.le_refl _) (Nat.le_refl _) hRcells hRslots
  obtain ⟨s', hA⟩ : ∃ z, z = (T.setVm s.vm).setFrames (.invoking m args :: below) := ⟨_, rfl⟩
  rw [← hA] at Y
  have hvm : s'.vm = s.vm := by rw [hA]; rfl
  have hhp : s'.heap = H := by rw [hA]; exact hT
  have hW0 : s.WarmedH s'.vm := by rw [hvm]; exact State.WarmedH.refl s
  have hat' : ∀ w ∈ vx_atS own ic cls names, w.before args s' = true := fun w hw => vx_ot_at hW0 hvm.symm (hgood w (List.mem_cons_of_mem _ (List.mem_cons_of_mem _ hw))) (hat w hw)
  have hk' : (Cond.classLink own ik cls).before args s' = true := vx_ot_at hW0 hvm.symm (hgood _ List.mem_cons_self) hk
  have hini' : (Cond.initialized cls).before args s' = true := vx_ot_at hW0 hvm.symm (hgood _ (List.mem_cons_of_mem _ List.mem_cons_self)) hini
  have hU' : vx_Zq Bundle.tN "UNASSIGNED_STACK" Bundle.steD A s' s'.heap := by rw [hhp]; exact vx_Zq.moved hW0.alike (hU.kept hS.2.1)
  have hN' : vx_Zq Bundle.tN "SUPPRESSED_SENTINEL" Bundle.listD A s' s'.heap := by rw [hhp]; exact vx_Zq.moved hW0.alike (hN.kept hS.2.1)
  have h : ∀ w ∈ Bundle.ownAtoms own ic cls names, w.before args s' = true := vx_own hat' (vx_isRefq hU'.1) (vx_isRefq hN'.1) hU'.2.word hN'.2.word
  have hown' : s'.vm.findClass own = some m.cls := by rw [hvm]; exact hown
  have hins : (Cond.instantiable cls 6).before args s' = true := h _ (by simp [Bundle.ownAtoms])
  obtain ⟨vm₁, cX, kX, hfX, hkX, -, -, X₁, st1⟩ := Y.newCold hexec (own := own) (C := cls) (index := ik) (n := 6) hown' hk' hins hini'
    (g := F0 m pc ls rest) rfl (by rw [hb]; exact d0) (Nat.le_refl _) (Nat.le_refl _)
  generalize hT1 : (T.setVm vm₁).pushCell { cls := cX, slots := kX.instanceTypes.map defaultValue, vm := .none } = T1 at X₁ st1
  have hcat : (Value.ref T.heap.size).category = 1 := rfl
  have hcellA : T1.heap[T.heap.size]? = some (freshCell cX kX) := by rw [← hT1]; exact State.heap_pushCell_size _ _
  have d3' : decode c.code (pc + 3) = .ok (.dup, 1) := by rw [hb]; exact d3
  have d4' : decode c.code (pc + 4) = .ok (.ldc is, 2) := by rw [hb]; exact d4
  have hstr' : vk_R own is text sa s' := vk_R.warm hW0 hstr
  obtain ⟨U, hsteps, hrun, hend, hW, hsame, ce, hce, hO⟩ := X₁.ctorThrowS hexec htr (own := own) (cls := cls) (names := names) (ic := ic) hown' hcls hnames h (fun x hx => nomatch hx) hfX hkX hcellA (by rw [hhp, hT]; exact Nat.le_refl _) (msg := .ref sa) rfl
    (g := { method := m, pc := pc + 6, locals := ls, stack := .ref sa :: .ref T.heap.size :: .ref T.heap.size :: rest, locked := none }) rfl hsize rfl rfl (rest := rest) rfl
    (by rw [hb]; exact d6) (by rw [hb]; exact d9) hout hRframes (by simp only [List.map_cons, List.sum_cons, hcat]; omega) hlocks
  obtain ⟨f1, f2⟩ := vx_frame hsame
  rw [hhp] at f1 f2
  have hWs : s.WarmedH U.vm := State.WarmedH.trans hW0 hW
  have hcl : s.vm.findClass cls = some ce.cls := by
    have h9 := hO.cls
    rw [hvm] at h9
    exact h9
  have hall : s.sameButNew ({ U with vm := s.vm } : State) locs mc ms := by
    subst hA
    obtain ⟨e1, e2⟩ := hsame
    rw [State.setFrames_setFrames] at e1
    have h2 : (T.setVm s.vm).sameButNew ({ U with vm := s.vm } : State) [] (0 + 1) (0 + 6) := ⟨e1, e2⟩
    have h3 := X.same.trans h2
    rw [List.append_nil] at h3
    exact h3.mono hc hs
  refine ⟨U, ?_, .threw T.heap.size, hrun, hend, Or.inr ⟨T.heap.size, rfl, cls, ce, locs, hx U hWs.alike f1 (fun q hq => f2 q hq (fun z hz => nomatch hz)), hce, hO.vm, hcl, hWs, hall, hf⟩⟩
  refine st1 _ ?_
  show Steps p.tables e below (T1.setTop { method := m, pc := pc + 3, locals := ls, stack := .ref T.heap.size :: rest, locked := none }) _
  jvm_step X₁.here [X₁.here.top, hexec, d3', Value.category]
  exact X₁.ldcString hexec (own := own) (text := text) (index := is) (a := sa) hown' hstr'.1 hstr'.2
    (g := { method := m, pc := pc + 4, locals := ls, stack := .ref T.heap.size :: .ref T.heap.size :: rest, locked := none }) rfl d4' _ hsteps
/-- 'throw new E("text")', the text by a wide index -/
theorem vx_throwSW {cc : ByteArray} {pc : Nat} (hexec : p.tables.exec = Jvm.exec) (hb : c.code = cc) (hl : l.stackTraces = false) {own cls text : String} {names : List String} {ik is ic mc ms sa : Nat} {A : Nat → Prop}
    (hown : s.vm.findClass own = some m.cls) (hcls : Bundle.fit cls = true) (hnames : ∀ n ∈ names, Bundle.fit n = true)
    (hk : (Cond.classLink own ik cls).before args s = true) (hini : (Cond.initialized cls).before args s = true) (hstr : vk_R own is text sa s) (hat : ∀ w ∈ vx_atS own ic cls names, w.before args s = true)
    (hgood : ∀ w ∈ Cond.classLink own ik cls :: Cond.initialized cls :: vx_atS own ic cls names, vx_ot w = true)
    (hU : vx_Zq Bundle.tN "UNASSIGNED_STACK" Bundle.steD A s s.heap) (hN : vx_Zq Bundle.tN "SUPPRESSED_SENTINEL" Bundle.listD A s s.heap) (hS : va_S A s.heap H locs) (hsize : ls.size = c.maxLocals)
    (d0 : decode cc pc = .ok (.new ik, 3)) (d3 : decode cc (pc + 3) = .ok (.dup, 1)) (d4 : decode cc (pc + 4) = .ok (.ldc_w is, 3)) (d7 : decode cc (pc + 7) = .ok (.invokespecial ic, 3)) (d10 : decode cc (pc + 10) = .ok (.athrow, 1))
    (hout : ∀ x ∈ c.exceptionTable.toList, covers x (pc + 10) = false)
    (hRframes : names.length + 3 < R.frames) (hRlocals : (rest.map fun v => v.category).sum + (13 * (names.length + 1) + 43) ≤ R.locals) (hRcells : cells + 1 ≤ R.cells) (hRslots : slots + 6 ≤ R.slots) (hlocks : meth.locks = false)
    (hx : ∀ t : State, s.vm.Alike t.vm → H.size ≤ t.heap.size → (∀ q : Nat, q < H.size → t.heap[q]? = H[q]?) → XC cls s t)
    (hf : ∀ z ∈ locs, free z.base) (hc : cells + 1 ≤ mc) (hs : slots + 6 ≤ ms) :
    W p l e R s m args below meth c H locs cells slots (vx_MQ below Qc XC args s mc ms free) (F0 m pc ls rest) := by
  intro T hT X
  have htr : e.platform.stackTraces = false := (show e.platform.stackTraces = l.stackTraces by rw [X.admits.platform]).trans hl
  have Y := vx_rebase X (R' := { frames := R.frames, locals := R.locals, cells := 1, slots := 6 }) (Nat.le_refl _) (Nat.le_refl _) hRcells hRslots
  obtain ⟨s', hA⟩ : ∃ z, z = (T.setVm s.vm).setFrames (.invoking m args :: below) := ⟨_, rfl⟩
  rw [← hA] at Y
  have hvm : s'.vm = s.vm := by rw [hA]; rfl
  have hhp : s'.heap = H := by rw [hA]; exact hT
  have hW0 : s.WarmedH s'.vm := by rw [hvm]; exact State.WarmedH.refl s
  have hat' : ∀ w ∈ vx_atS own ic cls names, w.before args s' = true := fun w hw => vx_ot_at hW0 hvm.symm (hgood w (List.mem_cons_of_mem _ (List.mem_cons_of_mem _ hw))) (hat w hw)
  have hk' : (Cond.classLink own ik cls).before args s' = true := vx_ot_at hW0 hvm.symm (hgood _ List.mem_cons_self) hk
  have hini' : (Cond.initialized cls).before args s' = true := vx_ot_at hW0 hvm.symm (hgood _ (List.mem_cons_of_mem _ List.mem_cons_self)) hini
  have hU' : vx_Zq Bundle.tN "UNASSIGNED_STACK" Bundle.steD A s' s'.heap := by rw [hhp]; exact vx_Zq.moved hW0.alike (hU.kept hS.2.1)
  have hN' : vx_Zq Bundle.tN "SUPPRESSED_SENTINEL" Bundle.listD A s' s'.heap := by rw [hhp]; exact vx_Zq.moved hW0.alike (hN.kept hS.2.1)
  have h : ∀ w ∈ Bundle.ownAtoms own ic cls names, w.before args s' = true := vx_own hat' (vx_isRefq hU'.1) (vx_isRefq hN'.1) hU'.2.word hN'.2.word
  have hown' : s'.vm.findClass own = some m.cls := by rw [hvm]; exact hown
  have hins : (Cond.instantiable cls 6).before args s' = true := h _ (by simp [Bundle.ownAtoms])
  obtain ⟨vm₁, cX, kX, hfX, hkX, -, -, X₁, st1⟩ := Y.newCold hexec (own := own) (C := cls) (index := ik) (n := 6) hown' hk' hins hini'
    (g := F0 m pc ls rest) rfl (by rw [hb]; exact d0) (Nat.le_refl _) (Nat.le_refl _)
  generalize hT1 : (T.setVm vm₁).pushCell { cls := cX, slots := kX.instanceTypes.map defaultValue, vm := .none } = T1 at X₁ st1
  have hcat : (Value.ref T.heap.size).category = 1 := rfl
  have hcellA : T1.heap[T.heap.size]? = some (freshCell cX kX) := by rw [← hT1]; exact State.heap_pushCell_size _ _
  have d3' : decode c.code (pc + 3) = .ok (.dup, 1) := by rw [hb]; exact d3
  have d4' : decode c.code (pc + 4) = .ok (.ldc_w is, 3) := by rw [hb]; exact d4
  have hstr' : vk_R own is text sa s' := vk_R.warm hW0 hstr
  obtain ⟨U, hsteps, hrun, hend, hW, hsame, ce, hce, hO⟩ := X₁.ctorThrowS hexec htr (own := own) (cls := cls) (names := names) (ic := ic) hown' hcls hnames h (fun x hx => nomatch hx) hfX hkX hcellA (by rw [hhp, hT]; exact Nat.le_refl _) (msg := .ref sa) rfl
    (g := { method := m, pc := pc + 7, locals := ls, stack := .ref sa :: .ref T.heap.size :: .ref T.heap.size :: rest, locked := none }) rfl hsize rfl rfl (rest := rest) rfl
    (by rw [hb]; exact d7) (by rw [hb]; exact d10) hout hRframes (by simp only [List.map_cons, List.sum_cons, hcat]; omega) hlocks
  obtain ⟨f1, f2⟩ := vx_frame hsame
  rw [hhp] at f1 f2
  have hWs : s.WarmedH U.vm := State.WarmedH.trans hW0 hW
  have hcl : s.vm.findClass cls = some ce.cls := by
    have h9 := hO.cls
    rw [hvm] at h9
    exact h9
  have hall : s.sameButNew ({ U with vm := s.vm } : State) locs mc ms := by
    subst hA
    obtain ⟨e1, e2⟩ := hsame
    rw [State.setFrames_setFrames] at e1
    have h2 : (T.setVm s.vm).sameButNew ({ U with vm := s.vm } : State) [] (0 + 1) (0 + 6) := ⟨e1, e2⟩
    have h3 := X.same.trans h2
    rw [List.append_nil] at h3
    exact h3.mono hc hs
  refine ⟨U, ?_, .threw T.heap.size, hrun, hend, Or.inr ⟨T.heap.size, rfl, cls, ce, locs, hx U hWs.alike f1 (fun q hq => f2 q hq (fun z hz => nomatch hz)), hce, hO.vm, hcl, hWs, hall, hf⟩⟩
  refine st1 _ ?_
  show Steps p.tables e below (T1.setTop { method := m, pc := pc + 3, locals := ls, stack := .ref T.heap.size :: rest, locked := none }) _
  jvm_step X₁.here [X₁.here.top, hexec, d3', Value.category]
  exact X₁.ldcStringW hexec (own := own) (text := text) (index := is) (a := sa) hown' hstr'.1 hstr'.2
    (g := { method := m, pc := pc + 4, locals := ls, stack := .ref T.heap.size :: .ref T.heap.size :: rest, locked := none }) rfl d4' _ hsteps
end Ends
section Bodies
variable {l : Launch}
theorem vx_ofW {y : MethodName} {ws ws' : List Cond} {rm : Room} {Pc : Array Value → State → Prop} {Qc : Array Value → State → Outcome → State → Prop} {XC : String → State → State → Prop} {mc ms : Nat} {free : Addr → Prop} {cc : ByteArray} {maxL : Nat} {ret : Option FieldType}
    (hy : plainName y.cls = true) (hw : ws = Cond.code y cc maxL ret :: ws')
    (body : ∀ p e s m args below meth c s₁, BodyLoose p l y (headSpec ws rm) cc maxL ret e s m args below meth c s₁ → c.maxLocals = maxL → (∀ x ∈ c.exceptionTable.toList, False) → Pc args s →
      W p l e (headSpec ws rm).room s m args below meth c s.heap [] 0 0 (vx_MQ below Qc XC args s mc ms free) (entryFrame m args maxL)) : vx_Met l y ws rm Pc Qc XC mc ms free := by
  refine MetFree.of_bodyS (code := cc) (maxLocals := maxL) (ret := ret) hy ?_ ?_
  · intro args s m h hn
    obtain ⟨meth, c, h1, h2, h3, h4, h5, h6, -, -⟩ := Cond.code_spec hn (atoms_spec (ws := ws) h _ (by rw [hw]; exact List.mem_cons_self))
    exact ⟨meth, c, h1, h2, h3, h4, h5, h6⟩
  · intro p e s m args below meth c s₁ B hml hP _
    have hh0 : s₁.heap = s.heap := by rw [B.state]; rfl
    have ht : ∀ x ∈ c.exceptionTable.toList, False := by
      obtain ⟨meth9, c9, h1, h2, -, -, -, -, h7, -⟩ := Cond.code_spec B.named (atoms_spec (ws := ws) B.pre _ (by rw [hw]; exact List.mem_cons_self))
      cases Option.some.inj (h1.symm.trans B.method)
      cases Option.some.inj (h2.symm.trans (Stand.of_body B).code)
      intro x hx
      rw [Array.isEmpty_iff.mp h7] at hx
      cases hx
    obtain ⟨t, a1, o, b1, b2, b3⟩ := body p e s m args below meth c s₁ B hml ht hP s₁ hh0 (Stand.of_body B)
    exact ⟨t, o, a1, b1, b2, b3⟩
/-- the table of a body with handlers -/
theorem vx_table {p : Program} {x y : MethodName} {S : Spec} {cc bytes : ByteArray} {maxL maxL' : Nat} {ret ret' : Option FieldType} {e : Env} {s s₁ : State} {m : MethodId} {args : Array Value} {below : List Frame} {meth : Method} {c : Code} {hh : List (Nat × Nat × Nat × Nat)}
    (B : BodyLoose p l y S cc maxL ret e s m args below meth c s₁) (h : (Cond.codeWith y bytes maxL' ret' hh).before args s = true) : c.exceptionTable.toList = tableOf hh := by
  obtain ⟨m9, meth9, c9, hn9, h1, h2, -, -, h6, -⟩ := Cond.codeWith_spec h
  cases Option.some.inj (hn9.symm.trans B.named)
  cases Option.some.inj (h1.symm.trans B.method)
  cases Option.some.inj (h2.symm.trans (Stand.of_body B).code)
  rw [← h6, table_eq]
end Bodies
end VXA
/-! ===== END ===== -/
/-! ===== BEGIN a static call of a method with an exception table ===== -/
section VXS
variable {p : Program} {l : Launch} {e : Env} {R : Room} {s : State} {m : MethodId} {args : Array Value} {below : List Frame} {meth : Method} {c : Code} {T : State} {H : Heap} {locs : List Loc} {cells slots : Nat}
abbrev vx_CSW (R : Room) (s : State) (args : Array Value) (own : String) (index : Nat) (y : MethodName) (bytes : ByteArray) (maxL : Nat) (ret : Option FieldType) (hh : List (Nat × Nat × Nat × Nat)) (ws : List Cond) (rm : Room) (mc ms n : Nat) : Prop :=
  (rm.cells = mc ∧ rm.slots = ms ∧ rm.frames + 1 ≤ R.frames ∧ 8 + (maxL + 11) + rm.locals ≤ R.locals ∧ (∀ w ∈ ws, ∀ (a' : Array Value) (U : State), s.WarmedH U.vm → w.before a' U = true) ∧ Cond.codeWith y bytes maxL ret hh ∈ ws) ∧
  (Cond.codeWith y bytes maxL ret hh).before args s = true ∧ (Cond.initialized y.cls).before args s = true ∧ (y.cls ≠ "java/lang/invoke/MethodHandle" ∧ y.cls ≠ "java/lang/invoke/VarHandle") ∧
  (∀ sig, parseMethodDescriptor y.desc = some sig → n = sig.parameters.length) ∧ (Cond.methodLink own index y).before args s = true ∧ (Cond.static y).before args s = true
theorem vx_cwSW {own : String} {index maxL mc ms : Nat} {y : MethodName} {bytes : ByteArray} {ret : Option FieldType} {hh : List (Nat × Nat × Nat × Nat)} {Ts ws ws' : List Cond} {rm : Room} (n : Nat) (ht : ∀ w ∈ Ts, w.before args s = true) (hT : GoodIn Ts (va_wsS own index y ws)) (hw : ws = Cond.codeWith y bytes maxL ret hh :: ws') (hrc : rm.cells = mc) (hrs : rm.slots = ms)
    (hd : y.cls ≠ "java/lang/invoke/MethodHandle" ∧ y.cls ≠ "java/lang/invoke/VarHandle" ∧ (parseMethodDescriptor y.desc).map (fun d => d.parameters.length) = some n) (hR : rm.frames + 1 ≤ R.frames ∧ 8 + (maxL + 11) + rm.locals ≤ R.locals) :
    vx_CSW R s args own index y bytes maxL ret hh ws rm mc ms n := by
  have ok : ∀ w ∈ va_wsS own index y ws, w.before args s = true := fun w h => ht w (hT w h).1
  have hG : GoodIn Ts ws := fun w h => hT w (by unfold va_wsS; exact List.mem_append_right _ h)
  have hc : Cond.codeWith y bytes maxL ret hh ∈ ws := by rw [hw]; exact List.mem_cons_self
  refine ⟨⟨hrc, hrs, hR.1, hR.2, pay_in ht hG, hc⟩, ht _ (hG _ hc).1, ok _ (by simp [va_wsS]), ⟨hd.1, hd.2.1⟩, fun sig h => ?_, ok _ (by simp [va_wsS]), ok _ (by simp [va_wsS])⟩
  have h2 := hd.2.2
  rw [h] at h2
  exact (Option.some.inj h2).symm
theorem vx_callSW (X : Stand p l e R s m args below meth c T locs cells slots) (hexec : p.tables.exec = Jvm.exec) {own : String} {index : Nat} {y : MethodName} {bytes : ByteArray} {maxL : Nat} {ret : Option FieldType} {hh : List (Nat × Nat × Nat × Nat)}
    (hown : s.vm.findClass own = some m.cls) (hlink : (Cond.methodLink own index y).before args s = true) (hstat : (Cond.static y).before args s = true) (hinit : (Cond.initialized y.cls).before args s = true)
    (hcode : (Cond.codeWith y bytes maxL ret hh).before args s = true) (hy : y.cls ≠ "java/lang/invoke/MethodHandle" ∧ y.cls ≠ "java/lang/invoke/VarHandle")
    {W9 : Nat} {Pre : Pt → Array Value → Prop} {Post : Pt → Array Value → Option Value → Pt → Prop} (hK : Back l R p e below s args y 3 W9 Pre Post)
    {g : JFrame} (hg : g.method = m) (hsize : g.locals.size = c.maxLocals) {argsL rest : List Value} (hlen : ∀ sig, parseMethodDescriptor y.desc = some sig → argsL.length = sig.parameters.length)
    (hstack : g.stack = argsL.reverse ++ rest) (hW : 2 * g.monitorRoom + (rest.map fun v => v.category).sum ≤ W9) (hdg : decode c.code g.pc = .ok (.invokestatic index, 3))
    (hpre : ∀ vm₁, s.WarmedH vm₁ → Pre ⟨T.setVm vm₁, locs, cells, slots⟩ argsL.toArray) :
    ∃ (v : Option Value) (vm₁ : Vm) (B : Pt), s.WarmedH vm₁ ∧ Stand p l e R s m args below meth c B.U B.locs B.cells B.slots ∧ Post ⟨T.setVm vm₁, locs, cells, slots⟩ argsL.toArray v B ∧
      ∀ target, Steps p.tables e below (B.U.setTop { g with pc := g.pc + 3, stack := v.toList ++ rest }) target → Steps p.tables e below (T.setTop g) target := by
  obtain ⟨mk, methM, cM, hnamed, hmethM, -, -, -, -, -, -, hsigM⟩ := Cond.codeWith_spec hcode
  have hstatic : methM.isStatic = true := Cond.static_spec hnamed hmethM hstat
  obtain ⟨kP, hkP, -⟩ := className_of_methodNamed hnamed
  have hinitP : kP.init = .initialized := Cond.initialized_spec (findClass_of_methodNamed hnamed) hkP hinit
  obtain ⟨vm₁, X₁, hstep₁⟩ := X.invokestatic hexec hown hlink hnamed hmethM hstatic hkP hinitP hy (g := g) hg (argsL := argsL) (rest := rest) (hlen _ hsigM) hstack hdg
  obtain ⟨v, B, X', hpost, hsteps⟩ := hK m meth c ⟨T.setVm vm₁, locs, cells, slots⟩ { g with stack := rest } (.invokestatic index) mk argsL.toArray X₁ hg hsize hdg hW (X₁.named hnamed) (hpre vm₁ X₁.warmed)
  exact ⟨v, vm₁, B, X₁.warmed, X', hpost, fun target h => hstep₁ _ fun acts => by rw [doInvoke_state]; exact hsteps.trans h⟩
theorem vx_runSW {y : MethodName} {bytes cc : ByteArray} {maxL nL mc ms n index : Nat} {ret : Option FieldType} {hh : List (Nat × Nat × Nat × Nat)} {ws : List Cond} {rm : Room} {Pc : Array Value → State → Prop} {Qc : Array Value → State → Outcome → State → Prop} {free : Addr → Prop} {Ts : List Cond} {own : String} {As rest : List Value} {g : JFrame}
    (S : CallFix p m c cc nL s args Ts own) (hM : Met l y ws rm Pc Qc mc ms free) (cw : vx_CSW R s args own index y bytes maxL ret hh ws rm mc ms n) (hp : PreS s H Pc As)
    (hg : g.method = m) (hn : As.length = n) (hsize : g.locals.size = nL) (hstack : g.stack = As.reverse ++ rest) (hW : 2 * g.monitorRoom + (rest.map fun v => v.category).sum ≤ 8) (hdg : decode cc g.pc = .ok (.invokestatic index, 3)) (hf : cells + mc ≤ R.cells ∧ slots + ms ≤ R.slots) :
    va_Run p l e R s m args below meth c H locs cells slots mc ms g rest (Qc As.toArray) (free) := by
  obtain ⟨⟨hrc, hrs, hfr, hlo, hws, hcw⟩, hcode, hini, hy, hlen, hl, hstt⟩ := cw
  have hK : Back l R p e below s args y 3 8 (PreOf R mc ms Pc) (PostOf Qc mc ms free) := va_backW (hh := hh) (bytes := bytes) (maxL := maxL) (ret := ret) hM hp.1 hrc hrs hfr hlo hws hcw (fun a' U hW => word_at hW (Or.inl (by first | rfl | simp [Cond.onTables, Cond.keeps, Cond.steady])) hini)
  obtain ⟨hx, hb, hml, ho, -⟩ := S
  intro T hT X
  obtain ⟨v, vm₁, ⟨U', l2, c2, s2⟩, hW₁, X', ⟨g', mk, t, L, e1, e2, hq, h1, hL, h2, h3⟩, st⟩ := vx_callSW X hx (hh := hh) (bytes := bytes) (maxL := maxL) (ret := ret) ho hl hstt hini hcode hy hK hg (hsize.trans hml.symm) (argsL := As) (rest := rest) (fun sig h => hn.trans (hlen sig h)) hstack hW (by rw [hb]; exact hdg)
    (fun vm₁ hW₁ => ⟨hf.1, hf.2, hp.2 (T.setVm vm₁) hT hW₁⟩)
  dsimp only [Pt.U, Pt.locs, Pt.cells, Pt.slots] at X' e1 e2 h1 h2 h3 st
  subst h1; subst h2; subst h3
  exact ⟨v, (T.setVm vm₁).calling g' mk As.toArray, t, U', L, hT, X', hL, e1, e2, hq, st⟩
/-- not caught here, past rows that name other classes: it goes on to the caller -/
theorem vx_outP {p : Program} {l : Launch} {e : Env} {R : Room} {s : State} {m : MethodId} {args : Array Value} {below : List Frame} {meth : Method} {c : Code} {H : Heap} {locs : List Loc} {cells slots : Nat} {free : Addr → Prop} {ls : Array Slot} {rest : List Value} {Qc : Array Value → State → Outcome → State → Prop} {XC : String → State → State → Prop}
    {pc : Nat} {own E : String} {ce : Cell} {q : Addr} {mc ms : Nat} (hown : s.vm.findClass own = some m.cls) (hlocks : meth.locks = false)
    (hpass : ∀ z ∈ c.exceptionTable.toList, covers z pc = false ∨ (z.catchType ≠ 0 ∧ ∃ nm : String, (Cond.classLink own z.catchType nm).before args s = true ∧ va_Nc E nm s)) (hcell : H[q]? = some ce) (hv : ce.vm = .none) (hcl : s.vm.findClass E = some ce.cls)
    (hx : ∀ t : State, t.heap = H → s.vm.Alike t.vm → XC E s t) (hf : ∀ z ∈ locs, free z.base) (hc : cells ≤ mc) (hs : slots ≤ ms) :
    vx_W p l e R s m args below meth c H locs cells slots (vx_MQ below Qc XC args s mc ms free) (F0 m pc ls rest) q := by
  intro T hT X
  have hpl : e.platform.magicAccessors = ({} : Platform).magicAccessors := by rw [X.admits.platform]
  obtain ⟨vm', hW', X', st⟩ := X.outThrough hlocks q (g := F0 m pc ls rest) rfl rfl rfl (cell := ce) (by rw [hT]; exact hcell) (by rw [hv]; rfl)
    (by obtain ⟨k9, h9, -⟩ := Vm.findClass_spec hcl; exact ⟨k9, h9⟩) (fun z hz => by
      rcases hpass z hz with h | ⟨hz0, nm, hl1, hn1⟩
      · exact Or.inl h
      · obtain ⟨c6, hc6, hcl6⟩ := Cond.classLink_spec hown hl1 e.platform hpl
        obtain ⟨a8, b8, h1, h2, h3⟩ := hn1
        cases Option.some.inj (h1.symm.trans hcl)
        cases Option.some.inj (h2.symm.trans hc6)
        exact Or.inr ⟨hz0, _, hcl6, h3⟩)
  obtain ⟨g₀, hfr⟩ := X'.frames_eq
  have hcell9 : ((T.setVm vm').setFrames (.throwing q :: below)).heap[q]? = some ce := by
    show T.heap[q]? = some ce
    rw [hT]; exact hcell
  have hend : Ended ((T.setVm vm').setFrames (.throwing q :: below)) below (.threw q) := State.frames_setFrames _ (State.cur_lt_of_frames hfr)
  refine ⟨(T.setVm vm').setFrames (.throwing q :: below), ?_, .threw q, X'.here.running, hend, Or.inr ⟨q, rfl, E, ce, locs, hx _ hT (X'.ends _).1.alike, hcell9, hv, hcl, (X'.ends _).1, (X'.ends _).2.mono hc hs, hf⟩⟩
  rw [X.pushThrowing_eq]
  exact st
/-- a thing of a world lies in the heap -/
theorem vx_lt {D : va_G} {cl : List vw_C} {ws : va_W} {H1 : Heap} (h : va_P D cl ws H1) {k : Nat} {q : Nat × va_E} (hk : ws[k]? = some q) : q.1 < H1.size := (h k q hk).lt
end VXS
/-! ===== END ===== -/
/-! ===== BEGIN methods with a table of their own: called by a name, returning or throwing ===== -/
section VXH
/-! vx_backW, vx_callVX, vx_callSX, vx_callVW, vx_runVW, vx_runVX, vx_runSX, vx_ofWH follow the same proofs as their sisters above (Free/Laws.lean, Shelf42/LK1.lean); vx_outP calls Shelf42/NT130.lean (outThrough). -/
section
variable {l : Launch} {R : Room} {p : Program} {e : Env} {below : List Frame} {s : State} {sargs : Array Value} {y : MethodName} {len W9 : Nat}
theorem vx_backW {ws : List Cond} {rm : Room} {Pc : Array Value → State → Prop} {Qc : Array Value → State → Outcome → State → Prop} {XC : String → State → State → Prop} {mc ms : Nat} {free : Addr → Prop} {bytes : ByteArray} {maxL : Nat} {ret : Option FieldType} {hh : List (Nat × Nat × Nat × Nat)}
    (hM : vx_Met l y ws rm Pc Qc XC mc ms free) (hblind : FrameBlind Pc) (hrc : rm.cells = mc) (hrs : rm.slots = ms)
    (hframes : rm.frames + 1 ≤ R.frames) (hlocals : W9 + (maxL + 11) + rm.locals ≤ R.locals)
    (hws : ∀ w ∈ ws, ∀ a' U, s.WarmedH U.vm → w.before a' U = true) (hcode : Cond.codeWith y bytes maxL ret hh ∈ ws) (hinit : ∀ a' U, s.WarmedH U.vm → (Cond.initialized y.cls).before a' U = true) :
    vx_Back l R p e below s sargs y len W9 (PreOf R mc ms Pc) (PostOf Qc mc ms free) (vx_Post XC mc ms free) := by
  intro m meth c A g ig mk a X hg hsize hdg hW hn hp
  have h1 : (headSpec ws rm).pre.before a A.U = true := atoms_intro fun w hw => hws w hw _ _ X.warmed
  have h2 : (Cond.codeWith y bytes maxL ret hh).before a A.U = true := hws _ hcode _ _ X.warmed
  have h3 : (Cond.initialized y.cls).before a A.U = true := hinit _ _ X.warmed
  have h4 : A.cells + (headSpec ws rm).room.cells ≤ R.cells := by rw [show (headSpec ws rm).room.cells = mc from hrc]; exact hp.1
  have h5 : A.slots + (headSpec ws rm).room.slots ≤ R.slots := by rw [show (headSpec ws rm).room.slots = ms from hrs]; exact hp.2.1
  have hPc : Pc a (A.U.calling g mk a) := hblind _ _ _ _ hp.2.2
  obtain ⟨U, Ls, c0, s0⟩ := A
  dsimp only [Pt.U, Pt.locs, Pt.cells, Pt.slots] at h1 h2 h3 h4 h5 X hn hPc ⊢
  obtain ⟨m9, methY, cY, hn9, hmY, hcY, -, hlY, -⟩ := Cond.codeWith_spec h2
  cases Option.some.inj (hn9.symm.trans hn)
  obtain ⟨kY, hkY, -⟩ := className_of_methodNamed hn
  have hinitY : kY.init = .initialized := Cond.initialized_spec (findClass_of_methodNamed hn) hkY h3
  have h : At U g.method c below := by rw [hg]; exact X.here
  have hlocals9 : W9 + (maxL + 11) + (headSpec ws rm).room.locals ≤ R.locals := hlocals
  have happ : (headSpec ws rm).appliesLoose y e.platform (U.calling g mk a) = true :=
    Spec.appliesLoose_calling (g := g) h hdg hn hkY hinitY
      (X.room_calling (g := g) (R' := (headSpec ws rm).room) hsize hmY hcY hframes (by rw [hlY]; omega) h4 h5) h1
  obtain ⟨mid, hmid⟩ := h.above
  have hfr : (U.setTop g).frames = (.java g :: mid) ++ below := by rw [State.frames_setTop' g h.top, hmid]; rfl
  obtain ⟨o, s₂, hsteps, -, hend, hq⟩ := Steps.callFree hM p X.admits X.cas X.clock (acts := []) hfr happ hPc trivial
  have hq' : vx_Q Qc XC mc ms free a (U.calling g mk a) o s₂ := hq
  rw [State.frames_setTop' g h.top] at hend
  obtain ⟨g₀, hg0⟩ := Option.isSome_iff_exists.mp h.top
  obtain ⟨r, hr⟩ := State.topJava?_eq_some.mp hg0
  have hr' : (({ U with heap := s₂.heap, slotsUsed := s₂.slotsUsed } : State).setVm s₂.vm).frames = .java g₀ :: r := hr
  rcases hq' with ⟨hqc, L, hfe, hL⟩ | ⟨q, rfl, E, ce, L, hx, hce, hcv, hcl, hW₂, hsm, hL⟩
  · obtain ⟨⟨v, rfl⟩, hW₂, e2, q2, q3, q4, q5, q6⟩ := id hfe
    have e3 : s₂ = ({ (U.calling g mk a).setFrames s₂.frames with heap := s₂.heap, slotsUsed := s₂.slotsUsed } : State).setVm s₂.vm := by
      have : s₂ = ({ s₂ with vm := (U.calling g mk a).vm } : State).setVm s₂.vm := rfl
      rw [e2] at this
      exact this
    obtain ⟨c₂, i₂, len₂, hc₂, hd₂, hf₂⟩ := hend
    have hW' : U.WarmedH s₂.vm := hW₂
    have hcc : c₂ = c := by
      have h1 : s₂.code? g.method = U.code? g.method := by
        rw [State.code?_eq, State.code?_eq, hW'.alike.method?]
      exact Option.some.inj (hc₂.symm.trans (h1.trans h.code))
    subst hcc
    have hlen : len₂ = len := by rw [hdg] at hd₂; cases hd₂; rfl
    subst hlen
    have hs₂ : s₂ = (({ U with heap := s₂.heap, slotsUsed := s₂.slotsUsed } : State).setVm s₂.vm).setTop { g with pc := g.pc + len₂, stack := v.toList ++ g.stack } := by
      refine e3.trans ?_
      rw [hf₂, State.calling_eq h.top, State.setFrames_setFrames, State.setTop_of_frames _ hr', hr]
      rfl
    have hsame : U.sameButNew ({ U with heap := s₂.heap, slotsUsed := s₂.slotsUsed } : State) L mc ms := by
      refine ⟨?_, q2, q3, q4, q5, q6⟩
      obtain ⟨t, ht, -⟩ := State.frames_cons hr
      show ({ U with heap := s₂.heap, slotsUsed := s₂.slotsUsed } : State) = { U.setFrames U.frames with heap := s₂.heap, slotsUsed := s₂.slotsUsed }
      rw [State.setFrames_self ht]
    subst hg
    refine Or.inl ⟨v, ⟨(({ U with heap := s₂.heap, slotsUsed := s₂.slotsUsed } : State).setVm s₂.vm), Ls ++ L, c0 + mc, s0 + ms⟩,
      ⟨X.admits, X.cas, X.clock, X.frames, X.room, X.hears, X.method, X.code, (X.here.setHeapUsed s₂.heap s₂.slotsUsed).setVm hW'.alike, X.tail, State.WarmedH.trans X.warmed hW', X.limits, X.bytes, X.same.trans (hsame.setVm s.vm)⟩,
      ⟨g, mk, s₂, L, rfl, rfl, hqc, rfl, hL, rfl, rfl⟩, ?_⟩
    show Steps p.tables e below _ ((({ U with heap := s₂.heap, slotsUsed := s₂.slotsUsed } : State).setVm s₂.vm).setTop { g with pc := g.pc + len₂, stack := v.toList ++ g.stack })
    rw [← hs₂]
    exact hsteps
  · obtain ⟨e2, q2, q3, q4, q5, q6⟩ := id hsm
    have e3 : s₂ = ({ (U.calling g mk a).setFrames s₂.frames with heap := s₂.heap, slotsUsed := s₂.slotsUsed } : State).setVm s₂.vm := by
      have : s₂ = ({ s₂ with vm := (U.calling g mk a).vm } : State).setVm s₂.vm := rfl
      rw [e2] at this
      exact this
    have hf₂ : s₂.frames = .throwing q :: .java g :: U.frames.tail := hend
    have hW' : U.WarmedH s₂.vm := hW₂
    have hs₂ : s₂ = ((({ U with heap := s₂.heap, slotsUsed := s₂.slotsUsed } : State).setVm s₂.vm).setTop g).pushFrame (.throwing q) := by
      refine e3.trans ?_
      rw [hf₂, State.calling_eq h.top, State.setFrames_setFrames, State.pushFrame, State.frames_setTop _ hr', State.setTop_of_frames _ hr', State.setFrames_setFrames, hr]
      rfl
    have hsame : U.sameButNew ({ U with heap := s₂.heap, slotsUsed := s₂.slotsUsed } : State) L mc ms := by
      refine ⟨?_, q2, q3, q4, q5, q6⟩
      obtain ⟨t, ht, -⟩ := State.frames_cons hr
      show ({ U with heap := s₂.heap, slotsUsed := s₂.slotsUsed } : State) = { U.setFrames U.frames with heap := s₂.heap, slotsUsed := s₂.slotsUsed }
      rw [State.setFrames_self ht]
    subst hg
    refine Or.inr ⟨q, ⟨(({ U with heap := s₂.heap, slotsUsed := s₂.slotsUsed } : State).setVm s₂.vm), Ls ++ L, c0 + mc, s0 + ms⟩,
      ⟨X.admits, X.cas, X.clock, X.frames, X.room, X.hears, X.method, X.code, (X.here.setHeapUsed s₂.heap s₂.slotsUsed).setVm hW'.alike, X.tail, State.WarmedH.trans X.warmed hW', X.limits, X.bytes, X.same.trans (hsame.setVm s.vm)⟩,
      ⟨g, mk, s₂, L, E, ce, rfl, rfl, hx, hce, hcv, hcl, rfl, hL, rfl, rfl⟩, ?_⟩
    show Steps p.tables e below _ (((({ U with heap := s₂.heap, slotsUsed := s₂.slotsUsed } : State).setVm s₂.vm).setTop g).pushFrame (.throwing q))
    rw [← hs₂]
    exact hsteps
end
variable {p : Program} {l : Launch} {e : Env} {R : Room} {s : State} {m : MethodId} {args : Array Value} {below : List Frame} {meth : Method} {c : Code} {T : State} {H : Heap} {locs : List Loc} {cells slots : Nat}
theorem vx_callVX (X : Stand p l e R s m args below meth c T locs cells slots) (hexec : p.tables.exec = Jvm.exec) {own C : String} {index : Nat} {y : MethodName} {bytes : ByteArray} {maxL : Nat} {ret : Option FieldType} {hh : List (Nat × Nat × Nat × Nat)}
    (hown : s.vm.findClass own = some m.cls) (hlink : (Cond.methodLink own index y).before args s = true) (hinst : (Cond.instanceMethod y).before args s = true) (hsel : (Cond.selects C y y).before args s = true)
    (hcode : (Cond.codeWith y bytes maxL ret hh).before args s = true) (hy : y.cls ≠ "java/lang/invoke/MethodHandle" ∧ y.cls ≠ "java/lang/invoke/VarHandle")
    {W9 : Nat} {Pre : Pt → Array Value → Prop} {Post : Pt → Array Value → Option Value → Pt → Prop} {PostX : Pt → Array Value → Addr → Pt → Prop} (hK : vx_Back l R p e below s args y 3 W9 Pre Post PostX)
    {b : Addr} {cellB : Cell} (hcell : T.heap[b]? = some cellB) (hobj : cellB.vm.isStatics = false) (hcls : s.vm.findClass C = some cellB.cls)
    {g : JFrame} (hg : g.method = m) (hsize : g.locals.size = c.maxLocals) {argsL rest : List Value} (hlen : ∀ sig, parseMethodDescriptor y.desc = some sig → argsL.length = sig.parameters.length)
    (hstack : g.stack = argsL.reverse ++ .ref b :: rest) (hW : 2 * g.monitorRoom + (rest.map fun v => v.category).sum ≤ W9) (hdg : decode c.code g.pc = .ok (.invokevirtual index, 3))
    (hpre : ∀ vm₁, s.WarmedH vm₁ → Pre ⟨T.setVm vm₁, locs, cells, slots⟩ (Value.ref b :: argsL).toArray) :
    (∃ (v : Option Value) (vm₁ : Vm) (B : Pt), s.WarmedH vm₁ ∧ Stand p l e R s m args below meth c B.U B.locs B.cells B.slots ∧ Post ⟨T.setVm vm₁, locs, cells, slots⟩ (Value.ref b :: argsL).toArray v B ∧
      ∀ target, Steps p.tables e below (B.U.setTop { g with pc := g.pc + 3, stack := v.toList ++ rest }) target → Steps p.tables e below (T.setTop g) target) ∨
    (∃ (q : Addr) (vm₁ : Vm) (B : Pt), s.WarmedH vm₁ ∧ Stand p l e R s m args below meth c B.U B.locs B.cells B.slots ∧ PostX ⟨T.setVm vm₁, locs, cells, slots⟩ (Value.ref b :: argsL).toArray q B ∧
      Steps p.tables e below (T.setTop g) ((B.U.setTop { g with stack := rest }).pushFrame (.throwing q))) := by
  obtain ⟨mk, methM, hnamed, hmethM, hstM, habM⟩ := Cond.instanceMethod_spec hinst
  obtain ⟨m8, methM', cM, hn8, hmethM', -, -, -, -, -, -, hsigM⟩ := Cond.codeWith_spec hcode
  cases Option.some.inj (hn8.symm.trans hnamed)
  cases hmethM.symm.trans hmethM'
  obtain ⟨c2, r2, m2, q1, q2, q3, q4, kP, hkP, hkPi⟩ := Cond.selects_spec hsel
  cases hcls.symm.trans q1
  cases (State.methodFound?_of_named hnamed hy).symm.trans q2
  cases hnamed.symm.trans q3
  have hselP : selectMethod e.platform s.vm cellB.cls mk = .method mk := by rw [Launch.admits_selectMethod X.admits]; exact q4
  obtain ⟨vm₁, X₁, hstep₁⟩ := X.invokevirtual hexec hown hlink hnamed hmethM hstM hkP hkPi hy (a := b) (cell := cellB) hcell
    (fun z h => by rw [h] at hobj; cases hobj) hselP hmethM habM hkP hkPi (g := g) hg (argsL := argsL) (rest := rest) (hlen _ hsigM) hstack hdg
  rcases hK m meth c ⟨T.setVm vm₁, locs, cells, slots⟩ { g with stack := rest } (.invokevirtual index) mk (Value.ref b :: argsL).toArray X₁ hg hsize hdg hW (X₁.named hnamed) (hpre vm₁ X₁.warmed) with ⟨v, B, X', hpost, hsteps⟩ | ⟨q, B, X', hpost, hsteps⟩
  · exact Or.inl ⟨v, vm₁, B, X₁.warmed, X', hpost, fun target h => hstep₁ _ fun acts => by rw [doInvoke_state]; exact hsteps.trans h⟩
  · exact Or.inr ⟨q, vm₁, B, X₁.warmed, X', hpost, hstep₁ _ fun acts => by rw [doInvoke_state]; exact hsteps⟩
theorem vx_callSX (X : Stand p l e R s m args below meth c T locs cells slots) (hexec : p.tables.exec = Jvm.exec) {own : String} {index : Nat} {y : MethodName} {bytes : ByteArray} {maxL : Nat} {ret : Option FieldType} {hh : List (Nat × Nat × Nat × Nat)}
    (hown : s.vm.findClass own = some m.cls) (hlink : (Cond.methodLink own index y).before args s = true) (hstat : (Cond.static y).before args s = true) (hinit : (Cond.initialized y.cls).before args s = true)
    (hcode : (Cond.codeWith y bytes maxL ret hh).before args s = true) (hy : y.cls ≠ "java/lang/invoke/MethodHandle" ∧ y.cls ≠ "java/lang/invoke/VarHandle")
    {W9 : Nat} {Pre : Pt → Array Value → Prop} {Post : Pt → Array Value → Option Value → Pt → Prop} {PostX : Pt → Array Value → Addr → Pt → Prop} (hK : vx_Back l R p e below s args y 3 W9 Pre Post PostX)
    {g : JFrame} (hg : g.method = m) (hsize : g.locals.size = c.maxLocals) {argsL rest : List Value} (hlen : ∀ sig, parseMethodDescriptor y.desc = some sig → argsL.length = sig.parameters.length)
    (hstack : g.stack = argsL.reverse ++ rest) (hW : 2 * g.monitorRoom + (rest.map fun v => v.category).sum ≤ W9) (hdg : decode c.code g.pc = .ok (.invokestatic index, 3))
    (hpre : ∀ vm₁, s.WarmedH vm₁ → Pre ⟨T.setVm vm₁, locs, cells, slots⟩ argsL.toArray) :
    (∃ (v : Option Value) (vm₁ : Vm) (B : Pt), s.WarmedH vm₁ ∧ Stand p l e R s m args below meth c B.U B.locs B.cells B.slots ∧ Post ⟨T.setVm vm₁, locs, cells, slots⟩ argsL.toArray v B ∧
      ∀ target, Steps p.tables e below (B.U.setTop { g with pc := g.pc + 3, stack := v.toList ++ rest }) target → Steps p.tables e below (T.setTop g) target) ∨
    (∃ (q : Addr) (vm₁ : Vm) (B : Pt), s.WarmedH vm₁ ∧ Stand p l e R s m args below meth c B.U B.locs B.cells B.slots ∧ PostX ⟨T.setVm vm₁, locs, cells, slots⟩ argsL.toArray q B ∧
      Steps p.tables e below (T.setTop g) ((B.U.setTop { g with stack := rest }).pushFrame (.throwing q))) := by
  obtain ⟨mk, methM, cM, hnamed, hmethM, -, -, -, -, -, -, hsigM⟩ := Cond.codeWith_spec hcode
  have hstatic : methM.isStatic = true := Cond.static_spec hnamed hmethM hstat
  obtain ⟨kP, hkP, -⟩ := className_of_methodNamed hnamed
  have hinitP : kP.init = .initialized := Cond.initialized_spec (findClass_of_methodNamed hnamed) hkP hinit
  obtain ⟨vm₁, X₁, hstep₁⟩ := X.invokestatic hexec hown hlink hnamed hmethM hstatic hkP hinitP hy (g := g) hg (argsL := argsL) (rest := rest) (hlen _ hsigM) hstack hdg
  rcases hK m meth c ⟨T.setVm vm₁, locs, cells, slots⟩ { g with stack := rest } (.invokestatic index) mk argsL.toArray X₁ hg hsize hdg hW (X₁.named hnamed) (hpre vm₁ X₁.warmed) with ⟨v, B, X', hpost, hsteps⟩ | ⟨q, B, X', hpost, hsteps⟩
  · exact Or.inl ⟨v, vm₁, B, X₁.warmed, X', hpost, fun target h => hstep₁ _ fun acts => by rw [doInvoke_state]; exact hsteps.trans h⟩
  · exact Or.inr ⟨q, vm₁, B, X₁.warmed, X', hpost, hstep₁ _ fun acts => by rw [doInvoke_state]; exact hsteps⟩
theorem vx_callVW (X : Stand p l e R s m args below meth c T locs cells slots) (hexec : p.tables.exec = Jvm.exec) {own C : String} {index : Nat} {y : MethodName} {bytes : ByteArray} {maxL : Nat} {ret : Option FieldType} {hh : List (Nat × Nat × Nat × Nat)}
    (hown : s.vm.findClass own = some m.cls) (hlink : (Cond.methodLink own index y).before args s = true) (hinst : (Cond.instanceMethod y).before args s = true) (hsel : (Cond.selects C y y).before args s = true)
    (hcode : (Cond.codeWith y bytes maxL ret hh).before args s = true) (hy : y.cls ≠ "java/lang/invoke/MethodHandle" ∧ y.cls ≠ "java/lang/invoke/VarHandle")
    {W9 : Nat} {Pre : Pt → Array Value → Prop} {Post : Pt → Array Value → Option Value → Pt → Prop} (hK : Back l R p e below s args y 3 W9 Pre Post)
    {b : Addr} {cellB : Cell} (hcell : T.heap[b]? = some cellB) (hobj : cellB.vm.isStatics = false) (hcls : s.vm.findClass C = some cellB.cls)
    {g : JFrame} (hg : g.method = m) (hsize : g.locals.size = c.maxLocals) {argsL rest : List Value} (hlen : ∀ sig, parseMethodDescriptor y.desc = some sig → argsL.length = sig.parameters.length)
    (hstack : g.stack = argsL.reverse ++ .ref b :: rest) (hW : 2 * g.monitorRoom + (rest.map fun v => v.category).sum ≤ W9) (hdg : decode c.code g.pc = .ok (.invokevirtual index, 3))
    (hpre : ∀ vm₁, s.WarmedH vm₁ → Pre ⟨T.setVm vm₁, locs, cells, slots⟩ (Value.ref b :: argsL).toArray) :
    ∃ (v : Option Value) (vm₁ : Vm) (B : Pt), s.WarmedH vm₁ ∧ Stand p l e R s m args below meth c B.U B.locs B.cells B.slots ∧ Post ⟨T.setVm vm₁, locs, cells, slots⟩ (Value.ref b :: argsL).toArray v B ∧
      ∀ target, Steps p.tables e below (B.U.setTop { g with pc := g.pc + 3, stack := v.toList ++ rest }) target → Steps p.tables e below (T.setTop g) target := by
  obtain ⟨mk, methM, hnamed, hmethM, hstM, habM⟩ := Cond.instanceMethod_spec hinst
  obtain ⟨m8, methM', cM, hn8, hmethM', -, -, -, -, -, -, hsigM⟩ := Cond.codeWith_spec hcode
  cases Option.some.inj (hn8.symm.trans hnamed)
  cases hmethM.symm.trans hmethM'
  obtain ⟨c2, r2, m2, q1, q2, q3, q4, kP, hkP, hkPi⟩ := Cond.selects_spec hsel
  cases hcls.symm.trans q1
  cases (State.methodFound?_of_named hnamed hy).symm.trans q2
  cases hnamed.symm.trans q3
  have hselP : selectMethod e.platform s.vm cellB.cls mk = .method mk := by rw [Launch.admits_selectMethod X.admits]; exact q4
  obtain ⟨vm₁, X₁, hstep₁⟩ := X.invokevirtual hexec hown hlink hnamed hmethM hstM hkP hkPi hy (a := b) (cell := cellB) hcell
    (fun z h => by rw [h] at hobj; cases hobj) hselP hmethM habM hkP hkPi (g := g) hg (argsL := argsL) (rest := rest) (hlen _ hsigM) hstack hdg
  obtain ⟨v, B, X', hpost, hsteps⟩ := hK m meth c ⟨T.setVm vm₁, locs, cells, slots⟩ { g with stack := rest } (.invokevirtual index) mk (Value.ref b :: argsL).toArray X₁ hg hsize hdg hW (X₁.named hnamed) (hpre vm₁ X₁.warmed)
  exact ⟨v, vm₁, B, X₁.warmed, X', hpost, fun target h => hstep₁ _ fun acts => by rw [doInvoke_state]; exact hsteps.trans h⟩
abbrev vx_CVW (R : Room) (s : State) (args : Array Value) (own C : String) (index : Nat) (y : MethodName) (bytes : ByteArray) (maxL : Nat) (ret : Option FieldType) (hh : List (Nat × Nat × Nat × Nat)) (ws : List Cond) (rm : Room) (mc ms n : Nat) : Prop :=
  (rm.cells = mc ∧ rm.slots = ms ∧ rm.frames + 1 ≤ R.frames ∧ 8 + (maxL + 11) + rm.locals ≤ R.locals ∧ (∀ w ∈ ws, ∀ (a' : Array Value) (U : State), s.WarmedH U.vm → w.before a' U = true) ∧ Cond.codeWith y bytes maxL ret hh ∈ ws) ∧
  (Cond.codeWith y bytes maxL ret hh).before args s = true ∧ (Cond.initialized y.cls).before args s = true ∧ (y.cls ≠ "java/lang/invoke/MethodHandle" ∧ y.cls ≠ "java/lang/invoke/VarHandle") ∧
  (∀ sig, parseMethodDescriptor y.desc = some sig → n = sig.parameters.length) ∧ (Cond.methodLink own index y).before args s = true ∧ (Cond.instanceMethod y).before args s = true ∧ (Cond.selects C y y).before args s = true
theorem vx_cwVW {own C : String} {index maxL mc ms : Nat} {y : MethodName} {bytes : ByteArray} {ret : Option FieldType} {hh : List (Nat × Nat × Nat × Nat)} {Ts ws ws' : List Cond} {rm : Room} (n : Nat) (ht : ∀ w ∈ Ts, w.before args s = true) (hT : GoodIn Ts (wsV own index C y ws)) (hw : ws = Cond.codeWith y bytes maxL ret hh :: ws') (hrc : rm.cells = mc) (hrs : rm.slots = ms)
    (hd : y.cls = C ∧ y.cls ≠ "java/lang/invoke/MethodHandle" ∧ y.cls ≠ "java/lang/invoke/VarHandle" ∧ (parseMethodDescriptor y.desc).map (fun d => d.parameters.length) = some n) (hR : rm.frames + 1 ≤ R.frames ∧ 8 + (maxL + 11) + rm.locals ≤ R.locals) :
    vx_CVW R s args own C index y bytes maxL ret hh ws rm mc ms n := by
  obtain ⟨hC, hd⟩ := hd
  subst hC
  have ok : ∀ w ∈ wsV own index y.cls y ws, w.before args s = true := fun w h => ht w (hT w h).1
  have hG : GoodIn Ts ws := fun w h => hT w (by unfold wsV; exact List.mem_append_right _ h)
  have hc : Cond.codeWith y bytes maxL ret hh ∈ ws := by rw [hw]; exact List.mem_cons_self
  refine ⟨⟨hrc, hrs, hR.1, hR.2, pay_in ht hG, hc⟩, ht _ (hG _ hc).1, ok _ (by simp [wsV]), ⟨hd.1, hd.2.1⟩, fun sig h => ?_, ok _ (by simp [wsV]), ok _ (by simp [wsV]), ok _ (by simp [wsV])⟩
  have h2 := hd.2.2
  rw [h] at h2
  exact (Option.some.inj h2).symm
theorem vx_runVW {y : MethodName} {bytes cc : ByteArray} {maxL nL mc ms n index : Nat} {ret : Option FieldType} {hh : List (Nat × Nat × Nat × Nat)} {ws : List Cond} {rm : Room} {Pc : Array Value → State → Prop} {Qc : Array Value → State → Outcome → State → Prop} {free : Addr → Prop} {Ts : List Cond} {own C : String} {b : Addr} {As rest : List Value} {g : JFrame}
    (S : CallFix p m c cc nL s args Ts own) (hM : Met l y ws rm Pc Qc mc ms free) (cw : vx_CVW R s args own C index y bytes maxL ret hh ws rm mc ms n) (hp : PreV s H C b Pc As)
    (hg : g.method = m) (hn : As.length = n) (hsize : g.locals.size = nL) (hstack : g.stack = As.reverse ++ .ref b :: rest) (hW : 2 * g.monitorRoom + (rest.map fun v => v.category).sum ≤ 8) (hdg : decode cc g.pc = .ok (.invokevirtual index, 3)) (hf : cells + mc ≤ R.cells ∧ slots + ms ≤ R.slots) :
    va_Run p l e R s m args below meth c H locs cells slots mc ms g rest (Qc (Value.ref b :: As).toArray) free := by
  obtain ⟨⟨hrc, hrs, hfr, hlo, hws, hcw⟩, hcode, hini, hy, hlen, hl, hin, hse⟩ := cw
  have hK : Back l R p e below s args y 3 8 (PreOf R mc ms Pc) (PostOf Qc mc ms free) := va_backW (hh := hh) (bytes := bytes) (maxL := maxL) (ret := ret) hM hp.1 hrc hrs hfr hlo hws hcw (fun a' U hW => word_at hW (Or.inl (by first | rfl | simp [Cond.onTables, Cond.keeps, Cond.steady])) hini)
  obtain ⟨hx, hb, hml, ho, -⟩ := S
  obtain ⟨-, ⟨cellB, hcB, hoB, hclB⟩, hPc⟩ := hp
  intro T hT X
  obtain ⟨v, vm₁, ⟨U', l2, c2, s2⟩, hW₁, X', ⟨g', mk, t, L, e1, e2, hq, h1, hL, h2, h3⟩, st⟩ := vx_callVW X hx (C := C) (hh := hh) (bytes := bytes) (maxL := maxL) (ret := ret) ho hl hin hse hcode hy hK (by rw [hT]; exact hcB) hoB hclB hg (hsize.trans hml.symm) (argsL := As) (rest := rest) (fun sig h => hn.trans (hlen sig h)) hstack hW (by rw [hb]; exact hdg)
    (fun vm₁ hW₁ => ⟨hf.1, hf.2, hPc (T.setVm vm₁) hT hW₁⟩)
  dsimp only [Pt.U, Pt.locs, Pt.cells, Pt.slots] at X' e1 e2 h1 h2 h3 st
  subst h1; subst h2; subst h3
  exact ⟨v, (T.setVm vm₁).calling g' mk (Value.ref b :: As).toArray, t, U', L, hT, X', hL, e1, e2, hq, st⟩
section
variable {y : MethodName} {bytes cc : ByteArray} {maxL nL mc ms n index : Nat} {ret : Option FieldType} {ws : List Cond} {rm : Room} {Pc : Array Value → State → Prop} {Qc : Array Value → State → Outcome → State → Prop} {XC : String → State → State → Prop} {free : Addr → Prop} {Ts : List Cond} {own C : String} {b : Addr} {As rest : List Value} {g : JFrame}
theorem vx_runVX {hh : List (Nat × Nat × Nat × Nat)} (S : CallFix p m c cc nL s args Ts own) (hM : vx_Met l y ws rm Pc Qc XC mc ms free) (cw : vx_CVW R s args own C index y bytes maxL ret hh ws rm mc ms n) (hp : PreV s H C b Pc As)
    (hg : g.method = m) (hn : As.length = n) (hsize : g.locals.size = nL) (hstack : g.stack = As.reverse ++ .ref b :: rest) (hW : 2 * g.monitorRoom + (rest.map fun v => v.category).sum ≤ 8) (hdg : decode cc g.pc = .ok (.invokevirtual index, 3)) (hf : cells + mc ≤ R.cells ∧ slots + ms ≤ R.slots) :
    vx_Run p l e R s m args below meth c H locs cells slots mc ms g rest (Qc (Value.ref b :: As).toArray) XC free := by
  obtain ⟨⟨hrc, hrs, hfr, hlo, hws, hcw⟩, hcode, hini, hy, hlen, hl, hin, hse⟩ := cw
  have hK : vx_Back l R p e below s args y 3 8 (PreOf R mc ms Pc) (PostOf Qc mc ms free) (vx_Post XC mc ms free) := vx_backW (hh := hh) (bytes := bytes) (maxL := maxL) (ret := ret) hM hp.1 hrc hrs hfr hlo hws hcw (fun a' U hW => word_at hW (Or.inl (by first | rfl | simp [Cond.onTables, Cond.keeps, Cond.steady])) hini)
  obtain ⟨hx, hb, hml, ho, -⟩ := S
  obtain ⟨-, ⟨cellB, hcB, hoB, hclB⟩, hPc⟩ := hp
  intro T hT X
  rcases vx_callVX X hx (C := C) (hh := hh) (bytes := bytes) (maxL := maxL) (ret := ret) ho hl hin hse hcode hy hK (by rw [hT]; exact hcB) hoB hclB hg (hsize.trans hml.symm) (argsL := As) (rest := rest) (fun sig h => hn.trans (hlen sig h)) hstack hW (by rw [hb]; exact hdg)
    (fun vm₁ hW₁ => ⟨hf.1, hf.2, hPc (T.setVm vm₁) hT hW₁⟩) with ⟨v, vm₁, ⟨U', l2, c2, s2⟩, hW₁, X', ⟨g', mk, t, L, e1, e2, hq, h1, hL, h2, h3⟩, st⟩ | ⟨q, vm₁, ⟨U', l2, c2, s2⟩, hW₁, X', ⟨g', mk, t, L, E, ce, e1, e2, hq, hce, hcv, hcl, h1, hL, h2, h3⟩, st⟩
  · dsimp only [Pt.U, Pt.locs, Pt.cells, Pt.slots] at X' e1 e2 h1 h2 h3 st
    subst h1; subst h2; subst h3
    exact Or.inl ⟨v, (T.setVm vm₁).calling g' mk (Value.ref b :: As).toArray, t, U', L, hT, X', hL, e1, e2, hq, st⟩
  · dsimp only [Pt.U, Pt.locs, Pt.cells, Pt.slots] at X' e1 e2 h1 h2 h3 st hcl
    subst h1; subst h2; subst h3
    exact Or.inr ⟨q, (T.setVm vm₁).calling g' mk (Value.ref b :: As).toArray, t, U', L, E, ce, hT, X', hL, e1, e2, hq, hce, hcv, vx_cls hW₁ hcl, st⟩
theorem vx_runSX {hh : List (Nat × Nat × Nat × Nat)} (S : CallFix p m c cc nL s args Ts own) (hM : vx_Met l y ws rm Pc Qc XC mc ms free) (cw : vx_CSW R s args own index y bytes maxL ret hh ws rm mc ms n) (hp : PreS s H Pc As)
    (hg : g.method = m) (hn : As.length = n) (hsize : g.locals.size = nL) (hstack : g.stack = As.reverse ++ rest) (hW : 2 * g.monitorRoom + (rest.map fun v => v.category).sum ≤ 8) (hdg : decode cc g.pc = .ok (.invokestatic index, 3)) (hf : cells + mc ≤ R.cells ∧ slots + ms ≤ R.slots) :
    vx_Run p l e R s m args below meth c H locs cells slots mc ms g rest (Qc As.toArray) XC free := by
  obtain ⟨⟨hrc, hrs, hfr, hlo, hws, hcw⟩, hcode, hini, hy, hlen, hl, hstt⟩ := cw
  have hK : vx_Back l R p e below s args y 3 8 (PreOf R mc ms Pc) (PostOf Qc mc ms free) (vx_Post XC mc ms free) := vx_backW (hh := hh) (bytes := bytes) (maxL := maxL) (ret := ret) hM hp.1 hrc hrs hfr hlo hws hcw (fun a' U hW => word_at hW (Or.inl (by first | rfl | simp [Cond.onTables, Cond.keeps, Cond.steady])) hini)
  obtain ⟨hx, hb, hml, ho, -⟩ := S
  intro T hT X
  rcases vx_callSX X hx (hh := hh) (bytes := bytes) (maxL := maxL) (ret := ret) ho hl hstt hini hcode hy hK hg (hsize.trans hml.symm) (argsL := As) (rest := rest) (fun sig h => hn.trans (hlen sig h)) hstack hW (by rw [hb]; exact hdg)
    (fun vm₁ hW₁ => ⟨hf.1, hf.2, hp.2 (T.setVm vm₁) hT hW₁⟩) with ⟨v, vm₁, ⟨U', l2, c2, s2⟩, hW₁, X', ⟨g', mk, t, L, e1, e2, hq, h1, hL, h2, h3⟩, st⟩ | ⟨q, vm₁, ⟨U', l2, c2, s2⟩, hW₁, X', ⟨g', mk, t, L, E, ce, e1, e2, hq, hce, hcv, hcl, h1, hL, h2, h3⟩, st⟩
  · dsimp only [Pt.U, Pt.locs, Pt.cells, Pt.slots] at X' e1 e2 h1 h2 h3 st
    subst h1; subst h2; subst h3
    exact Or.inl ⟨v, (T.setVm vm₁).calling g' mk As.toArray, t, U', L, hT, X', hL, e1, e2, hq, st⟩
  · dsimp only [Pt.U, Pt.locs, Pt.cells, Pt.slots] at X' e1 e2 h1 h2 h3 st hcl
    subst h1; subst h2; subst h3
    exact Or.inr ⟨q, (T.setVm vm₁).calling g' mk As.toArray, t, U', L, E, ce, hT, X', hL, e1, e2, hq, hce, hcv, vx_cls hW₁ hcl, st⟩
end
end VXH
theorem vx_ofWH {l : Launch} {y : MethodName} {ws ws' : List Cond} {rm : Room} {Pc : Array Value → State → Prop} {Qc : Array Value → State → Outcome → State → Prop} {XC : String → State → State → Prop} {mc ms : Nat} {free : Addr → Prop} {cc : ByteArray} {maxL : Nat} {ret : Option FieldType} {hh : List (Nat × Nat × Nat × Nat)}
    (hy : plainName y.cls = true) (hw : ws = Cond.codeWith y cc maxL ret hh :: ws')
    (body : ∀ p e s m args below meth c s₁, BodyLoose p l y (headSpec ws rm) cc maxL ret e s m args below meth c s₁ → c.maxLocals = maxL → Pc args s →
      W p l e (headSpec ws rm).room s m args below meth c s.heap [] 0 0 (vx_MQ below Qc XC args s mc ms free) (entryFrame m args maxL)) : vx_Met l y ws rm Pc Qc XC mc ms free := by
  refine MetFree.of_bodyS (code := cc) (maxLocals := maxL) (ret := ret) hy ?_ ?_
  · intro args s m h hn
    obtain ⟨m9, meth, c, hn9, h1, h2, h3, h4, -, h5, h6, -⟩ := Cond.codeWith_spec (atoms_spec (ws := ws) h _ (by rw [hw]; exact List.mem_cons_self))
    cases hn.symm.trans hn9
    exact ⟨meth, c, h1, h2, h3, h4, h5, h6⟩
  · intro p e s m args below meth c s₁ B hml hP _
    have hh0 : s₁.heap = s.heap := by rw [B.state]; rfl
    obtain ⟨t, a1, o, b1, b2, b3⟩ := body p e s m args below meth c s₁ B hml hP s₁ hh0 (Stand.of_body B)
    exact ⟨t, o, a1, b1, b2, b3⟩
/-! ===== END ===== -/
end
section
def RX0 : String := "BitumenNeedle$Drum"
def TX0 : u_T := fun k => match k with
  | 0 => ("BitumenNeedle$Drum", "softness", "I", false)
  | 1 => ("BitumenNeedle$Drum", "days", "I", false)
  | _ => ("BitumenNeedle$Drum", "grade", "I", false)
def tyX0 : Nat → FieldType := fun k => match k with
  | 0 => .int
  | 1 => .int
  | _ => .int
theorem nmX0 : ∀ a, a < 3 → ∀ b, b < 3 → a ≠ b → (TX0 a).2.1 ≠ (TX0 b).2.1 := by decide +kernel
theorem tyX0_ok : ∀ k, k < 3 → parseFieldDescriptor (TX0 k).2.2.1 = some (tyX0 k) := by decide +kernel
abbrev cX0_init : ByteArray := prog_2_method_1_code
def yX0_init : MethodName := ⟨RX0, "<init>", "()V"⟩
abbrev cX0_fill : ByteArray := prog_2_method_2_code
def yX0_fill : MethodName := ⟨RX0, "fill", "(I)V"⟩
abbrev cX0_copyFrom : ByteArray := prog_2_method_3_code
def yX0_copyFrom : MethodName := ⟨RX0, "copyFrom", "(LBitumenNeedle$Drum;)V"⟩
abbrev cX0_hardness : ByteArray := prog_2_method_4_code
def yX0_hardness : MethodName := ⟨RX0, "hardness", "()I"⟩
def RX1 : String := "BitumenNeedle$History"
def TX1 : u_T := fun k => match k with
  | 0 => ("BitumenNeedle$History", "saved", "[LBitumenNeedle$Lab;", true)
  | 1 => ("BitumenNeedle$History", "snapshot", "LBitumenNeedle$Lab;", true)
  | 2 => ("BitumenNeedle$History", "count", "I", false)
  | _ => ("BitumenNeedle$History", "kept", "Z", false)
def tyX1 : Nat → FieldType := fun k => match k with
  | 0 => .array (.object "BitumenNeedle$Lab")
  | 1 => .object "BitumenNeedle$Lab"
  | 2 => .int
  | _ => .boolean
theorem nmX1 : ∀ a, a < 4 → ∀ b, b < 4 → a ≠ b → (TX1 a).2.1 ≠ (TX1 b).2.1 := by decide +kernel
theorem tyX1_ok : ∀ k, k < 4 → parseFieldDescriptor (TX1 k).2.2.1 = some (tyX1 k) := by decide +kernel
abbrev cX1_init : ByteArray := prog_3_method_1_code
def yX1_init : MethodName := ⟨RX1, "<init>", "()V"⟩
abbrev cX1_save : ByteArray := prog_3_method_2_code
def yX1_save : MethodName := ⟨RX1, "save", "(LBitumenNeedle$Lab;)V"⟩
abbrev cX1_dropOldest : ByteArray := prog_3_method_3_code
def yX1_dropOldest : MethodName := ⟨RX1, "dropOldest", "()V"⟩
abbrev cX1_goBack : ByteArray := prog_3_method_4_code
def yX1_goBack : MethodName := ⟨RX1, "goBack", "(LBitumenNeedle$Lab;)V"⟩
def RX2 : String := "BitumenNeedle$Lab"
def TX2 : u_T := fun k => match k with
  | 0 => ("BitumenNeedle$Lab", "drums", "[LBitumenNeedle$Drum;", true)
  | 1 => ("BitumenNeedle$Lab", "samples", "[LBitumenNeedle$Specimen;", true)
  | 2 => ("BitumenNeedle$Lab", "needles", "[LBitumenNeedle$Needle;", true)
  | 3 => ("BitumenNeedle$Lab", "degrees", "[I", true)
  | 4 => ("BitumenNeedle$Lab", "settings", "[I", true)
  | 5 => ("BitumenNeedle$Lab", "drumCount", "I", false)
  | 6 => ("BitumenNeedle$Lab", "sampleCount", "I", false)
  | 7 => ("BitumenNeedle$Lab", "minutes", "I", false)
  | 8 => ("BitumenNeedle$Lab", "renewed", "I", false)
  | 9 => ("BitumenNeedle$Lab", "stopPart", "I", false)
  | _ => ("BitumenNeedle$Lab", "stopReason", "I", false)
def tyX2 : Nat → FieldType := fun k => match k with
  | 0 => .array (.object "BitumenNeedle$Drum")
  | 1 => .array (.object "BitumenNeedle$Specimen")
  | 2 => .array (.object "BitumenNeedle$Needle")
  | 3 => .array .int
  | 4 => .array .int
  | 5 => .int
  | 6 => .int
  | 7 => .int
  | 8 => .int
  | 9 => .int
  | _ => .int
theorem nmX2 : ∀ a, a < 11 → ∀ b, b < 11 → a ≠ b → (TX2 a).2.1 ≠ (TX2 b).2.1 := by decide +kernel
theorem tyX2_ok : ∀ k, k < 11 → parseFieldDescriptor (TX2 k).2.2.1 = some (tyX2 k) := by decide +kernel
abbrev cX2_init : ByteArray := prog_4_method_1_code
def yX2_init : MethodName := ⟨RX2, "<init>", "()V"⟩
abbrev cX2_copyFrom : ByteArray := prog_4_method_2_code
def yX2_copyFrom : MethodName := ⟨RX2, "copyFrom", "(LBitumenNeedle$Lab;)V"⟩
abbrev cX2_hasDrum : ByteArray := prog_4_method_3_code
def yX2_hasDrum : MethodName := ⟨RX2, "hasDrum", "(I)Z"⟩
abbrev cX2_hasSample : ByteArray := prog_4_method_4_code
def yX2_hasSample : MethodName := ⟨RX2, "hasSample", "(I)Z"⟩
abbrev cX2_addDrum : ByteArray := prog_4_method_5_code
def yX2_addDrum : MethodName := ⟨RX2, "addDrum", "(I)I"⟩
abbrev cX2_ageDrums : ByteArray := prog_4_method_6_code
def yX2_ageDrums : MethodName := ⟨RX2, "ageDrums", "(I)I"⟩
abbrev cX2_whyNotTaken : ByteArray := prog_4_method_7_code
def yX2_whyNotTaken : MethodName := ⟨RX2, "whyNotTaken", "(I)I"⟩
abbrev cX2_take : ByteArray := prog_4_method_8_code
def yX2_take : MethodName := ⟨RX2, "take", "(I)I"⟩
abbrev cX2_throwAway : ByteArray := prog_4_method_9_code
def yX2_throwAway : MethodName := ⟨RX2, "throwAway", "(I)I"⟩
abbrev cX2_samplesIn : ByteArray := prog_4_method_10_code
def yX2_samplesIn : MethodName := ⟨RX2, "samplesIn", "(I)I"⟩
abbrev cX2_hasRoomFor : ByteArray := prog_4_method_11_code
def yX2_hasRoomFor : MethodName := ⟨RX2, "hasRoomFor", "(II)Z"⟩
abbrev cX2_whyNotLaid : ByteArray := prog_4_method_12_code
def yX2_whyNotLaid : MethodName := ⟨RX2, "whyNotLaid", "(II)I"⟩
abbrev cX2_lay : ByteArray := prog_4_method_13_code
def yX2_lay : MethodName := ⟨RX2, "lay", "(II)I"⟩
abbrev cX2_degreeAround : ByteArray := prog_4_method_14_code
def yX2_degreeAround : MethodName := ⟨RX2, "degreeAround", "(I)I"⟩
abbrev cX2_passMinutes : ByteArray := prog_4_method_15_code
def yX2_passMinutes : MethodName := ⟨RX2, "passMinutes", "(I)V"⟩
abbrev cX2_samplesAsTheirBath : ByteArray := prog_4_method_16_code
def yX2_samplesAsTheirBath : MethodName := ⟨RX2, "samplesAsTheirBath", "()I"⟩
abbrev cX2_depth : ByteArray := prog_4_method_17_code
def yX2_depth : MethodName := ⟨RX2, "depth", "(IIII)I"⟩
abbrev cX2_whyNotSunk : ByteArray := prog_4_method_18_code
def yX2_whyNotSunk : MethodName := ⟨RX2, "whyNotSunk", "(II)I"⟩
abbrev cX2_read : ByteArray := prog_4_method_19_code
def yX2_read : MethodName := ⟨RX2, "read", "(IIII)I"⟩
abbrev cX2_whyNotSoftened : ByteArray := prog_4_method_20_code
def yX2_whyNotSoftened : MethodName := ⟨RX2, "whyNotSoftened", "(I)I"⟩
abbrev cX2_minutesIn : ByteArray := prog_4_method_21_code
def yX2_minutesIn : MethodName := ⟨RX2, "minutesIn", "(II)I"⟩
abbrev cX2_minutesToReady : ByteArray := prog_4_method_22_code
def yX2_minutesToReady : MethodName := ⟨RX2, "minutesToReady", "(I)I"⟩
abbrev cX2_quickestBath : ByteArray := prog_4_method_23_code
def yX2_quickestBath : MethodName := ⟨RX2, "quickestBath", "(I)I"⟩
abbrev cX2_greatestDifferenceIn : ByteArray := prog_4_method_24_code
def yX2_greatestDifferenceIn : MethodName := ⟨RX2, "greatestDifferenceIn", "(I)I"⟩
abbrev cX2_bathNumber : ByteArray := prog_4_method_25_code
def yX2_bathNumber : MethodName := ⟨RX2, "bathNumber", "(II)I"⟩
abbrev cX2_samplesWithPenetration : ByteArray := prog_4_method_26_code
def yX2_samplesWithPenetration : MethodName := ⟨RX2, "samplesWithPenetration", "()I"⟩
abbrev cX2_readingsSoFar : ByteArray := prog_4_method_27_code
def yX2_readingsSoFar : MethodName := ⟨RX2, "readingsSoFar", "()I"⟩
abbrev cX2_bentNeedles : ByteArray := prog_4_method_28_code
def yX2_bentNeedles : MethodName := ⟨RX2, "bentNeedles", "()I"⟩
abbrev cX2_soldDrums : ByteArray := prog_4_method_29_code
def yX2_soldDrums : MethodName := ⟨RX2, "soldDrums", "()I"⟩
abbrev cX2_total : ByteArray := prog_4_method_30_code
def yX2_total : MethodName := ⟨RX2, "total", "(I)I"⟩
def RX3 : String := "BitumenNeedle$Needle"
def TX3 : u_T := fun k => match k with
  | 0 => ("BitumenNeedle$Needle", "wear", "I", false)
  | 1 => ("BitumenNeedle$Needle", "bent", "Z", false)
  | _ => ("BitumenNeedle$Needle", "readings", "I", false)
def tyX3 : Nat → FieldType := fun k => match k with
  | 0 => .int
  | 1 => .boolean
  | _ => .int
theorem nmX3 : ∀ a, a < 3 → ∀ b, b < 3 → a ≠ b → (TX3 a).2.1 ≠ (TX3 b).2.1 := by decide +kernel
theorem tyX3_ok : ∀ k, k < 3 → parseFieldDescriptor (TX3 k).2.2.1 = some (tyX3 k) := by decide +kernel
abbrev cX3_init : ByteArray := prog_5_method_1_code
def yX3_init : MethodName := ⟨RX3, "<init>", "()V"⟩
abbrev cX3_copyFrom : ByteArray := prog_5_method_2_code
def yX3_copyFrom : MethodName := ⟨RX3, "copyFrom", "(LBitumenNeedle$Needle;)V"⟩
abbrev cX3_makeNew : ByteArray := prog_5_method_3_code
def yX3_makeNew : MethodName := ⟨RX3, "makeNew", "()I"⟩
abbrev cX3_wearBy : ByteArray := prog_5_method_4_code
def yX3_wearBy : MethodName := ⟨RX3, "wearBy", "(I)V"⟩
abbrev cX3_number : ByteArray := prog_5_method_5_code
def yX3_number : MethodName := ⟨RX3, "number", "(I)I"⟩
def RX4 : String := "BitumenNeedle$OrderText"
def TX4 : u_T := fun k => match k with
  | 0 => ("BitumenNeedle$OrderText", "characters", "[C", true)
  | 1 => ("BitumenNeedle$OrderText", "part", "LBitumenNeedle$Part;", true)
  | 2 => ("BitumenNeedle$OrderText", "length", "I", false)
  | _ => ("BitumenNeedle$OrderText", "place", "I", false)
def tyX4 : Nat → FieldType := fun k => match k with
  | 0 => .array .char
  | 1 => .object "BitumenNeedle$Part"
  | 2 => .int
  | _ => .int
theorem nmX4 : ∀ a, a < 4 → ∀ b, b < 4 → a ≠ b → (TX4 a).2.1 ≠ (TX4 b).2.1 := by decide +kernel
theorem tyX4_ok : ∀ k, k < 4 → parseFieldDescriptor (TX4 k).2.2.1 = some (tyX4 k) := by decide +kernel
abbrev cX4_init : ByteArray := prog_6_method_1_code
def yX4_init : MethodName := ⟨RX4, "<init>", "()V"⟩
abbrev cX4_add : ByteArray := prog_6_method_2_code
def yX4_add : MethodName := ⟨RX4, "add", "(C)I"⟩
abbrev cX4_empty : ByteArray := prog_6_method_3_code
def yX4_empty : MethodName := ⟨RX4, "empty", "()I"⟩
abbrev cX4_errorPlace : ByteArray := prog_6_method_4_code
def yX4_errorPlace : MethodName := ⟨RX4, "errorPlace", "()I"⟩
abbrev cX4_isComplete : ByteArray := prog_6_method_5_code
def yX4_isComplete : MethodName := ⟨RX4, "isComplete", "()Z"⟩
abbrev cX4_nextPart : ByteArray := prog_6_method_6_code
def yX4_nextPart : MethodName := ⟨RX4, "nextPart", "()Z"⟩
def RX5 : String := "BitumenNeedle$Part"
def TX5 : u_T := fun k => match k with
  | 0 => ("BitumenNeedle$Part", "letter", "I", false)
  | 1 => ("BitumenNeedle$Part", "slots", "Ljava/lang/String;", false)
  | 2 => ("BitumenNeedle$Part", "slot", "I", false)
  | 3 => ("BitumenNeedle$Part", "taken", "I", false)
  | _ => ("BitumenNeedle$Part", "values", "[I", true)
def tyX5 : Nat → FieldType := fun k => match k with
  | 0 => .int
  | 1 => .object "java/lang/String"
  | 2 => .int
  | 3 => .int
  | _ => .array .int
theorem nmX5 : ∀ a, a < 5 → ∀ b, b < 5 → a ≠ b → (TX5 a).2.1 ≠ (TX5 b).2.1 := by decide +kernel
theorem tyX5_ok : ∀ k, k < 5 → parseFieldDescriptor (TX5 k).2.2.1 = some (tyX5 k) := by decide +kernel
abbrev cX5_init : ByteArray := prog_7_method_1_code
def yX5_init : MethodName := ⟨RX5, "<init>", "()V"⟩
abbrev cX5_clear : ByteArray := prog_7_method_2_code
def yX5_clear : MethodName := ⟨RX5, "clear", "()V"⟩
abbrev cX5_accept : ByteArray := prog_7_method_3_code
def yX5_accept : MethodName := ⟨RX5, "accept", "(C)Z"⟩
abbrev cX5_isComplete : ByteArray := prog_7_method_4_code
def yX5_isComplete : MethodName := ⟨RX5, "isComplete", "()Z"⟩
abbrev cX5_slotsBehind : ByteArray := prog_7_method_5_code
def yX5_slotsBehind : MethodName := ⟨RX5, "slotsBehind", "(I)Ljava/lang/String;"⟩
abbrev cX5_slotKind : ByteArray := prog_7_method_6_code
def yX5_slotKind : MethodName := ⟨RX5, "slotKind", "()I"⟩
abbrev cX5_fillSlot : ByteArray := prog_7_method_7_code
def yX5_fillSlot : MethodName := ⟨RX5, "fillSlot", "(C)Z"⟩
abbrev cX5_fillWithSign : ByteArray := prog_7_method_8_code
def yX5_fillWithSign : MethodName := ⟨RX5, "fillWithSign", "(II)Z"⟩
abbrev cX5_isSlotFull : ByteArray := prog_7_method_9_code
def yX5_isSlotFull : MethodName := ⟨RX5, "isSlotFull", "()Z"⟩
abbrev cX5_canBecome : ByteArray := prog_7_method_10_code
def yX5_canBecome : MethodName := ⟨RX5, "canBecome", "(III)Z"⟩
abbrev cX5_least : ByteArray := prog_7_method_11_code
def yX5_least : MethodName := ⟨RX5, "least", "(I)I"⟩
abbrev cX5_most : ByteArray := prog_7_method_12_code
def yX5_most : MethodName := ⟨RX5, "most", "(I)I"⟩
def RX6 : String := "BitumenNeedle$Specimen"
def TX6 : u_T := fun k => match k with
  | 0 => ("BitumenNeedle$Specimen", "drum", "I", false)
  | 1 => ("BitumenNeedle$Specimen", "hardness", "I", false)
  | 2 => ("BitumenNeedle$Specimen", "degree", "I", false)
  | 3 => ("BitumenNeedle$Specimen", "bath", "I", false)
  | 4 => ("BitumenNeedle$Specimen", "softening", "I", false)
  | 5 => ("BitumenNeedle$Specimen", "readings", "I", false)
  | _ => ("BitumenNeedle$Specimen", "marks", "[I", true)
def tyX6 : Nat → FieldType := fun k => match k with
  | 0 => .int
  | 1 => .int
  | 2 => .int
  | 3 => .int
  | 4 => .int
  | 5 => .int
  | _ => .array .int
theorem nmX6 : ∀ a, a < 7 → ∀ b, b < 7 → a ≠ b → (TX6 a).2.1 ≠ (TX6 b).2.1 := by decide +kernel
theorem tyX6_ok : ∀ k, k < 7 → parseFieldDescriptor (TX6 k).2.2.1 = some (tyX6 k) := by decide +kernel
abbrev cX6_init : ByteArray := prog_8_method_1_code
def yX6_init : MethodName := ⟨RX6, "<init>", "()V"⟩
abbrev cX6_begin : ByteArray := prog_8_method_2_code
def yX6_begin : MethodName := ⟨RX6, "begin", "(II)V"⟩
abbrev cX6_copyFrom : ByteArray := prog_8_method_3_code
def yX6_copyFrom : MethodName := ⟨RX6, "copyFrom", "(LBitumenNeedle$Specimen;)V"⟩
abbrev cX6_mark : ByteArray := prog_8_method_4_code
def yX6_mark : MethodName := ⟨RX6, "mark", "(II)I"⟩
abbrev cX6_write : ByteArray := prog_8_method_5_code
def yX6_write : MethodName := ⟨RX6, "write", "(IIII)V"⟩
abbrev cX6_depthUnder : ByteArray := prog_8_method_6_code
def yX6_depthUnder : MethodName := ⟨RX6, "depthUnder", "(III)I"⟩
abbrev cX6_whyNoPenetration : ByteArray := prog_8_method_7_code
def yX6_whyNoPenetration : MethodName := ⟨RX6, "whyNoPenetration", "(I)I"⟩
abbrev cX6_penetration : ByteArray := prog_8_method_8_code
def yX6_penetration : MethodName := ⟨RX6, "penetration", "(I)I"⟩
abbrev cX6_latestNeedles : ByteArray := prog_8_method_9_code
def yX6_latestNeedles : MethodName := ⟨RX6, "latestNeedles", "()I"⟩
abbrev cX6_soften : ByteArray := prog_8_method_10_code
def yX6_soften : MethodName := ⟨RX6, "soften", "()I"⟩
abbrev cX6_number : ByteArray := prog_8_method_11_code
def yX6_number : MethodName := ⟨RX6, "number", "(II)I"⟩
def RX7 : String := "BitumenNeedle$Trade"
def TX7 : u_T := fun k => match k with
  | _ => ("", "", "", false)
def tyX7 : Nat → FieldType := fun k => match k with
  | _ => .int
theorem nmX7 : ∀ a, a < 0 → ∀ b, b < 0 → a ≠ b → (TX7 a).2.1 ≠ (TX7 b).2.1 := by decide +kernel
theorem tyX7_ok : ∀ k, k < 0 → parseFieldDescriptor (TX7 k).2.2.1 = some (tyX7 k) := by decide +kernel
abbrev cX7_samplesOf : ByteArray := prog_9_method_2_code
def yX7_samplesOf : MethodName := ⟨RX7, "samplesOf", "(LBitumenNeedle$Lab;I)I"⟩
abbrev cX7_meanPenetration : ByteArray := prog_9_method_3_code
def yX7_meanPenetration : MethodName := ⟨RX7, "meanPenetration", "(LBitumenNeedle$Lab;I)I"⟩
abbrev cX7_meanSoftening : ByteArray := prog_9_method_4_code
def yX7_meanSoftening : MethodName := ⟨RX7, "meanSoftening", "(LBitumenNeedle$Lab;I)I"⟩
abbrev cX7_meanByReadings : ByteArray := prog_9_method_5_code
def yX7_meanByReadings : MethodName := ⟨RX7, "meanByReadings", "(LBitumenNeedle$Lab;I)I"⟩
abbrev cX7_index : ByteArray := prog_9_method_6_code
def yX7_index : MethodName := ⟨RX7, "index", "(III)I"⟩
abbrev cX7_shownIndex : ByteArray := prog_9_method_7_code
def yX7_shownIndex : MethodName := ⟨RX7, "shownIndex", "(LBitumenNeedle$Lab;II)I"⟩
abbrev cX7_samplesWithPenetration : ByteArray := prog_9_method_8_code
def yX7_samplesWithPenetration : MethodName := ⟨RX7, "samplesWithPenetration", "(LBitumenNeedle$Lab;I)I"⟩
abbrev cX7_needlesRead : ByteArray := prog_9_method_9_code
def yX7_needlesRead : MethodName := ⟨RX7, "needlesRead", "(LBitumenNeedle$Lab;I)I"⟩
abbrev cX7_whyNotSold : ByteArray := prog_9_method_10_code
def yX7_whyNotSold : MethodName := ⟨RX7, "whyNotSold", "(LBitumenNeedle$Lab;I)I"⟩
abbrev cX7_close : ByteArray := prog_9_method_11_code
def yX7_close : MethodName := ⟨RX7, "close", "(LBitumenNeedle$Lab;I)I"⟩
abbrev cX7_number : ByteArray := prog_9_method_12_code
def yX7_number : MethodName := ⟨RX7, "number", "(LBitumenNeedle$Lab;II)I"⟩
def RX8 : String := "BitumenNeedle"
def TX8 : u_T := fun k => match k with
  | 0 => ("BitumenNeedle", "lab", "LBitumenNeedle$Lab;", true)
  | 1 => ("BitumenNeedle", "history", "LBitumenNeedle$History;", true)
  | _ => ("BitumenNeedle", "text", "LBitumenNeedle$OrderText;", true)
def tyX8 : Nat → FieldType := fun k => match k with
  | 0 => .object "BitumenNeedle$Lab"
  | 1 => .object "BitumenNeedle$History"
  | _ => .object "BitumenNeedle$OrderText"
theorem nmX8 : ∀ a, a < 3 → ∀ b, b < 3 → a ≠ b → (TX8 a).2.1 ≠ (TX8 b).2.1 := by decide +kernel
theorem tyX8_ok : ∀ k, k < 3 → parseFieldDescriptor (TX8 k).2.2.1 = some (tyX8 k) := by decide +kernel
abbrev cX8_init : ByteArray := prog_1_method_1_code
def yX8_init : MethodName := ⟨RX8, "<init>", "()V"⟩
abbrev cX8_drum : ByteArray := prog_1_method_2_code
def yX8_drum : MethodName := ⟨RX8, "drum", "(I)I"⟩
abbrev cX8_age : ByteArray := prog_1_method_3_code
def yX8_age : MethodName := ⟨RX8, "age", "(I)I"⟩
abbrev cX8_sample : ByteArray := prog_1_method_4_code
def yX8_sample : MethodName := ⟨RX8, "sample", "(I)I"⟩
abbrev cX8_toss : ByteArray := prog_1_method_5_code
def yX8_toss : MethodName := ⟨RX8, "toss", "(I)I"⟩
abbrev cX8_bath : ByteArray := prog_1_method_6_code
def yX8_bath : MethodName := ⟨RX8, "bath", "(II)I"⟩
abbrev cX8_warm : ByteArray := prog_1_method_7_code
def yX8_warm : MethodName := ⟨RX8, "warm", "(II)I"⟩
abbrev cX8_pass : ByteArray := prog_1_method_8_code
def yX8_pass : MethodName := ⟨RX8, "pass", "(I)I"⟩
abbrev cX8_sink : ByteArray := prog_1_method_9_code
def yX8_sink : MethodName := ⟨RX8, "sink", "(IIII)I"⟩
abbrev cX8_renew : ByteArray := prog_1_method_10_code
def yX8_renew : MethodName := ⟨RX8, "renew", "(I)I"⟩
abbrev cX8_ring : ByteArray := prog_1_method_11_code
def yX8_ring : MethodName := ⟨RX8, "ring", "(I)I"⟩
abbrev cX8_sell : ByteArray := prog_1_method_12_code
def yX8_sell : MethodName := ⟨RX8, "sell", "(I)I"⟩
abbrev cX8_set : ByteArray := prog_1_method_13_code
def yX8_set : MethodName := ⟨RX8, "set", "(II)I"⟩
abbrev cX8_append : ByteArray := prog_1_method_14_code
def yX8_append : MethodName := ⟨RX8, "append", "(I)I"⟩
abbrev cX8_clearBuffer : ByteArray := prog_1_method_15_code
def yX8_clearBuffer : MethodName := ⟨RX8, "clearBuffer", "()I"⟩
abbrev cX8_firstError : ByteArray := prog_1_method_16_code
def yX8_firstError : MethodName := ⟨RX8, "firstError", "()I"⟩
abbrev cX8_obey : ByteArray := prog_1_method_17_code
def yX8_obey : MethodName := ⟨RX8, "obey", "()I"⟩
abbrev cX8_stopped : ByteArray := prog_1_method_18_code
def yX8_stopped : MethodName := ⟨RX8, "stopped", "(I)I"⟩
abbrev cX8_undo : ByteArray := prog_1_method_19_code
def yX8_undo : MethodName := ⟨RX8, "undo", "()I"⟩
abbrev cX8_keep : ByteArray := prog_1_method_20_code
def yX8_keep : MethodName := ⟨RX8, "keep", "()I"⟩
abbrev cX8_restore : ByteArray := prog_1_method_21_code
def yX8_restore : MethodName := ⟨RX8, "restore", "()I"⟩
abbrev cX8_drumOf : ByteArray := prog_1_method_22_code
def yX8_drumOf : MethodName := ⟨RX8, "drumOf", "(II)I"⟩
abbrev cX8_sampleOf : ByteArray := prog_1_method_23_code
def yX8_sampleOf : MethodName := ⟨RX8, "sampleOf", "(II)I"⟩
abbrev cX8_reading : ByteArray := prog_1_method_24_code
def yX8_reading : MethodName := ⟨RX8, "reading", "(III)I"⟩
abbrev cX8_needle : ByteArray := prog_1_method_25_code
def yX8_needle : MethodName := ⟨RX8, "needle", "(II)I"⟩
abbrev cX8_bathOf : ByteArray := prog_1_method_26_code
def yX8_bathOf : MethodName := ⟨RX8, "bathOf", "(II)I"⟩
abbrev cX8_count : ByteArray := prog_1_method_27_code
def yX8_count : MethodName := ⟨RX8, "count", "(I)I"⟩
abbrev cX8_noSink : ByteArray := prog_1_method_28_code
def yX8_noSink : MethodName := ⟨RX8, "noSink", "(II)I"⟩
abbrev cX8_noSale : ByteArray := prog_1_method_29_code
def yX8_noSale : MethodName := ⟨RX8, "noSale", "(I)I"⟩
abbrev cX8_ifSunk : ByteArray := prog_1_method_30_code
def yX8_ifSunk : MethodName := ⟨RX8, "ifSunk", "(IIII)I"⟩
abbrev cX8_secondsTo : ByteArray := prog_1_method_31_code
def yX8_secondsTo : MethodName := ⟨RX8, "secondsTo", "(IIII)I"⟩
abbrev cX8_readyIn : ByteArray := prog_1_method_32_code
def yX8_readyIn : MethodName := ⟨RX8, "readyIn", "(I)I"⟩
abbrev cX8_bestBath : ByteArray := prog_1_method_33_code
def yX8_bestBath : MethodName := ⟨RX8, "bestBath", "(I)I"⟩
abbrev cX8_readShare : ByteArray := prog_1_method_34_code
def yX8_readShare : MethodName := ⟨RX8, "readShare", "()D"⟩
abbrev cX8_digest : ByteArray := prog_1_method_35_code
def yX8_digest : MethodName := ⟨RX8, "digest", "()J"⟩
abbrev cX8_mindNumber : ByteArray := prog_1_method_36_code
def yX8_mindNumber : MethodName := ⟨RX8, "mindNumber", "(II)V"⟩
abbrev cX8_mindRange : ByteArray := prog_1_method_37_code
def yX8_mindRange : MethodName := ⟨RX8, "mindRange", "(III)V"⟩
abbrev cX8_refuseFor : ByteArray := prog_1_method_38_code
def yX8_refuseFor : MethodName := ⟨RX8, "refuseFor", "(I)V"⟩
abbrev cX8_doPart : ByteArray := prog_1_method_39_code
def yX8_doPart : MethodName := ⟨RX8, "doPart", "(LBitumenNeedle$Part;)I"⟩
abbrev cX8_whyNotDone : ByteArray := prog_1_method_40_code
def yX8_whyNotDone : MethodName := ⟨RX8, "whyNotDone", "(III)I"⟩
abbrev cX8_mixedWithSample : ByteArray := prog_1_method_41_code
def yX8_mixedWithSample : MethodName := ⟨RX8, "mixedWithSample", "(JI)J"⟩
abbrev cX8_mixedWithTools : ByteArray := prog_1_method_42_code
def yX8_mixedWithTools : MethodName := ⟨RX8, "mixedWithTools", "(J)J"⟩
abbrev cX8_mixed : ByteArray := prog_1_method_43_code
def yX8_mixed : MethodName := ⟨RX8, "mixed", "(JJ)J"⟩
abbrev cX8_bitsOf : ByteArray := prog_1_method_44_code
def yX8_bitsOf : MethodName := ⟨RX8, "bitsOf", "(D)J"⟩
abbrev cX8_divided : ByteArray := prog_1_method_45_code
def yX8_divided : MethodName := ⟨RX8, "divided", "(II)I"⟩
abbrev cX8_degreeNext : ByteArray := prog_1_method_46_code
def yX8_degreeNext : MethodName := ⟨RX8, "degreeNext", "(II)I"⟩
def RX9 : String := "BitumenNeedleModel"
def TX9 : u_T := fun k => match k with
  | 0 => ("BitumenNeedleModel", "thrown", "I", false)
  | 1 => ("BitumenNeedleModel", "s", "[I", true)
  | 2 => ("BitumenNeedleModel", "saved", "I", false)
  | 3 => ("BitumenNeedleModel", "isKept", "Z", false)
  | 4 => ("BitumenNeedleModel", "text", "[I", true)
  | 5 => ("BitumenNeedleModel", "length", "I", false)
  | 6 => ("BitumenNeedleModel", "at", "I", false)
  | 7 => ("BitumenNeedleModel", "part", "I", false)
  | 8 => ("BitumenNeedleModel", "numbers", "[I", true)
  | _ => ("BitumenNeedleModel", "hash", "J", false)
def tyX9 : Nat → FieldType := fun k => match k with
  | 0 => .int
  | 1 => .array .int
  | 2 => .int
  | 3 => .boolean
  | 4 => .array .int
  | 5 => .int
  | 6 => .int
  | 7 => .int
  | 8 => .array .int
  | _ => .long
theorem nmX9 : ∀ a, a < 10 → ∀ b, b < 10 → a ≠ b → (TX9 a).2.1 ≠ (TX9 b).2.1 := by decide +kernel
theorem tyX9_ok : ∀ k, k < 10 → parseFieldDescriptor (TX9 k).2.2.1 = some (tyX9 k) := by decide +kernel
abbrev cX9_init : ByteArray := prog_11_method_1_code
def yX9_init : MethodName := ⟨RX9, "<init>", "()V"⟩
abbrev cX9_thrown : ByteArray := prog_11_method_2_code
def yX9_thrown : MethodName := ⟨RX9, "thrown", "()I"⟩
abbrev cX9_in : ByteArray := prog_11_method_3_code
def yX9_in : MethodName := ⟨RX9, "in", "(III)Z"⟩
abbrev cX9_holds : ByteArray := prog_11_method_4_code
def yX9_holds : MethodName := ⟨RX9, "holds", "(I)Z"⟩
abbrev cX9_div : ByteArray := prog_11_method_5_code
def yX9_div : MethodName := ⟨RX9, "div", "(II)I"⟩
abbrev cX9_size : ByteArray := prog_11_method_6_code
def yX9_size : MethodName := ⟨RX9, "size", "(I)I"⟩
abbrev cX9_isDrum : ByteArray := prog_11_method_7_code
def yX9_isDrum : MethodName := ⟨RX9, "isDrum", "(I)Z"⟩
abbrev cX9_isSample : ByteArray := prog_11_method_8_code
def yX9_isSample : MethodName := ⟨RX9, "isSample", "(I)Z"⟩
abbrev cX9_isOne : ByteArray := prog_11_method_9_code
def yX9_isOne : MethodName := ⟨RX9, "isOne", "(I)Z"⟩
abbrev cX9_of : ByteArray := prog_11_method_10_code
def yX9_of : MethodName := ⟨RX9, "of", "(II)I"⟩
abbrev cX9_lay : ByteArray := prog_11_method_11_code
def yX9_lay : MethodName := ⟨RX9, "lay", "(III)V"⟩
abbrev cX9_drumAt : ByteArray := prog_11_method_12_code
def yX9_drumAt : MethodName := ⟨RX9, "drumAt", "(II)I"⟩
abbrev cX9_needleAt : ByteArray := prog_11_method_13_code
def yX9_needleAt : MethodName := ⟨RX9, "needleAt", "(II)I"⟩
abbrev cX9_warmed : ByteArray := prog_11_method_14_code
def yX9_warmed : MethodName := ⟨RX9, "warmed", "(II)I"⟩
abbrev cX9_inBath : ByteArray := prog_11_method_15_code
def yX9_inBath : MethodName := ⟨RX9, "inBath", "(I)I"⟩
abbrev cX9_hasRoom : ByteArray := prog_11_method_16_code
def yX9_hasRoom : MethodName := ⟨RX9, "hasRoom", "(II)Z"⟩
abbrev cX9_passes : ByteArray := prog_11_method_17_code
def yX9_passes : MethodName := ⟨RX9, "passes", "(I)I"⟩
abbrev cX9_ready : ByteArray := prog_11_method_18_code
def yX9_ready : MethodName := ⟨RX9, "ready", "(II)I"⟩
abbrev cX9_depth : ByteArray := prog_11_method_19_code
def yX9_depth : MethodName := ⟨RX9, "depth", "(IIII)I"⟩
abbrev cX9_whyNot : ByteArray := prog_11_method_20_code
def yX9_whyNot : MethodName := ⟨RX9, "whyNot", "(II)I"⟩
abbrev cX9_sinks : ByteArray := prog_11_method_21_code
def yX9_sinks : MethodName := ⟨RX9, "sinks", "(IIII)I"⟩
abbrev cX9_latest : ByteArray := prog_11_method_22_code
def yX9_latest : MethodName := ⟨RX9, "latest", "(III)I"⟩
abbrev cX9_whyNone : ByteArray := prog_11_method_23_code
def yX9_whyNone : MethodName := ⟨RX9, "whyNone", "(I)I"⟩
abbrev cX9_penetration : ByteArray := prog_11_method_24_code
def yX9_penetration : MethodName := ⟨RX9, "penetration", "(I)I"⟩
abbrev cX9_needles : ByteArray := prog_11_method_25_code
def yX9_needles : MethodName := ⟨RX9, "needles", "(I)I"⟩
abbrev cX9_rings : ByteArray := prog_11_method_26_code
def yX9_rings : MethodName := ⟨RX9, "rings", "(I)I"⟩
abbrev cX9_hardness : ByteArray := prog_11_method_27_code
def yX9_hardness : MethodName := ⟨RX9, "hardness", "(I)I"⟩
abbrev cX9_samplesOf : ByteArray := prog_11_method_28_code
def yX9_samplesOf : MethodName := ⟨RX9, "samplesOf", "(I)I"⟩
abbrev cX9_told : ByteArray := prog_11_method_29_code
def yX9_told : MethodName := ⟨RX9, "told", "(IZ)I"⟩
abbrev cX9_mean : ByteArray := prog_11_method_30_code
def yX9_mean : MethodName := ⟨RX9, "mean", "(IZ)I"⟩
abbrev cX9_index : ByteArray := prog_11_method_31_code
def yX9_index : MethodName := ⟨RX9, "index", "(I)I"⟩
abbrev cX9_whyNotSold : ByteArray := prog_11_method_32_code
def yX9_whyNotSold : MethodName := ⟨RX9, "whyNotSold", "(I)I"⟩
abbrev cX9_sells : ByteArray := prog_11_method_33_code
def yX9_sells : MethodName := ⟨RX9, "sells", "(I)I"⟩
abbrev cX9_takes : ByteArray := prog_11_method_34_code
def yX9_takes : MethodName := ⟨RX9, "takes", "(I)I"⟩
abbrev cX9_copies : ByteArray := prog_11_method_35_code
def yX9_copies : MethodName := ⟨RX9, "copies", "(II)V"⟩
abbrev cX9_save : ByteArray := prog_11_method_36_code
def yX9_save : MethodName := ⟨RX9, "save", "()V"⟩
abbrev cX9_changed : ByteArray := prog_11_method_37_code
def yX9_changed : MethodName := ⟨RX9, "changed", "(II)I"⟩
abbrev cX9_drum : ByteArray := prog_11_method_38_code
def yX9_drum : MethodName := ⟨RX9, "drum", "(I)I"⟩
abbrev cX9_age : ByteArray := prog_11_method_39_code
def yX9_age : MethodName := ⟨RX9, "age", "(I)I"⟩
abbrev cX9_sample : ByteArray := prog_11_method_40_code
def yX9_sample : MethodName := ⟨RX9, "sample", "(I)I"⟩
abbrev cX9_toss : ByteArray := prog_11_method_41_code
def yX9_toss : MethodName := ⟨RX9, "toss", "(I)I"⟩
abbrev cX9_bath : ByteArray := prog_11_method_42_code
def yX9_bath : MethodName := ⟨RX9, "bath", "(II)I"⟩
abbrev cX9_warm : ByteArray := prog_11_method_43_code
def yX9_warm : MethodName := ⟨RX9, "warm", "(II)I"⟩
abbrev cX9_pass : ByteArray := prog_11_method_44_code
def yX9_pass : MethodName := ⟨RX9, "pass", "(I)I"⟩
abbrev cX9_sink : ByteArray := prog_11_method_45_code
def yX9_sink : MethodName := ⟨RX9, "sink", "(IIII)I"⟩
abbrev cX9_renew : ByteArray := prog_11_method_46_code
def yX9_renew : MethodName := ⟨RX9, "renew", "(I)I"⟩
abbrev cX9_ring : ByteArray := prog_11_method_47_code
def yX9_ring : MethodName := ⟨RX9, "ring", "(I)I"⟩
abbrev cX9_sell : ByteArray := prog_11_method_48_code
def yX9_sell : MethodName := ⟨RX9, "sell", "(I)I"⟩
abbrev cX9_set : ByteArray := prog_11_method_49_code
def yX9_set : MethodName := ⟨RX9, "set", "(II)I"⟩
abbrev cX9_append : ByteArray := prog_11_method_50_code
def yX9_append : MethodName := ⟨RX9, "append", "(I)I"⟩
abbrev cX9_clearBuffer : ByteArray := prog_11_method_51_code
def yX9_clearBuffer : MethodName := ⟨RX9, "clearBuffer", "()I"⟩
abbrev cX9_sign : ByteArray := prog_11_method_52_code
def yX9_sign : MethodName := ⟨RX9, "sign", "()I"⟩
abbrev cX9_takesSign : ByteArray := prog_11_method_53_code
def yX9_takesSign : MethodName := ⟨RX9, "takesSign", "(I)Z"⟩
abbrev cX9_readsDigit : ByteArray := prog_11_method_54_code
def yX9_readsDigit : MethodName := ⟨RX9, "readsDigit", "(II)Z"⟩
abbrev cX9_begins : ByteArray := prog_11_method_55_code
def yX9_begins : MethodName := ⟨RX9, "begins", "(III)Z"⟩
abbrev cX9_readsNumber : ByteArray := prog_11_method_56_code
def yX9_readsNumber : MethodName := ⟨RX9, "readsNumber", "(III)Z"⟩
abbrev cX9_readsPart : ByteArray := prog_11_method_57_code
def yX9_readsPart : MethodName := ⟨RX9, "readsPart", "()Z"⟩
abbrev cX9_areOrders : ByteArray := prog_11_method_58_code
def yX9_areOrders : MethodName := ⟨RX9, "areOrders", "()Z"⟩
abbrev cX9_firstError : ByteArray := prog_11_method_59_code
def yX9_firstError : MethodName := ⟨RX9, "firstError", "()I"⟩
abbrev cX9_stops : ByteArray := prog_11_method_60_code
def yX9_stops : MethodName := ⟨RX9, "stops", "()I"⟩
abbrev cX9_does : ByteArray := prog_11_method_61_code
def yX9_does : MethodName := ⟨RX9, "does", "()V"⟩
abbrev cX9_obey : ByteArray := prog_11_method_62_code
def yX9_obey : MethodName := ⟨RX9, "obey", "()I"⟩
abbrev cX9_stopped : ByteArray := prog_11_method_63_code
def yX9_stopped : MethodName := ⟨RX9, "stopped", "(I)I"⟩
abbrev cX9_undo : ByteArray := prog_11_method_64_code
def yX9_undo : MethodName := ⟨RX9, "undo", "()I"⟩
abbrev cX9_keep : ByteArray := prog_11_method_65_code
def yX9_keep : MethodName := ⟨RX9, "keep", "()I"⟩
abbrev cX9_restore : ByteArray := prog_11_method_66_code
def yX9_restore : MethodName := ⟨RX9, "restore", "()I"⟩
abbrev cX9_ofDrum : ByteArray := prog_11_method_67_code
def yX9_ofDrum : MethodName := ⟨RX9, "ofDrum", "(II)I"⟩
abbrev cX9_drumOf : ByteArray := prog_11_method_68_code
def yX9_drumOf : MethodName := ⟨RX9, "drumOf", "(II)I"⟩
abbrev cX9_ofSample : ByteArray := prog_11_method_69_code
def yX9_ofSample : MethodName := ⟨RX9, "ofSample", "(II)I"⟩
abbrev cX9_sampleOf : ByteArray := prog_11_method_70_code
def yX9_sampleOf : MethodName := ⟨RX9, "sampleOf", "(II)I"⟩
abbrev cX9_reading : ByteArray := prog_11_method_71_code
def yX9_reading : MethodName := ⟨RX9, "reading", "(III)I"⟩
abbrev cX9_needle : ByteArray := prog_11_method_72_code
def yX9_needle : MethodName := ⟨RX9, "needle", "(II)I"⟩
abbrev cX9_farthest : ByteArray := prog_11_method_73_code
def yX9_farthest : MethodName := ⟨RX9, "farthest", "(I)I"⟩
abbrev cX9_ofBath : ByteArray := prog_11_method_74_code
def yX9_ofBath : MethodName := ⟨RX9, "ofBath", "(II)I"⟩
abbrev cX9_bathOf : ByteArray := prog_11_method_75_code
def yX9_bathOf : MethodName := ⟨RX9, "bathOf", "(II)I"⟩
abbrev cX9_soldDrums : ByteArray := prog_11_method_76_code
def yX9_soldDrums : MethodName := ⟨RX9, "soldDrums", "()I"⟩
abbrev cX9_penetrated : ByteArray := prog_11_method_77_code
def yX9_penetrated : MethodName := ⟨RX9, "penetrated", "()I"⟩
abbrev cX9_counted : ByteArray := prog_11_method_78_code
def yX9_counted : MethodName := ⟨RX9, "counted", "(I)I"⟩
abbrev cX9_count : ByteArray := prog_11_method_79_code
def yX9_count : MethodName := ⟨RX9, "count", "(I)I"⟩
abbrev cX9_noSink : ByteArray := prog_11_method_80_code
def yX9_noSink : MethodName := ⟨RX9, "noSink", "(II)I"⟩
abbrev cX9_noSale : ByteArray := prog_11_method_81_code
def yX9_noSale : MethodName := ⟨RX9, "noSale", "(I)I"⟩
abbrev cX9_ifSunk : ByteArray := prog_11_method_82_code
def yX9_ifSunk : MethodName := ⟨RX9, "ifSunk", "(IIII)I"⟩
abbrev cX9_secondsTo : ByteArray := prog_11_method_83_code
def yX9_secondsTo : MethodName := ⟨RX9, "secondsTo", "(IIII)I"⟩
abbrev cX9_readyNow : ByteArray := prog_11_method_84_code
def yX9_readyNow : MethodName := ⟨RX9, "readyNow", "(I)I"⟩
abbrev cX9_readyIn : ByteArray := prog_11_method_85_code
def yX9_readyIn : MethodName := ⟨RX9, "readyIn", "(I)I"⟩
abbrev cX9_best : ByteArray := prog_11_method_86_code
def yX9_best : MethodName := ⟨RX9, "best", "(I)I"⟩
abbrev cX9_bestBath : ByteArray := prog_11_method_87_code
def yX9_bestBath : MethodName := ⟨RX9, "bestBath", "(I)I"⟩
abbrev cX9_share : ByteArray := prog_11_method_88_code
def yX9_share : MethodName := ⟨RX9, "share", "()D"⟩
abbrev cX9_readShare : ByteArray := prog_11_method_89_code
def yX9_readShare : MethodName := ⟨RX9, "readShare", "()D"⟩
abbrev cX9_mix : ByteArray := prog_11_method_90_code
def yX9_mix : MethodName := ⟨RX9, "mix", "(J)V"⟩
abbrev cX9_bits : ByteArray := prog_11_method_91_code
def yX9_bits : MethodName := ⟨RX9, "bits", "(D)J"⟩
abbrev cX9_mixSample : ByteArray := prog_11_method_92_code
def yX9_mixSample : MethodName := ⟨RX9, "mixSample", "(I)V"⟩
abbrev cX9_digest : ByteArray := prog_11_method_93_code
def yX9_digest : MethodName := ⟨RX9, "digest", "()J"⟩
def RJx8e188 : String := "java/lang/Cloneable"
def TJx8e188 : u_T := fun k => match k with
  | _ => ("", "", "", false)
def tyJx8e188 : Nat → FieldType := fun k => match k with
  | _ => .int
theorem nmJx8e188 : ∀ a, a < 0 → ∀ b, b < 0 → a ≠ b → (TJx8e188 a).2.1 ≠ (TJx8e188 b).2.1 := by decide +kernel
theorem tyJx8e188_ok : ∀ k, k < 0 → parseFieldDescriptor (TJx8e188 k).2.2.1 = some (tyJx8e188 k) := by decide +kernel
def RJ6 : String := "java/lang/Integer"
def TJ6 : u_T := fun k => match k with
  | _ => ("", "", "", false)
def tyJ6 : Nat → FieldType := fun k => match k with
  | _ => .int
theorem nmJ6 : ∀ a, a < 0 → ∀ b, b < 0 → a ≠ b → (TJ6 a).2.1 ≠ (TJ6 b).2.1 := by decide +kernel
theorem tyJ6_ok : ∀ k, k < 0 → parseFieldDescriptor (TJ6 k).2.2.1 = some (tyJ6 k) := by decide +kernel
abbrev cJ6_bitCount_0f7a4 : ByteArray := prog_17_method_49_code
def yJ6_bitCount_0f7a4 : MethodName := ⟨RJ6, "bitCount", "(I)I"⟩
def RJ9 : String := "java/lang/Math"
def TJ9 : u_T := fun k => match k with
  | _ => ("", "", "", false)
def tyJ9 : Nat → FieldType := fun k => match k with
  | _ => .int
theorem nmJ9 : ∀ a, a < 0 → ∀ b, b < 0 → a ≠ b → (TJ9 a).2.1 ≠ (TJ9 b).2.1 := by decide +kernel
theorem tyJ9_ok : ∀ k, k < 0 → parseFieldDescriptor (TJ9 k).2.2.1 = some (tyJ9 k) := by decide +kernel
abbrev cJ9_floorDiv_7cf53 : ByteArray := prog_18_method_47_code
def yJ9_floorDiv_7cf53 : MethodName := ⟨RJ9, "floorDiv", "(II)I"⟩
abbrev cJ9_abs_0f7a4 : ByteArray := prog_18_method_59_code
def yJ9_abs_0f7a4 : MethodName := ⟨RJ9, "abs", "(I)I"⟩
abbrev cJ9_max_7cf53 : ByteArray := prog_18_method_65_code
def yJ9_max_7cf53 : MethodName := ⟨RJ9, "max", "(II)I"⟩
abbrev cJ9_min_7cf53 : ByteArray := prog_18_method_69_code
def yJ9_min_7cf53 : MethodName := ⟨RJ9, "min", "(II)I"⟩
def RJ0 : String := "java/lang/String"
def TJ0 : u_T := fun k => match k with
  | _ => ("", "", "", false)
def tyJ0 : Nat → FieldType := fun k => match k with
  | _ => .int
theorem nmJ0 : ∀ a, a < 0 → ∀ b, b < 0 → a ≠ b → (TJ0 a).2.1 ≠ (TJ0 b).2.1 := by decide +kernel
theorem tyJ0_ok : ∀ k, k < 0 → parseFieldDescriptor (TJ0 k).2.2.1 = some (tyJ0 k) := by decide +kernel
abbrev cJ0_length_8abf5 : ByteArray := prog_20_method_54_code
def yJ0_length_8abf5 : MethodName := ⟨RJ0, "length", "()I"⟩
abbrev cJ0_isEmpty_aae02 : ByteArray := prog_20_method_55_code
def yJ0_isEmpty_aae02 : MethodName := ⟨RJ0, "isEmpty", "()Z"⟩
abbrev cJ0_charAt_5068e : ByteArray := prog_20_method_56_code
def yJ0_charAt_5068e : MethodName := ⟨RJ0, "charAt", "(I)C"⟩
abbrev cJ0_coder_7d493 : ByteArray := prog_20_method_152_code
def yJ0_coder_7d493 : MethodName := ⟨RJ0, "coder", "()B"⟩
abbrev cJ0_isLatin1_aae02 : ByteArray := prog_20_method_154_code
def yJ0_isLatin1_aae02 : MethodName := ⟨RJ0, "isLatin1", "()Z"⟩
abbrev cJ0_checkIndex_df160 : ByteArray := prog_20_method_155_code
def yJ0_checkIndex_df160 : MethodName := ⟨RJ0, "checkIndex", "(II)V"⟩
def RJ1 : String := "java/lang/StringLatin1"
def TJ1 : u_T := fun k => match k with
  | _ => ("", "", "", false)
def tyJ1 : Nat → FieldType := fun k => match k with
  | _ => .int
theorem nmJ1 : ∀ a, a < 0 → ∀ b, b < 0 → a ≠ b → (TJ1 a).2.1 ≠ (TJ1 b).2.1 := by decide +kernel
theorem tyJ1_ok : ∀ k, k < 0 → parseFieldDescriptor (TJ1 k).2.2.1 = some (tyJ1 k) := by decide +kernel
abbrev cJ1_charAt_3b067 : ByteArray := prog_21_method_2_code
def yJ1_charAt_3b067 : MethodName := ⟨RJ1, "charAt", "([BI)C"⟩
def RJ2 : String := "java/lang/StringUTF16"
def TJ2 : u_T := fun k => match k with
  | _ => ("", "", "", false)
def tyJ2 : Nat → FieldType := fun k => match k with
  | _ => .int
theorem nmJ2 : ∀ a, a < 0 → ∀ b, b < 0 → a ≠ b → (TJ2 a).2.1 ≠ (TJ2 b).2.1 := by decide +kernel
theorem tyJ2_ok : ∀ k, k < 0 → parseFieldDescriptor (TJ2 k).2.2.1 = some (tyJ2 k) := by decide +kernel
abbrev cJ2_getChar_3b067 : ByteArray := prog_22_method_5_code
def yJ2_getChar_3b067 : MethodName := ⟨RJ2, "getChar", "([BI)C"⟩
abbrev cJ2_length_9d52b : ByteArray := prog_22_method_6_code
def yJ2_length_9d52b : MethodName := ⟨RJ2, "length", "([B)I"⟩
abbrev cJ2_charAt_3b067 : ByteArray := prog_22_method_83_code
def yJ2_charAt_3b067 : MethodName := ⟨RJ2, "charAt", "([BI)C"⟩
abbrev cJ2_checkIndex_2214a : ByteArray := prog_22_method_91_code
def yJ2_checkIndex_2214a : MethodName := ⟨RJ2, "checkIndex", "(I[B)V"⟩
def RJ10 : String := "java/lang/System"
def TJ10 : u_T := fun k => match k with
  | _ => ("", "", "", false)
def tyJ10 : Nat → FieldType := fun k => match k with
  | _ => .int
theorem nmJ10 : ∀ a, a < 0 → ∀ b, b < 0 → a ≠ b → (TJ10 a).2.1 ≠ (TJ10 b).2.1 := by decide +kernel
theorem tyJ10_ok : ∀ k, k < 0 → parseFieldDescriptor (TJ10 k).2.2.1 = some (tyJ10 k) := by decide +kernel
def RJ3 : String := "jdk/internal/util/Preconditions"
def TJ3 : u_T := fun k => match k with
  | _ => ("", "", "", false)
def tyJ3 : Nat → FieldType := fun k => match k with
  | _ => .int
theorem nmJ3 : ∀ a, a < 0 → ∀ b, b < 0 → a ≠ b → (TJ3 a).2.1 ≠ (TJ3 b).2.1 := by decide +kernel
theorem tyJ3_ok : ∀ k, k < 0 → parseFieldDescriptor (TJ3 k).2.2.1 = some (tyJ3 k) := by decide +kernel
abbrev cJ3_checkIndex_8e157 : ByteArray := prog_25_method_11_code
def yJ3_checkIndex_8e157 : MethodName := ⟨RJ3, "checkIndex", "(IILjava/util/function/BiFunction;)I"⟩
def RL : String := "BitumenNeedleLaw"
abbrev cL_drum : ByteArray := method_3_code
def yL_drum : MethodName := ⟨RL, "drum", "(LBitumenNeedle;I[J)I"⟩
abbrev cL_age : ByteArray := method_4_code
def yL_age : MethodName := ⟨RL, "age", "(LBitumenNeedle;I[J)I"⟩
abbrev cL_sample : ByteArray := method_5_code
def yL_sample : MethodName := ⟨RL, "sample", "(LBitumenNeedle;I[J)I"⟩
abbrev cL_toss : ByteArray := method_6_code
def yL_toss : MethodName := ⟨RL, "toss", "(LBitumenNeedle;I[J)I"⟩
abbrev cL_bath : ByteArray := method_7_code
def yL_bath : MethodName := ⟨RL, "bath", "(LBitumenNeedle;II[J)I"⟩
abbrev cL_warm : ByteArray := method_8_code
def yL_warm : MethodName := ⟨RL, "warm", "(LBitumenNeedle;II[J)I"⟩
abbrev cL_pass : ByteArray := method_9_code
def yL_pass : MethodName := ⟨RL, "pass", "(LBitumenNeedle;I[J)I"⟩
abbrev cL_sink : ByteArray := method_10_code
def yL_sink : MethodName := ⟨RL, "sink", "(LBitumenNeedle;IIII[J)I"⟩
abbrev cL_renew : ByteArray := method_11_code
def yL_renew : MethodName := ⟨RL, "renew", "(LBitumenNeedle;I[J)I"⟩
abbrev cL_ring : ByteArray := method_12_code
def yL_ring : MethodName := ⟨RL, "ring", "(LBitumenNeedle;I[J)I"⟩
abbrev cL_sell : ByteArray := method_13_code
def yL_sell : MethodName := ⟨RL, "sell", "(LBitumenNeedle;I[J)I"⟩
abbrev cL_set : ByteArray := method_14_code
def yL_set : MethodName := ⟨RL, "set", "(LBitumenNeedle;II[J)I"⟩
abbrev cL_append : ByteArray := method_15_code
def yL_append : MethodName := ⟨RL, "append", "(LBitumenNeedle;I[J)I"⟩
abbrev cL_obey : ByteArray := method_16_code
def yL_obey : MethodName := ⟨RL, "obey", "(LBitumenNeedle;[J)I"⟩
abbrev cL_stopped : ByteArray := method_17_code
def yL_stopped : MethodName := ⟨RL, "stopped", "(LBitumenNeedle;I[J)I"⟩
abbrev cL_undo : ByteArray := method_18_code
def yL_undo : MethodName := ⟨RL, "undo", "(LBitumenNeedle;[J)I"⟩
abbrev cL_restore : ByteArray := method_19_code
def yL_restore : MethodName := ⟨RL, "restore", "(LBitumenNeedle;[J)I"⟩
abbrev cL_drumOf : ByteArray := method_20_code
def yL_drumOf : MethodName := ⟨RL, "drumOf", "(LBitumenNeedle;II[J)I"⟩
abbrev cL_sampleOf : ByteArray := method_21_code
def yL_sampleOf : MethodName := ⟨RL, "sampleOf", "(LBitumenNeedle;II[J)I"⟩
abbrev cL_reading : ByteArray := method_22_code
def yL_reading : MethodName := ⟨RL, "reading", "(LBitumenNeedle;III[J)I"⟩
abbrev cL_needle : ByteArray := method_23_code
def yL_needle : MethodName := ⟨RL, "needle", "(LBitumenNeedle;II[J)I"⟩
abbrev cL_bathOf : ByteArray := method_24_code
def yL_bathOf : MethodName := ⟨RL, "bathOf", "(LBitumenNeedle;II[J)I"⟩
abbrev cL_count : ByteArray := method_25_code
def yL_count : MethodName := ⟨RL, "count", "(LBitumenNeedle;I[J)I"⟩
abbrev cL_noSink : ByteArray := method_26_code
def yL_noSink : MethodName := ⟨RL, "noSink", "(LBitumenNeedle;II[J)I"⟩
abbrev cL_noSale : ByteArray := method_27_code
def yL_noSale : MethodName := ⟨RL, "noSale", "(LBitumenNeedle;I[J)I"⟩
abbrev cL_ifSunk : ByteArray := method_28_code
def yL_ifSunk : MethodName := ⟨RL, "ifSunk", "(LBitumenNeedle;IIII[J)I"⟩
abbrev cL_secondsTo : ByteArray := method_29_code
def yL_secondsTo : MethodName := ⟨RL, "secondsTo", "(LBitumenNeedle;IIII[J)I"⟩
abbrev cL_readyIn : ByteArray := method_30_code
def yL_readyIn : MethodName := ⟨RL, "readyIn", "(LBitumenNeedle;I[J)I"⟩
abbrev cL_bestBath : ByteArray := method_31_code
def yL_bestBath : MethodName := ⟨RL, "bestBath", "(LBitumenNeedle;I[J)I"⟩
abbrev cL_law : ByteArray := code
def yL_law : MethodName := ⟨RL, "law", "([I)Z"⟩
abbrev vwCl : List vw_C := [(RX0, TX0, 3), (RX1, TX1, 4), (RX2, TX2, 11), (RX3, TX3, 3), (RX4, TX4, 4), (RX5, TX5, 5), (RX6, TX6, 7), (RX8, TX8, 3), (RX9, TX9, 10)]
end
section
/-! THE FRAME: an abstract memory M (address to cell), one predicate fW between it and the heap, one judgement fR for a point of a body, one contract fM for a method. -/
abbrev MC : Type := (Nat × List Value) ⊕ (Nat × vp_A)
abbrev Mem : Type := Nat → Option MC
abbrev Out : Type := Option Value ⊕ String
abbrev FPost : Type := Out → Mem → Prop
/-- a method: name, bytes, locals, return type, room, its table of handlers -/
abbrev MD : Type := MethodName × ByteArray × Nat × Option FieldType × Room × List (Nat × Nat × Nat × Nat)
/-- what is fixed in a run: the first address of the run's own cells, the script (address, length, values), the addresses of String constants, of their arrays, of the static arrays -/
abbrev KP : Type := Nat × Nat × Nat × (Nat → Int32) × (Nat → Nat) × (Nat → Nat) × (Nat → Nat)
abbrev kO (κ : KP) : Nat := κ.1
abbrev kB (κ : KP) : Nat := κ.2.1
abbrev kL (κ : KP) : Nat := κ.2.2.1
abbrev kX (κ : KP) : Nat → Int32 := κ.2.2.2.1
abbrev kK (κ : KP) : Nat → Nat := κ.2.2.2.2.1
abbrev kV (κ : KP) : Nat → Nat := κ.2.2.2.2.2.1
abbrev kT (κ : KP) : Nat → Nat := κ.2.2.2.2.2.2
abbrev mY (μ : MD) : MethodName := μ.1
abbrev mB (μ : MD) : ByteArray := μ.2.1
abbrev mL (μ : MD) : Nat := μ.2.2.1
abbrev mT (μ : MD) : Option FieldType := μ.2.2.2.1
abbrev mR (μ : MD) : Room := μ.2.2.2.2.1
abbrev mH (μ : MD) : List (Nat × Nat × Nat × Nat) := μ.2.2.2.2.2
def fA (o : Nat) : Nat → Prop := fun q => o ≤ q
def fTy : Nat → FieldType
  | 0 => .int
  | 1 => .char
  | 2 => .long
  | 3 => .object "BitumenNeedle$Drum"
  | 4 => .object "BitumenNeedle$Specimen"
  | 5 => .object "BitumenNeedle$Needle"
  | _ => .object "BitumenNeedle$Lab"
def fIn (tys : List (ClassId × FieldType)) (ws : va_W) (a : Nat) : MC → Prop
  | .inl x => ∃ k : Nat, ws[k]? = some (a, (Sum.inr x : va_E))
  | .inr x => ∃ (k k' : Nat) (cA : ClassId), ws[k]? = some (a, (Sum.inl (cA, x.2) : va_E)) ∧ tys[k']? = some (cA, fTy x.1)
/-- the heap H holds what M says -/
def fW (o : Nat) (U : State) (M : Mem) (H : Heap) : Prop :=
  ∃ (dC : Nat → ClassId) (dI : Nat → Nat → Nat) (tys : List (ClassId × FieldType)) (ws : va_W), va_K (dC, dI) vwCl tys U ∧ va_P (dC, dI) vwCl ws H ∧ va_D (fA o) ws ∧ (∀ a c, M a = some c → fIn tys ws a c)
theorem fW.moved {o : Nat} {u U : State} {M : Mem} {H : Heap} (hvm : u.vm.Alike U.vm) (h : fW o u M H) : fW o U M H := by
  obtain ⟨dC, dI, tys, ws, h1, h2⟩ := h
  exact ⟨dC, dI, tys, ws, va_K.moved hvm h1, h2⟩
/-- the String constants: class, place in its file, text, our number -/
def fStr : List (String × Nat × String × Nat) := [("BitumenNeedle$Part", 9, "", 0), ("BitumenNeedle$Part", 52, "D", 1), ("BitumenNeedle$Part", 54, "PB", 2), ("BitumenNeedle$Part", 56, "NP*W/S", 3), ("BitumenNeedle$Part", 58, "P", 4), ("BitumenNeedle$Part", 60, "M", 5), ("BitumenNeedle", 259, "a value is out of range", 6), ("BitumenNeedle", 261, "there is no such drum or sample", 7), ("BitumenNeedle", 263, "it is refused", 8), ("BitumenNeedle", 256, "there is no such number", 9), ("BitumenNeedle", 152, "the buffer is not complete orders", 10), ("BitumenNeedle", 179, "no state is saved", 11), ("BitumenNeedle", 195, "there is no snapshot", 12), ("BitumenNeedle", 203, "a reading has a place from 0", 13)]
def fLen : List Nat := [0, 1, 2, 6, 1, 1]
def fByt : List (List Int32) := [[], [68], [80, 66], [78, 80, 42, 87, 47, 83], [80], [77]]
def fNcs : List (String × String) := [("java/lang/IndexOutOfBoundsException", "java/lang/IllegalArgumentException"), ("java/lang/IllegalStateException", "java/lang/IllegalArgumentException"), ("java/lang/IllegalArgumentException", "java/lang/IllegalStateException"), ("java/lang/IndexOutOfBoundsException", "java/lang/IllegalStateException"), ("java/lang/IllegalArgumentException", "java/lang/IndexOutOfBoundsException"), ("java/lang/IllegalStateException", "java/lang/IndexOutOfBoundsException")]
/-- constants of the run that lie below its own cells -/
def fZ (κ : KP) (U : State) (H : Heap) : Prop :=
  (va_X (kB κ) (kL κ) (kX κ) U H ∧ kB κ < kO κ) ∧
  (va_Z "BitumenNeedle" "FIRST_DEGREES" "[I" (.ref (kT κ 0)) (fA (kO κ)) U H ∧ va_T .int (kT κ 0) 3 (fun j => .int ([150, 250, 350].getD j 0)) (fA (kO κ)) U H) ∧
  (va_Z "BitumenNeedle" "FIRST_SETTINGS" "[I" (.ref (kT κ 1)) (fA (kO κ)) U H ∧ va_T .int (kT κ 1) 3 (fun j => .int ([5, 12, 8].getD j 0)) (fA (kO κ)) U H) ∧
  (va_Z "BitumenNeedle" "MOST_OF_SETTING" "[I" (.ref (kT κ 2)) (fA (kO κ)) U H ∧ va_T .int (kT κ 2) 3 (fun j => .int ([50, 100, 60].getD j 0)) (fA (kO κ)) U H) ∧
  (vx_Zq Bundle.tN "UNASSIGNED_STACK" Bundle.steD (fA (kO κ)) U H ∧ vx_Zq Bundle.tN "SUPPRESSED_SENTINEL" Bundle.listD (fA (kO κ)) U H) ∧
  (vk_S 6 fLen fByt (kK κ) (kV κ) (fA (kO κ)) U H ∧ va_Z "java/lang/String" "COMPACT_STRINGS" "Z" (.int 1) (fA (kO κ)) U H)
theorem fZ.moved {κ : KP} {u U : State} {H : Heap} (hvm : u.vm.Alike U.vm) (h : fZ κ u H) : fZ κ U H := by
  obtain ⟨⟨a1, a2⟩, ⟨b1, b2⟩, ⟨c1, c2⟩, ⟨d1, d2⟩, ⟨e1, e2⟩, f1, f2⟩ := h
  exact ⟨⟨va_X.moved hvm a1, a2⟩, ⟨va_Z.moved hvm b1, va_T.moved hvm b2⟩, ⟨va_Z.moved hvm c1, va_T.moved hvm c2⟩, ⟨va_Z.moved hvm d1, va_T.moved hvm d2⟩, ⟨vx_Zq.moved hvm e1, vx_Zq.moved hvm e2⟩, vk_S.moved hvm f1, va_Z.moved hvm f2⟩
theorem fZ.kept {κ : KP} {U : State} {H H1 : Heap} (h : fZ κ U H) (hq : ∀ a : Nat, a < H.size → ¬ fA (kO κ) a → H1[a]? = H[a]?) : fZ κ U H1 := by
  obtain ⟨⟨a1, a2⟩, ⟨b1, b2⟩, ⟨c1, c2⟩, ⟨d1, d2⟩, ⟨e1, e2⟩, f1, f2⟩ := h
  have hb : H1[kB κ]? = H[kB κ]? := by
    obtain ⟨scr, h1, -⟩ := a1
    exact hq _ (Array.getElem?_eq_some_iff.mp h1).1 (Nat.not_le.mpr a2)
  exact ⟨⟨a1.kept hb, a2⟩, ⟨b1.kept hq, b2.kept hq⟩, ⟨c1.kept hq, c2.kept hq⟩, ⟨d1.kept hq, d2.kept hq⟩, ⟨e1.kept hq, e2.kept hq⟩, f1.kept hq, f2.kept hq⟩
/-- words that keep by other laws than the good ones -/
def fKind : Cond → Bool
  | .methodLinkNest .. => true
  | .fieldLinkNest .. => true
  | .declares _ => true
  | .castable .. => true
  | .privateMethod _ => true
  | _ => false
theorem fKind_warm {w : Cond} {s U : State} (hW : s.WarmedH U.vm) (hk : fKind w = true) (h : va_Nw w s) : va_Nw w U := by
  cases w with
  | methodLinkNest a b c d => exact va_Nw.warmM hW h
  | fieldLinkNest a b c d e f => exact va_Nw.warmF hW h
  | declares a => exact va_Nw.warmD hW h
  | castable a b => exact va_Nw.warmC hW h
  | privateMethod x => exact va_tabs rfl (rfl : (s.setVm U.vm).vm = U.vm) (by rw [Cond.privateMethod_setVm hW.alike]; exact h)
  | _ => cases hk
def fN (κ : KP) (U : State) : Prop :=
  (∀ w ∈ lw_tbl, fKind w = true → va_Nw w U) ∧
  (∀ C ∈ ["BitumenNeedle$Drum", "BitumenNeedle$Specimen", "BitumenNeedle$Needle", "BitumenNeedle$Lab"], va_AO C U) ∧
  (∀ q ∈ fStr, vk_R q.1 q.2.1 q.2.2.1 (kK κ q.2.2.2) U) ∧
  (∀ q ∈ fNcs, va_Nc q.1 q.2 U)
theorem fN.warm {κ : KP} {s U : State} (hW : s.WarmedH U.vm) (h : fN κ s) : fN κ U :=
  ⟨fun w hw hk => fKind_warm hW hk (h.1 w hw hk), fun C hC => va_AO.moved hW.alike (h.2.1 C hC), fun q hq => vk_R.warm hW (h.2.2.1 q hq), fun q hq => va_Nc.moved hW.alike (h.2.2.2 q hq)⟩
def fCode (μ : MD) : Cond := match mH μ with
  | [] => .code (mY μ) (mB μ) (mL μ) (mT μ)
  | hh => .codeWith (mY μ) (mB μ) (mL μ) (mT μ) hh
def lwG : List Cond := lw_tbl.filter goodWord
theorem lwG_of {w : Cond} (h : w ∈ lw_tbl) (hg : goodWord w = true) : w ∈ lwG := List.mem_filter.mpr ⟨h, hg⟩
theorem lw_of {w : Cond} {i : Nat} (h : tables_1[i]? = some w) : w ∈ lw_tbl := List.mem_append_right _ (List.mem_of_getElem? h)
/-- what stands through a whole body -/
def fC (l : Launch) (κ : KP) (μ : MD) (p : Program) (e : Env) (s : State) (m : MethodId) (args : Array Value) (meth : Method) (c : Code) : Prop :=
  l.stackTraces = false ∧ p.tables.exec = Jvm.exec ∧ c.code = mB μ ∧ meth.sig.returnType = mT μ ∧ c.maxLocals = mL μ ∧ s.vm.findClass (mY μ).cls = some m.cls ∧ (∀ w ∈ lwG, w.before args s = true) ∧ meth.locks = false ∧ meth.name = (mY μ).name ∧ c.exceptionTable.toList = tableOf (mH μ) ∧ fZ κ s s.heap ∧ fN κ s ∧ kO κ ≤ s.heap.size
def fQ (κ : KP) (P : FPost) : Array Value → State → Outcome → State → Prop := fun _ st oc t => (∃ (v : Option Value) (M' : Mem), oc = .returned v ∧ P (.inl v) M' ∧ fW (kO κ) t M' t.heap) ∧ va_F (fA (kO κ)) st t
def fX (κ : KP) (P : FPost) : String → State → State → Prop := fun E st t => (∃ M' : Mem, P (.inr E) M' ∧ fW (kO κ) t M' t.heap) ∧ va_F (fA (kO κ)) st t
def fP (κ : KP) (av : List Value) (M : Mem) : Array Value → State → Prop := va_Pc av (fun U => fW (kO κ) U M U.heap ∧ fZ κ U U.heap ∧ fN κ U ∧ kO κ ≤ U.heap.size)
/-- a method's contract -/
def fM (l : Launch) (κ : KP) (μ : MD) (av : List Value) (M : Mem) (P : FPost) : Prop :=
  l.stackTraces = false → vx_Met l (mY μ) (fCode μ :: lwG) (mR μ) (fP κ av M) (fQ κ P) (fX κ P) (mR μ).cells (mR μ).slots (fA (kO κ))
/-- a point of a body: locals lv, stack st, memory M, bc cells and bs slots still to be made -/
def fR (l : Launch) (κ : KP) (μ : MD) (pc : Nat) (lv : List (Nat × Value)) (st : List Value) (M : Mem) (bc bs : Nat) (P : FPost) : Prop :=
  ∀ (p : Program) (e : Env) (s : State) (m : MethodId) (args : Array Value) (below : List Frame) (meth : Method) (c : Code), fC l κ μ p e s m args meth c →
    ∀ (H : Heap) (locs : List Loc) (cells slots : Nat) (ls : Array Slot), fW (kO κ) s M H → va_S (fA (kO κ)) s.heap H locs → lv_has ls (mL μ) lv → cells + bc ≤ (mR μ).cells → slots + bs ≤ (mR μ).slots →
      W p l e (mR μ) s m args below meth c H locs cells slots (vx_MQ below (fQ κ P) (fX κ P) args s (mR μ).cells (mR μ).slots (fA (kO κ))) (F0 m pc ls st)

theorem fZ.at {κ : KP} {s : State} {H : Heap} {locs : List Loc} (h : fZ κ s s.heap) (hS : va_S (fA (kO κ)) s.heap H locs) : fZ κ s H := h.kept hS.2.1
theorem fP_blind {κ : KP} {av : List Value} {M : Mem} : FrameBlind (fP κ av M) := by
  intro a U g mk ⟨h0, h1, h2, h3, h4⟩
  refine ⟨h0, ?_, ?_, ?_, h4⟩
  · exact fW.moved (u := U) (U := U.calling g mk a) (Vm.Alike.refl U.vm) h1
  · exact fZ.moved (u := U) (U := U.calling g mk a) (Vm.Alike.refl U.vm) h2
  · obtain ⟨a1, a2, a3, a4⟩ := h3
    exact ⟨fun w hw hk => va_tabs (by cases w <;> first | rfl | cases hk) (rfl : U.vm = (U.calling g mk a).vm) (a1 w hw hk), fun C hC => va_AO.moved (u := U) (U := U.calling g mk a) (Vm.Alike.refl U.vm) (a2 C hC), fun q hq => vk_R.same (u := U) rfl (a3 q hq), fun q hq => va_Nc.moved (u := U) (U := U.calling g mk a) (Vm.Alike.refl U.vm) (a4 q hq)⟩
section FR
variable {l : Launch} {κ : KP} {μ μ' : MD} {pc : Nat} {lv : List (Nat × Value)} {st rest : List Value} {M : Mem} {bc bs : Nat} {P P' : FPost}
/-- a body's start -/
theorem fM_of {av : List Value} (hH : mH μ = []) (hy : plainName (mY μ).cls = true) (hn : (lg_sl av).length ≤ mL μ) (k : fR l κ μ 0 (lv_args 0 av) [] M (mR μ).cells (mR μ).slots P) : fM l κ μ av M P := by
  intro hl
  have hcode : fCode μ = Cond.code (mY μ) (mB μ) (mL μ) (mT μ) := by unfold fCode; rw [hH]
  rw [hcode]
  refine vx_ofW (cc := mB μ) (maxL := mL μ) (ret := mT μ) hy rfl ?_
  intro p e s m args below meth c s₁ B hml htab hv
  obtain ⟨rfl, hW, hZ, hN, hO⟩ := hv
  have htl : c.exceptionTable.toList = tableOf (mH μ) := by
    rw [hH]
    cases ht : c.exceptionTable.toList with
    | nil => rfl
    | cons x t => exact (htab x (by rw [ht]; exact List.mem_cons_self)).elim
  have hts := atoms_spec (ws := Cond.code (mY μ) (mB μ) (mL μ) (mT μ) :: lwG) B.pre
  rw [lg_entry_eq]
  exact k p e s m av.toArray below meth c ⟨hl, B.exec, B.bytes, B.returns, hml, findClass_of_methodNamed B.named, fun w hw => hts w (List.mem_cons_of_mem _ hw), B.notSynchronized, (name_of_methodNamed B.named B.method).1, htl, hZ, hN, hO⟩ s.heap [] 0 0 _ hW va_S.rf (lv_entry av hn) (Nat.le_of_eq (Nat.zero_add _)) (Nat.le_of_eq (Nat.zero_add _))
/-- a weaker end -/
theorem fR.mono (h : fR l κ μ pc lv st M bc bs P) (hP : ∀ o M', P o M' → P' o M') : fR l κ μ pc lv st M bc bs P' := by
  intro p e s m args below meth c C H locs cells slots ls hW hS hl hc hs
  have k := h p e s m args below meth c C H locs cells slots ls hW hS hl hc hs
  intro T hT X
  obtain ⟨t, a1, o, b1, b2, b3⟩ := k T hT X
  refine ⟨t, a1, o, b1, b2, ?_⟩
  rcases b3 with ⟨⟨⟨v, M', h1, h2, h3⟩, h4⟩, h5⟩ | ⟨q, h0, E, ce, L, ⟨⟨M', h1, h2⟩, h3⟩, h4⟩
  · exact Or.inl ⟨⟨⟨v, M', h1, hP _ _ h2, h3⟩, h4⟩, h5⟩
  · exact Or.inr ⟨q, h0, E, ce, L, ⟨⟨M', hP _ _ h1, h2⟩, h3⟩, h4⟩
theorem fM.mono {av : List Value} (h : fM l κ μ av M P) (hP : ∀ o M', P o M' → P' o M') : fM l κ μ av M P' := by
  intro hl
  refine MetFree.mono (h hl) (fun _ _ h => h) (fun _ _ _ _ _ h => h) ?_
  rintro a s o t - (⟨⟨⟨v, M', h1, h2, h3⟩, h4⟩, h5⟩ | ⟨q, h0, E, ce, L, ⟨⟨M', h1, h2⟩, h3⟩, h4⟩)
  · exact Or.inl ⟨⟨⟨v, M', h1, hP _ _ h2, h3⟩, h4⟩, h5⟩
  · exact Or.inr ⟨q, h0, E, ce, L, ⟨⟨M', hP _ _ h1, h2⟩, h3⟩, h4⟩
/-- a method that doesn't throw -/
theorem fM_met {av : List Value} (h : fM l κ μ av M P) (hl : l.stackTraces = false) (hno : ∀ E M', ¬ P (.inr E) M') : Met l (mY μ) (fCode μ :: lwG) (mR μ) (fP κ av M) (fQ κ P) (mR μ).cells (mR μ).slots (fA (kO κ)) := by
  refine MetFree.mono (h hl) (fun _ _ h => h) (fun _ _ _ _ _ h => h) ?_
  rintro a s o t - (h1 | ⟨q, h0, E, ce, L, ⟨⟨M', h1, -⟩, -⟩, -⟩)
  · exact h1
  · exact (hno _ _ h1).elim
/-- the ends -/
theorem fR_iret {v : Int32} (d : decode (mB μ) pc = .ok (.ireturn, 1)) (hr : mT μ = some .int) (hP : P (.inl (some (.int v))) M) : fR l κ μ pc lv [.int v] M bc bs P := by
  intro p e s m args below meth c C H locs cells slots ls hW hS hl hc hs
  refine W.widen (k := (mR μ).cells) (n := (mR μ).slots) (by omega) (by omega) (vx_ret ?_)
  exact W.iret C.2.1 C.2.2.1 (C.2.2.2.1.trans hr) (fun t ht hw => ⟨⟨_, M, rfl, hP, by rw [ht]; exact hW.moved hw.alike⟩, hS.F ht⟩) hS.2.2 d (hlocks := C.2.2.2.2.2.2.2.1)
theorem fR_zret {v : Int32} {ty : FieldType} (d : decode (mB μ) pc = .ok (.ireturn, 1)) (hr : mT μ = some ty) (hn : narrow ty (.int v) = .int v) (hP : P (.inl (some (.int v))) M) : fR l κ μ pc lv [.int v] M bc bs P := by
  intro p e s m args below meth c C H locs cells slots ls hW hS hl hc hs
  refine W.widen (k := (mR μ).cells) (n := (mR μ).slots) (by omega) (by omega) (vx_ret ?_)
  exact W.zret C.2.1 C.2.2.1 (C.2.2.2.1.trans hr) hn (fun t ht hw => ⟨⟨_, M, rfl, hP, by rw [ht]; exact hW.moved hw.alike⟩, hS.F ht⟩) hS.2.2 d (hlocks := C.2.2.2.2.2.2.2.1)
theorem fR_vret (d : decode (mB μ) pc = .ok (.return_, 1)) (hr : mT μ = none) (hP : P (.inl none) M) : fR l κ μ pc lv [] M bc bs P := by
  intro p e s m args below meth c C H locs cells slots ls hW hS hl hc hs
  refine W.widen (k := (mR μ).cells) (n := (mR μ).slots) (by omega) (by omega) (vx_ret ?_)
  exact W.vret C.2.1 C.2.2.1 (C.2.2.2.1.trans hr) (fun t ht hw => ⟨⟨_, M, rfl, hP, by rw [ht]; exact hW.moved hw.alike⟩, hS.F ht⟩) hS.2.2 d (hlocks := C.2.2.2.2.2.2.2.1)
theorem fR_lret {v : Int64} (d : decode (mB μ) pc = .ok (.lreturn, 1)) (hr : mT μ = some .long) (hP : P (.inl (some (.long v))) M) : fR l κ μ pc lv [.long v] M bc bs P := by
  intro p e s m args below meth c C H locs cells slots ls hW hS hl hc hs
  refine W.widen (k := (mR μ).cells) (n := (mR μ).slots) (by omega) (by omega) (vx_ret ?_)
  exact W.lret C.2.1 C.2.2.1 (C.2.2.2.1.trans hr) (fun t ht hw => ⟨⟨_, M, rfl, hP, by rw [ht]; exact hW.moved hw.alike⟩, hS.F ht⟩) hS.2.2 d (hlocks := C.2.2.2.2.2.2.2.1)
theorem fR_dret {v : UInt64} (d : decode (mB μ) pc = .ok (.dreturn, 1)) (hr : mT μ = some .double) (hP : P (.inl (some (.double v))) M) : fR l κ μ pc lv [.double v] M bc bs P := by
  intro p e s m args below meth c C H locs cells slots ls hW hS hl hc hs
  refine W.widen (k := (mR μ).cells) (n := (mR μ).slots) (by omega) (by omega) (vx_ret ?_)
  exact W.dret C.2.1 C.2.2.1 (C.2.2.2.1.trans hr) (fun t ht hw => ⟨⟨_, M, rfl, hP, by rw [ht]; exact hW.moved hw.alike⟩, hS.F ht⟩) hS.2.2 d (hlocks := C.2.2.2.2.2.2.2.1)
/-- what every use of a method needs of the tables -/
def fOK (μ : MD) (n : Nat) : Prop := mH μ = [] ∧ fCode μ ∈ lw_tbl ∧ Cond.initialized (mY μ).cls ∈ lw_tbl ∧ ((mY μ).cls ≠ "java/lang/invoke/MethodHandle" ∧ (mY μ).cls ≠ "java/lang/invoke/VarHandle") ∧ (parseMethodDescriptor (mY μ).desc).map (fun d => d.parameters.length) = some n
def fRoom (μ μ' : MD) (bc bs : Nat) : Prop := (mR μ').frames + 1 ≤ (mR μ).frames ∧ 8 + (mL μ' + 11) + (mR μ').locals ≤ (mR μ).locals ∧ (mR μ').cells ≤ bc ∧ (mR μ').slots ≤ bs
theorem fcallB {n idx : Nat} {s : State} {args : Array Value} (hts : ∀ w ∈ lwG, w.before args s = true) (hok : fOK μ' n) (hlink : Cond.methodLink (mY μ).cls idx (mY μ') ∈ lw_tbl) (hR : fRoom μ μ' bc bs) :
    CallB (mR μ) s args (mY μ).cls idx (mY μ') (mB μ') (mL μ') (mT μ') (fCode μ' :: lwG) (mR μ') (mR μ').cells (mR μ').slots n := by
  obtain ⟨h0, h1, h2, h3, h4⟩ := hok
  have hc : fCode μ' = Cond.code (mY μ') (mB μ') (mL μ') (mT μ') := by unfold fCode; rw [h0]
  rw [hc] at h1 ⊢
  refine callB_of n hts ?_ rfl rfl rfl (hts _ (lwG_of h2 rfl)) (hts _ (lwG_of hlink rfl)) ⟨h3.1, h3.2, h4⟩ ⟨hR.1, hR.2.1⟩
  intro w hw
  rcases List.mem_cons.mp hw with rfl | hw
  · exact ⟨lwG_of h1 rfl, good_of_word rfl⟩
  · exact ⟨hw, good_of_word (List.mem_filter.mp hw).2⟩
/-- behind a call: it returned, or it threw and this method lets it pass -/
theorem fR_run {p : Program} {e : Env} {s : State} {m : MethodId} {args : Array Value} {below : List Frame} {meth : Method} {c : Code} {H : Heap} {locs : List Loc} {cells slots : Nat} {ls : Array Slot} {a : Array Value} {st0 : List Value}
    (C : fC l κ μ p e s m args meth c) (hH : mH μ = []) (hS : va_S (fA (kO κ)) s.heap H locs) (hl : lv_has ls (mL μ) lv) (hc : cells + bc ≤ (mR μ).cells) (hs : slots + bs ≤ (mR μ).slots) (hb : (mR μ').cells ≤ bc ∧ (mR μ').slots ≤ bs)
    (hr : vx_Run p l e (mR μ) s m args below meth c H locs cells slots (mR μ').cells (mR μ').slots (F0 m pc ls st0) rest (fQ κ P' a) (fX κ P') (fA (kO κ)))
    (kr : ∀ v M', P' (.inl v) M' → fR l κ μ (pc + 3) lv (v.toList ++ rest) M' (bc - (mR μ').cells) (bs - (mR μ').slots) P) (kx : ∀ E M', P' (.inr E) M' → P (.inr E) M') :
    W p l e (mR μ) s m args below meth c H locs cells slots (vx_MQ below (fQ κ P) (fX κ P) args s (mR μ).cells (mR μ).slots (fA (kO κ))) (F0 m pc ls st0) := by
  intro T hT X
  have hA : ∀ q, q < H.size → fA (kO κ) q → fA (kO κ) q := fun _ _ h => h
  have hf : ∀ q, fA (kO κ) q → fA (kO κ) q := fun _ h => h
  rcases hr T hT X with ⟨v, st₀, t, T', L, h0, X', hL, e1, e2, ⟨⟨v', M', hv, hp, hw⟩, hF⟩, stp⟩ | ⟨q, st₀, t, T', L, E, ce, h0, X', hL, e1, e2, ⟨⟨M', hp, hw⟩, hF⟩, hce, hcv, hcl, stp⟩
  · cases hv
    obtain ⟨k1, k2, k3⟩ := vx_keep h0 e1 hS hA hf hL hF
    have hal : s.vm.Alike t.vm := by rw [← e2]; exact X'.warmed.alike
    obtain ⟨t2, a1, b1⟩ := kr v M' hp p e s m args below meth c C T'.heap (locs ++ L) (cells + (mR μ').cells) (slots + (mR μ').slots) ls (by rw [e1]; exact hw.moved hal.symm) k3 hl (by omega) (by omega) T' rfl X'
    exact ⟨t2, stp t2 a1, b1⟩
  · obtain ⟨k1, k2, k3⟩ := vx_keep h0 e1 hS hA hf hL hF
    have hal : s.vm.Alike t.vm := by rw [← e2]; exact X'.warmed.alike
    have htab : ∀ x ∈ c.exceptionTable.toList, covers x pc = false := by
      have h9 := C.2.2.2.2.2.2.2.2.2.1
      rw [hH] at h9
      intro x hx
      rw [h9] at hx
      cases hx
    obtain ⟨t2, a1, b1⟩ := (vx_out (p := p) (l := l) (e := e) (R := mR μ) (s := s) (m := m) (args := args) (below := below) (meth := meth) (c := c) (H := T'.heap) (locs := locs ++ L) (cells := cells + (mR μ').cells) (slots := slots + (mR μ').slots) (ls := ls) (rest := rest) (Qc := fQ κ P) (XC := fX κ P) (pc := pc) (free := fA (kO κ)) htab C.2.2.2.2.2.2.2.1 (by rw [e1]; exact hce) hcv hcl
      (fun t9 h9 hal9 => ⟨⟨M', kx E M' hp, by rw [h9, e1]; exact (hw.moved hal.symm).moved hal9⟩, ⟨by rw [h9]; exact k3.1, fun q h1 h2 => by rw [h9]; exact k3.2.1 q h1 h2⟩⟩) k3.2.2 (show cells + (mR μ').cells ≤ (mR μ).cells by omega) (show slots + (mR μ').slots ≤ (mR μ).slots by omega)) T' rfl X'
    exact ⟨t2, stp.trans a1, b1⟩
/-- a virtual call of a method of the receiver's own class -/
theorem fR_callV {idx n b ci : Nat} {fs As : List Value} {q : vw_C} (d : decode (mB μ) pc = .ok (.invokevirtual idx, 3)) (hM : fM l κ μ' (.ref b :: As) M P') (hst : st = As.reverse ++ .ref b :: rest)
    (hb : M b = some (.inl (ci, fs))) (hcl : vwCl[ci]? = some q) (hq : q.1 = (mY μ').cls) (hok : fOK μ' n) (hn : As.length = n) (hlink : Cond.methodLink (mY μ).cls idx (mY μ') ∈ lw_tbl) (hin : Cond.instanceMethod (mY μ') ∈ lw_tbl) (hse : Cond.selects (mY μ').cls (mY μ') (mY μ') ∈ lw_tbl)
    (hR : fRoom μ μ' bc bs) (hcat : (rest.map fun v => v.category).sum ≤ 8) (hH : mH μ = [])
    (kr : ∀ v M', P' (.inl v) M' → fR l κ μ (pc + 3) lv (v.toList ++ rest) M' (bc - (mR μ').cells) (bs - (mR μ').slots) P) (kx : ∀ E M', P' (.inr E) M' → P (.inr E) M') : fR l κ μ pc lv st M bc bs P := by
  subst hst
  intro p e s m args below meth c C H locs cells slots ls hW hS hl hc hs
  have hts := C.2.2.2.2.2.2.1
  obtain ⟨dC, dI, tys, ws, hK, hP, hD, hM9⟩ := id hW
  obtain ⟨k0, hk0⟩ := hM9 b _ hb
  refine fR_run C hH hS hl hc hs hR.2.2 (vx_runV (As := As) (rest := rest) (n := n) (C := (mY μ').cls) (own := (mY μ).cls) (index := idx) ⟨C.2.1, C.2.2.1, C.2.2.2.2.1, C.2.2.2.2.2.1, hts⟩ (hM C.1) ⟨fcallB hts hok hlink hR, hts _ (lwG_of hin rfl), hts _ (lwG_of hse rfl)⟩ ⟨fP_blind, ?_, ?_⟩ rfl hn hl.1 rfl (lv_room hcat) d ⟨?_, ?_⟩) kr kx
  · obtain ⟨cell, g1, g2, g3⟩ := va_recv hK hP hcl hk0
    exact ⟨cell, g1, g2, by rw [← hq]; exact g3⟩
  · intro U hU hw
    exact ⟨rfl, by rw [hU]; exact hW.moved hw.alike, by rw [hU]; exact (C.2.2.2.2.2.2.2.2.2.2.1.at hS).moved hw.alike, fN.warm hw C.2.2.2.2.2.2.2.2.2.2.2.1, by rw [hU]; exact Nat.le_trans C.2.2.2.2.2.2.2.2.2.2.2.2 hS.1⟩
  · have := hR.2.2.1; omega
  · have := hR.2.2.2; omega
/-- a static call -/
theorem fR_callS {idx n : Nat} {As : List Value} (d : decode (mB μ) pc = .ok (.invokestatic idx, 3)) (hM : fM l κ μ' As M P') (hst : st = As.reverse ++ rest)
    (hok : fOK μ' n) (hn : As.length = n) (hlink : Cond.methodLink (mY μ).cls idx (mY μ') ∈ lw_tbl) (hin : Cond.static (mY μ') ∈ lw_tbl)
    (hR : fRoom μ μ' bc bs) (hcat : (rest.map fun v => v.category).sum ≤ 8) (hH : mH μ = [])
    (kr : ∀ v M', P' (.inl v) M' → fR l κ μ (pc + 3) lv (v.toList ++ rest) M' (bc - (mR μ').cells) (bs - (mR μ').slots) P) (kx : ∀ E M', P' (.inr E) M' → P (.inr E) M') : fR l κ μ pc lv st M bc bs P := by
  subst hst
  intro p e s m args below meth c C H locs cells slots ls hW hS hl hc hs
  have hts := C.2.2.2.2.2.2.1
  refine fR_run C hH hS hl hc hs hR.2.2 (vx_runS (As := As) (rest := rest) (n := n) (own := (mY μ).cls) (index := idx) ⟨C.2.1, C.2.2.1, C.2.2.2.2.1, C.2.2.2.2.2.1, hts⟩ (hM C.1) ⟨fcallB hts hok hlink hR, hts _ (lwG_of hin rfl)⟩ ⟨fP_blind, ?_⟩ rfl hn hl.1 rfl (lv_room hcat) d ⟨?_, ?_⟩) kr kx
  · intro U hU hw
    exact ⟨rfl, by rw [hU]; exact hW.moved hw.alike, by rw [hU]; exact (C.2.2.2.2.2.2.2.2.2.2.1.at hS).moved hw.alike, fN.warm hw C.2.2.2.2.2.2.2.2.2.2.2.1, by rw [hU]; exact Nat.le_trans C.2.2.2.2.2.2.2.2.2.2.2.2 hS.1⟩
  · have := hR.2.2.1; omega
  · have := hR.2.2.2; omega
end FR
end
section
/-! THE RULES: a row an instruction, over fR. -/
def fget : List (Nat × Value) → Nat → Option Value
  | [], _ => none
  | (j, v) :: t, i => if j = i then some v else fget t i
theorem fget_mem : ∀ {lv : List (Nat × Value)} {i : Nat} {v : Value}, fget lv i = some v → (i, v) ∈ lv
  | [], i, v, h => by cases h
  | (j, w) :: t, i, v, h => by
    unfold fget at h
    by_cases e : j = i
    · rw [if_pos e] at h; cases h; subst e; exact List.mem_cons_self
    · rw [if_neg e] at h; exact List.mem_cons_of_mem _ (fget_mem h)
theorem fget_at {ls : Array Slot} {n : Nat} {lv : List (Nat × Value)} (h : lv_has ls n lv) {i : Nat} {v : Value} (hv : fget lv i = some v) : ls[i]? = some (.val v) := h.2.2 (i, v) (fget_mem hv)
/-- one change of the memory -/
def fup (M : Mem) (a : Nat) (c : MC) : Mem := fun b => if b = a then some c else M b
theorem fup_eq {M : Mem} {a : Nat} {c : MC} : fup M a c a = some c := if_pos rfl
theorem fup_ne {M : Mem} {a b : Nat} {c : MC} (h : b ≠ a) : fup M a c b = M b := if_neg h
theorem fIn_set {tys : List (ClassId × FieldType)} {ws : va_W} {M : Mem} {o a k0 : Nat} {e e' : va_E} {c' : MC} (hD : va_D (fA o) ws) (h : ∀ b c, M b = some c → fIn tys ws b c) (hk : ws[k0]? = some (a, e)) (hc : fIn tys (ws.set k0 (a, e')) a c') : ∀ b c, fup M a c' b = some c → fIn tys (ws.set k0 (a, e')) b c := by
  intro b c hb
  by_cases e9 : b = a
  · subst e9; rw [fup_eq] at hb; cases hb; exact hc
  · rw [fup_ne e9] at hb
    have keep : ∀ (k : Nat) (z : Nat × va_E), ws[k]? = some z → z.1 = b → (ws.set k0 (a, e'))[k]? = some z := by
      intro k z hz hb
      rw [List.getElem?_set]
      by_cases e8 : k0 = k
      · subst e8; rw [hk] at hz; cases hz; exact absurd hb.symm e9
      · rw [if_neg e8]; exact hz
    have h1 := h b c hb
    cases c with
    | inl x => obtain ⟨k, hk⟩ := h1; exact ⟨k, keep k _ hk rfl⟩
    | inr x => obtain ⟨k, k', cA, hk, ht⟩ := h1; exact ⟨k, k', cA, keep k _ hk rfl, ht⟩
theorem fset_at {ws : va_W} {k0 a : Nat} {e e' : va_E} (hk : ws[k0]? = some (a, e)) : (ws.set k0 (a, e'))[k0]? = some (a, e') := by
  rw [List.getElem?_set, if_pos rfl, if_pos (List.getElem?_eq_some_iff.mp hk).1]
theorem fIn_push {tys tys' : List (ClassId × FieldType)} {ws : va_W} {M : Mem} {q : Nat} {e : va_E} {c' : MC} (h : ∀ b c, M b = some c → fIn tys ws b c) (hc : fIn (tys ++ tys') (ws ++ [(q, e)]) q c') : ∀ b c, fup M q c' b = some c → fIn (tys ++ tys') (ws ++ [(q, e)]) b c := by
  intro b c hb
  by_cases e9 : b = q
  · subst e9; rw [fup_eq] at hb; cases hb; exact hc
  · rw [fup_ne e9] at hb
    have k1 : ∀ (k : Nat) (z : Nat × va_E), ws[k]? = some z → (ws ++ [(q, e)])[k]? = some z := fun k z hz => by
      rw [List.getElem?_append_left (List.getElem?_eq_some_iff.mp hz).1]; exact hz
    have k2 : ∀ (k : Nat) (z : ClassId × FieldType), tys[k]? = some z → (tys ++ tys')[k]? = some z := fun k z hz => by
      rw [List.getElem?_append_left (List.getElem?_eq_some_iff.mp hz).1]; exact hz
    have h1 := h b c hb
    cases c with
    | inl x => obtain ⟨k, hk⟩ := h1; exact ⟨k, k1 k _ hk⟩
    | inr x => obtain ⟨k, k', cA, hk, ht⟩ := h1; exact ⟨k, k', cA, k1 k _ hk, k2 k' _ ht⟩
theorem fIn_fresh {tys : List (ClassId × FieldType)} {ws : va_W} {M : Mem} {o q : Nat} {e : va_E} (hD : va_D (fA o) (ws ++ [(q, e)])) (h : ∀ b c, M b = some c → fIn tys ws b c) : M q = none := by
  cases hq : M q with
  | none => rfl
  | some c =>
    have key : ∀ (k : Nat) (z : va_E), ws[k]? = some (q, z) → False := by
      intro k z hz
      have hlt := (List.getElem?_eq_some_iff.mp hz).1
      have h1 : (ws ++ [(q, e)])[k]? = some (q, z) := by rw [List.getElem?_append_left hlt]; exact hz
      have h2 : (ws ++ [(q, e)])[ws.length]? = some (q, e) := by simp
      have := hD.1 k ws.length _ _ h1 h2 rfl
      omega
    have h1 := h q c hq
    cases c with
    | inl x => obtain ⟨k, hk⟩ := h1; exact (key k _ hk).elim
    | inr x => obtain ⟨k, k', cA, hk, ht⟩ := h1; exact (key k _ hk).elim
/-- the classes' fields: their types, their words -/
def fTyOf : Nat → Nat → FieldType
  | 0 => tyX0
  | 1 => tyX1
  | 2 => tyX2
  | 3 => tyX3
  | 4 => tyX4
  | 5 => tyX5
  | 6 => tyX6
  | 7 => tyX8
  | _ => tyX9
theorem fcl_cases {Q : Nat → vw_C → Prop} (h0 : Q 0 (RX0, TX0, 3)) (h1 : Q 1 (RX1, TX1, 4)) (h2 : Q 2 (RX2, TX2, 11)) (h3 : Q 3 (RX3, TX3, 3)) (h4 : Q 4 (RX4, TX4, 4)) (h5 : Q 5 (RX5, TX5, 5)) (h6 : Q 6 (RX6, TX6, 7)) (h7 : Q 7 (RX8, TX8, 3)) (h8 : Q 8 (RX9, TX9, 10)) {ci : Nat} {q : vw_C} (h : vwCl[ci]? = some q) : Q ci q := by
  match ci, h with
  | 0, h => cases h; exact h0
  | 1, h => cases h; exact h1
  | 2, h => cases h; exact h2
  | 3, h => cases h; exact h3
  | 4, h => cases h; exact h4
  | 5, h => cases h; exact h5
  | 6, h => cases h; exact h6
  | 7, h => cases h; exact h7
  | 8, h => cases h; exact h8
  | n + 9, h => simp [vwCl] at h
theorem fTy_ok {ci : Nat} {q : vw_C} (h : vwCl[ci]? = some q) : ∀ k, k < q.2.2 → parseFieldDescriptor (q.2.1 k).2.2.1 = some (fTyOf ci k) :=
  fcl_cases (Q := fun ci q => ∀ k, k < q.2.2 → parseFieldDescriptor (q.2.1 k).2.2.1 = some (fTyOf ci k)) tyX0_ok tyX1_ok tyX2_ok tyX3_ok tyX4_ok tyX5_ok tyX6_ok tyX8_ok tyX9_ok h
theorem fNm_ok {ci : Nat} {q : vw_C} (h : vwCl[ci]? = some q) : ∀ a, a < q.2.2 → ∀ b, b < q.2.2 → a ≠ b → (q.2.1 a).2.1 ≠ (q.2.1 b).2.1 :=
  fcl_cases (Q := fun ci q => ∀ a, a < q.2.2 → ∀ b, b < q.2.2 → a ≠ b → (q.2.1 a).2.1 ≠ (q.2.1 b).2.1) nmX0 nmX1 nmX2 nmX3 nmX4 nmX5 nmX6 nmX8 nmX9 h
theorem fWs_ok {ci : Nat} {q : vw_C} (h : vwCl[ci]? = some q) : ∀ w ∈ u_ws q.1 q.2.1 q.2.2, w ∈ lwG :=
  fcl_cases (Q := fun _ q => ∀ w ∈ u_ws q.1 q.2.1 q.2.2, w ∈ lwG) (by decide +kernel) (by decide +kernel) (by decide +kernel) (by decide +kernel) (by decide +kernel) (by decide +kernel) (by decide +kernel) (by decide +kernel) (by decide +kernel) h
section FRR
variable {l : Launch} {κ : KP} {μ μ' : MD} {pc : Nat} {lv lv' : List (Nat × Value)} {st rest : List Value} {M : Mem} {bc bs : Nat} {P P' : FPost}

theorem r_iload_n {k : Fin 4} {x : Int32} (d : decode (mB μ) pc = .ok (.iload_n k, 1)) (h : fget lv (k : Nat) = some (.int x)) (kk : fR l κ μ (pc + 1) lv (.int x :: st) M bc bs P) : fR l κ μ pc lv st M bc bs P := by
  intro p e s m args below meth c C H locs cells slots ls hW hS hl hc hs
  exact lv_iload_n C.2.1 C.2.2.1 d rfl (fget_at hl h) (kk p e s m args below meth c C H locs cells slots ls hW hS hl hc hs)

theorem r_iload {i : Nat} {x : Int32} (d : decode (mB μ) pc = .ok (.iload i, 2)) (h : fget lv i = some (.int x)) (kk : fR l κ μ (pc + 2) lv (.int x :: st) M bc bs P) : fR l κ μ pc lv st M bc bs P := by
  intro p e s m args below meth c C H locs cells slots ls hW hS hl hc hs
  exact lv_iload C.2.1 C.2.2.1 d (fget_at hl h) (kk p e s m args below meth c C H locs cells slots ls hW hS hl hc hs)

theorem r_istore_n {k : Fin 4} {x : Int32} (d : decode (mB μ) pc = .ok (.istore_n k, 1)) (hn : (k : Nat) < mL μ) (h : ((k : Nat), Value.int x) :: lv.filter (fun q => !(q.1 == (k : Nat)) && !(q.1 + 1 == (k : Nat) && q.2.category == 2)) = lv') (kk : fR l κ μ (pc + 1) lv' st M bc bs P) : fR l κ μ pc lv (.int x :: st) M bc bs P := by
  intro p e s m args below meth c C H locs cells slots ls hW hS hl hc hs
  exact lv_istore_n C.2.1 C.2.2.1 d rfl hl hn h (fun ls' hl' => kk p e s m args below meth c C H locs cells slots ls' hW hS hl' hc hs)

theorem r_istore {i : Nat} {x : Int32} (d : decode (mB μ) pc = .ok (.istore i, 2)) (hn : i < mL μ) (h : (i, Value.int x) :: lv.filter (fun q => !(q.1 == i) && !(q.1 + 1 == i && q.2.category == 2)) = lv') (kk : fR l κ μ (pc + 2) lv' st M bc bs P) : fR l κ μ pc lv (.int x :: st) M bc bs P := by
  intro p e s m args below meth c C H locs cells slots ls hW hS hl hc hs
  exact lv_istore C.2.1 C.2.2.1 d hl hn h (fun ls' hl' => kk p e s m args below meth c C H locs cells slots ls' hW hS hl' hc hs)

theorem r_lload_n {k : Fin 4} {x : Int64} (d : decode (mB μ) pc = .ok (.lload_n k, 1)) (h : fget lv (k : Nat) = some (.long x)) (kk : fR l κ μ (pc + 1) lv (.long x :: st) M bc bs P) : fR l κ μ pc lv st M bc bs P := by
  intro p e s m args below meth c C H locs cells slots ls hW hS hl hc hs
  exact lv_lload_n C.2.1 C.2.2.1 d rfl (fget_at hl h) (kk p e s m args below meth c C H locs cells slots ls hW hS hl hc hs)

theorem r_lload {i : Nat} {x : Int64} (d : decode (mB μ) pc = .ok (.lload i, 2)) (h : fget lv i = some (.long x)) (kk : fR l κ μ (pc + 2) lv (.long x :: st) M bc bs P) : fR l κ μ pc lv st M bc bs P := by
  intro p e s m args below meth c C H locs cells slots ls hW hS hl hc hs
  exact lv_lload C.2.1 C.2.2.1 d (fget_at hl h) (kk p e s m args below meth c C H locs cells slots ls hW hS hl hc hs)

theorem r_lstore_n {k : Fin 4} {x : Int64} (d : decode (mB μ) pc = .ok (.lstore_n k, 1)) (hn : (k : Nat) + 1 < mL μ) (h : ((k : Nat), Value.long x) :: lv.filter (fun q => !(q.1 == (k : Nat)) && (!(q.1 == (k : Nat) + 1) && !(q.1 + 1 == (k : Nat) && q.2.category == 2))) = lv') (kk : fR l κ μ (pc + 1) lv' st M bc bs P) : fR l κ μ pc lv (.long x :: st) M bc bs P := by
  intro p e s m args below meth c C H locs cells slots ls hW hS hl hc hs
  exact lv_lstore_n C.2.1 C.2.2.1 d rfl hl hn h (fun ls' hl' => kk p e s m args below meth c C H locs cells slots ls' hW hS hl' hc hs)

theorem r_lstore {i : Nat} {x : Int64} (d : decode (mB μ) pc = .ok (.lstore i, 2)) (hn : i + 1 < mL μ) (h : (i, Value.long x) :: lv.filter (fun q => !(q.1 == i) && (!(q.1 == i + 1) && !(q.1 + 1 == i && q.2.category == 2))) = lv') (kk : fR l κ μ (pc + 2) lv' st M bc bs P) : fR l κ μ pc lv (.long x :: st) M bc bs P := by
  intro p e s m args below meth c C H locs cells slots ls hW hS hl hc hs
  exact lv_lstore C.2.1 C.2.2.1 d hl hn h (fun ls' hl' => kk p e s m args below meth c C H locs cells slots ls' hW hS hl' hc hs)

theorem r_dload_n {k : Fin 4} {x : UInt64} (d : decode (mB μ) pc = .ok (.dload_n k, 1)) (h : fget lv (k : Nat) = some (.double x)) (kk : fR l κ μ (pc + 1) lv (.double x :: st) M bc bs P) : fR l κ μ pc lv st M bc bs P := by
  intro p e s m args below meth c C H locs cells slots ls hW hS hl hc hs
  exact lv_dload_n C.2.1 C.2.2.1 d rfl (fget_at hl h) (kk p e s m args below meth c C H locs cells slots ls hW hS hl hc hs)

theorem r_dload {i : Nat} {x : UInt64} (d : decode (mB μ) pc = .ok (.dload i, 2)) (h : fget lv i = some (.double x)) (kk : fR l κ μ (pc + 2) lv (.double x :: st) M bc bs P) : fR l κ μ pc lv st M bc bs P := by
  intro p e s m args below meth c C H locs cells slots ls hW hS hl hc hs
  exact lv_dload C.2.1 C.2.2.1 d (fget_at hl h) (kk p e s m args below meth c C H locs cells slots ls hW hS hl hc hs)

theorem r_dstore_n {k : Fin 4} {x : UInt64} (d : decode (mB μ) pc = .ok (.dstore_n k, 1)) (hn : (k : Nat) + 1 < mL μ) (h : ((k : Nat), Value.double x) :: lv.filter (fun q => !(q.1 == (k : Nat)) && (!(q.1 == (k : Nat) + 1) && !(q.1 + 1 == (k : Nat) && q.2.category == 2))) = lv') (kk : fR l κ μ (pc + 1) lv' st M bc bs P) : fR l κ μ pc lv (.double x :: st) M bc bs P := by
  intro p e s m args below meth c C H locs cells slots ls hW hS hl hc hs
  exact lv_dstore_n C.2.1 C.2.2.1 d rfl hl hn h (fun ls' hl' => kk p e s m args below meth c C H locs cells slots ls' hW hS hl' hc hs)

theorem r_dstore {i : Nat} {x : UInt64} (d : decode (mB μ) pc = .ok (.dstore i, 2)) (hn : i + 1 < mL μ) (h : (i, Value.double x) :: lv.filter (fun q => !(q.1 == i) && (!(q.1 == i + 1) && !(q.1 + 1 == i && q.2.category == 2))) = lv') (kk : fR l κ μ (pc + 2) lv' st M bc bs P) : fR l κ μ pc lv (.double x :: st) M bc bs P := by
  intro p e s m args below meth c C H locs cells slots ls hW hS hl hc hs
  exact lv_dstore C.2.1 C.2.2.1 d hl hn h (fun ls' hl' => kk p e s m args below meth c C H locs cells slots ls' hW hS hl' hc hs)

theorem r_aload_n {k : Fin 4} {x : Nat} (d : decode (mB μ) pc = .ok (.aload_n k, 1)) (h : fget lv (k : Nat) = some (.ref x)) (kk : fR l κ μ (pc + 1) lv (.ref x :: st) M bc bs P) : fR l κ μ pc lv st M bc bs P := by
  intro p e s m args below meth c C H locs cells slots ls hW hS hl hc hs
  exact lv_aload_n C.2.1 C.2.2.1 d rfl (fget_at hl h) (kk p e s m args below meth c C H locs cells slots ls hW hS hl hc hs)

theorem r_aload {i : Nat} {x : Nat} (d : decode (mB μ) pc = .ok (.aload i, 2)) (h : fget lv i = some (.ref x)) (kk : fR l κ μ (pc + 2) lv (.ref x :: st) M bc bs P) : fR l κ μ pc lv st M bc bs P := by
  intro p e s m args below meth c C H locs cells slots ls hW hS hl hc hs
  exact lv_aload C.2.1 C.2.2.1 d (fget_at hl h) (kk p e s m args below meth c C H locs cells slots ls hW hS hl hc hs)

theorem r_astore_n {k : Fin 4} {x : Nat} (d : decode (mB μ) pc = .ok (.astore_n k, 1)) (hn : (k : Nat) < mL μ) (h : ((k : Nat), Value.ref x) :: lv.filter (fun q => !(q.1 == (k : Nat)) && !(q.1 + 1 == (k : Nat) && q.2.category == 2)) = lv') (kk : fR l κ μ (pc + 1) lv' st M bc bs P) : fR l κ μ pc lv (.ref x :: st) M bc bs P := by
  intro p e s m args below meth c C H locs cells slots ls hW hS hl hc hs
  exact lv_astore_n C.2.1 C.2.2.1 d rfl hl hn h (fun ls' hl' => kk p e s m args below meth c C H locs cells slots ls' hW hS hl' hc hs)

theorem r_astore {i : Nat} {x : Nat} (d : decode (mB μ) pc = .ok (.astore i, 2)) (hn : i < mL μ) (h : (i, Value.ref x) :: lv.filter (fun q => !(q.1 == i) && !(q.1 + 1 == i && q.2.category == 2)) = lv') (kk : fR l κ μ (pc + 2) lv' st M bc bs P) : fR l κ μ pc lv (.ref x :: st) M bc bs P := by
  intro p e s m args below meth c C H locs cells slots ls hW hS hl hc hs
  exact lv_astore C.2.1 C.2.2.1 d hl hn h (fun ls' hl' => kk p e s m args below meth c C H locs cells slots ls' hW hS hl' hc hs)

theorem r_iinc {i : Nat} {n : Int} {x v : Int32} (d : decode (mB μ) pc = .ok (.iinc i n, 3)) (hg : fget lv i = some (.int x)) (hv : x + Int32.ofInt n = v) (hn : i < mL μ) (h : (i, Value.int v) :: lv.filter (fun q => !(q.1 == i) && !(q.1 + 1 == i && q.2.category == 2)) = lv') (kk : fR l κ μ (pc + 3) lv' st M bc bs P) : fR l κ μ pc lv st M bc bs P := by
  intro p e s m args below meth c C H locs cells slots ls hW hS hl hc hs
  obtain ⟨j, hj⟩ := List.getElem?_of_mem (fget_mem hg)
  exact lv_iinc C.2.1 C.2.2.1 d hl hj hv hn h (fun ls' hl' => kk p e s m args below meth c C H locs cells slots ls' hW hS hl' hc hs)

theorem r_iconst {n : Int} {v : Int32} (d : decode (mB μ) pc = .ok (.iconst n, 1)) (hv : Int32.ofInt n = v) (kk : fR l κ μ (pc + 1) lv (.int v :: st) M bc bs P) : fR l κ μ pc lv (st) M bc bs P := by
  intro p e s m args below meth c C H locs cells slots ls hW hS hl hc hs
  exact lv_iconst C.2.1 C.2.2.1 d hv (kk p e s m args below meth c C H locs cells slots ls hW hS hl hc hs)

theorem r_bipush {n : Int} {v : Int32} (d : decode (mB μ) pc = .ok (.bipush n, 2)) (hv : (Int8.ofInt n).toInt32 = v) (kk : fR l κ μ (pc + 2) lv (.int v :: st) M bc bs P) : fR l κ μ pc lv (st) M bc bs P := by
  intro p e s m args below meth c C H locs cells slots ls hW hS hl hc hs
  exact lv_bipush C.2.1 C.2.2.1 d hv (kk p e s m args below meth c C H locs cells slots ls hW hS hl hc hs)

theorem r_sipush {n : Int} {v : Int32} (d : decode (mB μ) pc = .ok (.sipush n, 3)) (hv : (Int16.ofInt n).toInt32 = v) (kk : fR l κ μ (pc + 3) lv (.int v :: st) M bc bs P) : fR l κ μ pc lv (st) M bc bs P := by
  intro p e s m args below meth c C H locs cells slots ls hW hS hl hc hs
  exact lv_sipush C.2.1 C.2.2.1 d hv (kk p e s m args below meth c C H locs cells slots ls hW hS hl hc hs)

theorem r_lconst {n : Fin 2} {v : Int64} (d : decode (mB μ) pc = .ok (.lconst n, 1)) (hv : Int64.ofNat (n : Nat) = v) (kk : fR l κ μ (pc + 1) lv (.long v :: st) M bc bs P) : fR l κ μ pc lv (st) M bc bs P := by
  intro p e s m args below meth c C H locs cells slots ls hW hS hl hc hs
  exact lv_lconst C.2.1 C.2.2.1 d hv (kk p e s m args below meth c C H locs cells slots ls hW hS hl hc hs)

theorem r_ldc2 {idx : Nat} {v : Int64} (d : decode (mB μ) pc = .ok (.ldc2_w idx, 3)) (hw : Cond.constantLong (mY μ).cls idx v ∈ lw_tbl) (kk : fR l κ μ (pc + 3) lv (.long v :: st) M bc bs P) : fR l κ μ pc lv (st) M bc bs P := by
  intro p e s m args below meth c C H locs cells slots ls hW hS hl hc hs
  exact lv_ldc2 C.2.1 C.2.2.1 C.2.2.2.2.2.1 (C.2.2.2.2.2.2.1 _ (lwG_of hw rfl)) d (kk p e s m args below meth c C H locs cells slots ls hW hS hl hc hs)

theorem r_ldc2d {idx : Nat} {v : UInt64} (d : decode (mB μ) pc = .ok (.ldc2_w idx, 3)) (hw : Cond.constantDouble (mY μ).cls idx v ∈ lw_tbl) (kk : fR l κ μ (pc + 3) lv (.double v :: st) M bc bs P) : fR l κ μ pc lv (st) M bc bs P := by
  intro p e s m args below meth c C H locs cells slots ls hW hS hl hc hs
  exact lv_ldc2d C.2.1 C.2.2.1 C.2.2.2.2.2.1 (C.2.2.2.2.2.2.1 _ (lwG_of hw rfl)) d (kk p e s m args below meth c C H locs cells slots ls hW hS hl hc hs)

theorem r_ldc {idx : Nat} {v : Int32} (d : decode (mB μ) pc = .ok (.ldc idx, 2)) (hw : Cond.constant (mY μ).cls idx v ∈ lw_tbl) (kk : fR l κ μ (pc + 2) lv (.int v :: st) M bc bs P) : fR l κ μ pc lv (st) M bc bs P := by
  intro p e s m args below meth c C H locs cells slots ls hW hS hl hc hs
  exact lv_ldc C.2.1 C.2.2.1 C.2.2.2.2.2.1 (C.2.2.2.2.2.2.1 _ (lwG_of hw rfl)) d (kk p e s m args below meth c C H locs cells slots ls hW hS hl hc hs)

theorem r_ldcS {idx j : Nat} {tx : String} (d : decode (mB μ) pc = .ok (.ldc idx, 2)) (hw : ((mY μ).cls, idx, tx, j) ∈ fStr) (kk : fR l κ μ (pc + 2) lv (.ref (kK κ j) :: st) M bc bs P) : fR l κ μ pc lv (st) M bc bs P := by
  intro p e s m args below meth c C H locs cells slots ls hW hS hl hc hs
  exact va_ldcS C.2.1 C.2.2.1 C.2.2.2.2.2.1 (C.2.2.2.2.2.2.2.2.2.2.2.1.2.2.1 _ hw) d (kk p e s m args below meth c C H locs cells slots ls hW hS hl hc hs)

theorem r_dup {v : Value} (d : decode (mB μ) pc = .ok (.dup, 1)) (hv : v.category = 1) (kk : fR l κ μ (pc + 1) lv (v :: v :: st) M bc bs P) : fR l κ μ pc lv (v :: st) M bc bs P := by
  intro p e s m args below meth c C H locs cells slots ls hW hS hl hc hs
  exact lv_dup C.2.1 C.2.2.1 d hv (kk p e s m args below meth c C H locs cells slots ls hW hS hl hc hs)

theorem r_pop {v : Value} (d : decode (mB μ) pc = .ok (.pop, 1)) (hv : v.category = 1) (kk : fR l κ μ (pc + 1) lv (st) M bc bs P) : fR l κ μ pc lv (v :: st) M bc bs P := by
  intro p e s m args below meth c C H locs cells slots ls hW hS hl hc hs
  exact lv_pop C.2.1 C.2.2.1 d hv (kk p e s m args below meth c C H locs cells slots ls hW hS hl hc hs)

theorem r_dup2 {v w : Value} (d : decode (mB μ) pc = .ok (.dup2, 1)) (hv : v.category = 1) (hw : w.category = 1) (kk : fR l κ μ (pc + 1) lv (v :: w :: v :: w :: st) M bc bs P) : fR l κ μ pc lv (v :: w :: st) M bc bs P := by
  intro p e s m args below meth c C H locs cells slots ls hW hS hl hc hs
  exact lv_dup2_11 C.2.1 C.2.2.1 d hv hw (kk p e s m args below meth c C H locs cells slots ls hW hS hl hc hs)

theorem r_dup_x1 {v w : Value} (d : decode (mB μ) pc = .ok (.dup_x1, 1)) (hv : v.category = 1) (hw : w.category = 1) (kk : fR l κ μ (pc + 1) lv (v :: w :: v :: st) M bc bs P) : fR l κ μ pc lv (v :: w :: st) M bc bs P := by
  intro p e s m args below meth c C H locs cells slots ls hW hS hl hc hs
  exact lv_dup_x1 C.2.1 C.2.2.1 d hv hw (kk p e s m args below meth c C H locs cells slots ls hW hS hl hc hs)

theorem r_iadd {x y : Int32} (d : decode (mB μ) pc = .ok (.iadd, 1)) (kk : fR l κ μ (pc + 1) lv (.int (x + y) :: st) M bc bs P) : fR l κ μ pc lv (.int y :: .int x :: st) M bc bs P := by
  intro p e s m args below meth c C H locs cells slots ls hW hS hl hc hs
  exact lv_iadd C.2.1 C.2.2.1 d (kk p e s m args below meth c C H locs cells slots ls hW hS hl hc hs)

theorem r_isub {x y : Int32} (d : decode (mB μ) pc = .ok (.isub, 1)) (kk : fR l κ μ (pc + 1) lv (.int (x - y) :: st) M bc bs P) : fR l κ μ pc lv (.int y :: .int x :: st) M bc bs P := by
  intro p e s m args below meth c C H locs cells slots ls hW hS hl hc hs
  exact lv_isub C.2.1 C.2.2.1 d (kk p e s m args below meth c C H locs cells slots ls hW hS hl hc hs)

theorem r_imul {x y : Int32} (d : decode (mB μ) pc = .ok (.imul, 1)) (kk : fR l κ μ (pc + 1) lv (.int (x * y) :: st) M bc bs P) : fR l κ μ pc lv (.int y :: .int x :: st) M bc bs P := by
  intro p e s m args below meth c C H locs cells slots ls hW hS hl hc hs
  exact lv_imul C.2.1 C.2.2.1 d (kk p e s m args below meth c C H locs cells slots ls hW hS hl hc hs)

theorem r_iand {x y : Int32} (d : decode (mB μ) pc = .ok (.iand, 1)) (kk : fR l κ μ (pc + 1) lv (.int (x &&& y) :: st) M bc bs P) : fR l κ μ pc lv (.int y :: .int x :: st) M bc bs P := by
  intro p e s m args below meth c C H locs cells slots ls hW hS hl hc hs
  exact lv_iand C.2.1 C.2.2.1 d (kk p e s m args below meth c C H locs cells slots ls hW hS hl hc hs)

theorem r_ior {x y : Int32} (d : decode (mB μ) pc = .ok (.ior, 1)) (kk : fR l κ μ (pc + 1) lv (.int (x ||| y) :: st) M bc bs P) : fR l κ μ pc lv (.int y :: .int x :: st) M bc bs P := by
  intro p e s m args below meth c C H locs cells slots ls hW hS hl hc hs
  exact lv_ior C.2.1 C.2.2.1 d (kk p e s m args below meth c C H locs cells slots ls hW hS hl hc hs)

theorem r_ixor {x y : Int32} (d : decode (mB μ) pc = .ok (.ixor, 1)) (kk : fR l κ μ (pc + 1) lv (.int (x ^^^ y) :: st) M bc bs P) : fR l κ μ pc lv (.int y :: .int x :: st) M bc bs P := by
  intro p e s m args below meth c C H locs cells slots ls hW hS hl hc hs
  exact lv_ixor C.2.1 C.2.2.1 d (kk p e s m args below meth c C H locs cells slots ls hW hS hl hc hs)

theorem r_ishl {x y : Int32} (d : decode (mB μ) pc = .ok (.ishl, 1)) (kk : fR l κ μ (pc + 1) lv (.int (x <<< (y &&& 31)) :: st) M bc bs P) : fR l κ μ pc lv (.int y :: .int x :: st) M bc bs P := by
  intro p e s m args below meth c C H locs cells slots ls hW hS hl hc hs
  exact lv_ishl C.2.1 C.2.2.1 d (kk p e s m args below meth c C H locs cells slots ls hW hS hl hc hs)

theorem r_idiv {x y : Int32} (d : decode (mB μ) pc = .ok (.idiv, 1)) (hne : ¬ y = 0) (kk : fR l κ μ (pc + 1) lv (.int (x / y) :: st) M bc bs P) : fR l κ μ pc lv (.int y :: .int x :: st) M bc bs P := by
  intro p e s m args below meth c C H locs cells slots ls hW hS hl hc hs
  exact lv_idiv C.2.1 C.2.2.1 d hne (kk p e s m args below meth c C H locs cells slots ls hW hS hl hc hs)

theorem r_irem {x y : Int32} (d : decode (mB μ) pc = .ok (.irem, 1)) (hne : ¬ y = 0) (kk : fR l κ μ (pc + 1) lv (.int (x - x / y * y) :: st) M bc bs P) : fR l κ μ pc lv (.int y :: .int x :: st) M bc bs P := by
  intro p e s m args below meth c C H locs cells slots ls hW hS hl hc hs
  exact lv_irem C.2.1 C.2.2.1 d hne (kk p e s m args below meth c C H locs cells slots ls hW hS hl hc hs)

theorem r_ineg {x : Int32} (d : decode (mB μ) pc = .ok (.ineg, 1)) (kk : fR l κ μ (pc + 1) lv (.int (-x) :: st) M bc bs P) : fR l κ μ pc lv (.int x :: st) M bc bs P := by
  intro p e s m args below meth c C H locs cells slots ls hW hS hl hc hs
  exact lv_ineg C.2.1 C.2.2.1 d (kk p e s m args below meth c C H locs cells slots ls hW hS hl hc hs)

theorem r_i2l {x : Int32} (d : decode (mB μ) pc = .ok (.i2l, 1)) (kk : fR l κ μ (pc + 1) lv (.long x.toInt64 :: st) M bc bs P) : fR l κ μ pc lv (.int x :: st) M bc bs P := by
  intro p e s m args below meth c C H locs cells slots ls hW hS hl hc hs
  exact lv_i2l C.2.1 C.2.2.1 d rfl (kk p e s m args below meth c C H locs cells slots ls hW hS hl hc hs)

theorem r_i2d {x : Int32} (d : decode (mB μ) pc = .ok (.i2d, 1)) (kk : fR l κ μ (pc + 1) lv (.double (FP.i2d x) :: st) M bc bs P) : fR l κ μ pc lv (.int x :: st) M bc bs P := by
  intro p e s m args below meth c C H locs cells slots ls hW hS hl hc hs
  exact lv_i2d C.2.1 C.2.2.1 d (kk p e s m args below meth c C H locs cells slots ls hW hS hl hc hs)

theorem r_i2c {x : Int32} (d : decode (mB μ) pc = .ok (.i2c, 1)) (kk : fR l κ μ (pc + 1) lv (.int (x.toUInt32 % 65536).toInt32 :: st) M bc bs P) : fR l κ μ pc lv (.int x :: st) M bc bs P := by
  intro p e s m args below meth c C H locs cells slots ls hW hS hl hc hs
  exact lv_i2c C.2.1 C.2.2.1 d rfl (kk p e s m args below meth c C H locs cells slots ls hW hS hl hc hs)

theorem r_ladd {x y : Int64} (d : decode (mB μ) pc = .ok (.ladd, 1)) (kk : fR l κ μ (pc + 1) lv (.long (x + y) :: st) M bc bs P) : fR l κ μ pc lv (.long y :: .long x :: st) M bc bs P := by
  intro p e s m args below meth c C H locs cells slots ls hW hS hl hc hs
  exact lv_ladd C.2.1 C.2.2.1 d (kk p e s m args below meth c C H locs cells slots ls hW hS hl hc hs)

theorem r_lsub {x y : Int64} (d : decode (mB μ) pc = .ok (.lsub, 1)) (kk : fR l κ μ (pc + 1) lv (.long (x - y) :: st) M bc bs P) : fR l κ μ pc lv (.long y :: .long x :: st) M bc bs P := by
  intro p e s m args below meth c C H locs cells slots ls hW hS hl hc hs
  exact lv_lsub C.2.1 C.2.2.1 d (kk p e s m args below meth c C H locs cells slots ls hW hS hl hc hs)

theorem r_lmul {x y : Int64} (d : decode (mB μ) pc = .ok (.lmul, 1)) (kk : fR l κ μ (pc + 1) lv (.long (x * y) :: st) M bc bs P) : fR l κ μ pc lv (.long y :: .long x :: st) M bc bs P := by
  intro p e s m args below meth c C H locs cells slots ls hW hS hl hc hs
  exact lv_lmul C.2.1 C.2.2.1 d (kk p e s m args below meth c C H locs cells slots ls hW hS hl hc hs)

theorem r_dmul {x y : UInt64} (d : decode (mB μ) pc = .ok (.dmul, 1)) (hne : vf_n64 (FP.dmul x y)) (kk : fR l κ μ (pc + 1) lv (.double (FP.dmul x y) :: st) M bc bs P) : fR l κ μ pc lv (.double y :: .double x :: st) M bc bs P := by
  intro p e s m args below meth c C H locs cells slots ls hW hS hl hc hs
  exact lv_dmul C.2.1 C.2.2.1 d hne (kk p e s m args below meth c C H locs cells slots ls hW hS hl hc hs)

theorem r_ddiv {x y : UInt64} (d : decode (mB μ) pc = .ok (.ddiv, 1)) (hne : vf_n64 (FP.ddiv x y)) (kk : fR l κ μ (pc + 1) lv (.double (FP.ddiv x y) :: st) M bc bs P) : fR l κ μ pc lv (.double y :: .double x :: st) M bc bs P := by
  intro p e s m args below meth c C H locs cells slots ls hW hS hl hc hs
  exact lv_ddiv C.2.1 C.2.2.1 d hne (kk p e s m args below meth c C H locs cells slots ls hW hS hl hc hs)

theorem r_dsub {x y : UInt64} (d : decode (mB μ) pc = .ok (.dsub, 1)) (hne : vf_n64 (FP.dsub x y)) (kk : fR l κ μ (pc + 1) lv (.double (FP.dsub x y) :: st) M bc bs P) : fR l κ μ pc lv (.double y :: .double x :: st) M bc bs P := by
  intro p e s m args below meth c C H locs cells slots ls hW hS hl hc hs
  exact lv_dsub C.2.1 C.2.2.1 d hne (kk p e s m args below meth c C H locs cells slots ls hW hS hl hc hs)

theorem r_dcmp {x y : UInt64} {op : CmpOp} (d : decode (mB μ) pc = .ok (.dcmp op, 1)) (kk : fR l κ μ (pc + 1) lv (.int (Op.cmpValue (FP.dcmp x y) op) :: st) M bc bs P) : fR l κ μ pc lv (.double y :: .double x :: st) M bc bs P := by
  intro p e s m args below meth c C H locs cells slots ls hW hS hl hc hs
  exact lv_dcmp C.2.1 C.2.2.1 d (kk p e s m args below meth c C H locs cells slots ls hW hS hl hc hs)

theorem r_if_eq {x : Int32} {off : Int} {tgt : Nat} (d : decode (mB μ) pc = .ok (.ifCond .eq off, 3)) (ht : (pc : Int) + off = (tgt : Int)) (kt : x = 0 → fR l κ μ tgt lv st M bc bs P) (kf : ¬ x = 0 → fR l κ μ (pc + 3) lv st M bc bs P) : fR l κ μ pc lv (.int x :: st) M bc bs P := by
  intro p e s m args below meth c C H locs cells slots ls hW hS hl hc hs
  exact lv_if_eq C.2.1 C.2.2.1 d ht (fun h => kt h p e s m args below meth c C H locs cells slots ls hW hS hl hc hs) (fun h => kf h p e s m args below meth c C H locs cells slots ls hW hS hl hc hs)

theorem r_if_ne {x : Int32} {off : Int} {tgt : Nat} (d : decode (mB μ) pc = .ok (.ifCond .ne off, 3)) (ht : (pc : Int) + off = (tgt : Int)) (kt : ¬ x = 0 → fR l κ μ tgt lv st M bc bs P) (kf : x = 0 → fR l κ μ (pc + 3) lv st M bc bs P) : fR l κ μ pc lv (.int x :: st) M bc bs P := by
  intro p e s m args below meth c C H locs cells slots ls hW hS hl hc hs
  exact lv_if_ne C.2.1 C.2.2.1 d ht (fun h => kt h p e s m args below meth c C H locs cells slots ls hW hS hl hc hs) (fun h => kf h p e s m args below meth c C H locs cells slots ls hW hS hl hc hs)

theorem r_if_lt {x : Int32} {off : Int} {tgt : Nat} (d : decode (mB μ) pc = .ok (.ifCond .lt off, 3)) (ht : (pc : Int) + off = (tgt : Int)) (kt : x < 0 → fR l κ μ tgt lv st M bc bs P) (kf : ¬ x < 0 → fR l κ μ (pc + 3) lv st M bc bs P) : fR l κ μ pc lv (.int x :: st) M bc bs P := by
  intro p e s m args below meth c C H locs cells slots ls hW hS hl hc hs
  exact lv_if_lt C.2.1 C.2.2.1 d ht (fun h => kt h p e s m args below meth c C H locs cells slots ls hW hS hl hc hs) (fun h => kf h p e s m args below meth c C H locs cells slots ls hW hS hl hc hs)

theorem r_if_ge {x : Int32} {off : Int} {tgt : Nat} (d : decode (mB μ) pc = .ok (.ifCond .ge off, 3)) (ht : (pc : Int) + off = (tgt : Int)) (kt : 0 ≤ x → fR l κ μ tgt lv st M bc bs P) (kf : ¬ 0 ≤ x → fR l κ μ (pc + 3) lv st M bc bs P) : fR l κ μ pc lv (.int x :: st) M bc bs P := by
  intro p e s m args below meth c C H locs cells slots ls hW hS hl hc hs
  exact lv_if_ge C.2.1 C.2.2.1 d ht (fun h => kt h p e s m args below meth c C H locs cells slots ls hW hS hl hc hs) (fun h => kf h p e s m args below meth c C H locs cells slots ls hW hS hl hc hs)

theorem r_if_gt {x : Int32} {off : Int} {tgt : Nat} (d : decode (mB μ) pc = .ok (.ifCond .gt off, 3)) (ht : (pc : Int) + off = (tgt : Int)) (kt : 0 < x → fR l κ μ tgt lv st M bc bs P) (kf : ¬ 0 < x → fR l κ μ (pc + 3) lv st M bc bs P) : fR l κ μ pc lv (.int x :: st) M bc bs P := by
  intro p e s m args below meth c C H locs cells slots ls hW hS hl hc hs
  exact lv_if_gt C.2.1 C.2.2.1 d ht (fun h => kt h p e s m args below meth c C H locs cells slots ls hW hS hl hc hs) (fun h => kf h p e s m args below meth c C H locs cells slots ls hW hS hl hc hs)

theorem r_if_le {x : Int32} {off : Int} {tgt : Nat} (d : decode (mB μ) pc = .ok (.ifCond .le off, 3)) (ht : (pc : Int) + off = (tgt : Int)) (kt : x ≤ 0 → fR l κ μ tgt lv st M bc bs P) (kf : ¬ x ≤ 0 → fR l κ μ (pc + 3) lv st M bc bs P) : fR l κ μ pc lv (.int x :: st) M bc bs P := by
  intro p e s m args below meth c C H locs cells slots ls hW hS hl hc hs
  exact lv_if_le C.2.1 C.2.2.1 d ht (fun h => kt h p e s m args below meth c C H locs cells slots ls hW hS hl hc hs) (fun h => kf h p e s m args below meth c C H locs cells slots ls hW hS hl hc hs)

theorem r_icmp_eq {x y : Int32} {off : Int} {tgt : Nat} (d : decode (mB μ) pc = .ok (.if_icmp .eq off, 3)) (ht : (pc : Int) + off = (tgt : Int)) (kt : x = y → fR l κ μ tgt lv st M bc bs P) (kf : ¬ x = y → fR l κ μ (pc + 3) lv st M bc bs P) : fR l κ μ pc lv (.int y :: .int x :: st) M bc bs P := by
  intro p e s m args below meth c C H locs cells slots ls hW hS hl hc hs
  exact lv_icmp_eq C.2.1 C.2.2.1 d ht (fun h => kt h p e s m args below meth c C H locs cells slots ls hW hS hl hc hs) (fun h => kf h p e s m args below meth c C H locs cells slots ls hW hS hl hc hs)

theorem r_icmp_ne {x y : Int32} {off : Int} {tgt : Nat} (d : decode (mB μ) pc = .ok (.if_icmp .ne off, 3)) (ht : (pc : Int) + off = (tgt : Int)) (kt : ¬ x = y → fR l κ μ tgt lv st M bc bs P) (kf : x = y → fR l κ μ (pc + 3) lv st M bc bs P) : fR l κ μ pc lv (.int y :: .int x :: st) M bc bs P := by
  intro p e s m args below meth c C H locs cells slots ls hW hS hl hc hs
  exact lv_icmp_ne C.2.1 C.2.2.1 d ht (fun h => kt h p e s m args below meth c C H locs cells slots ls hW hS hl hc hs) (fun h => kf h p e s m args below meth c C H locs cells slots ls hW hS hl hc hs)

theorem r_icmp_lt {x y : Int32} {off : Int} {tgt : Nat} (d : decode (mB μ) pc = .ok (.if_icmp .lt off, 3)) (ht : (pc : Int) + off = (tgt : Int)) (kt : x < y → fR l κ μ tgt lv st M bc bs P) (kf : ¬ x < y → fR l κ μ (pc + 3) lv st M bc bs P) : fR l κ μ pc lv (.int y :: .int x :: st) M bc bs P := by
  intro p e s m args below meth c C H locs cells slots ls hW hS hl hc hs
  exact lv_icmp_lt C.2.1 C.2.2.1 d ht (fun h => kt h p e s m args below meth c C H locs cells slots ls hW hS hl hc hs) (fun h => kf h p e s m args below meth c C H locs cells slots ls hW hS hl hc hs)

theorem r_icmp_ge {x y : Int32} {off : Int} {tgt : Nat} (d : decode (mB μ) pc = .ok (.if_icmp .ge off, 3)) (ht : (pc : Int) + off = (tgt : Int)) (kt : y ≤ x → fR l κ μ tgt lv st M bc bs P) (kf : ¬ y ≤ x → fR l κ μ (pc + 3) lv st M bc bs P) : fR l κ μ pc lv (.int y :: .int x :: st) M bc bs P := by
  intro p e s m args below meth c C H locs cells slots ls hW hS hl hc hs
  exact lv_icmp_ge C.2.1 C.2.2.1 d ht (fun h => kt h p e s m args below meth c C H locs cells slots ls hW hS hl hc hs) (fun h => kf h p e s m args below meth c C H locs cells slots ls hW hS hl hc hs)

theorem r_icmp_gt {x y : Int32} {off : Int} {tgt : Nat} (d : decode (mB μ) pc = .ok (.if_icmp .gt off, 3)) (ht : (pc : Int) + off = (tgt : Int)) (kt : y < x → fR l κ μ tgt lv st M bc bs P) (kf : ¬ y < x → fR l κ μ (pc + 3) lv st M bc bs P) : fR l κ μ pc lv (.int y :: .int x :: st) M bc bs P := by
  intro p e s m args below meth c C H locs cells slots ls hW hS hl hc hs
  exact lv_icmp_gt C.2.1 C.2.2.1 d ht (fun h => kt h p e s m args below meth c C H locs cells slots ls hW hS hl hc hs) (fun h => kf h p e s m args below meth c C H locs cells slots ls hW hS hl hc hs)

theorem r_icmp_le {x y : Int32} {off : Int} {tgt : Nat} (d : decode (mB μ) pc = .ok (.if_icmp .le off, 3)) (ht : (pc : Int) + off = (tgt : Int)) (kt : x ≤ y → fR l κ μ tgt lv st M bc bs P) (kf : ¬ x ≤ y → fR l κ μ (pc + 3) lv st M bc bs P) : fR l κ μ pc lv (.int y :: .int x :: st) M bc bs P := by
  intro p e s m args below meth c C H locs cells slots ls hW hS hl hc hs
  exact lv_icmp_le C.2.1 C.2.2.1 d ht (fun h => kt h p e s m args below meth c C H locs cells slots ls hW hS hl hc hs) (fun h => kf h p e s m args below meth c C H locs cells slots ls hW hS hl hc hs)

theorem r_goto {off : Int} {tgt : Nat} (d : decode (mB μ) pc = .ok (.goto off, 3)) (ht : (pc : Int) + off = (tgt : Int)) (kk : fR l κ μ tgt lv st M bc bs P) : fR l κ μ pc lv st M bc bs P := by
  intro p e s m args below meth c C H locs cells slots ls hW hS hl hc hs
  exact lv_goto C.2.1 C.2.2.1 d ht (kk p e s m args below meth c C H locs cells slots ls hW hS hl hc hs)

theorem r_lookup {dflt : Int} {ps : Array (Int × Int)} {len : Nat} {x : Int32} {off : Int} {tgt : Nat} (d : decode (mB μ) pc = .ok (.lookupswitch dflt ps, len)) (hp : (ps.toList.zip (ps.toList.drop 1)).all (fun (a, next) => a.1 < next.1) = true) (ho : Op.lookupswitch.offset ps.toList dflt x.toInt = off) (ht : (pc : Int) + off = (tgt : Int)) (kk : fR l κ μ tgt lv st M bc bs P) : fR l κ μ pc lv (.int x :: st) M bc bs P := by
  intro p e s m args below meth c C H locs cells slots ls hW hS hl hc hs
  exact lv_lookup C.2.1 C.2.2.1 d hp ho ht (kk p e s m args below meth c C H locs cells slots ls hW hS hl hc hs)

theorem r_tableOut {dflt lo hi : Int} {offs : Array Int} {len : Nat} {x : Int32} {tgt : Nat} (d : decode (mB μ) pc = .ok (.tableswitch dflt lo hi offs, len)) (h : x.toInt < lo ∨ hi < x.toInt) (ht : (pc : Int) + dflt = (tgt : Int)) (kk : fR l κ μ tgt lv st M bc bs P) : fR l κ μ pc lv (.int x :: st) M bc bs P := by
  intro p e s m args below meth c C H locs cells slots ls hW hS hl hc hs
  exact lv_tableOut C.2.1 C.2.2.1 d h ht (kk p e s m args below meth c C H locs cells slots ls hW hS hl hc hs)

theorem r_tableIn {dflt lo hi : Int} {offs : Array Int} {len : Nat} {x : Int32} {off : Int} {tgt : Nat} (d : decode (mB μ) pc = .ok (.tableswitch dflt lo hi offs, len)) (h1 : ¬ x.toInt < lo) (h2 : ¬ hi < x.toInt) (ho : offs[(x.toInt - lo).toNat]? = some off) (ht : (pc : Int) + off = (tgt : Int)) (kk : fR l κ μ tgt lv st M bc bs P) : fR l κ μ pc lv (.int x :: st) M bc bs P := by
  intro p e s m args below meth c C H locs cells slots ls hW hS hl hc hs
  exact lv_tableIn C.2.1 C.2.2.1 d h1 h2 ho ht (kk p e s m args below meth c C H locs cells slots ls hW hS hl hc hs)

theorem r_get {idx ci k a : Nat} {fs : List Value} {v : Value} {C0 : String} {T0 : u_T} {N0 : Nat} (d : decode (mB μ) pc = .ok (.getfield idx, 3)) (hm : M a = some (.inl (ci, fs))) (hq : vwCl[ci]? = some (C0, T0, N0)) (hv : fs[k]? = some v) (hk : k < N0) (hlink : Cond.fieldLink (mY μ).cls idx (T0 k).1 (T0 k).2.1 (T0 k).2.2.1 ∈ lw_tbl) (kk : fR l κ μ (pc + 3) lv (v :: st) M bc bs P) : fR l κ μ pc lv (.ref a :: st) M bc bs P := by
  intro p e s m args below meth c C H locs cells slots ls hW hS hl hc hs
  obtain ⟨dC, dI, tys, ws, hK, hP, hD, hM9⟩ := id hW
  obtain ⟨k0, hk0⟩ := hM9 a _ hm
  exact va_get C.2.1 C.2.2.1 C.2.2.2.2.2.2.1 (fWs_ok hq) C.2.2.2.2.2.1 hK hP k0 hk0 hq k hk (C.2.2.2.2.2.2.1 _ (lwG_of hlink rfl)) (fun x h => h) hv d (kk p e s m args below meth c C H locs cells slots ls hW hS hl hc hs)

theorem r_put {idx ci k a : Nat} {fs fs' : List Value} {v : Value} {C0 : String} {T0 : u_T} {N0 : Nat} (d : decode (mB μ) pc = .ok (.putfield idx, 3)) (hm : M a = some (.inl (ci, fs))) (hq : vwCl[ci]? = some (C0, T0, N0)) (hk : k < N0) (hlink : Cond.fieldLink (mY μ).cls idx (T0 k).1 (T0 k).2.1 (T0 k).2.2.1 ∈ lw_tbl) (hfin : (T0 k).2.2.2 = false) (hn : narrow (fTyOf ci k) v = v) (hfit : fits (fTyOf ci k) v = true) (hlen : k < fs.length) (hset : fs.set k v = fs') (kk : fR l κ μ (pc + 3) lv st (fup M a (.inl (ci, fs'))) bc bs P) : fR l κ μ pc lv (v :: .ref a :: st) M bc bs P := by
  subst hset
  intro p e s m args below meth c C H locs cells slots ls hW hS hl hc hs
  obtain ⟨dC, dI, tys, ws, hK, hP, hD, hM9⟩ := id hW
  obtain ⟨k0, hk0⟩ := hM9 a _ hm
  exact va_put C.2.1 C.2.2.1 C.2.2.2.2.2.2.1 (fWs_ok hq) (fTyOf ci) (fTy_ok hq) (fNm_ok hq) C.2.2.2.2.2.1 hK hP hD hS k0 hk0 hq k hk (C.2.2.2.2.2.2.1 _ (lwG_of hlink rfl)) (fun x h => h) hfin (fTy_ok hq k hk) hn hfit hlen d (fun H1 locs1 hP1 hD1 hS1 => kk p e s m args below meth c C H1 locs1 cells slots ls ⟨dC, dI, tys, _, hK, hP1, hD1, fIn_set hD hM9 hk0 ⟨k0, fset_at hk0⟩⟩ hS1 hl hc hs)

theorem r_putF {idx ci k a : Nat} {fs fs' : List Value} {v : Value} {C0 : String} {T0 : u_T} {N0 : Nat} (d : decode (mB μ) pc = .ok (.putfield idx, 3)) (hm : M a = some (.inl (ci, fs))) (hq : vwCl[ci]? = some (C0, T0, N0)) (hk : k < N0) (hlink : Cond.fieldLink (mY μ).cls idx (T0 k).1 (T0 k).2.1 (T0 k).2.2.1 ∈ lw_tbl) (hfin : (T0 k).2.2.2 = true) (hin : (mY μ).name = "<init>") (hdecl : (T0 k).1 = (mY μ).cls) (hn : narrow (fTyOf ci k) v = v) (hfit : fits (fTyOf ci k) v = true) (hlen : k < fs.length) (hset : fs.set k v = fs') (kk : fR l κ μ (pc + 3) lv st (fup M a (.inl (ci, fs'))) bc bs P) : fR l κ μ pc lv (v :: .ref a :: st) M bc bs P := by
  subst hset
  intro p e s m args below meth c C H locs cells slots ls hW hS hl hc hs
  obtain ⟨dC, dI, tys, ws, hK, hP, hD, hM9⟩ := id hW
  obtain ⟨k0, hk0⟩ := hM9 a _ hm
  exact va_putF C.2.1 C.2.2.1 C.2.2.2.2.2.2.1 (fWs_ok hq) (fTyOf ci) (fTy_ok hq) (fNm_ok hq) C.2.2.2.2.2.1 hK hP hD hS k0 hk0 hq k hk (C.2.2.2.2.2.2.1 _ (lwG_of hlink rfl)) (fun x h => h) hfin (C.2.2.2.2.2.2.2.2.1.trans hin) hdecl (fTy_ok hq k hk) hn hfit hlen d (fun H1 locs1 hP1 hD1 hS1 => kk p e s m args below meth c C H1 locs1 cells slots ls ⟨dC, dI, tys, _, hK, hP1, hD1, fIn_set hD hM9 hk0 ⟨k0, fset_at hk0⟩⟩ hS1 hl hc hs)

theorem r_iald {a n : Nat} {f : Nat → Int32} {i : Int32} (d : decode (mB μ) pc = .ok (.iaload, 1)) (hm : M a = some (.inr (0, n, .inl f))) (hin : vp_in i n) (kk : fR l κ μ (pc + 1) lv (.int (f i.toNatClampNeg) :: st) M bc bs P) : fR l κ μ pc lv (.int i :: .ref a :: st) M bc bs P := by
  intro p e s m args below meth c C H locs cells slots ls hW hS hl hc hs
  obtain ⟨dC, dI, tys, ws, hK, hP, hD, hM9⟩ := id hW
  obtain ⟨k0, t0, cA, hk0, ht0⟩ := hM9 a _ hm
  exact va_iald C.2.1 C.2.2.1 hK hP k0 t0 hk0 ht0 hin d (kk p e s m args below meth c C H locs cells slots ls hW hS hl hc hs)

theorem r_cald {a n : Nat} {f : Nat → Int32} {i : Int32} (d : decode (mB μ) pc = .ok (.caload, 1)) (hm : M a = some (.inr (1, n, .inl f))) (hin : vp_in i n) (kk : fR l κ μ (pc + 1) lv (.int (f i.toNatClampNeg) :: st) M bc bs P) : fR l κ μ pc lv (.int i :: .ref a :: st) M bc bs P := by
  intro p e s m args below meth c C H locs cells slots ls hW hS hl hc hs
  obtain ⟨dC, dI, tys, ws, hK, hP, hD, hM9⟩ := id hW
  obtain ⟨k0, t0, cA, hk0, ht0⟩ := hM9 a _ hm
  exact va_cald C.2.1 C.2.2.1 hK hP k0 t0 hk0 ht0 hin d (kk p e s m args below meth c C H locs cells slots ls hW hS hl hc hs)

theorem r_lald {a n : Nat} {f : Nat → Int64} {i : Int32} (d : decode (mB μ) pc = .ok (.laload, 1)) (hm : M a = some (.inr (2, n, .inr (.inl f)))) (hin : vp_in i n) (kk : fR l κ μ (pc + 1) lv (.long (f i.toNatClampNeg) :: st) M bc bs P) : fR l κ μ pc lv (.int i :: .ref a :: st) M bc bs P := by
  intro p e s m args below meth c C H locs cells slots ls hW hS hl hc hs
  obtain ⟨dC, dI, tys, ws, hK, hP, hD, hM9⟩ := id hW
  obtain ⟨k0, t0, cA, hk0, ht0⟩ := hM9 a _ hm
  exact va_lald C.2.1 C.2.2.1 hK hP k0 t0 hk0 ht0 hin d (kk p e s m args below meth c C H locs cells slots ls hW hS hl hc hs)

theorem r_aldq {a n t : Nat} {Cn : String} {f : Nat → Option Nat} {i : Int32} (d : decode (mB μ) pc = .ok (.aaload, 1)) (hm : M a = some (.inr (t, n, .inr (.inr (.inr (.inr f)))))) (ht : fTy t = .object Cn) (hin : vp_in i n) (kk : fR l κ μ (pc + 1) lv (va_rf (f i.toNatClampNeg) :: st) M bc bs P) : fR l κ μ pc lv (.int i :: .ref a :: st) M bc bs P := by
  intro p e s m args below meth c C H locs cells slots ls hW hS hl hc hs
  obtain ⟨dC, dI, tys, ws, hK, hP, hD, hM9⟩ := id hW
  obtain ⟨k0, t0, cA, hk0, ht0⟩ := hM9 a _ hm
  exact va_aldq C.2.1 C.2.2.1 hK hP k0 t0 hk0 (ht0.trans (by rw [ht])) hin d (kk p e s m args below meth c C H locs cells slots ls hW hS hl hc hs)

theorem r_iast {a n : Nat} {f : Nat → Int32} {i : Int32} {x : Int32} (d : decode (mB μ) pc = .ok (.iastore, 1)) (hm : M a = some (.inr (0, n, .inl f))) (hin : vp_in i n) (kk : fR l κ μ (pc + 1) lv st (fup M a (.inr (0, n, .inl (upd f i.toNatClampNeg x)))) bc bs P) : fR l κ μ pc lv (.int x :: .int i :: .ref a :: st) M bc bs P := by
  intro p e s m args below meth c C H locs cells slots ls hW hS hl hc hs
  obtain ⟨dC, dI, tys, ws, hK, hP, hD, hM9⟩ := id hW
  obtain ⟨k0, t0, cA, hk0, ht0⟩ := hM9 a _ hm
  exact va_iast C.2.1 C.2.2.1 hK hP hD hS k0 t0 hk0 ht0 hin d (fun H1 locs1 hP1 hD1 hS1 => kk p e s m args below meth c C H1 locs1 cells slots ls ⟨dC, dI, tys, _, hK, hP1, hD1, fIn_set hD hM9 hk0 ⟨k0, t0, cA, fset_at hk0, ht0⟩⟩ hS1 hl hc hs)

theorem r_cast {a n : Nat} {f : Nat → Int32} {i : Int32} {x : Int32} (d : decode (mB μ) pc = .ok (.castore, 1)) (hm : M a = some (.inr (1, n, .inl f))) (hin : vp_in i n) (kk : fR l κ μ (pc + 1) lv st (fup M a (.inr (1, n, .inl (upd f i.toNatClampNeg (vp_nar .char x))))) bc bs P) : fR l κ μ pc lv (.int x :: .int i :: .ref a :: st) M bc bs P := by
  intro p e s m args below meth c C H locs cells slots ls hW hS hl hc hs
  obtain ⟨dC, dI, tys, ws, hK, hP, hD, hM9⟩ := id hW
  obtain ⟨k0, t0, cA, hk0, ht0⟩ := hM9 a _ hm
  exact va_cast C.2.1 C.2.2.1 hK hP hD hS k0 t0 hk0 ht0 hin d (fun H1 locs1 hP1 hD1 hS1 => kk p e s m args below meth c C H1 locs1 cells slots ls ⟨dC, dI, tys, _, hK, hP1, hD1, fIn_set hD hM9 hk0 ⟨k0, t0, cA, fset_at hk0, ht0⟩⟩ hS1 hl hc hs)

theorem r_last {a n : Nat} {f : Nat → Int64} {i : Int32} {x : Int64} (d : decode (mB μ) pc = .ok (.lastore, 1)) (hm : M a = some (.inr (2, n, .inr (.inl f)))) (hin : vp_in i n) (kk : fR l κ μ (pc + 1) lv st (fup M a (.inr (2, n, .inr (.inl (vp_updL f i.toNatClampNeg x))))) bc bs P) : fR l κ μ pc lv (.long x :: .int i :: .ref a :: st) M bc bs P := by
  intro p e s m args below meth c C H locs cells slots ls hW hS hl hc hs
  obtain ⟨dC, dI, tys, ws, hK, hP, hD, hM9⟩ := id hW
  obtain ⟨k0, t0, cA, hk0, ht0⟩ := hM9 a _ hm
  exact va_last C.2.1 C.2.2.1 hK hP hD hS k0 t0 hk0 ht0 hin d (fun H1 locs1 hP1 hD1 hS1 => kk p e s m args below meth c C H1 locs1 cells slots ls ⟨dC, dI, tys, _, hK, hP1, hD1, fIn_set hD hM9 hk0 ⟨k0, t0, cA, fset_at hk0, ht0⟩⟩ hS1 hl hc hs)

theorem r_astq {a n t v ci : Nat} {vs : List Value} {q : vw_C} {f : Nat → Option Nat} {i : Int32} (d : decode (mB μ) pc = .ok (.aastore, 1)) (hm : M a = some (.inr (t, n, .inr (.inr (.inr (.inr f)))))) (hv : M v = some (.inl (ci, vs))) (hq : vwCl[ci]? = some q) (ht : fTy t = .object q.1) (hin : vp_in i n) (kk : fR l κ μ (pc + 1) lv st (fup M a (.inr (t, n, .inr (.inr (.inr (.inr (va_up f i.toNatClampNeg (some v)))))))) bc bs P) : fR l κ μ pc lv (.ref v :: .int i :: .ref a :: st) M bc bs P := by
  intro p e s m args below meth c C H locs cells slots ls hW hS hl hc hs
  obtain ⟨dC, dI, tys, ws, hK, hP, hD, hM9⟩ := id hW
  obtain ⟨k0, t0, cA, hk0, ht0⟩ := hM9 a _ hm
  obtain ⟨k1, hk1⟩ := hM9 v _ hv
  exact va_astq C.2.1 C.2.2.1 hK hP hD hS k0 t0 k1 ci hk0 (ht0.trans (by rw [ht])) hk1 hq hin d (fun H1 locs1 hP1 hD1 hS1 => kk p e s m args below meth c C H1 locs1 cells slots ls ⟨dC, dI, tys, _, hK, hP1, hD1, fIn_set hD hM9 hk0 ⟨k0, t0, cA, fset_at hk0, ht0⟩⟩ hS1 hl hc hs)

theorem r_alen {a : Nat} {t : Nat} {x : vp_A} {v : Int32} (d : decode (mB μ) pc = .ok (.arraylength, 1)) (hm : M a = some (.inr (t, x))) (hv : Int32.ofNat x.1 = v) (kk : fR l κ μ (pc + 1) lv (.int v :: st) M bc bs P) : fR l κ μ pc lv (.ref a :: st) M bc bs P := by
  intro p e s m args below meth c C H locs cells slots ls hW hS hl hc hs
  obtain ⟨dC, dI, tys, ws, hK, hP, hD, hM9⟩ := id hW
  obtain ⟨k0, t0, cA, hk0, ht0⟩ := hM9 a _ hm
  exact va_alen C.2.1 C.2.2.1 hK hP k0 t0 hk0 ht0 hv d (kk p e s m args below meth c C H locs cells slots ls hW hS hl hc hs)

theorem r_sld {i : Int32} (d : decode (mB μ) pc = .ok (.iaload, 1)) (hin : vp_in i (kL κ)) (kk : fR l κ μ (pc + 1) lv (.int (kX κ i.toNatClampNeg) :: st) M bc bs P) : fR l κ μ pc lv (.int i :: .ref (kB κ) :: st) M bc bs P := by
  intro p e s m args below meth c C H locs cells slots ls hW hS hl hc hs
  have hZ := C.2.2.2.2.2.2.2.2.2.2.1.1
  exact va_sld C.2.1 C.2.2.1 hZ.1 (by obtain ⟨scr, h1, -⟩ := hZ.1; exact (Array.getElem?_eq_some_iff.mp h1).1) (Nat.not_le.mpr hZ.2) hS hin d (kk p e s m args below meth c C H locs cells slots ls hW hS hl hc hs)
theorem r_slen (d : decode (mB μ) pc = .ok (.arraylength, 1)) (kk : fR l κ μ (pc + 1) lv (.int (Int32.ofNat (kL κ)) :: st) M bc bs P) : fR l κ μ pc lv (.ref (kB κ) :: st) M bc bs P := by
  intro p e s m args below meth c C H locs cells slots ls hW hS hl hc hs
  have hZ := C.2.2.2.2.2.2.2.2.2.2.1.1
  exact va_slen C.2.1 C.2.2.1 hZ.1 (by obtain ⟨scr, h1, -⟩ := hZ.1; exact (Array.getElem?_eq_some_iff.mp h1).1) (Nat.not_le.mpr hZ.2) hS d (kk p e s m args below meth c C H locs cells slots ls hW hS hl hc hs)

theorem r_new {idx ci : Nat} {fs : List Value} {C0 : String} {T0 : u_T} {N0 bc' bs' : Nat} (d : decode (mB μ) pc = .ok (.new idx, 3)) (hq : vwCl[ci]? = some (C0, T0, N0)) (hlink : Cond.classLink (mY μ).cls idx C0 ∈ lw_tbl) (hins : Cond.instantiable C0 N0 ∈ lw_tbl) (hini : Cond.initialized C0 ∈ lw_tbl) (hfs : ∀ j, j < N0 → defaultValue (fTyOf ci j) = vp_V fs j) (hbc : bc = bc' + 1) (hbs : bs = bs' + N0) (kk : ∀ q : Nat, M q = none → fR l κ μ (pc + 3) lv (.ref q :: st) (fup M q (.inl (ci, fs))) bc' bs' P) : fR l κ μ pc lv st M bc bs P := by
  intro p e s m args below meth c C H locs cells slots ls hW hS hl hc hs
  obtain ⟨dC, dI, tys, ws, hK, hP, hD, hM9⟩ := id hW
  have hA : ∀ q, s.heap.size ≤ q → fA (kO κ) q := fun q h => Nat.le_trans C.2.2.2.2.2.2.2.2.2.2.2.2 h
  refine va_new C.2.1 C.2.2.1 C.2.2.2.2.2.2.1 (fWs_ok hq) (fTyOf ci) (fTy_ok hq) C.2.2.2.2.2.1 (C.2.2.2.2.2.2.1 _ (lwG_of hlink rfl)) (C.2.2.2.2.2.2.1 _ (lwG_of hins rfl)) (C.2.2.2.2.2.2.1 _ (lwG_of hini rfl)) hK hP hD hS hA hq hfs (by omega) (show slots + N0 ≤ (mR μ).slots by omega) d (fun q H1 hP1 hD1 hS1 => kk q (fIn_fresh hD1 hM9) p e s m args below meth c C H1 locs (cells + 1) (slots + N0) ls ⟨dC, dI, tys ++ [], _, by rw [List.append_nil]; exact hK, hP1, hD1, fIn_push hM9 ⟨ws.length, by simp⟩⟩ hS1 hl (by omega) (by omega))

theorem r_newa {atype : ArrayType} {t : Nat} {n : Int32} {N bc' bs' : Nat} {a0 : vp_A} (d : decode (mB μ) pc = .ok (.newarray atype, 2)) (harr : Cond.arrayClass (newarray.typeOf atype) ∈ lw_tbl) (hty : newarray.typeOf atype = fTy t) (ha : ∀ cA : ClassId, vp_cell cA a0 = arrV cA N (fun _ => defaultValue (fTy t))) (hn : ¬ n < 0) (hN : n.toNatClampNeg = N) (hby : N * componentBytes (fTy t) ≤ 536870912) (hbc : bc = bc' + 1) (hbs : bs = bs' + N) (kk : ∀ q : Nat, M q = none → fR l κ μ (pc + 2) lv (.ref q :: st) (fup M q (.inr (t, a0))) bc' bs' P) : fR l κ μ pc lv (.int n :: st) M bc bs P := by
  intro p e s m args below meth c C H locs cells slots ls hW hS hl hc hs
  obtain ⟨dC, dI, tys, ws, hK, hP, hD, hM9⟩ := id hW
  have hA : ∀ q, s.heap.size ≤ q → fA (kO κ) q := fun q h => Nat.le_trans C.2.2.2.2.2.2.2.2.2.2.2.2 h
  refine va_newa (atype := atype) C.2.1 C.2.2.1 (C.2.2.2.2.2.2.1 _ (lwG_of harr rfl)) hty hK hP hD hS hA ha hn hN hby (by omega) (by omega) d (fun q cA H1 hK1 hP1 hD1 hS1 => kk q (fIn_fresh hD1 hM9) p e s m args below meth c C H1 locs (cells + 1) (slots + N) ls ⟨dC, dI, _, _, hK1, hP1, hD1, fIn_push hM9 ⟨ws.length, tys.length, cA, by simp, by simp⟩⟩ hS1 hl (by omega) (by omega))

theorem r_newq {idx t : Nat} {C0 : String} {n : Int32} {N bc' bs' : Nat} (d : decode (mB μ) pc = .ok (.anewarray idx, 3)) (hlink : Cond.classLink (mY μ).cls idx C0 ∈ lw_tbl) (hov : C0 ∈ ["BitumenNeedle$Drum", "BitumenNeedle$Specimen", "BitumenNeedle$Needle", "BitumenNeedle$Lab"]) (hty : FieldType.object C0 = fTy t) (hn : ¬ n < 0) (hN : n.toNatClampNeg = N) (hby : N * 4 ≤ 536870912) (hbc : bc = bc' + 1) (hbs : bs = bs' + N) (kk : ∀ q : Nat, M q = none → fR l κ μ (pc + 3) lv (.ref q :: st) (fup M q (.inr (t, N, .inr (.inr (.inr (.inr (fun _ => none))))))) bc' bs' P) : fR l κ μ pc lv (.int n :: st) M bc bs P := by
  intro p e s m args below meth c C H locs cells slots ls hW hS hl hc hs
  obtain ⟨dC, dI, tys, ws, hK, hP, hD, hM9⟩ := id hW
  have hA : ∀ q, s.heap.size ≤ q → fA (kO κ) q := fun q h => Nat.le_trans C.2.2.2.2.2.2.2.2.2.2.2.2 h
  refine va_newq C.2.1 C.2.2.1 C.2.2.2.2.2.1 (C.2.2.2.2.2.2.1 _ (lwG_of hlink rfl)) (C.2.2.2.2.2.2.2.2.2.2.2.1.2.1 C0 hov) hK hP hD hS hA hn hN hby (by omega) (by omega) d (fun q cA H1 hK1 hP1 hD1 hS1 => kk q (fIn_fresh hD1 hM9) p e s m args below meth c C H1 locs (cells + 1) (slots + N) ls ⟨dC, dI, _, _, hK1, hP1, hD1, fIn_push hM9 ⟨ws.length, tys.length, cA, by simp, by simp [hty]⟩⟩ hS1 hl (by omega) (by omega))

end FRR
end
section
section FR2
variable {l : Launch} {κ : KP} {μ μ' : MD} {pc : Nat} {lv lv' : List (Nat × Value)} {st rest : List Value} {M : Mem} {bc bs : Nat} {P P' : FPost}
/-- behind a call of a method that doesn't throw -/
theorem fR_run0 {p : Program} {e : Env} {s : State} {m : MethodId} {args : Array Value} {below : List Frame} {meth : Method} {c : Code} {H : Heap} {locs : List Loc} {cells slots : Nat} {ls : Array Slot} {a : Array Value} {st0 : List Value}
    (C : fC l κ μ p e s m args meth c) (hS : va_S (fA (kO κ)) s.heap H locs) (hl : lv_has ls (mL μ) lv) (hc : cells + bc ≤ (mR μ).cells) (hs : slots + bs ≤ (mR μ).slots) (hb : (mR μ').cells ≤ bc ∧ (mR μ').slots ≤ bs)
    (hr : va_Run p l e (mR μ) s m args below meth c H locs cells slots (mR μ').cells (mR μ').slots (F0 m pc ls st0) rest (fQ κ P' a) (fA (kO κ)))
    (kr : ∀ v M', P' (.inl v) M' → fR l κ μ (pc + 3) lv (v.toList ++ rest) M' (bc - (mR μ').cells) (bs - (mR μ').slots) P) :
    W p l e (mR μ) s m args below meth c H locs cells slots (vx_MQ below (fQ κ P) (fX κ P) args s (mR μ).cells (mR μ).slots (fA (kO κ))) (F0 m pc ls st0) := by
  intro T hT X
  have hA : ∀ q, q < H.size → fA (kO κ) q → fA (kO κ) q := fun _ _ h => h
  have hf : ∀ q, fA (kO κ) q → fA (kO κ) q := fun _ h => h
  obtain ⟨v, st₀, t, T', L, h0, X', hL, e1, e2, ⟨⟨v', M', hv, hp, hw⟩, hF⟩, stp⟩ := hr T hT X
  cases hv
  obtain ⟨k1, k2, k3⟩ := vx_keep h0 e1 hS hA hf hL hF
  have hal : s.vm.Alike t.vm := by rw [← e2]; exact X'.warmed.alike
  obtain ⟨t2, a1, b1⟩ := kr v M' hp p e s m args below meth c C T'.heap (locs ++ L) (cells + (mR μ').cells) (slots + (mR μ').slots) ls (by rw [e1]; exact hw.moved hal.symm) k3 hl (by omega) (by omega) T' rfl X'
  exact ⟨t2, stp t2 a1, b1⟩
theorem fPre {s : State} {p : Program} {e : Env} {m : MethodId} {args : Array Value} {meth : Method} {c : Code} {H : Heap} {locs : List Loc} (C : fC l κ μ p e s m args meth c) (hW : fW (kO κ) s M H) (hS : va_S (fA (kO κ)) s.heap H locs) (av : List Value) : PreS s H (fP κ av M) av :=
  ⟨fP_blind, fun U hU hw => ⟨rfl, by rw [hU]; exact hW.moved hw.alike, by rw [hU]; exact (C.2.2.2.2.2.2.2.2.2.2.1.at hS).moved hw.alike, fN.warm hw C.2.2.2.2.2.2.2.2.2.2.2.1, by rw [hU]; exact Nat.le_trans C.2.2.2.2.2.2.2.2.2.2.2.2 hS.1⟩⟩
theorem fcallN {n idx : Nat} {host : String} {s : State} {args : Array Value} (hts : ∀ w ∈ lwG, w.before args s = true) (hN : fN κ s) (hok : fOK μ' n) (hlink : Cond.methodLinkNest (mY μ).cls idx (mY μ') host ∈ lw_tbl) (hR : fRoom μ μ' bc bs) :
    va_CN (mR μ) s args (mY μ).cls idx (mY μ') host (mB μ') (mL μ') (mT μ') (fCode μ' :: lwG) (mR μ') (mR μ').cells (mR μ').slots n := by
  obtain ⟨h0, h1, h2, h3, h4⟩ := hok
  have hc : fCode μ' = Cond.code (mY μ') (mB μ') (mL μ') (mT μ') := by unfold fCode; rw [h0]
  rw [hc] at h1 ⊢
  refine va_cnB n hts ?_ rfl rfl rfl (hN.1 _ hlink rfl) (hts _ (lwG_of h2 rfl)) ⟨h3.1, h3.2, h4⟩ ⟨hR.1, hR.2.1⟩
  intro w hw
  rcases List.mem_cons.mp hw with rfl | hw
  · exact ⟨lwG_of h1 rfl, good_of_word rfl⟩
  · exact ⟨hw, good_of_word (List.mem_filter.mp hw).2⟩
/-- a constructor of an own class -/
theorem fR_callI {idx n b : Nat} {As : List Value} (d : decode (mB μ) pc = .ok (.invokespecial idx, 3)) (hM : fM l κ μ' (.ref b :: As) M P') (hst : st = As.reverse ++ .ref b :: rest)
    (hok : fOK μ' n) (hn : As.length = n) (hret : mT μ' = none) (hnm : (mY μ').name = "<init>") (hlink : Cond.methodLink (mY μ).cls idx (mY μ') ∈ lw_tbl) (hin : Cond.instanceMethod (mY μ') ∈ lw_tbl)
    (hR : fRoom μ μ' bc bs) (hcat : (rest.map fun v => v.category).sum ≤ 8) (hno : ∀ E M', ¬ P' (.inr E) M')
    (kr : ∀ v M', P' (.inl v) M' → fR l κ μ (pc + 3) lv (v.toList ++ rest) M' (bc - (mR μ').cells) (bs - (mR μ').slots) P) : fR l κ μ pc lv st M bc bs P := by
  subst hst
  intro p e s m args below meth c C H locs cells slots ls hW hS hl hc hs
  have hts := C.2.2.2.2.2.2.1
  have hcb := fcallB hts hok hlink hR
  rw [hret] at hcb
  refine fR_run0 C hS hl hc hs hR.2.2 (va_runI (As := As) (rest := rest) (n := n) (own := (mY μ).cls) (index := idx) ⟨C.2.1, C.2.2.1, C.2.2.2.2.1, C.2.2.2.2.2.1, hts⟩ (fM_met hM C.1 hno) ⟨hcb, hnm, hts _ (lwG_of hin rfl)⟩ (fPre C hW hS _) rfl hn hl.1 rfl (lv_room hcat) d ⟨?_, ?_⟩) kr
  · have := hR.2.2.1; omega
  · have := hR.2.2.2; omega
/-- a private constructor of a nest mate -/
theorem fR_callIN {idx n b : Nat} {host : String} {As : List Value} (d : decode (mB μ) pc = .ok (.invokespecial idx, 3)) (hM : fM l κ μ' (.ref b :: As) M P') (hst : st = As.reverse ++ .ref b :: rest)
    (hok : fOK μ' n) (hn : As.length = n) (hret : mT μ' = none) (hnm : (mY μ').name = "<init>") (hlink : Cond.methodLinkNest (mY μ).cls idx (mY μ') host ∈ lw_tbl) (hin : Cond.instanceMethod (mY μ') ∈ lw_tbl)
    (hR : fRoom μ μ' bc bs) (hcat : (rest.map fun v => v.category).sum ≤ 8) (hno : ∀ E M', ¬ P' (.inr E) M')
    (kr : ∀ v M', P' (.inl v) M' → fR l κ μ (pc + 3) lv (v.toList ++ rest) M' (bc - (mR μ').cells) (bs - (mR μ').slots) P) : fR l κ μ pc lv st M bc bs P := by
  subst hst
  intro p e s m args below meth c C H locs cells slots ls hW hS hl hc hs
  have hts := C.2.2.2.2.2.2.1
  have hcb := fcallN (κ := κ) hts C.2.2.2.2.2.2.2.2.2.2.2.1 hok hlink hR
  rw [hret] at hcb
  refine fR_run0 C hS hl hc hs hR.2.2 (va_runIN (As := As) (rest := rest) (n := n) (own := (mY μ).cls) (index := idx) ⟨C.2.1, C.2.2.1, C.2.2.2.2.1, C.2.2.2.2.2.1, hts⟩ (fM_met hM C.1 hno) ⟨hcb, hnm, hts _ (lwG_of hin rfl)⟩ (fPre C hW hS _) rfl hn hl.1 rfl (lv_room hcat) d ⟨?_, ?_⟩) kr
  · have := hR.2.2.1; omega
  · have := hR.2.2.2; omega
/-- a private static method of a nest mate -/
theorem fR_callSN {idx n : Nat} {host : String} {As : List Value} (d : decode (mB μ) pc = .ok (.invokestatic idx, 3)) (hM : fM l κ μ' As M P') (hst : st = As.reverse ++ rest)
    (hok : fOK μ' n) (hn : As.length = n) (hlink : Cond.methodLinkNest (mY μ).cls idx (mY μ') host ∈ lw_tbl) (hin : Cond.static (mY μ') ∈ lw_tbl)
    (hR : fRoom μ μ' bc bs) (hcat : (rest.map fun v => v.category).sum ≤ 8) (hno : ∀ E M', ¬ P' (.inr E) M')
    (kr : ∀ v M', P' (.inl v) M' → fR l κ μ (pc + 3) lv (v.toList ++ rest) M' (bc - (mR μ').cells) (bs - (mR μ').slots) P) : fR l κ μ pc lv st M bc bs P := by
  subst hst
  intro p e s m args below meth c C H locs cells slots ls hW hS hl hc hs
  have hts := C.2.2.2.2.2.2.1
  refine fR_run0 C hS hl hc hs hR.2.2 (va_runSN (As := As) (rest := rest) (n := n) (own := (mY μ).cls) (index := idx) ⟨C.2.1, C.2.2.1, C.2.2.2.2.1, C.2.2.2.2.2.1, hts⟩ (fM_met hM C.1 hno) ⟨fcallN (κ := κ) hts C.2.2.2.2.2.2.2.2.2.2.2.1 hok hlink hR, hts _ (lwG_of hin rfl), trivial⟩ (fPre C hW hS _) rfl hn hl.1 rfl (lv_room hcat) d ⟨?_, ?_⟩) kr
  · have := hR.2.2.1; omega
  · have := hR.2.2.2; omega
/-- Object.<init> -/
theorem r_objInit {idx a : Nat} (d : decode (mB μ) pc = .ok (.invokespecial idx, 3)) (hlink : Cond.methodLink (mY μ).cls idx Lib.objectInit ∈ lw_tbl) (hin : Cond.instanceMethod Lib.objectInit ∈ lw_tbl) (hcode : Cond.code Lib.objectInit ⟨#[0xb1]⟩ 1 none ∈ lw_tbl) (hfr : 1 ≤ (mR μ).frames) (hlo : (st.map fun v => v.category).sum + 12 ≤ (mR μ).locals)
    (kk : fR l κ μ (pc + 3) lv st M bc bs P) : fR l κ μ pc lv (.ref a :: st) M bc bs P := by
  intro p e s m args below meth c C H locs cells slots ls hW hS hl hc hs
  have hts := C.2.2.2.2.2.2.1
  refine W.objInit C.2.1 C.2.2.1 C.2.2.2.2.2.1 (hts _ (lwG_of hlink rfl)) (hts _ (lwG_of hin rfl)) (hts _ (lwG_of hcode rfl)) rfl (by rw [C.2.2.2.2.1]; exact hl.1) rfl d hfr (by show 2 * 0 + _ + 12 ≤ _; omega) ?_
  exact kk p e s m args below meth c C H locs cells slots ls hW hS hl hc hs
theorem r_mmax {idx : Nat} {x y : Int32} (d : decode (mB μ) pc = .ok (.invokestatic idx, 3)) (hlink : Cond.methodLink (mY μ).cls idx Lib.Math.max.name ∈ lw_tbl) (hst : Cond.static Lib.Math.max.name ∈ lw_tbl) (hini : Cond.initialized "java/lang/Math" ∈ lw_tbl) (hcode : Cond.code Lib.Math.max.name Lib.Math.max.code 2 (some .int) ∈ lw_tbl) (hfr : 1 ≤ (mR μ).frames) (hlo : (st.map fun v => v.category).sum + 13 ≤ (mR μ).locals)
    (kk : fR l κ μ (pc + 3) lv (.int (if x < y then y else x) :: st) M bc bs P) : fR l κ μ pc lv (.int y :: .int x :: st) M bc bs P := by
  intro p e s m args below meth c C H locs cells slots ls hW hS hl hc hs
  have hts := C.2.2.2.2.2.2.1
  exact va_mmax C.2.1 C.2.2.1 (C.2.2.2.2.1.trans hl.1.symm) C.2.2.2.2.2.1 (hts _ (lwG_of hlink rfl)) (hts _ (lwG_of hst rfl)) (hts _ (lwG_of hini rfl)) (hts _ (lwG_of hcode rfl)) hfr hlo (by omega) (by omega) d (kk p e s m args below meth c C H locs cells slots ls hW hS hl hc hs)
theorem r_mmin {idx : Nat} {x y : Int32} (d : decode (mB μ) pc = .ok (.invokestatic idx, 3)) (hlink : Cond.methodLink (mY μ).cls idx Lib.Math.min.name ∈ lw_tbl) (hst : Cond.static Lib.Math.min.name ∈ lw_tbl) (hini : Cond.initialized "java/lang/Math" ∈ lw_tbl) (hcode : Cond.code Lib.Math.min.name Lib.Math.min.code 2 (some .int) ∈ lw_tbl) (hfr : 1 ≤ (mR μ).frames) (hlo : (st.map fun v => v.category).sum + 13 ≤ (mR μ).locals)
    (kk : fR l κ μ (pc + 3) lv (.int (if y < x then y else x) :: st) M bc bs P) : fR l κ μ pc lv (.int y :: .int x :: st) M bc bs P := by
  intro p e s m args below meth c C H locs cells slots ls hW hS hl hc hs
  have hts := C.2.2.2.2.2.2.1
  exact va_mmin C.2.1 C.2.2.1 (C.2.2.2.2.1.trans hl.1.symm) C.2.2.2.2.2.1 (hts _ (lwG_of hlink rfl)) (hts _ (lwG_of hst rfl)) (hts _ (lwG_of hini rfl)) (hts _ (lwG_of hcode rfl)) hfr hlo (by omega) (by omega) d (kk p e s m args below meth c C H locs cells slots ls hW hS hl hc hs)
theorem r_mabs {idx : Nat} {x : Int32} (d : decode (mB μ) pc = .ok (.invokestatic idx, 3)) (hlink : Cond.methodLink (mY μ).cls idx Lib.Math.abs.name ∈ lw_tbl) (hst : Cond.static Lib.Math.abs.name ∈ lw_tbl) (hini : Cond.initialized "java/lang/Math" ∈ lw_tbl) (hcode : Cond.code Lib.Math.abs.name Lib.Math.abs.code 1 (some .int) ∈ lw_tbl) (hfr : 1 ≤ (mR μ).frames) (hlo : (st.map fun v => v.category).sum + 13 ≤ (mR μ).locals)
    (kk : fR l κ μ (pc + 3) lv (.int (if 0 ≤ x then x else 0 - x) :: st) M bc bs P) : fR l κ μ pc lv (.int x :: st) M bc bs P := by
  intro p e s m args below meth c C H locs cells slots ls hW hS hl hc hs
  have hts := C.2.2.2.2.2.2.1
  exact va_mabs C.2.1 C.2.2.1 (C.2.2.2.2.1.trans hl.1.symm) C.2.2.2.2.2.1 (hts _ (lwG_of hlink rfl)) (hts _ (lwG_of hst rfl)) (hts _ (lwG_of hini rfl)) (hts _ (lwG_of hcode rfl)) hfr hlo (by omega) (by omega) d (kk p e s m args below meth c C H locs cells slots ls hW hS hl hc hs)
/-- System.arraycopy over int arrays -/
theorem r_copyi {idx a0 a n0 n1 : Nat} {f g : Nat → Int32} {sp dp n : Int32} (d : decode (mB μ) pc = .ok (.invokestatic idx, 3)) (hlink : Cond.methodLink (mY μ).cls idx arraycopyName ∈ lw_tbl) (hnat : Cond.native arraycopyName ∈ lw_tbl) (hst : Cond.static arraycopyName ∈ lw_tbl) (hini : Cond.initialized "java/lang/System" ∈ lw_tbl)
    (hm0 : M a0 = some (.inr (0, n0, .inl f))) (hm1 : M a = some (.inr (0, n1, .inl g))) (h1 : ¬ sp < 0) (h2 : ¬ dp < 0) (h3 : ¬ n < 0) (h4 : sp.toNatClampNeg + n.toNatClampNeg ≤ n0) (h5 : dp.toNatClampNeg + n.toNatClampNeg ≤ n1) (hfr : 1 ≤ (mR μ).frames) (hlo : (st.map fun v => v.category).sum + (nativeFrameWords "java/lang/System" "arraycopy" 5 + 11) ≤ (mR μ).locals)
    (kk : fR l κ μ (pc + 3) lv st (fup M a (.inr (0, n1, .inl (va_cpy f g sp.toNatClampNeg dp.toNatClampNeg n.toNatClampNeg)))) bc bs P) : fR l κ μ pc lv (.int n :: .int dp :: .ref a :: .int sp :: .ref a0 :: st) M bc bs P := by
  intro p e s m args below meth c C H locs cells slots ls hW hS hl hc hs
  have hts := C.2.2.2.2.2.2.1
  obtain ⟨dC, dI, tys, ws, hK, hP, hD, hM9⟩ := id hW
  obtain ⟨q0, t0, c0, hk0, ht0⟩ := hM9 a0 _ hm0
  obtain ⟨q1, t1, c1, hk1, ht1⟩ := hM9 a _ hm1
  exact va_copyi C.2.1 C.2.2.1 (C.2.2.2.2.1.trans hl.1.symm) C.2.2.2.2.2.1 (hts _ (lwG_of hlink rfl)) (hts _ (lwG_of hnat rfl)) (hts _ (lwG_of hst rfl)) (hts _ (lwG_of hini rfl)) hK hP hD hS q0 q1 t0 t1 hk0 hk1 ht0 ht1 rfl h1 h2 h3 h4 h5 (fun _ _ => rfl) hfr hlo d (fun H1 locs1 hP1 hD1 hS1 => kk p e s m args below meth c C H1 locs1 cells slots ls ⟨dC, dI, tys, _, hK, hP1, hD1, fIn_set hD hM9 hk1 ⟨q1, t1, c1, fset_at hk1, ht1⟩⟩ hS1 hl hc hs)
/-- the greatest values of the settings -/
theorem r_getsMost {idx : Nat} (d : decode (mB μ) pc = .ok (.getstatic idx, 3)) (hlink : Cond.fieldLink (mY μ).cls idx "BitumenNeedle" "MOST_OF_SETTING" "[I" ∈ lw_tbl) (kk : fR l κ μ (pc + 3) lv (.ref (kT κ 2) :: st) M bc bs P) : fR l κ μ pc lv st M bc bs P := by
  intro p e s m args below meth c C H locs cells slots ls hW hS hl hc hs
  exact va_gets C.2.1 C.2.2.1 C.2.2.2.2.2.2.2.2.2.2.1.2.2.2.1.1 hS C.2.2.2.2.2.1 (C.2.2.2.2.2.2.1 _ (lwG_of hlink rfl)) (fun x h => h) d (kk p e s m args below meth c C H locs cells slots ls hW hS hl hc hs)
theorem r_ldMost {i : Int32} {v : Int32} (d : decode (mB μ) pc = .ok (.iaload, 1)) (hin : vp_in i 3) (hv : [(50 : Int32), 100, 60].getD i.toNatClampNeg 0 = v) (kk : fR l κ μ (pc + 1) lv (.int v :: st) M bc bs P) : fR l κ μ pc lv (.int i :: .ref (kT κ 2) :: st) M bc bs P := by
  intro p e s m args below meth c C H locs cells slots ls hW hS hl hc hs
  exact va_ti C.2.1 C.2.2.1 C.2.2.2.2.2.2.2.2.2.2.1.2.2.2.1.2 hS hin (by rw [hv]) d (kk p e s m args below meth c C H locs cells slots ls hW hS hl hc hs)
/-- new E; dup; ldc text; E.<init>(text); athrow -/
def fThr (own : String) (ik ic : Nat) (cls : String) : Bool :=
  (vx_atS own ic cls ["java/lang/RuntimeException", "java/lang/Exception"]).all (fun w => decide (w ∈ lw_tbl) && (goodWord w || (fKind w && w.onTables))) &&
  (Cond.classLink own ik cls :: Cond.initialized cls :: vx_atS own ic cls ["java/lang/RuntimeException", "java/lang/Exception"]).all vx_ot && decide (Cond.classLink own ik cls ∈ lw_tbl) && decide (Cond.initialized cls ∈ lw_tbl) && Bundle.fit cls && (["java/lang/RuntimeException", "java/lang/Exception"]).all Bundle.fit
theorem r_throw {ik is ic j : Nat} {cls tx : String} (hh : fThr (mY μ).cls ik ic cls = true) (d0 : decode (mB μ) pc = .ok (.new ik, 3)) (d3 : decode (mB μ) (pc + 3) = .ok (.dup, 1)) (d4 : decode (mB μ) (pc + 4) = .ok (.ldc is, 2)) (d6 : decode (mB μ) (pc + 6) = .ok (.invokespecial ic, 3)) (d9 : decode (mB μ) (pc + 9) = .ok (.athrow, 1))
    (hstr : ((mY μ).cls, is, tx, j) ∈ fStr) (hfr : 5 < (mR μ).frames) (hlo : (st.map fun v => v.category).sum + 82 ≤ (mR μ).locals) (hbc : 1 ≤ bc) (hbs : 6 ≤ bs) (hH : mH μ = []) (hp : P (.inr cls) M) : fR l κ μ pc lv st M bc bs P := by
  intro p e s m args below meth c C H locs cells slots ls hW hS hl hc hs
  have hts := C.2.2.2.2.2.2.1
  have hN := C.2.2.2.2.2.2.2.2.2.2.2.1
  have hZ := C.2.2.2.2.2.2.2.2.2.2.1.2.2.2.2.1
  simp only [fThr, Bool.and_eq_true, List.all_eq_true, decide_eq_true_eq, Bool.or_eq_true] at hh
  obtain ⟨⟨⟨⟨⟨h1, h2⟩, h3⟩, h4⟩, h5⟩, h6⟩ := hh
  have htab : ∀ x ∈ c.exceptionTable.toList, covers x (pc + 9) = false := by
    have h9 := C.2.2.2.2.2.2.2.2.2.1
    rw [hH] at h9
    intro x hx
    rw [h9] at hx
    cases hx
  refine vx_throwS (ik := ik) (is := is) (ic := ic) (sa := kK κ j) (cls := cls) (text := tx) (names := ["java/lang/RuntimeException", "java/lang/Exception"]) (A := fA (kO κ)) C.2.1 C.2.2.1 C.1 C.2.2.2.2.2.1 h5 h6 (hts _ (lwG_of h3 rfl)) (hts _ (lwG_of h4 rfl)) (hN.2.2.1 _ hstr) ?_ h2 hZ.1 hZ.2 hS (by rw [C.2.2.2.2.1]; exact hl.1) d0 d3 d4 d6 d9 htab (show 2 + 3 < _ by omega) (show _ + (13 * (2 + 1) + 43) ≤ _ by omega) (by omega) (by omega) C.2.2.2.2.2.2.2.1 ?_ hS.2.2 (by omega) (by omega)
  · intro w hw
    obtain ⟨g1, g2⟩ := h1 w hw
    rcases g2 with g2 | g2
    · exact hts _ (lwG_of g1 g2)
    · exact va_Nw.use g2.2 (hN.1 w g1 g2.1)
  · intro t hal hz hk
    obtain ⟨dC, dI, tys, ws, hK, hP, hD, hM9⟩ := hW
    refine ⟨⟨M, hp, fW.moved hal ⟨dC, dI, tys, ws, hK, hP.kept (fun k q hq => hk q.1 (hP k q hq).lt), hD, hM9⟩⟩, Nat.le_trans hS.1 hz, fun q h1 h2 => ?_⟩
    rw [hk q (Nat.lt_of_lt_of_le h1 hS.1)]
    exact hS.2.1 q h1 h2
end FR2
end
