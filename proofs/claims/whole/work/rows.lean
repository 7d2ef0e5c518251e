section
-- ===== PART A: goes FIRST, ahead of the names: the tables' words, and 'selects' of the private methods out of them =====
/-- a private method of a class that the tables say can be made, by its rows of tables_1 -/
def lw_okq (q : MethodName × Nat) : Prop := (q.1.cls ≠ "java/lang/invoke/MethodHandle" ∧ q.1.cls ≠ "java/lang/invoke/VarHandle") ∧ Cond.instantiable q.1.cls q.2 ∈ tables_1 ∧ Cond.privateMethod q.1 ∈ tables_1 ∧ Cond.instanceMethod q.1 ∈ tables_1
theorem lw_p0 : lw_okq (⟨"BitumenNeedle$Part", "isSlotFull", "()Z"⟩, 5) := ⟨⟨by decide +kernel, by decide +kernel⟩, List.mem_of_getElem? (i := 206) (by decide +kernel), List.mem_of_getElem? (i := 297) (by decide +kernel), List.mem_of_getElem? (i := 298) (by decide +kernel)⟩
theorem lw_p1 : lw_okq (⟨"BitumenNeedle$Part", "slotKind", "()I"⟩, 5) := ⟨⟨by decide +kernel, by decide +kernel⟩, List.mem_of_getElem? (i := 206) (by decide +kernel), List.mem_of_getElem? (i := 301) (by decide +kernel), List.mem_of_getElem? (i := 302) (by decide +kernel)⟩
theorem lw_p2 : lw_okq (⟨"BitumenNeedle$Part", "fillSlot", "(C)Z"⟩, 5) := ⟨⟨by decide +kernel, by decide +kernel⟩, List.mem_of_getElem? (i := 206) (by decide +kernel), List.mem_of_getElem? (i := 361) (by decide +kernel), List.mem_of_getElem? (i := 362) (by decide +kernel)⟩
theorem lw_p3 : lw_okq (⟨"BitumenNeedle$Part", "fillWithSign", "(II)Z"⟩, 5) := ⟨⟨by decide +kernel, by decide +kernel⟩, List.mem_of_getElem? (i := 206) (by decide +kernel), List.mem_of_getElem? (i := 365) (by decide +kernel), List.mem_of_getElem? (i := 366) (by decide +kernel)⟩
theorem lw_p4 : lw_okq (⟨"BitumenNeedle", "mixedWithSample", "(JI)J"⟩, 3) := ⟨⟨by decide +kernel, by decide +kernel⟩, List.mem_of_getElem? (i := 25) (by decide +kernel), List.mem_of_getElem? (i := 509) (by decide +kernel), List.mem_of_getElem? (i := 510) (by decide +kernel)⟩
theorem lw_p5 : lw_okq (⟨"BitumenNeedle", "mixedWithTools", "(J)J"⟩, 3) := ⟨⟨by decide +kernel, by decide +kernel⟩, List.mem_of_getElem? (i := 25) (by decide +kernel), List.mem_of_getElem? (i := 554) (by decide +kernel), List.mem_of_getElem? (i := 555) (by decide +kernel)⟩
theorem lw_p6 : lw_okq (⟨"java/lang/Throwable", "fillInStackTrace", "(I)Ljava/lang/Throwable;"⟩, 6) := ⟨⟨by decide +kernel, by decide +kernel⟩, List.mem_of_getElem? (i := 628) (by decide +kernel), List.mem_of_getElem? (i := 626) (by decide +kernel), List.mem_of_getElem? (i := 627) (by decide +kernel)⟩
theorem lw_p7 : lw_okq (⟨"BitumenNeedle$History", "dropOldest", "()V"⟩, 4) := ⟨⟨by decide +kernel, by decide +kernel⟩, List.mem_of_getElem? (i := 176) (by decide +kernel), List.mem_of_getElem? (i := 696) (by decide +kernel), List.mem_of_getElem? (i := 697) (by decide +kernel)⟩
theorem lw_p8 : lw_okq (⟨"BitumenNeedle", "doPart", "(LBitumenNeedle$Part;)I"⟩, 3) := ⟨⟨by decide +kernel, by decide +kernel⟩, List.mem_of_getElem? (i := 25) (by decide +kernel), List.mem_of_getElem? (i := 901) (by decide +kernel), List.mem_of_getElem? (i := 902) (by decide +kernel)⟩
theorem lw_p9 : lw_okq (⟨"BitumenNeedle", "whyNotDone", "(III)I"⟩, 3) := ⟨⟨by decide +kernel, by decide +kernel⟩, List.mem_of_getElem? (i := 25) (by decide +kernel), List.mem_of_getElem? (i := 905) (by decide +kernel), List.mem_of_getElem? (i := 906) (by decide +kernel)⟩
theorem lw_p10 : lw_okq (⟨"BitumenNeedleModel", "holds", "(I)Z"⟩, 10) := ⟨⟨by decide +kernel, by decide +kernel⟩, List.mem_of_getElem? (i := 1023) (by decide +kernel), List.mem_of_getElem? (i := 1071) (by decide +kernel), List.mem_of_getElem? (i := 1072) (by decide +kernel)⟩
theorem lw_p11 : lw_okq (⟨"BitumenNeedleModel", "save", "()V"⟩, 10) := ⟨⟨by decide +kernel, by decide +kernel⟩, List.mem_of_getElem? (i := 1023) (by decide +kernel), List.mem_of_getElem? (i := 1075) (by decide +kernel), List.mem_of_getElem? (i := 1076) (by decide +kernel)⟩
theorem lw_p12 : lw_okq (⟨"BitumenNeedleModel", "copies", "(II)V"⟩, 10) := ⟨⟨by decide +kernel, by decide +kernel⟩, List.mem_of_getElem? (i := 1023) (by decide +kernel), List.mem_of_getElem? (i := 1079) (by decide +kernel), List.mem_of_getElem? (i := 1080) (by decide +kernel)⟩
theorem lw_p13 : lw_okq (⟨"BitumenNeedleModel", "drumAt", "(II)I"⟩, 10) := ⟨⟨by decide +kernel, by decide +kernel⟩, List.mem_of_getElem? (i := 1023) (by decide +kernel), List.mem_of_getElem? (i := 1087) (by decide +kernel), List.mem_of_getElem? (i := 1088) (by decide +kernel)⟩
theorem lw_p14 : lw_okq (⟨"BitumenNeedleModel", "isDrum", "(I)Z"⟩, 10) := ⟨⟨by decide +kernel, by decide +kernel⟩, List.mem_of_getElem? (i := 1023) (by decide +kernel), List.mem_of_getElem? (i := 1095) (by decide +kernel), List.mem_of_getElem? (i := 1096) (by decide +kernel)⟩
theorem lw_p15 : lw_okq (⟨"BitumenNeedleModel", "takes", "(I)I"⟩, 10) := ⟨⟨by decide +kernel, by decide +kernel⟩, List.mem_of_getElem? (i := 1023) (by decide +kernel), List.mem_of_getElem? (i := 1099) (by decide +kernel), List.mem_of_getElem? (i := 1100) (by decide +kernel)⟩
def lw_privs_1 : List (MethodName × Nat) := [(⟨"BitumenNeedle$Part", "isSlotFull", "()Z"⟩, 5), (⟨"BitumenNeedle$Part", "slotKind", "()I"⟩, 5), (⟨"BitumenNeedle$Part", "fillSlot", "(C)Z"⟩, 5), (⟨"BitumenNeedle$Part", "fillWithSign", "(II)Z"⟩, 5), (⟨"BitumenNeedle", "mixedWithSample", "(JI)J"⟩, 3), (⟨"BitumenNeedle", "mixedWithTools", "(J)J"⟩, 3), (⟨"java/lang/Throwable", "fillInStackTrace", "(I)Ljava/lang/Throwable;"⟩, 6), (⟨"BitumenNeedle$History", "dropOldest", "()V"⟩, 4), (⟨"BitumenNeedle", "doPart", "(LBitumenNeedle$Part;)I"⟩, 3), (⟨"BitumenNeedle", "whyNotDone", "(III)I"⟩, 3), (⟨"BitumenNeedleModel", "holds", "(I)Z"⟩, 10), (⟨"BitumenNeedleModel", "save", "()V"⟩, 10), (⟨"BitumenNeedleModel", "copies", "(II)V"⟩, 10), (⟨"BitumenNeedleModel", "drumAt", "(II)I"⟩, 10), (⟨"BitumenNeedleModel", "isDrum", "(I)Z"⟩, 10), (⟨"BitumenNeedleModel", "takes", "(I)I"⟩, 10)]
theorem lw_r1 : ∀ q ∈ lw_privs_1, lw_okq q := List.forall_mem_cons.mpr ⟨lw_p0, List.forall_mem_cons.mpr ⟨lw_p1, List.forall_mem_cons.mpr ⟨lw_p2, List.forall_mem_cons.mpr ⟨lw_p3, List.forall_mem_cons.mpr ⟨lw_p4, List.forall_mem_cons.mpr ⟨lw_p5, List.forall_mem_cons.mpr ⟨lw_p6, List.forall_mem_cons.mpr ⟨lw_p7, List.forall_mem_cons.mpr ⟨lw_p8, List.forall_mem_cons.mpr ⟨lw_p9, List.forall_mem_cons.mpr ⟨lw_p10, List.forall_mem_cons.mpr ⟨lw_p11, List.forall_mem_cons.mpr ⟨lw_p12, List.forall_mem_cons.mpr ⟨lw_p13, List.forall_mem_cons.mpr ⟨lw_p14, List.forall_mem_cons.mpr ⟨lw_p15, fun _ h => absurd h List.not_mem_nil⟩⟩⟩⟩⟩⟩⟩⟩⟩⟩⟩⟩⟩⟩⟩⟩
theorem lw_p16 : lw_okq (⟨"BitumenNeedleModel", "lay", "(III)V"⟩, 10) := ⟨⟨by decide +kernel, by decide +kernel⟩, List.mem_of_getElem? (i := 1023) (by decide +kernel), List.mem_of_getElem? (i := 1103) (by decide +kernel), List.mem_of_getElem? (i := 1104) (by decide +kernel)⟩
theorem lw_p17 : lw_okq (⟨"BitumenNeedleModel", "hardness", "(I)I"⟩, 10) := ⟨⟨by decide +kernel, by decide +kernel⟩, List.mem_of_getElem? (i := 1023) (by decide +kernel), List.mem_of_getElem? (i := 1107) (by decide +kernel), List.mem_of_getElem? (i := 1108) (by decide +kernel)⟩
theorem lw_p18 : lw_okq (⟨"BitumenNeedleModel", "isSample", "(I)Z"⟩, 10) := ⟨⟨by decide +kernel, by decide +kernel⟩, List.mem_of_getElem? (i := 1023) (by decide +kernel), List.mem_of_getElem? (i := 1115) (by decide +kernel), List.mem_of_getElem? (i := 1116) (by decide +kernel)⟩
theorem lw_p19 : lw_okq (⟨"BitumenNeedleModel", "of", "(II)I"⟩, 10) := ⟨⟨by decide +kernel, by decide +kernel⟩, List.mem_of_getElem? (i := 1023) (by decide +kernel), List.mem_of_getElem? (i := 1119) (by decide +kernel), List.mem_of_getElem? (i := 1120) (by decide +kernel)⟩
theorem lw_p20 : lw_okq (⟨"BitumenNeedleModel", "hasRoom", "(II)Z"⟩, 10) := ⟨⟨by decide +kernel, by decide +kernel⟩, List.mem_of_getElem? (i := 1023) (by decide +kernel), List.mem_of_getElem? (i := 1130) (by decide +kernel), List.mem_of_getElem? (i := 1131) (by decide +kernel)⟩
theorem lw_p21 : lw_okq (⟨"BitumenNeedleModel", "inBath", "(I)I"⟩, 10) := ⟨⟨by decide +kernel, by decide +kernel⟩, List.mem_of_getElem? (i := 1023) (by decide +kernel), List.mem_of_getElem? (i := 1134) (by decide +kernel), List.mem_of_getElem? (i := 1135) (by decide +kernel)⟩
theorem lw_p22 : lw_okq (⟨"BitumenNeedleModel", "changed", "(II)I"⟩, 10) := ⟨⟨by decide +kernel, by decide +kernel⟩, List.mem_of_getElem? (i := 1023) (by decide +kernel), List.mem_of_getElem? (i := 1138) (by decide +kernel), List.mem_of_getElem? (i := 1139) (by decide +kernel)⟩
theorem lw_p23 : lw_okq (⟨"BitumenNeedleModel", "passes", "(I)I"⟩, 10) := ⟨⟨by decide +kernel, by decide +kernel⟩, List.mem_of_getElem? (i := 1023) (by decide +kernel), List.mem_of_getElem? (i := 1150) (by decide +kernel), List.mem_of_getElem? (i := 1151) (by decide +kernel)⟩
theorem lw_p24 : lw_okq (⟨"BitumenNeedleModel", "whyNot", "(II)I"⟩, 10) := ⟨⟨by decide +kernel, by decide +kernel⟩, List.mem_of_getElem? (i := 1023) (by decide +kernel), List.mem_of_getElem? (i := 1164) (by decide +kernel), List.mem_of_getElem? (i := 1165) (by decide +kernel)⟩
theorem lw_p25 : lw_okq (⟨"BitumenNeedleModel", "needleAt", "(II)I"⟩, 10) := ⟨⟨by decide +kernel, by decide +kernel⟩, List.mem_of_getElem? (i := 1023) (by decide +kernel), List.mem_of_getElem? (i := 1168) (by decide +kernel), List.mem_of_getElem? (i := 1169) (by decide +kernel)⟩
theorem lw_p26 : lw_okq (⟨"BitumenNeedleModel", "sinks", "(IIII)I"⟩, 10) := ⟨⟨by decide +kernel, by decide +kernel⟩, List.mem_of_getElem? (i := 1023) (by decide +kernel), List.mem_of_getElem? (i := 1175) (by decide +kernel), List.mem_of_getElem? (i := 1176) (by decide +kernel)⟩
theorem lw_p27 : lw_okq (⟨"BitumenNeedleModel", "depth", "(IIII)I"⟩, 10) := ⟨⟨by decide +kernel, by decide +kernel⟩, List.mem_of_getElem? (i := 1023) (by decide +kernel), List.mem_of_getElem? (i := 1179) (by decide +kernel), List.mem_of_getElem? (i := 1180) (by decide +kernel)⟩
theorem lw_p28 : lw_okq (⟨"BitumenNeedleModel", "rings", "(I)I"⟩, 10) := ⟨⟨by decide +kernel, by decide +kernel⟩, List.mem_of_getElem? (i := 1023) (by decide +kernel), List.mem_of_getElem? (i := 1191) (by decide +kernel), List.mem_of_getElem? (i := 1192) (by decide +kernel)⟩
theorem lw_p29 : lw_okq (⟨"BitumenNeedleModel", "whyNotSold", "(I)I"⟩, 10) := ⟨⟨by decide +kernel, by decide +kernel⟩, List.mem_of_getElem? (i := 1023) (by decide +kernel), List.mem_of_getElem? (i := 1199) (by decide +kernel), List.mem_of_getElem? (i := 1200) (by decide +kernel)⟩
theorem lw_p30 : lw_okq (⟨"BitumenNeedleModel", "penetration", "(I)I"⟩, 10) := ⟨⟨by decide +kernel, by decide +kernel⟩, List.mem_of_getElem? (i := 1023) (by decide +kernel), List.mem_of_getElem? (i := 1203) (by decide +kernel), List.mem_of_getElem? (i := 1204) (by decide +kernel)⟩
theorem lw_p31 : lw_okq (⟨"BitumenNeedleModel", "whyNone", "(I)I"⟩, 10) := ⟨⟨by decide +kernel, by decide +kernel⟩, List.mem_of_getElem? (i := 1023) (by decide +kernel), List.mem_of_getElem? (i := 1207) (by decide +kernel), List.mem_of_getElem? (i := 1208) (by decide +kernel)⟩
def lw_privs_2 : List (MethodName × Nat) := [(⟨"BitumenNeedleModel", "lay", "(III)V"⟩, 10), (⟨"BitumenNeedleModel", "hardness", "(I)I"⟩, 10), (⟨"BitumenNeedleModel", "isSample", "(I)Z"⟩, 10), (⟨"BitumenNeedleModel", "of", "(II)I"⟩, 10), (⟨"BitumenNeedleModel", "hasRoom", "(II)Z"⟩, 10), (⟨"BitumenNeedleModel", "inBath", "(I)I"⟩, 10), (⟨"BitumenNeedleModel", "changed", "(II)I"⟩, 10), (⟨"BitumenNeedleModel", "passes", "(I)I"⟩, 10), (⟨"BitumenNeedleModel", "whyNot", "(II)I"⟩, 10), (⟨"BitumenNeedleModel", "needleAt", "(II)I"⟩, 10), (⟨"BitumenNeedleModel", "sinks", "(IIII)I"⟩, 10), (⟨"BitumenNeedleModel", "depth", "(IIII)I"⟩, 10), (⟨"BitumenNeedleModel", "rings", "(I)I"⟩, 10), (⟨"BitumenNeedleModel", "whyNotSold", "(I)I"⟩, 10), (⟨"BitumenNeedleModel", "penetration", "(I)I"⟩, 10), (⟨"BitumenNeedleModel", "whyNone", "(I)I"⟩, 10)]
theorem lw_r2 : ∀ q ∈ lw_privs_2, lw_okq q := List.forall_mem_cons.mpr ⟨lw_p16, List.forall_mem_cons.mpr ⟨lw_p17, List.forall_mem_cons.mpr ⟨lw_p18, List.forall_mem_cons.mpr ⟨lw_p19, List.forall_mem_cons.mpr ⟨lw_p20, List.forall_mem_cons.mpr ⟨lw_p21, List.forall_mem_cons.mpr ⟨lw_p22, List.forall_mem_cons.mpr ⟨lw_p23, List.forall_mem_cons.mpr ⟨lw_p24, List.forall_mem_cons.mpr ⟨lw_p25, List.forall_mem_cons.mpr ⟨lw_p26, List.forall_mem_cons.mpr ⟨lw_p27, List.forall_mem_cons.mpr ⟨lw_p28, List.forall_mem_cons.mpr ⟨lw_p29, List.forall_mem_cons.mpr ⟨lw_p30, List.forall_mem_cons.mpr ⟨lw_p31, fun _ h => absurd h List.not_mem_nil⟩⟩⟩⟩⟩⟩⟩⟩⟩⟩⟩⟩⟩⟩⟩⟩
theorem lw_p32 : lw_okq (⟨"BitumenNeedleModel", "latest", "(III)I"⟩, 10) := ⟨⟨by decide +kernel, by decide +kernel⟩, List.mem_of_getElem? (i := 1023) (by decide +kernel), List.mem_of_getElem? (i := 1211) (by decide +kernel), List.mem_of_getElem? (i := 1212) (by decide +kernel)⟩
theorem lw_p33 : lw_okq (⟨"BitumenNeedleModel", "needles", "(I)I"⟩, 10) := ⟨⟨by decide +kernel, by decide +kernel⟩, List.mem_of_getElem? (i := 1023) (by decide +kernel), List.mem_of_getElem? (i := 1215) (by decide +kernel), List.mem_of_getElem? (i := 1216) (by decide +kernel)⟩
theorem lw_p34 : lw_okq (⟨"BitumenNeedleModel", "mean", "(IZ)I"⟩, 10) := ⟨⟨by decide +kernel, by decide +kernel⟩, List.mem_of_getElem? (i := 1023) (by decide +kernel), List.mem_of_getElem? (i := 1219) (by decide +kernel), List.mem_of_getElem? (i := 1220) (by decide +kernel)⟩
theorem lw_p35 : lw_okq (⟨"BitumenNeedleModel", "told", "(IZ)I"⟩, 10) := ⟨⟨by decide +kernel, by decide +kernel⟩, List.mem_of_getElem? (i := 1023) (by decide +kernel), List.mem_of_getElem? (i := 1223) (by decide +kernel), List.mem_of_getElem? (i := 1224) (by decide +kernel)⟩
theorem lw_p36 : lw_okq (⟨"BitumenNeedleModel", "index", "(I)I"⟩, 10) := ⟨⟨by decide +kernel, by decide +kernel⟩, List.mem_of_getElem? (i := 1023) (by decide +kernel), List.mem_of_getElem? (i := 1227) (by decide +kernel), List.mem_of_getElem? (i := 1228) (by decide +kernel)⟩
theorem lw_p37 : lw_okq (⟨"BitumenNeedleModel", "sells", "(I)I"⟩, 10) := ⟨⟨by decide +kernel, by decide +kernel⟩, List.mem_of_getElem? (i := 1023) (by decide +kernel), List.mem_of_getElem? (i := 1231) (by decide +kernel), List.mem_of_getElem? (i := 1232) (by decide +kernel)⟩
theorem lw_p38 : lw_okq (⟨"BitumenNeedleModel", "areOrders", "()Z"⟩, 10) := ⟨⟨by decide +kernel, by decide +kernel⟩, List.mem_of_getElem? (i := 1023) (by decide +kernel), List.mem_of_getElem? (i := 1251) (by decide +kernel), List.mem_of_getElem? (i := 1252) (by decide +kernel)⟩
theorem lw_p39 : lw_okq (⟨"BitumenNeedleModel", "readsPart", "()Z"⟩, 10) := ⟨⟨by decide +kernel, by decide +kernel⟩, List.mem_of_getElem? (i := 1023) (by decide +kernel), List.mem_of_getElem? (i := 1255) (by decide +kernel), List.mem_of_getElem? (i := 1256) (by decide +kernel)⟩
theorem lw_p40 : lw_okq (⟨"BitumenNeedleModel", "sign", "()I"⟩, 10) := ⟨⟨by decide +kernel, by decide +kernel⟩, List.mem_of_getElem? (i := 1023) (by decide +kernel), List.mem_of_getElem? (i := 1259) (by decide +kernel), List.mem_of_getElem? (i := 1260) (by decide +kernel)⟩
theorem lw_p41 : lw_okq (⟨"BitumenNeedleModel", "readsDigit", "(II)Z"⟩, 10) := ⟨⟨by decide +kernel, by decide +kernel⟩, List.mem_of_getElem? (i := 1023) (by decide +kernel), List.mem_of_getElem? (i := 1263) (by decide +kernel), List.mem_of_getElem? (i := 1264) (by decide +kernel)⟩
theorem lw_p42 : lw_okq (⟨"BitumenNeedleModel", "takesSign", "(I)Z"⟩, 10) := ⟨⟨by decide +kernel, by decide +kernel⟩, List.mem_of_getElem? (i := 1023) (by decide +kernel), List.mem_of_getElem? (i := 1267) (by decide +kernel), List.mem_of_getElem? (i := 1268) (by decide +kernel)⟩
theorem lw_p43 : lw_okq (⟨"BitumenNeedleModel", "readsNumber", "(III)Z"⟩, 10) := ⟨⟨by decide +kernel, by decide +kernel⟩, List.mem_of_getElem? (i := 1023) (by decide +kernel), List.mem_of_getElem? (i := 1271) (by decide +kernel), List.mem_of_getElem? (i := 1272) (by decide +kernel)⟩
theorem lw_p44 : lw_okq (⟨"BitumenNeedleModel", "stops", "()I"⟩, 10) := ⟨⟨by decide +kernel, by decide +kernel⟩, List.mem_of_getElem? (i := 1023) (by decide +kernel), List.mem_of_getElem? (i := 1282) (by decide +kernel), List.mem_of_getElem? (i := 1283) (by decide +kernel)⟩
theorem lw_p45 : lw_okq (⟨"BitumenNeedleModel", "does", "()V"⟩, 10) := ⟨⟨by decide +kernel, by decide +kernel⟩, List.mem_of_getElem? (i := 1023) (by decide +kernel), List.mem_of_getElem? (i := 1286) (by decide +kernel), List.mem_of_getElem? (i := 1287) (by decide +kernel)⟩
theorem lw_p46 : lw_okq (⟨"BitumenNeedleModel", "ofDrum", "(II)I"⟩, 10) := ⟨⟨by decide +kernel, by decide +kernel⟩, List.mem_of_getElem? (i := 1023) (by decide +kernel), List.mem_of_getElem? (i := 1310) (by decide +kernel), List.mem_of_getElem? (i := 1311) (by decide +kernel)⟩
theorem lw_p47 : lw_okq (⟨"BitumenNeedleModel", "samplesOf", "(I)I"⟩, 10) := ⟨⟨by decide +kernel, by decide +kernel⟩, List.mem_of_getElem? (i := 1023) (by decide +kernel), List.mem_of_getElem? (i := 1314) (by decide +kernel), List.mem_of_getElem? (i := 1315) (by decide +kernel)⟩
def lw_privs_3 : List (MethodName × Nat) := [(⟨"BitumenNeedleModel", "latest", "(III)I"⟩, 10), (⟨"BitumenNeedleModel", "needles", "(I)I"⟩, 10), (⟨"BitumenNeedleModel", "mean", "(IZ)I"⟩, 10), (⟨"BitumenNeedleModel", "told", "(IZ)I"⟩, 10), (⟨"BitumenNeedleModel", "index", "(I)I"⟩, 10), (⟨"BitumenNeedleModel", "sells", "(I)I"⟩, 10), (⟨"BitumenNeedleModel", "areOrders", "()Z"⟩, 10), (⟨"BitumenNeedleModel", "readsPart", "()Z"⟩, 10), (⟨"BitumenNeedleModel", "sign", "()I"⟩, 10), (⟨"BitumenNeedleModel", "readsDigit", "(II)Z"⟩, 10), (⟨"BitumenNeedleModel", "takesSign", "(I)Z"⟩, 10), (⟨"BitumenNeedleModel", "readsNumber", "(III)Z"⟩, 10), (⟨"BitumenNeedleModel", "stops", "()I"⟩, 10), (⟨"BitumenNeedleModel", "does", "()V"⟩, 10), (⟨"BitumenNeedleModel", "ofDrum", "(II)I"⟩, 10), (⟨"BitumenNeedleModel", "samplesOf", "(I)I"⟩, 10)]
theorem lw_r3 : ∀ q ∈ lw_privs_3, lw_okq q := List.forall_mem_cons.mpr ⟨lw_p32, List.forall_mem_cons.mpr ⟨lw_p33, List.forall_mem_cons.mpr ⟨lw_p34, List.forall_mem_cons.mpr ⟨lw_p35, List.forall_mem_cons.mpr ⟨lw_p36, List.forall_mem_cons.mpr ⟨lw_p37, List.forall_mem_cons.mpr ⟨lw_p38, List.forall_mem_cons.mpr ⟨lw_p39, List.forall_mem_cons.mpr ⟨lw_p40, List.forall_mem_cons.mpr ⟨lw_p41, List.forall_mem_cons.mpr ⟨lw_p42, List.forall_mem_cons.mpr ⟨lw_p43, List.forall_mem_cons.mpr ⟨lw_p44, List.forall_mem_cons.mpr ⟨lw_p45, List.forall_mem_cons.mpr ⟨lw_p46, List.forall_mem_cons.mpr ⟨lw_p47, fun _ h => absurd h List.not_mem_nil⟩⟩⟩⟩⟩⟩⟩⟩⟩⟩⟩⟩⟩⟩⟩⟩
theorem lw_p48 : lw_okq (⟨"BitumenNeedleModel", "ofSample", "(II)I"⟩, 10) := ⟨⟨by decide +kernel, by decide +kernel⟩, List.mem_of_getElem? (i := 1023) (by decide +kernel), List.mem_of_getElem? (i := 1322) (by decide +kernel), List.mem_of_getElem? (i := 1323) (by decide +kernel)⟩
theorem lw_p49 : lw_okq (⟨"BitumenNeedleModel", "ofBath", "(II)I"⟩, 10) := ⟨⟨by decide +kernel, by decide +kernel⟩, List.mem_of_getElem? (i := 1023) (by decide +kernel), List.mem_of_getElem? (i := 1338) (by decide +kernel), List.mem_of_getElem? (i := 1339) (by decide +kernel)⟩
theorem lw_p50 : lw_okq (⟨"BitumenNeedleModel", "farthest", "(I)I"⟩, 10) := ⟨⟨by decide +kernel, by decide +kernel⟩, List.mem_of_getElem? (i := 1023) (by decide +kernel), List.mem_of_getElem? (i := 1342) (by decide +kernel), List.mem_of_getElem? (i := 1343) (by decide +kernel)⟩
theorem lw_p51 : lw_okq (⟨"BitumenNeedleModel", "counted", "(I)I"⟩, 10) := ⟨⟨by decide +kernel, by decide +kernel⟩, List.mem_of_getElem? (i := 1023) (by decide +kernel), List.mem_of_getElem? (i := 1350) (by decide +kernel), List.mem_of_getElem? (i := 1351) (by decide +kernel)⟩
theorem lw_p52 : lw_okq (⟨"BitumenNeedleModel", "soldDrums", "()I"⟩, 10) := ⟨⟨by decide +kernel, by decide +kernel⟩, List.mem_of_getElem? (i := 1023) (by decide +kernel), List.mem_of_getElem? (i := 1354) (by decide +kernel), List.mem_of_getElem? (i := 1355) (by decide +kernel)⟩
theorem lw_p53 : lw_okq (⟨"BitumenNeedleModel", "penetrated", "()I"⟩, 10) := ⟨⟨by decide +kernel, by decide +kernel⟩, List.mem_of_getElem? (i := 1023) (by decide +kernel), List.mem_of_getElem? (i := 1358) (by decide +kernel), List.mem_of_getElem? (i := 1359) (by decide +kernel)⟩
theorem lw_p54 : lw_okq (⟨"BitumenNeedleModel", "readyNow", "(I)I"⟩, 10) := ⟨⟨by decide +kernel, by decide +kernel⟩, List.mem_of_getElem? (i := 1023) (by decide +kernel), List.mem_of_getElem? (i := 1382) (by decide +kernel), List.mem_of_getElem? (i := 1383) (by decide +kernel)⟩
theorem lw_p55 : lw_okq (⟨"BitumenNeedleModel", "ready", "(II)I"⟩, 10) := ⟨⟨by decide +kernel, by decide +kernel⟩, List.mem_of_getElem? (i := 1023) (by decide +kernel), List.mem_of_getElem? (i := 1386) (by decide +kernel), List.mem_of_getElem? (i := 1387) (by decide +kernel)⟩
theorem lw_p56 : lw_okq (⟨"BitumenNeedleModel", "best", "(I)I"⟩, 10) := ⟨⟨by decide +kernel, by decide +kernel⟩, List.mem_of_getElem? (i := 1023) (by decide +kernel), List.mem_of_getElem? (i := 1394) (by decide +kernel), List.mem_of_getElem? (i := 1395) (by decide +kernel)⟩
theorem lw_p57 : lw_okq (⟨"BitumenNeedleModel", "share", "()D"⟩, 10) := ⟨⟨by decide +kernel, by decide +kernel⟩, List.mem_of_getElem? (i := 1023) (by decide +kernel), List.mem_of_getElem? (i := 1402) (by decide +kernel), List.mem_of_getElem? (i := 1403) (by decide +kernel)⟩
theorem lw_p58 : lw_okq (⟨"BitumenNeedleModel", "mix", "(J)V"⟩, 10) := ⟨⟨by decide +kernel, by decide +kernel⟩, List.mem_of_getElem? (i := 1023) (by decide +kernel), List.mem_of_getElem? (i := 1411) (by decide +kernel), List.mem_of_getElem? (i := 1412) (by decide +kernel)⟩
theorem lw_p59 : lw_okq (⟨"BitumenNeedleModel", "mixSample", "(I)V"⟩, 10) := ⟨⟨by decide +kernel, by decide +kernel⟩, List.mem_of_getElem? (i := 1023) (by decide +kernel), List.mem_of_getElem? (i := 1416) (by decide +kernel), List.mem_of_getElem? (i := 1417) (by decide +kernel)⟩
def lw_privs_4 : List (MethodName × Nat) := [(⟨"BitumenNeedleModel", "ofSample", "(II)I"⟩, 10), (⟨"BitumenNeedleModel", "ofBath", "(II)I"⟩, 10), (⟨"BitumenNeedleModel", "farthest", "(I)I"⟩, 10), (⟨"BitumenNeedleModel", "counted", "(I)I"⟩, 10), (⟨"BitumenNeedleModel", "soldDrums", "()I"⟩, 10), (⟨"BitumenNeedleModel", "penetrated", "()I"⟩, 10), (⟨"BitumenNeedleModel", "readyNow", "(I)I"⟩, 10), (⟨"BitumenNeedleModel", "ready", "(II)I"⟩, 10), (⟨"BitumenNeedleModel", "best", "(I)I"⟩, 10), (⟨"BitumenNeedleModel", "share", "()D"⟩, 10), (⟨"BitumenNeedleModel", "mix", "(J)V"⟩, 10), (⟨"BitumenNeedleModel", "mixSample", "(I)V"⟩, 10)]
theorem lw_r4 : ∀ q ∈ lw_privs_4, lw_okq q := List.forall_mem_cons.mpr ⟨lw_p48, List.forall_mem_cons.mpr ⟨lw_p49, List.forall_mem_cons.mpr ⟨lw_p50, List.forall_mem_cons.mpr ⟨lw_p51, List.forall_mem_cons.mpr ⟨lw_p52, List.forall_mem_cons.mpr ⟨lw_p53, List.forall_mem_cons.mpr ⟨lw_p54, List.forall_mem_cons.mpr ⟨lw_p55, List.forall_mem_cons.mpr ⟨lw_p56, List.forall_mem_cons.mpr ⟨lw_p57, List.forall_mem_cons.mpr ⟨lw_p58, List.forall_mem_cons.mpr ⟨lw_p59, fun _ h => absurd h List.not_mem_nil⟩⟩⟩⟩⟩⟩⟩⟩⟩⟩⟩⟩
def lw_privs : List (MethodName × Nat) := lw_privs_1 ++ (lw_privs_2 ++ (lw_privs_3 ++ (lw_privs_4)))
def lw_tbl : List Cond := k2_sels lw_privs ++ tables_1
theorem lw_privs_ok : ∀ q ∈ lw_privs, lw_okq q := by
  show ∀ q ∈ lw_privs_1 ++ (lw_privs_2 ++ (lw_privs_3 ++ (lw_privs_4))), lw_okq q
  exact List.forall_mem_append.mpr ⟨lw_r1, List.forall_mem_append.mpr ⟨lw_r2, List.forall_mem_append.mpr ⟨lw_r3, lw_r4⟩⟩⟩
/-- the streams that the claim lets the run draw from -/
abbrev lw_cs : List Choice := [Jvm.Choice.named "NaN.bits"]
theorem lw_bits : nanBits ∈ lw_cs := by first | decide | exact List.mem_cons_self | simp [lw_cs, nanBits]
/-! ===== BEGIN words of one list among another's, by their places ===== -/
theorem goodIn_r {big : List Cond} (ws : List Cond) (ps : List Nat) (hp : ws = ps.filterMap (fun i => big[i]?)) (h : ws.all goodWord = true) : GoodIn big ws := by
  intro w hw
  have h1 := List.all_eq_true.mp h w hw
  rw [hp] at hw
  obtain ⟨i, -, hi⟩ := List.mem_filterMap.mp hw
  have hm : w ∈ big := by first | exact List.mem_of_getElem? hi | exact List.getElem?_mem hi
  exact ⟨hm, good_of_word h1⟩
theorem goodIn_app {big a b : List Cond} (ha : GoodIn big a) (hb : GoodIn big b) : GoodIn big (a ++ b) := fun w h => (List.mem_append.mp h).elim (ha w) (hb w)
theorem goodIn_ca {big a b : List Cond} {c : Cond} (ha : GoodIn big (c :: a)) (hb : GoodIn big b) : GoodIn big (c :: (a ++ b)) := fun w h => (List.mem_cons.mp h).elim (fun e => ha w (List.mem_cons.mpr (Or.inl e))) (fun h => (List.mem_append.mp h).elim (fun h => ha w (List.mem_cons.mpr (Or.inr h))) (hb w))
theorem goodIn_sub {big ws : List Cond} (hm : ∀ w ∈ ws, w ∈ big) (h : ws.all goodWord = true) : GoodIn big ws := fun w hw => ⟨hm w hw, good_of_word (List.all_eq_true.mp h w hw)⟩
/-! ===== END ===== -/

/-! ===== BEGIN exceptions that leave a method, and their catching by the caller (launches without stack traces) ===== -/
section VXA
/-! The laws vx_back, vx_callV, vx_callS, vx_callSW, vx_throw0, vx_throwS follow proofs of the library, with one case more: JvmDerived/Free/Laws.lean (Back.of_free), Shelf42/LK1.lean (callV, callS), Shelf/KitTraced.lean (throwNew0V, throwNewS). -/
/-- where a method has thrown q: the class by its name, the cell, what was written, the world -/
def vx_T (XC : String → State → State → Prop) (st : State) (q : Addr) (t : State) (mc ms : Nat) (free : Addr → Prop) : Prop :=
  ∃ (E : String) (ce : Cell) (L : List Loc), XC E st t ∧ t.heap[q]? = some ce ∧ ce.vm = .none ∧ st.vm.findClass E = some ce.cls ∧ st.WarmedH t.vm ∧ st.sameButNew ({ t with vm := st.vm } : State) L mc ms ∧ ∀ z ∈ L, free z.base
def vx_Q (Qc : Array Value → State → Outcome → State → Prop) (XC : String → State → State → Prop) (mc ms : Nat) (free : Addr → Prop) : Array Value → State → Outcome → State → Prop := fun a st o t =>
  (Qc a st o t ∧ ∃ L, FrameEnd st o t L mc ms ∧ ∀ q ∈ L, free q.base) ∨ ∃ q, o = .threw q ∧ vx_T XC st q t mc ms free
/-- a callee that returns or throws -/
def vx_Met (l : Launch) (y : MethodName) (ws : List Cond) (rm : Room) (Pc : Array Value → State → Prop) (Qc : Array Value → State → Outcome → State → Prop) (XC : String → State → State → Prop) (mc ms : Nat) (free : Addr → Prop) : Prop :=
  MetFree l y (headSpec ws rm) Pc (fun _ _ _ _ _ => True) (vx_Q Qc XC mc ms free)
def vx_Post (XC : String → State → State → Prop) (mc ms : Nat) (free : Addr → Prop) : Pt → Array Value → Addr → Pt → Prop := fun A a q B =>
  ∃ (g : JFrame) (mk : MethodId) (t : State) (L : List Loc) (E : String) (ce : Cell), B.U.heap = t.heap ∧ B.U.vm = t.vm ∧ XC E (A.U.calling g mk a) t ∧ t.heap[q]? = some ce ∧ ce.vm = .none ∧ A.U.vm.findClass E = some ce.cls ∧ B.locs = A.locs ++ L ∧ (∀ z ∈ L, free z.base) ∧ B.cells = A.cells + mc ∧ B.slots = A.slots + ms
def vx_Back (l : Launch) (R : Room) (p : Program) (e : Env) (below : List Frame) (s : State) (sargs : Array Value) (y : MethodName) (len W9 : Nat)
    (Pre : Pt → Array Value → Prop) (Post : Pt → Array Value → Option Value → Pt → Prop) (PostX : Pt → Array Value → Addr → Pt → Prop) : Prop :=
  ∀ (m : MethodId) (meth : Method) (c : Code) (A : Pt) (g : JFrame) (ig : Instr) (mk : MethodId) (a : Array Value),
    Stand p l e R s m sargs below meth c A.U A.locs A.cells A.slots → g.method = m → g.locals.size = c.maxLocals → decode c.code g.pc = .ok (ig, len) →
    2 * g.monitorRoom + (g.stack.map fun v => v.category).sum ≤ W9 → A.U.methodNamed? y = some mk → Pre A a →
    (∃ (v : Option Value) (B : Pt), Stand p l e R s m sargs below meth c B.U B.locs B.cells B.slots ∧ Post A a v B ∧
      Steps p.tables e below (doInvoke e (A.U.setTop g) [] mk a).1 (B.U.setTop { g with pc := g.pc + len, stack := v.toList ++ g.stack })) ∨
    (∃ (q : Addr) (B : Pt), Stand p l e R s m sargs below meth c B.U B.locs B.cells B.slots ∧ PostX A a q B ∧
      Steps p.tables e below (doInvoke e (A.U.setTop g) [] mk a).1 ((B.U.setTop g).pushFrame (.throwing q)))
section Payer
variable {l : Launch} {R : Room} {p : Program} {e : Env} {below : List Frame} {s : State} {sargs : Array Value} {y : MethodName} {len W9 : Nat}
theorem vx_back {ws : List Cond} {rm : Room} {Pc : Array Value → State → Prop} {Qc : Array Value → State → Outcome → State → Prop} {XC : String → State → State → Prop} {mc ms : Nat} {free : Addr → Prop} {bytes : ByteArray} {maxL : Nat} {ret : Option FieldType}
    (hM : vx_Met l y ws rm Pc Qc XC mc ms free) (hblind : FrameBlind Pc) (hrc : rm.cells = mc) (hrs : rm.slots = ms)
    (hframes : rm.frames + 1 ≤ R.frames) (hlocals : W9 + (maxL + 11) + rm.locals ≤ R.locals)
    (hws : ∀ w ∈ ws, ∀ a' U, s.WarmedH U.vm → w.before a' U = true) (hcode : Cond.code y bytes maxL ret ∈ ws) (hinit : ∀ a' U, s.WarmedH U.vm → (Cond.initialized y.cls).before a' U = true) :
    vx_Back l R p e below s sargs y len W9 (PreOf R mc ms Pc) (PostOf Qc mc ms free) (vx_Post XC mc ms free) := by
  intro m meth c A g ig mk a X hg hsize hdg hW hn hp
  have h1 : (headSpec ws rm).pre.before a A.U = true := atoms_intro fun w hw => hws w hw _ _ X.warmed
  have h2 : (Cond.code y bytes maxL ret).before a A.U = true := hws _ hcode _ _ X.warmed
  have h3 : (Cond.initialized y.cls).before a A.U = true := hinit _ _ X.warmed
  have h4 : A.cells + (headSpec ws rm).room.cells ≤ R.cells := by rw [show (headSpec ws rm).room.cells = mc from hrc]; exact hp.1
  have h5 : A.slots + (headSpec ws rm).room.slots ≤ R.slots := by rw [show (headSpec ws rm).room.slots = ms from hrs]; exact hp.2.1
  have hPc : Pc a (A.U.calling g mk a) := hblind _ _ _ _ hp.2.2
  obtain ⟨U, Ls, c0, s0⟩ := A
  dsimp only [Pt.U, Pt.locs, Pt.cells, Pt.slots] at h1 h2 h3 h4 h5 X hn hPc ⊢
  obtain ⟨methY, cY, hmY, hcY, -, hlY, -, -, -, -⟩ := Cond.code_spec hn h2
  obtain ⟨kY, hkY, -⟩ := className_of_methodNamed hn
  have hinitY : kY.init = .initialized := Cond.initialized_spec (findClass_of_methodNamed hn) hkY h3
  have h : At U g.method c below := by rw [hg]; exact X.here
  have hlocals9 : W9 + (maxL + 11) + (headSpec ws rm).room.locals ≤ R.locals := hlocals
  have happ : (headSpec ws rm).appliesLoose y e.platform (U.calling g mk a) = true :=
    Spec.appliesLoose_calling (g := g) h hdg hn hkY hinitY
      (X.room_calling (g := g) (R' := (headSpec ws rm).room) hsize hmY hcY hframes (by rw [hlY]; omega) h4 h5) h1
  obtain ⟨mid, hmid⟩ := h.above
  have hfr : (U.setTop g).frames = (.java g :: mid) ++ below := by rw [State.frames_setTop' g h.top, hmid]; rfl
  obtain ⟨o, s₂, hsteps, -, hend, hq⟩ := Steps.callFree hM p X.admits X.cas X.clock (acts := []) hfr happ hPc trivial
  have hq' : vx_Q Qc XC mc ms free a (U.calling g mk a) o s₂ := hq
  rw [State.frames_setTop' g h.top] at hend
  obtain ⟨g₀, hg0⟩ := Option.isSome_iff_exists.mp h.top
  obtain ⟨r, hr⟩ := State.topJava?_eq_some.mp hg0
  have hr' : (({ U with heap := s₂.heap, slotsUsed := s₂.slotsUsed } : State).setVm s₂.vm).frames = .java g₀ :: r := hr
  rcases hq' with ⟨hqc, L, hfe, hL⟩ | ⟨q, rfl, E, ce, L, hx, hce, hcv, hcl, hW₂, hsm, hL⟩
  · obtain ⟨⟨v, rfl⟩, hW₂, e2, q2, q3, q4, q5, q6⟩ := id hfe
    have e3 : s₂ = ({ (U.calling g mk a).setFrames s₂.frames with heap := s₂.heap, slotsUsed := s₂.slotsUsed } : State).setVm s₂.vm := by
      have : s₂ = ({ s₂ with vm := (U.calling g mk a).vm } : State).setVm s₂.vm := rfl
      rw [e2] at this
      exact this
    obtain ⟨c₂, i₂, len₂, hc₂, hd₂, hf₂⟩ := hend
    have hW' : U.WarmedH s₂.vm := hW₂
    have hcc : c₂ = c := by
      have h1 : s₂.code? g.method = U.code? g.method := by
        rw [State.code?_eq, State.code?_eq, hW'.alike.method?]
      exact Option.some.inj (hc₂.symm.trans (h1.trans h.code))
    subst hcc
    have hlen : len₂ = len := by rw [hdg] at hd₂; cases hd₂; rfl
    subst hlen
    have hs₂ : s₂ = (({ U with heap := s₂.heap, slotsUsed := s₂.slotsUsed } : State).setVm s₂.vm).setTop { g with pc := g.pc + len₂, stack := v.toList ++ g.stack } := by
      refine e3.trans ?_
      rw [hf₂, State.calling_eq h.top, State.setFrames_setFrames, State.setTop_of_frames _ hr', hr]
      rfl
    have hsame : U.sameButNew ({ U with heap := s₂.heap, slotsUsed := s₂.slotsUsed } : State) L mc ms := by
      refine ⟨?_, q2, q3, q4, q5, q6⟩
      obtain ⟨t, ht, -⟩ := State.frames_cons hr
      show ({ U with heap := s₂.heap, slotsUsed := s₂.slotsUsed } : State) = { U.setFrames U.frames with heap := s₂.heap, slotsUsed := s₂.slotsUsed }
      rw [State.setFrames_self ht]
    subst hg
    refine Or.inl ⟨v, ⟨(({ U with heap := s₂.heap, slotsUsed := s₂.slotsUsed } : State).setVm s₂.vm), Ls ++ L, c0 + mc, s0 + ms⟩,
      ⟨X.admits, X.cas, X.clock, X.frames, X.room, X.hears, X.method, X.code, (X.here.setHeapUsed s₂.heap s₂.slotsUsed).setVm hW'.alike, X.tail, State.WarmedH.trans X.warmed hW', X.limits, X.bytes, X.same.trans (hsame.setVm s.vm)⟩,
      ⟨g, mk, s₂, L, rfl, rfl, hqc, rfl, hL, rfl, rfl⟩, ?_⟩
    show Steps p.tables e below _ ((({ U with heap := s₂.heap, slotsUsed := s₂.slotsUsed } : State).setVm s₂.vm).setTop { g with pc := g.pc + len₂, stack := v.toList ++ g.stack })
    rw [← hs₂]
    exact hsteps
  · obtain ⟨e2, q2, q3, q4, q5, q6⟩ := id hsm
    have e3 : s₂ = ({ (U.calling g mk a).setFrames s₂.frames with heap := s₂.heap, slotsUsed := s₂.slotsUsed } : State).setVm s₂.vm := by
      have : s₂ = ({ s₂ with vm := (U.calling g mk a).vm } : State).setVm s₂.vm := rfl
      rw [e2] at this
      exact this
    have hf₂ : s₂.frames = .throwing q :: .java g :: U.frames.tail := hend
    have hW' : U.WarmedH s₂.vm := hW₂
    have hs₂ : s₂ = ((({ U with heap := s₂.heap, slotsUsed := s₂.slotsUsed } : State).setVm s₂.vm).setTop g).pushFrame (.throwing q) := by
      refine e3.trans ?_
      rw [hf₂, State.calling_eq h.top, State.setFrames_setFrames, State.pushFrame, State.frames_setTop _ hr', State.setTop_of_frames _ hr', State.setFrames_setFrames, hr]
      rfl
    have hsame : U.sameButNew ({ U with heap := s₂.heap, slotsUsed := s₂.slotsUsed } : State) L mc ms := by
      refine ⟨?_, q2, q3, q4, q5, q6⟩
      obtain ⟨t, ht, -⟩ := State.frames_cons hr
      show ({ U with heap := s₂.heap, slotsUsed := s₂.slotsUsed } : State) = { U.setFrames U.frames with heap := s₂.heap, slotsUsed := s₂.slotsUsed }
      rw [State.setFrames_self ht]
    subst hg
    refine Or.inr ⟨q, ⟨(({ U with heap := s₂.heap, slotsUsed := s₂.slotsUsed } : State).setVm s₂.vm), Ls ++ L, c0 + mc, s0 + ms⟩,
      ⟨X.admits, X.cas, X.clock, X.frames, X.room, X.hears, X.method, X.code, (X.here.setHeapUsed s₂.heap s₂.slotsUsed).setVm hW'.alike, X.tail, State.WarmedH.trans X.warmed hW', X.limits, X.bytes, X.same.trans (hsame.setVm s.vm)⟩,
      ⟨g, mk, s₂, L, E, ce, rfl, rfl, hx, hce, hcv, hcl, rfl, hL, rfl, rfl⟩, ?_⟩
    show Steps p.tables e below _ (((({ U with heap := s₂.heap, slotsUsed := s₂.slotsUsed } : State).setVm s₂.vm).setTop g).pushFrame (.throwing q))
    rw [← hs₂]
    exact hsteps
end Payer
section Calls
variable {p : Program} {l : Launch} {e : Env} {R : Room} {s : State} {m : MethodId} {args : Array Value} {below : List Frame} {meth : Method} {c : Code} {T : State} {locs : List Loc} {cells slots : Nat}
theorem vx_callV (X : Stand p l e R s m args below meth c T locs cells slots) (hexec : p.tables.exec = Jvm.exec) {own C : String} {index : Nat} {y : MethodName} {bytes : ByteArray} {maxL : Nat} {ret : Option FieldType}
    (hown : s.vm.findClass own = some m.cls) (hlink : (Cond.methodLink own index y).before args s = true) (hinst : (Cond.instanceMethod y).before args s = true) (hsel : (Cond.selects C y y).before args s = true)
    (hcode : (Cond.code y bytes maxL ret).before args s = true) (hy : y.cls ≠ "java/lang/invoke/MethodHandle" ∧ y.cls ≠ "java/lang/invoke/VarHandle")
    {W9 : Nat} {Pre : Pt → Array Value → Prop} {Post : Pt → Array Value → Option Value → Pt → Prop} {PostX : Pt → Array Value → Addr → Pt → Prop} (hK : vx_Back l R p e below s args y 3 W9 Pre Post PostX)
    {b : Addr} {cellB : Cell} (hcell : T.heap[b]? = some cellB) (hobj : cellB.vm.isStatics = false) (hcls : s.vm.findClass C = some cellB.cls)
    {g : JFrame} (hg : g.method = m) (hsize : g.locals.size = c.maxLocals) {argsL rest : List Value} (hlen : ∀ sig, parseMethodDescriptor y.desc = some sig → argsL.length = sig.parameters.length)
    (hstack : g.stack = argsL.reverse ++ .ref b :: rest) (hW : 2 * g.monitorRoom + (rest.map fun v => v.category).sum ≤ W9) (hdg : decode c.code g.pc = .ok (.invokevirtual index, 3))
    (hpre : ∀ vm₁, s.WarmedH vm₁ → Pre ⟨T.setVm vm₁, locs, cells, slots⟩ (Value.ref b :: argsL).toArray) :
    (∃ (v : Option Value) (vm₁ : Vm) (B : Pt), s.WarmedH vm₁ ∧ Stand p l e R s m args below meth c B.U B.locs B.cells B.slots ∧ Post ⟨T.setVm vm₁, locs, cells, slots⟩ (Value.ref b :: argsL).toArray v B ∧
      ∀ target, Steps p.tables e below (B.U.setTop { g with pc := g.pc + 3, stack := v.toList ++ rest }) target → Steps p.tables e below (T.setTop g) target) ∨
    (∃ (q : Addr) (vm₁ : Vm) (B : Pt), s.WarmedH vm₁ ∧ Stand p l e R s m args below meth c B.U B.locs B.cells B.slots ∧ PostX ⟨T.setVm vm₁, locs, cells, slots⟩ (Value.ref b :: argsL).toArray q B ∧
      Steps p.tables e below (T.setTop g) ((B.U.setTop { g with stack := rest }).pushFrame (.throwing q))) := by
  obtain ⟨mk, methM, hnamed, hmethM, hstM, habM⟩ := Cond.instanceMethod_spec hinst
  obtain ⟨methM', cM, hmethM', -, -, -, -, -, -, hsigM⟩ := Cond.code_spec hnamed hcode
  cases hmethM.symm.trans hmethM'
  obtain ⟨c2, r2, m2, q1, q2, q3, q4, kP, hkP, hkPi⟩ := Cond.selects_spec hsel
  cases hcls.symm.trans q1
  cases (State.methodFound?_of_named hnamed hy).symm.trans q2
  cases hnamed.symm.trans q3
  have hselP : selectMethod e.platform s.vm cellB.cls mk = .method mk := by rw [Launch.admits_selectMethod X.admits]; exact q4
  obtain ⟨vm₁, X₁, hstep₁⟩ := X.invokevirtual hexec hown hlink hnamed hmethM hstM hkP hkPi hy (a := b) (cell := cellB) hcell
    (fun z h => by rw [h] at hobj; cases hobj) hselP hmethM habM hkP hkPi (g := g) hg (argsL := argsL) (rest := rest) (hlen _ hsigM) hstack hdg
  rcases hK m meth c ⟨T.setVm vm₁, locs, cells, slots⟩ { g with stack := rest } (.invokevirtual index) mk (Value.ref b :: argsL).toArray X₁ hg hsize hdg hW (X₁.named hnamed) (hpre vm₁ X₁.warmed) with ⟨v, B, X', hpost, hsteps⟩ | ⟨q, B, X', hpost, hsteps⟩
  · exact Or.inl ⟨v, vm₁, B, X₁.warmed, X', hpost, fun target h => hstep₁ _ fun acts => by rw [doInvoke_state]; exact hsteps.trans h⟩
  · exact Or.inr ⟨q, vm₁, B, X₁.warmed, X', hpost, hstep₁ _ fun acts => by rw [doInvoke_state]; exact hsteps⟩
theorem vx_callS (X : Stand p l e R s m args below meth c T locs cells slots) (hexec : p.tables.exec = Jvm.exec) {own : String} {index : Nat} {y : MethodName} {bytes : ByteArray} {maxL : Nat} {ret : Option FieldType}
    (hown : s.vm.findClass own = some m.cls) (hlink : (Cond.methodLink own index y).before args s = true) (hstat : (Cond.static y).before args s = true) (hinit : (Cond.initialized y.cls).before args s = true)
    (hcode : (Cond.code y bytes maxL ret).before args s = true) (hy : y.cls ≠ "java/lang/invoke/MethodHandle" ∧ y.cls ≠ "java/lang/invoke/VarHandle")
    {W9 : Nat} {Pre : Pt → Array Value → Prop} {Post : Pt → Array Value → Option Value → Pt → Prop} {PostX : Pt → Array Value → Addr → Pt → Prop} (hK : vx_Back l R p e below s args y 3 W9 Pre Post PostX)
    {g : JFrame} (hg : g.method = m) (hsize : g.locals.size = c.maxLocals) {argsL rest : List Value} (hlen : ∀ sig, parseMethodDescriptor y.desc = some sig → argsL.length = sig.parameters.length)
    (hstack : g.stack = argsL.reverse ++ rest) (hW : 2 * g.monitorRoom + (rest.map fun v => v.category).sum ≤ W9) (hdg : decode c.code g.pc = .ok (.invokestatic index, 3))
    (hpre : ∀ vm₁, s.WarmedH vm₁ → Pre ⟨T.setVm vm₁, locs, cells, slots⟩ argsL.toArray) :
    (∃ (v : Option Value) (vm₁ : Vm) (B : Pt), s.WarmedH vm₁ ∧ Stand p l e R s m args below meth c B.U B.locs B.cells B.slots ∧ Post ⟨T.setVm vm₁, locs, cells, slots⟩ argsL.toArray v B ∧
      ∀ target, Steps p.tables e below (B.U.setTop { g with pc := g.pc + 3, stack := v.toList ++ rest }) target → Steps p.tables e below (T.setTop g) target) ∨
    (∃ (q : Addr) (vm₁ : Vm) (B : Pt), s.WarmedH vm₁ ∧ Stand p l e R s m args below meth c B.U B.locs B.cells B.slots ∧ PostX ⟨T.setVm vm₁, locs, cells, slots⟩ argsL.toArray q B ∧
      Steps p.tables e below (T.setTop g) ((B.U.setTop { g with stack := rest }).pushFrame (.throwing q))) := by
  obtain ⟨mk, hnamed⟩ := Cond.code_named hcode
  obtain ⟨methM, cM, hmethM, -, -, -, -, -, -, hsigM⟩ := Cond.code_spec hnamed hcode
  have hstatic : methM.isStatic = true := Cond.static_spec hnamed hmethM hstat
  obtain ⟨kP, hkP, -⟩ := className_of_methodNamed hnamed
  have hinitP : kP.init = .initialized := Cond.initialized_spec (findClass_of_methodNamed hnamed) hkP hinit
  obtain ⟨vm₁, X₁, hstep₁⟩ := X.invokestatic hexec hown hlink hnamed hmethM hstatic hkP hinitP hy (g := g) hg (argsL := argsL) (rest := rest) (hlen _ hsigM) hstack hdg
  rcases hK m meth c ⟨T.setVm vm₁, locs, cells, slots⟩ { g with stack := rest } (.invokestatic index) mk argsL.toArray X₁ hg hsize hdg hW (X₁.named hnamed) (hpre vm₁ X₁.warmed) with ⟨v, B, X', hpost, hsteps⟩ | ⟨q, B, X', hpost, hsteps⟩
  · exact Or.inl ⟨v, vm₁, B, X₁.warmed, X', hpost, fun target h => hstep₁ _ fun acts => by rw [doInvoke_state]; exact hsteps.trans h⟩
  · exact Or.inr ⟨q, vm₁, B, X₁.warmed, X', hpost, hstep₁ _ fun acts => by rw [doInvoke_state]; exact hsteps⟩
end Calls
theorem vx_cls {s : State} {T : State} {vm₁ : Vm} {E : String} {k : ClassId} (hW : s.WarmedH vm₁) (h : (T.setVm vm₁).vm.findClass E = some k) : s.vm.findClass E = some k := by
  have h1 : vm₁.findClass E = some k := h
  rw [hW.alike.findClass] at h1
  exact h1
/-- the method's frame g, with q thrown over it -/
def vx_W (p : Program) (l : Launch) (e : Env) (R : Room) (s : State) (m : MethodId) (args : Array Value) (below : List Frame) (meth : Method) (c : Code) (H : Heap) (locs : List Loc) (cells slots : Nat) (Q : State → Prop) (g : JFrame) (q : Addr) : Prop :=
  ∀ T : State, T.heap = H → Stand p l e R s m args below meth c T locs cells slots → ∃ t, Steps p.tables e below ((T.setTop g).pushFrame (.throwing q)) t ∧ Q t
def vx_Run (p : Program) (l : Launch) (e : Env) (R : Room) (s : State) (m : MethodId) (args : Array Value) (below : List Frame) (meth : Method) (c : Code) (H : Heap) (locs : List Loc) (cells slots mc ms : Nat) (g : JFrame) (rest : List Value) (Qa : State → Outcome → State → Prop) (XC : String → State → State → Prop) (free : Addr → Prop) : Prop :=
  ∀ T : State, T.heap = H → Stand p l e R s m args below meth c T locs cells slots →
    (∃ (v : Option Value) (st₀ t T' : State) (L : List Loc), st₀.heap = H ∧ Stand p l e R s m args below meth c T' (locs ++ L) (cells + mc) (slots + ms) ∧ (∀ q ∈ L, free q.base) ∧ T'.heap = t.heap ∧ T'.vm = t.vm ∧ Qa st₀ (.returned v) t ∧
      Goes p e below T g T' { g with pc := g.pc + 3, stack := v.toList ++ rest }) ∨
    (∃ (q : Addr) (st₀ t T' : State) (L : List Loc) (E : String) (ce : Cell), st₀.heap = H ∧ Stand p l e R s m args below meth c T' (locs ++ L) (cells + mc) (slots + ms) ∧ (∀ z ∈ L, free z.base) ∧ T'.heap = t.heap ∧ T'.vm = t.vm ∧ XC E st₀ t ∧ t.heap[q]? = some ce ∧ ce.vm = .none ∧ s.vm.findClass E = some ce.cls ∧
      Steps p.tables e below (T.setTop g) ((T'.setTop { g with stack := rest }).pushFrame (.throwing q)))
def vx_X {S : Type} (px : S → Prop) (B : String → S → State → Prop) (A : Nat → Prop) : String → State → State → Prop := fun E st t => ∃ u : S, px u ∧ B E u t ∧ va_F A st t
section Runs
variable {p : Program} {l : Launch} {e : Env} {R : Room} {s : State} {m : MethodId} {args : Array Value} {below : List Frame} {meth : Method} {c : Code} {H : Heap} {locs : List Loc} {cells slots : Nat}
variable {y : MethodName} {bytes cc : ByteArray} {maxL nL mc ms n index : Nat} {ret : Option FieldType} {ws : List Cond} {rm : Room} {Pc : Array Value → State → Prop} {Qc : Array Value → State → Outcome → State → Prop} {XC : String → State → State → Prop} {free : Addr → Prop} {Ts : List Cond} {own C : String} {b : Addr} {As rest : List Value} {g : JFrame}
theorem vx_callBack (cb : CallB R s args own index y bytes maxL ret ws rm mc ms n) (hM : vx_Met l y ws rm Pc Qc XC mc ms free) (hbl : FrameBlind Pc) : vx_Back l R p e below s args y 3 8 (PreOf R mc ms Pc) (PostOf Qc mc ms free) (vx_Post XC mc ms free) := by
  obtain ⟨hrc, hrs, hfr, hlo, hws, hcw, -, hini, -⟩ := cb
  exact vx_back (bytes := bytes) (maxL := maxL) (ret := ret) hM hbl hrc hrs hfr hlo hws hcw (fun a' U hW => word_at hW (Or.inl (by first | rfl | simp [Cond.onTables, Cond.keeps, Cond.steady])) hini)
theorem vx_runV (S : CallFix p m c cc nL s args Ts own) (hM : vx_Met l y ws rm Pc Qc XC mc ms free) (cw : CallW R s args own C index y bytes maxL ret ws rm mc ms n) (hp : PreV s H C b Pc As)
    (hg : g.method = m) (hn : As.length = n) (hsize : g.locals.size = nL) (hstack : g.stack = As.reverse ++ .ref b :: rest) (hW : 2 * g.monitorRoom + (rest.map fun v => v.category).sum ≤ 8) (hdg : decode cc g.pc = .ok (.invokevirtual index, 3)) (hf : cells + mc ≤ R.cells ∧ slots + ms ≤ R.slots) :
    vx_Run p l e R s m args below meth c H locs cells slots mc ms g rest (Qc (Value.ref b :: As).toArray) XC free := by
  have hK : vx_Back l R p e below s args y 3 8 (PreOf R mc ms Pc) (PostOf Qc mc ms free) (vx_Post XC mc ms free) := vx_callBack cw.1 hM hp.1
  obtain ⟨⟨-, -, -, -, -, -, hcode, -, hy, hlen, hl⟩, hin, hse⟩ := cw
  obtain ⟨hx, hb, hml, ho, -⟩ := S
  obtain ⟨-, ⟨cellB, hcB, hoB, hclB⟩, hPc⟩ := hp
  intro T hT X
  rcases vx_callV X hx (C := C) (bytes := bytes) (maxL := maxL) (ret := ret) ho hl hin hse hcode hy hK (by rw [hT]; exact hcB) hoB hclB hg (hsize.trans hml.symm) (argsL := As) (rest := rest) (fun sig h => hn.trans (hlen sig h)) hstack hW (by rw [hb]; exact hdg)
    (fun vm₁ hW₁ => ⟨hf.1, hf.2, hPc (T.setVm vm₁) hT hW₁⟩) with ⟨v, vm₁, ⟨U', l2, c2, s2⟩, hW₁, X', ⟨g', mk, t, L, e1, e2, hq, h1, hL, h2, h3⟩, st⟩ | ⟨q, vm₁, ⟨U', l2, c2, s2⟩, hW₁, X', ⟨g', mk, t, L, E, ce, e1, e2, hq, hce, hcv, hcl, h1, hL, h2, h3⟩, st⟩
  · dsimp only [Pt.U, Pt.locs, Pt.cells, Pt.slots] at X' e1 e2 h1 h2 h3 st
    subst h1; subst h2; subst h3
    exact Or.inl ⟨v, (T.setVm vm₁).calling g' mk (Value.ref b :: As).toArray, t, U', L, hT, X', hL, e1, e2, hq, st⟩
  · dsimp only [Pt.U, Pt.locs, Pt.cells, Pt.slots] at X' e1 e2 h1 h2 h3 st hcl
    subst h1; subst h2; subst h3
    exact Or.inr ⟨q, (T.setVm vm₁).calling g' mk (Value.ref b :: As).toArray, t, U', L, E, ce, hT, X', hL, e1, e2, hq, hce, hcv, vx_cls hW₁ hcl, st⟩
theorem vx_runS (S : CallFix p m c cc nL s args Ts own) (hM : vx_Met l y ws rm Pc Qc XC mc ms free) (cw : CallB R s args own index y bytes maxL ret ws rm mc ms n ∧ (Cond.static y).before args s = true) (hp : PreS s H Pc As)
    (hg : g.method = m) (hn : As.length = n) (hsize : g.locals.size = nL) (hstack : g.stack = As.reverse ++ rest) (hW : 2 * g.monitorRoom + (rest.map fun v => v.category).sum ≤ 8) (hdg : decode cc g.pc = .ok (.invokestatic index, 3)) (hf : cells + mc ≤ R.cells ∧ slots + ms ≤ R.slots) :
    vx_Run p l e R s m args below meth c H locs cells slots mc ms g rest (Qc As.toArray) XC free := by
  have hK : vx_Back l R p e below s args y 3 8 (PreOf R mc ms Pc) (PostOf Qc mc ms free) (vx_Post XC mc ms free) := vx_callBack cw.1 hM hp.1
  obtain ⟨⟨-, -, -, -, -, -, hcode, hini, hy, hlen, hl⟩, hstt⟩ := cw
  obtain ⟨hx, hb, hml, ho, -⟩ := S
  intro T hT X
  rcases vx_callS X hx (bytes := bytes) (maxL := maxL) (ret := ret) ho hl hstt hini hcode hy hK hg (hsize.trans hml.symm) (argsL := As) (rest := rest) (fun sig h => hn.trans (hlen sig h)) hstack hW (by rw [hb]; exact hdg)
    (fun vm₁ hW₁ => ⟨hf.1, hf.2, hp.2 (T.setVm vm₁) hT hW₁⟩) with ⟨v, vm₁, ⟨U', l2, c2, s2⟩, hW₁, X', ⟨g', mk, t, L, e1, e2, hq, h1, hL, h2, h3⟩, st⟩ | ⟨q, vm₁, ⟨U', l2, c2, s2⟩, hW₁, X', ⟨g', mk, t, L, E, ce, e1, e2, hq, hce, hcv, hcl, h1, hL, h2, h3⟩, st⟩
  · dsimp only [Pt.U, Pt.locs, Pt.cells, Pt.slots] at X' e1 e2 h1 h2 h3 st
    subst h1; subst h2; subst h3
    exact Or.inl ⟨v, (T.setVm vm₁).calling g' mk As.toArray, t, U', L, hT, X', hL, e1, e2, hq, st⟩
  · dsimp only [Pt.U, Pt.locs, Pt.cells, Pt.slots] at X' e1 e2 h1 h2 h3 st hcl
    subst h1; subst h2; subst h3
    exact Or.inr ⟨q, (T.setVm vm₁).calling g' mk As.toArray, t, U', L, E, ce, hT, X', hL, e1, e2, hq, hce, hcv, vx_cls hW₁ hcl, st⟩
end Runs
section Rows
variable {p : Program} {l : Launch} {e : Env} {R : Room} {s : State} {m : MethodId} {args : Array Value} {below : List Frame} {meth : Method} {c : Code} {H : Heap} {locs : List Loc} {cells slots : Nat} {Q : State → Prop}
variable {mc ms : Nat} {free : Addr → Prop} {A0 A1 : Nat → Prop} {H0 : Heap} {a : Array Value} {pc : Nat} {ls : Array Slot} {st0 rest : List Value}
theorem vx_keep {st₀ t T' : State} {L : List Loc} (h0 : st₀.heap = H) (e1 : T'.heap = t.heap) (hS : va_S A0 H0 H locs) (hA : ∀ q, q < H.size → A1 q → A0 q) (hf : ∀ q, free q → A0 q) (hL : ∀ q ∈ L, free q.base) (hF : va_F A1 st₀ t) :
    H.size ≤ T'.heap.size ∧ (∀ q : Nat, q < H.size → ¬ A1 q → T'.heap[q]? = H[q]?) ∧ va_S A0 H0 T'.heap (locs ++ L) := by
  obtain ⟨hz, hk⟩ := hF
  rw [h0] at hz hk
  exact ⟨by rw [e1]; exact hz, fun q h1 h2 => by rw [e1]; exact hk q h1 h2,
    ⟨Nat.le_trans hS.1 (by rw [e1]; exact hz), fun q h1 h2 => by rw [e1, hk q (Nat.lt_of_lt_of_le h1 hS.1) (fun z => h2 (hA q (Nat.lt_of_lt_of_le h1 hS.1) z))]; exact hS.2.1 q h1 h2, fun q hq => by
      rcases List.mem_append.mp hq with h | h
      · exact hS.2.2 q h
      · exact hf _ (hL q h)⟩⟩
theorem vx_calli {S SX : Type} {post : Int32 → S → Prop} {px : SX → Prop} {B : S → State → Prop} {BX : String → SX → State → Prop} {AX : Nat → Prop} (hr : vx_Run p l e R s m args below meth c H locs cells slots mc ms (F0 m pc ls st0) rest (va_Qi post B A1 a) (vx_X px BX AX) free) (hS : va_S A0 H0 H locs) (hA : ∀ q, q < H.size → A1 q → A0 q) (hf : ∀ q, free q → A0 q) (hAX : ∀ q, q < H.size → AX q → A0 q)
    (kx : ∀ (E : String) (ce : Cell) (q9 : Addr) (u : SX) (t : State) (H1 : Heap) (locs1 : List Loc), t.heap = H1 → s.vm.Alike t.vm → px u → BX E u t → H.size ≤ H1.size → (∀ q : Nat, q < H.size → ¬ AX q → H1[q]? = H[q]?) → va_S A0 H0 H1 locs1 → H1[q9]? = some ce → ce.vm = .none → s.vm.findClass E = some ce.cls → vx_W p l e R s m args below meth c H1 locs1 (cells + mc) (slots + ms) Q (F0 m pc ls rest) q9)
    (kk : ∀ (r : Int32) (u : S) (t : State) (H1 : Heap) (locs1 : List Loc), t.heap = H1 → s.vm.Alike t.vm → post r u → B u t → H.size ≤ H1.size → (∀ q : Nat, q < H.size → ¬ A1 q → H1[q]? = H[q]?) → va_S A0 H0 H1 locs1 → W p l e R s m args below meth c H1 locs1 (cells + mc) (slots + ms) Q (F0 m (pc + 3) ls (.int r :: rest))) : W p l e R s m args below meth c H locs cells slots Q (F0 m pc ls st0) := by
  intro T hT X
  rcases hr T hT X with ⟨v, st₀, t, T', L, h0, X', hL, e1, e2, ⟨⟨r, u, hv, hp, hb⟩, hF⟩, st⟩ | ⟨q, st₀, t, T', L, E, ce, h0, X', hL, e1, e2, ⟨u, hp, hb, hF⟩, hce, hcv, hcl, st⟩
  · cases hv
    obtain ⟨k1, k2, k3⟩ := vx_keep h0 e1 hS hA hf hL hF
    obtain ⟨t2, a1, b1⟩ := kk r u t T'.heap (locs ++ L) e1.symm (by rw [← e2]; exact X'.warmed.alike) hp hb k1 k2 k3 T' rfl X'
    exact ⟨t2, st t2 a1, b1⟩
  · obtain ⟨k1, k2, k3⟩ := vx_keep h0 e1 hS hAX hf hL hF
    obtain ⟨t2, a1, b1⟩ := kx E ce q u t T'.heap (locs ++ L) e1.symm (by rw [← e2]; exact X'.warmed.alike) hp hb k1 k2 k3 (by rw [e1]; exact hce) hcv hcl T' rfl X'
    exact ⟨t2, st.trans a1, b1⟩
theorem vx_calll {S SX : Type} {post : Int64 → S → Prop} {px : SX → Prop} {B : S → State → Prop} {BX : String → SX → State → Prop} {AX : Nat → Prop} (hr : vx_Run p l e R s m args below meth c H locs cells slots mc ms (F0 m pc ls st0) rest (va_Ql post B A1 a) (vx_X px BX AX) free) (hS : va_S A0 H0 H locs) (hA : ∀ q, q < H.size → A1 q → A0 q) (hf : ∀ q, free q → A0 q) (hAX : ∀ q, q < H.size → AX q → A0 q)
    (kx : ∀ (E : String) (ce : Cell) (q9 : Addr) (u : SX) (t : State) (H1 : Heap) (locs1 : List Loc), t.heap = H1 → s.vm.Alike t.vm → px u → BX E u t → H.size ≤ H1.size → (∀ q : Nat, q < H.size → ¬ AX q → H1[q]? = H[q]?) → va_S A0 H0 H1 locs1 → H1[q9]? = some ce → ce.vm = .none → s.vm.findClass E = some ce.cls → vx_W p l e R s m args below meth c H1 locs1 (cells + mc) (slots + ms) Q (F0 m pc ls rest) q9)
    (kk : ∀ (r : Int64) (u : S) (t : State) (H1 : Heap) (locs1 : List Loc), t.heap = H1 → s.vm.Alike t.vm → post r u → B u t → H.size ≤ H1.size → (∀ q : Nat, q < H.size → ¬ A1 q → H1[q]? = H[q]?) → va_S A0 H0 H1 locs1 → W p l e R s m args below meth c H1 locs1 (cells + mc) (slots + ms) Q (F0 m (pc + 3) ls (.long r :: rest))) : W p l e R s m args below meth c H locs cells slots Q (F0 m pc ls st0) := by
  intro T hT X
  rcases hr T hT X with ⟨v, st₀, t, T', L, h0, X', hL, e1, e2, ⟨⟨r, u, hv, hp, hb⟩, hF⟩, st⟩ | ⟨q, st₀, t, T', L, E, ce, h0, X', hL, e1, e2, ⟨u, hp, hb, hF⟩, hce, hcv, hcl, st⟩
  · cases hv
    obtain ⟨k1, k2, k3⟩ := vx_keep h0 e1 hS hA hf hL hF
    obtain ⟨t2, a1, b1⟩ := kk r u t T'.heap (locs ++ L) e1.symm (by rw [← e2]; exact X'.warmed.alike) hp hb k1 k2 k3 T' rfl X'
    exact ⟨t2, st t2 a1, b1⟩
  · obtain ⟨k1, k2, k3⟩ := vx_keep h0 e1 hS hAX hf hL hF
    obtain ⟨t2, a1, b1⟩ := kx E ce q u t T'.heap (locs ++ L) e1.symm (by rw [← e2]; exact X'.warmed.alike) hp hb k1 k2 k3 (by rw [e1]; exact hce) hcv hcl T' rfl X'
    exact ⟨t2, st.trans a1, b1⟩
theorem vx_callf {S SX : Type} {post : UInt32 → S → Prop} {px : SX → Prop} {B : S → State → Prop} {BX : String → SX → State → Prop} {AX : Nat → Prop} (hr : vx_Run p l e R s m args below meth c H locs cells slots mc ms (F0 m pc ls st0) rest (va_Qf post B A1 a) (vx_X px BX AX) free) (hS : va_S A0 H0 H locs) (hA : ∀ q, q < H.size → A1 q → A0 q) (hf : ∀ q, free q → A0 q) (hAX : ∀ q, q < H.size → AX q → A0 q)
    (kx : ∀ (E : String) (ce : Cell) (q9 : Addr) (u : SX) (t : State) (H1 : Heap) (locs1 : List Loc), t.heap = H1 → s.vm.Alike t.vm → px u → BX E u t → H.size ≤ H1.size → (∀ q : Nat, q < H.size → ¬ AX q → H1[q]? = H[q]?) → va_S A0 H0 H1 locs1 → H1[q9]? = some ce → ce.vm = .none → s.vm.findClass E = some ce.cls → vx_W p l e R s m args below meth c H1 locs1 (cells + mc) (slots + ms) Q (F0 m pc ls rest) q9)
    (kk : ∀ (r : UInt32) (u : S) (t : State) (H1 : Heap) (locs1 : List Loc), t.heap = H1 → s.vm.Alike t.vm → post r u → B u t → H.size ≤ H1.size → (∀ q : Nat, q < H.size → ¬ A1 q → H1[q]? = H[q]?) → va_S A0 H0 H1 locs1 → W p l e R s m args below meth c H1 locs1 (cells + mc) (slots + ms) Q (F0 m (pc + 3) ls (.float r :: rest))) : W p l e R s m args below meth c H locs cells slots Q (F0 m pc ls st0) := by
  intro T hT X
  rcases hr T hT X with ⟨v, st₀, t, T', L, h0, X', hL, e1, e2, ⟨⟨r, u, hv, hp, hb⟩, hF⟩, st⟩ | ⟨q, st₀, t, T', L, E, ce, h0, X', hL, e1, e2, ⟨u, hp, hb, hF⟩, hce, hcv, hcl, st⟩
  · cases hv
    obtain ⟨k1, k2, k3⟩ := vx_keep h0 e1 hS hA hf hL hF
    obtain ⟨t2, a1, b1⟩ := kk r u t T'.heap (locs ++ L) e1.symm (by rw [← e2]; exact X'.warmed.alike) hp hb k1 k2 k3 T' rfl X'
    exact ⟨t2, st t2 a1, b1⟩
  · obtain ⟨k1, k2, k3⟩ := vx_keep h0 e1 hS hAX hf hL hF
    obtain ⟨t2, a1, b1⟩ := kx E ce q u t T'.heap (locs ++ L) e1.symm (by rw [← e2]; exact X'.warmed.alike) hp hb k1 k2 k3 (by rw [e1]; exact hce) hcv hcl T' rfl X'
    exact ⟨t2, st.trans a1, b1⟩
theorem vx_calld {S SX : Type} {post : UInt64 → S → Prop} {px : SX → Prop} {B : S → State → Prop} {BX : String → SX → State → Prop} {AX : Nat → Prop} (hr : vx_Run p l e R s m args below meth c H locs cells slots mc ms (F0 m pc ls st0) rest (va_Qd post B A1 a) (vx_X px BX AX) free) (hS : va_S A0 H0 H locs) (hA : ∀ q, q < H.size → A1 q → A0 q) (hf : ∀ q, free q → A0 q) (hAX : ∀ q, q < H.size → AX q → A0 q)
    (kx : ∀ (E : String) (ce : Cell) (q9 : Addr) (u : SX) (t : State) (H1 : Heap) (locs1 : List Loc), t.heap = H1 → s.vm.Alike t.vm → px u → BX E u t → H.size ≤ H1.size → (∀ q : Nat, q < H.size → ¬ AX q → H1[q]? = H[q]?) → va_S A0 H0 H1 locs1 → H1[q9]? = some ce → ce.vm = .none → s.vm.findClass E = some ce.cls → vx_W p l e R s m args below meth c H1 locs1 (cells + mc) (slots + ms) Q (F0 m pc ls rest) q9)
    (kk : ∀ (r : UInt64) (u : S) (t : State) (H1 : Heap) (locs1 : List Loc), t.heap = H1 → s.vm.Alike t.vm → post r u → B u t → H.size ≤ H1.size → (∀ q : Nat, q < H.size → ¬ A1 q → H1[q]? = H[q]?) → va_S A0 H0 H1 locs1 → W p l e R s m args below meth c H1 locs1 (cells + mc) (slots + ms) Q (F0 m (pc + 3) ls (.double r :: rest))) : W p l e R s m args below meth c H locs cells slots Q (F0 m pc ls st0) := by
  intro T hT X
  rcases hr T hT X with ⟨v, st₀, t, T', L, h0, X', hL, e1, e2, ⟨⟨r, u, hv, hp, hb⟩, hF⟩, st⟩ | ⟨q, st₀, t, T', L, E, ce, h0, X', hL, e1, e2, ⟨u, hp, hb, hF⟩, hce, hcv, hcl, st⟩
  · cases hv
    obtain ⟨k1, k2, k3⟩ := vx_keep h0 e1 hS hA hf hL hF
    obtain ⟨t2, a1, b1⟩ := kk r u t T'.heap (locs ++ L) e1.symm (by rw [← e2]; exact X'.warmed.alike) hp hb k1 k2 k3 T' rfl X'
    exact ⟨t2, st t2 a1, b1⟩
  · obtain ⟨k1, k2, k3⟩ := vx_keep h0 e1 hS hAX hf hL hF
    obtain ⟨t2, a1, b1⟩ := kx E ce q u t T'.heap (locs ++ L) e1.symm (by rw [← e2]; exact X'.warmed.alike) hp hb k1 k2 k3 (by rw [e1]; exact hce) hcv hcl T' rfl X'
    exact ⟨t2, st.trans a1, b1⟩
theorem vx_callv {S SX : Type} {post : S → Prop} {px : SX → Prop} {B : S → State → Prop} {BX : String → SX → State → Prop} {AX : Nat → Prop} (hr : vx_Run p l e R s m args below meth c H locs cells slots mc ms (F0 m pc ls st0) rest (va_Qv post B A1 a) (vx_X px BX AX) free) (hS : va_S A0 H0 H locs) (hA : ∀ q, q < H.size → A1 q → A0 q) (hf : ∀ q, free q → A0 q) (hAX : ∀ q, q < H.size → AX q → A0 q)
    (kx : ∀ (E : String) (ce : Cell) (q9 : Addr) (u : SX) (t : State) (H1 : Heap) (locs1 : List Loc), t.heap = H1 → s.vm.Alike t.vm → px u → BX E u t → H.size ≤ H1.size → (∀ q : Nat, q < H.size → ¬ AX q → H1[q]? = H[q]?) → va_S A0 H0 H1 locs1 → H1[q9]? = some ce → ce.vm = .none → s.vm.findClass E = some ce.cls → vx_W p l e R s m args below meth c H1 locs1 (cells + mc) (slots + ms) Q (F0 m pc ls rest) q9)
    (kk : ∀ (u : S) (t : State) (H1 : Heap) (locs1 : List Loc), t.heap = H1 → s.vm.Alike t.vm → post u → B u t → H.size ≤ H1.size → (∀ q : Nat, q < H.size → ¬ A1 q → H1[q]? = H[q]?) → va_S A0 H0 H1 locs1 → W p l e R s m args below meth c H1 locs1 (cells + mc) (slots + ms) Q (F0 m (pc + 3) ls (rest))) : W p l e R s m args below meth c H locs cells slots Q (F0 m pc ls st0) := by
  intro T hT X
  rcases hr T hT X with ⟨v, st₀, t, T', L, h0, X', hL, e1, e2, ⟨⟨u, hv, hp, hb⟩, hF⟩, st⟩ | ⟨q, st₀, t, T', L, E, ce, h0, X', hL, e1, e2, ⟨u, hp, hb, hF⟩, hce, hcv, hcl, st⟩
  · cases hv
    obtain ⟨k1, k2, k3⟩ := vx_keep h0 e1 hS hA hf hL hF
    obtain ⟨t2, a1, b1⟩ := kk u t T'.heap (locs ++ L) e1.symm (by rw [← e2]; exact X'.warmed.alike) hp hb k1 k2 k3 T' rfl X'
    exact ⟨t2, st t2 a1, b1⟩
  · obtain ⟨k1, k2, k3⟩ := vx_keep h0 e1 hS hAX hf hL hF
    obtain ⟨t2, a1, b1⟩ := kx E ce q u t T'.heap (locs ++ L) e1.symm (by rw [← e2]; exact X'.warmed.alike) hp hb k1 k2 k3 (by rw [e1]; exact hce) hcv hcl T' rfl X'
    exact ⟨t2, st.trans a1, b1⟩
/-- caught by the row x of this method's table; the rows ahead don't take it -/
theorem vx_catch {own name : String} {E : String} {ce : Cell} {q : Addr} (hown : s.vm.findClass own = some m.cls) (pre : List ExceptionTableEntry) (x : ExceptionTableEntry) (suf : List ExceptionTableEntry) (hsplit : c.exceptionTable.toList = pre ++ x :: suf)
    (hpass : ∀ z ∈ pre, covers z pc = false ∨ (z.catchType ≠ 0 ∧ ∃ nm : String, (Cond.classLink own z.catchType nm).before args s = true ∧ va_Nc E nm s)) (hx : covers x pc = true) (h0 : x.catchType ≠ 0)
    (hlink : (Cond.classLink own x.catchType name).before args s = true) (hcast : (Cond.castable E name).before args s = true) (hcell : H[q]? = some ce) (hv : ce.vm = .none) (hcl : s.vm.findClass E = some ce.cls)
    (kk : W p l e R s m args below meth c H locs cells slots Q (F0 m x.handlerPc ls [.ref q])) : vx_W p l e R s m args below meth c H locs cells slots Q (F0 m pc ls rest) q := by
  intro T hT X
  have hpl : e.platform.magicAccessors = ({} : Platform).magicAccessors := by rw [X.admits.platform]
  obtain ⟨c3, c4, hc3, hc4, hasg⟩ := Cond.castable_spec hcast
  cases Option.some.inj (hc3.symm.trans hcl)
  obtain ⟨c5, hc5, hcl5⟩ := Cond.classLink_spec hown hlink e.platform hpl
  cases Option.some.inj (hc4.symm.trans hc5)
  obtain ⟨vm', X', st⟩ := X.thenCaughtThrough q (g := F0 m pc ls rest) rfl (Steps.refl _) (by rw [hT]; exact hcell) (by rw [hv]; rfl) (by obtain ⟨k9, h9, -⟩ := Vm.findClass_spec hcl; exact ⟨k9, h9⟩) pre x suf hsplit
    (fun z hz => by
      rcases hpass z hz with h | ⟨hz0, nm, hl1, hn1⟩
      · exact Or.inl h
      · obtain ⟨c6, hc6, hcl6⟩ := Cond.classLink_spec hown hl1 e.platform hpl
        obtain ⟨a8, b8, h1, h2, h3⟩ := hn1
        cases Option.some.inj (h1.symm.trans hcl)
        cases Option.some.inj (h2.symm.trans hc6)
        exact Or.inr ⟨hz0, _, hcl6, h3⟩) hx (Or.inr ⟨h0, c4, hcl5, hasg⟩)
  obtain ⟨t, a1, b1⟩ := kk (T.setVm vm') hT X'
  exact ⟨t, st.trans a1, b1⟩
end Rows
section Ends
variable {p : Program} {l : Launch} {e : Env} {R : Room} {s : State} {m : MethodId} {args : Array Value} {below : List Frame} {meth : Method} {c : Code} {H : Heap} {locs : List Loc} {cells slots : Nat} {Q : State → Prop}
variable {mc ms : Nat} {free : Addr → Prop} {A0 A1 : Nat → Prop} {H0 : Heap} {a : Array Value} {ls : Array Slot} {st0 rest : List Value}
variable {Qc : Array Value → State → Outcome → State → Prop} {XC : String → State → State → Prop}
/-- what a body that may throw owes at its end -/
def vx_MQ (below : List Frame) (Qc : Array Value → State → Outcome → State → Prop) (XC : String → State → State → Prop) (a : Array Value) (s : State) (mc ms : Nat) (free : Addr → Prop) : State → Prop := fun t =>
  ∃ o, t.status = .running ∧ Ended t below o ∧ vx_Q Qc XC mc ms free a s o t
theorem vx_ret {g : JFrame} {mc ms : Nat} (k : W p l e R s m args below meth c H locs cells slots (MQ below Qc args s mc ms free) g) : W p l e R s m args below meth c H locs cells slots (vx_MQ below Qc XC args s mc ms free) g := by
  intro T hT X
  obtain ⟨t, a1, o, b1, b2, b3, b4⟩ := k T hT X
  exact ⟨t, a1, o, b1, b2, Or.inl ⟨b3, b4⟩⟩
/-- not caught here: it goes on to the caller -/
theorem vx_widen {g : JFrame} {q : Addr} {k n : Nat} (h1 : cells ≤ k) (h2 : slots ≤ n) (kk : vx_W p l e R s m args below meth c H locs k n Q g q) : vx_W p l e R s m args below meth c H locs cells slots Q g q := fun T hT X => kk T hT (stand_widen X h1 h2)
theorem vx_out {pc : Nat} {E : String} {ce : Cell} {q : Addr} {mc ms : Nat} (hout : ∀ x ∈ c.exceptionTable.toList, covers x pc = false) (hlocks : meth.locks = false) (hcell : H[q]? = some ce) (hv : ce.vm = .none) (hcl : s.vm.findClass E = some ce.cls)
    (hx : ∀ t : State, t.heap = H → s.vm.Alike t.vm → XC E s t) (hf : ∀ z ∈ locs, free z.base) (hc : cells ≤ mc) (hs : slots ≤ ms) :
    vx_W p l e R s m args below meth c H locs cells slots (vx_MQ below Qc XC args s mc ms free) (F0 m pc ls rest) q := by
  intro T hT X
  obtain ⟨st1, hrun, hend, hW, hsm⟩ := X.leaveThrown q (g := F0 m pc ls rest) rfl rfl rfl hout hlocks
  have hcell9 : (T.setFrames (.throwing q :: below)).heap[q]? = some ce := by
    show T.heap[q]? = some ce
    rw [hT]; exact hcell
  exact ⟨_, st1, .threw q, hrun, hend, Or.inr ⟨q, rfl, E, ce, locs, hx _ hT hW.alike, hcell9, hv, hcl, hW, hsm.mono hc hs, hf⟩⟩
theorem vx_frame {U : State} {k n : Nat} (h : s.sameButNew ({ U with vm := s.vm } : State) locs k n) : s.heap.size ≤ U.heap.size ∧ ∀ q : Nat, q < s.heap.size → (∀ z ∈ locs, z.base ≠ q) → U.heap[q]? = s.heap[q]? := by
  obtain ⟨-, h2, -, -, -, h6⟩ := h
  refine ⟨h2, fun q hq hz => ?_⟩
  obtain ⟨c9, e1, e2, e3, e4⟩ := h6 q _ (Array.getElem?_eq_getElem hq)
  have hs : c9.slots = (s.heap[q]).slots := Array.ext_getElem? fun i => e4 i fun hm => hz _ hm rfl
  have h9 : c9 = s.heap[q] := by
    rw [hs] at e2
    exact e2
  have e5 : U.heap[q]? = some c9 := e1
  rw [e5, h9, Array.getElem?_eq_getElem hq]
/-- the words of a throw but the four that speak of the heap -/
def vx_no (w : Cond) : Bool := decide (w ≠ .isRef (.static Bundle.tN "UNASSIGNED_STACK" Bundle.steD)) && decide (w ≠ .isRef (.static Bundle.tN "SUPPRESSED_SENTINEL" Bundle.listD)) && decide (w ≠ .laysStatic Bundle.tN "UNASSIGNED_STACK" Bundle.steD) && decide (w ≠ .laysStatic Bundle.tN "SUPPRESSED_SENTINEL" Bundle.listD)
def vx_at0 (own : String) (ic : Nat) (X : String) (names : List String) : List Cond := (Bundle.ownAtoms0 own ic X names).filter vx_no
def vx_atS (own : String) (ic : Nat) (X : String) (names : List String) : List Cond := (Bundle.ownAtoms own ic X names).filter vx_no
/-- a word that the tables alone decide, or a good one -/
def vx_ot (w : Cond) : Bool := w.onTables || goodWord w
theorem vx_ot_at {args a' : Array Value} {s U : State} {w : Cond} (hW : s.WarmedH U.vm) (hvm : s.vm = U.vm) (hg : vx_ot w = true) (h : w.before args s = true) : w.before a' U = true := by
  simp only [vx_ot, Bool.or_eq_true] at hg
  rcases hg with hg | hg
  · exact va_tabs hg hvm h
  · exact word_at hW (good_of_word hg) h
/-- a list's words: the good ones out of the method's own list, the others by premises of their own -/
theorem vx_hat {args : Array Value} {s : State} {L B : List Cond} (h1 : ∀ w ∈ L.filter goodWord, w.before args s = true) (h2 : ∀ w ∈ L.filter (fun w => !goodWord w), w ∈ B) (h3 : ∀ w ∈ B, w.before args s = true) : ∀ w ∈ L, w.before args s = true := by
  intro w hw
  by_cases g : goodWord w = true
  · exact h1 w (List.mem_filter.mpr ⟨hw, g⟩)
  · refine h3 w (h2 w (List.mem_filter.mpr ⟨hw, ?_⟩))
    show (!goodWord w) = true
    cases hgw : goodWord w
    · rfl
    · exact absurd hgw g
theorem vx_c {args : Array Value} {s : State} {w : Cond} {B : List Cond} (h : w.before args s = true) (t : ∀ w ∈ B, w.before args s = true) : ∀ w' ∈ w :: B, w'.before args s = true := fun w' h' => (List.mem_cons.mp h').elim (fun e => by rw [e]; exact h) (t w')
theorem vx_n {args : Array Value} {s : State} : ∀ w ∈ ([] : List Cond), w.before args s = true := fun _ h => nomatch h
theorem vx_own {args : Array Value} {s : State} {L : List Cond} (h1 : ∀ w ∈ L.filter vx_no, w.before args s = true)
    (hU : (Cond.isRef (.static Bundle.tN "UNASSIGNED_STACK" Bundle.steD)).before args s = true) (hN : (Cond.isRef (.static Bundle.tN "SUPPRESSED_SENTINEL" Bundle.listD)).before args s = true)
    (lU : (Cond.laysStatic Bundle.tN "UNASSIGNED_STACK" Bundle.steD).before args s = true) (lN : (Cond.laysStatic Bundle.tN "SUPPRESSED_SENTINEL" Bundle.listD).before args s = true) : ∀ w ∈ L, w.before args s = true := by
  intro w hw
  by_cases e1 : w = .isRef (.static Bundle.tN "UNASSIGNED_STACK" Bundle.steD)
  · rw [e1]; exact hU
  · by_cases e2 : w = .isRef (.static Bundle.tN "SUPPRESSED_SENTINEL" Bundle.listD)
    · rw [e2]; exact hN
    · by_cases e3 : w = .laysStatic Bundle.tN "UNASSIGNED_STACK" Bundle.steD
      · rw [e3]; exact lU
      · by_cases e4 : w = .laysStatic Bundle.tN "SUPPRESSED_SENTINEL" Bundle.listD
        · rw [e4]; exact lN
        · exact h1 w (List.mem_filter.mpr ⟨hw, by unfold vx_no; rw [decide_eq_true e1, decide_eq_true e2, decide_eq_true e3, decide_eq_true e4]; rfl⟩)
/-- where a static field lies, its class's statics cell in H -/
def vx_L (C n d : String) (A : Nat → Prop) (U : State) (H : Heap) : Prop := ∃ (c : ClassId) (k : Class) (i : Nat) (f : Field) (a : Nat) (cell : Cell), U.vm.findClass C = some c ∧ U.fieldFound? C n d = some (c, k, i, f) ∧ f.isStatic = true ∧ k.statics = some a ∧ H[a]? = some cell ∧ cell.vm.isStatics = true ∧ cell.cls = c ∧ f.slot < cell.slots.size ∧ k.staticTypes[f.slot]? = some f.type ∧ ¬ A a
theorem vx_L.moved {C n d : String} {A : Nat → Prop} {u U : State} {H : Heap} (hvm : u.vm.Alike U.vm) (h : vx_L C n d A u H) : vx_L C n d A U H := by
  obtain ⟨c, k, i, f, a, cell, h1, h2, h3, h4, h5, h6, h7, h8, h9, h10⟩ := h
  obtain ⟨k', hi', he⟩ := State.fieldFound?_setVm hvm h2
  exact ⟨c, k', i, f, a, cell, by rw [hvm.findClass]; exact h1, hi', h3, by rw [he]; exact h4, h5, h6, h7, h8, by rw [he]; exact h9, h10⟩
theorem vx_L.kept {C n d : String} {A : Nat → Prop} {U : State} {H H1 : Heap} (h : vx_L C n d A U H) (hq : ∀ a : Nat, a < H.size → ¬ A a → H1[a]? = H[a]?) : vx_L C n d A U H1 := by
  obtain ⟨c, k, i, f, a, cell, h1, h2, h3, h4, h5, h6, h7, h8, h9, h10⟩ := h
  exact ⟨c, k, i, f, a, cell, h1, h2, h3, h4, by rw [hq a (Array.getElem?_eq_some_iff.mp h5).1 h10]; exact h5, h6, h7, h8, h9, h10⟩
theorem vx_L.narrow {C n d : String} {A B : Nat → Prop} {U : State} {H : Heap} (h : vx_L C n d A U H) (hAB : ∀ q, B q → A q) : vx_L C n d B U H := by
  obtain ⟨c, k, i, f, a, cell, h1, h2, h3, h4, h5, h6, h7, h8, h9, h10⟩ := h
  exact ⟨c, k, i, f, a, cell, h1, h2, h3, h4, h5, h6, h7, h8, h9, fun z => h10 (hAB _ z)⟩
theorem vx_L.word {C n d : String} {A : Nat → Prop} {s : State} {args : Array Value} (h : vx_L C n d A s s.heap) : (Cond.laysStatic C n d).before args s = true := by
  obtain ⟨c, k, i, f, a, cell, h1, h2, h3, h4, h5, h6, h7, h8, h9, -⟩ := h
  show (Cond.laysStatic C n d).holds args s none s [] = true
  exact Cond.laysStatic_of h1 h2 h3 h4 h5 h6 h7 h8 h9
/-- .. and what it holds: null or some reference -/
def vx_Zq (C n d : String) (A : Nat → Prop) (U : State) (H : Heap) : Prop := va_Zq C n d A U H ∧ vx_L C n d A U H
theorem vx_Zq.moved {C n d : String} {A : Nat → Prop} {u U : State} {H : Heap} (hvm : u.vm.Alike U.vm) (h : vx_Zq C n d A u H) : vx_Zq C n d A U H := ⟨va_Zq.moved hvm h.1, vx_L.moved hvm h.2⟩
theorem vx_Zq.kept {C n d : String} {A : Nat → Prop} {U : State} {H H1 : Heap} (h : vx_Zq C n d A U H) (hq : ∀ a : Nat, a < H.size → ¬ A a → H1[a]? = H[a]?) : vx_Zq C n d A U H1 := ⟨va_Zq.kept h.1 hq, vx_L.kept h.2 hq⟩
theorem vx_Zq.narrow {C n d : String} {A B : Nat → Prop} {U : State} {H : Heap} (h : vx_Zq C n d A U H) (hAB : ∀ q, B q → A q) : vx_Zq C n d B U H := ⟨va_Zq.narrow h.1 hAB, vx_L.narrow h.2 hAB⟩
theorem vx_Zqof {args : Array Value} {s : State} {C n d : String} {A : Nat → Prop} (hl : (Cond.laysStatic C n d).before args s = true) (hini : (Cond.initialized C).before args s = true) (h : (Cond.isRef (.static C n d)).before args s = true) (hA : ∀ a : Nat, a < s.heap.size → ¬ A a) : vx_Zq C n d A s s.heap := by
  refine ⟨va_Zqof hl hini h hA, ?_⟩
  obtain ⟨c, k, i, f, a, cell, h1, h2, h3, h4, h5, h6, h7, h8, h9⟩ := Cond.laysStatic_spec hl
  exact ⟨c, k, i, f, a, cell, h1, h2, h3, h4, h5, h6, h7, h8, h9, hA a (Array.getElem?_eq_some_iff.mp h5).1⟩
theorem vx_isRef {C n d : String} {v : Value} {A : Nat → Prop} {s : State} {args : Array Value} (h : va_Z C n d v A s s.heap) (hv : v.isRef = true) : (Cond.isRef (.static C n d)).before args s = true := by
  obtain ⟨cf, kf, fi, f, a, cell, h1, h2, h3, h4, h5, h6, h7, -⟩ := h
  have he : (Term.static C n d).eval args s none [] s = some v := by
    simp [Term.eval, State.fieldNamed?, h1, h2, h4, h5, h6, h7]
  simp only [Cond.before, Cond.holds, Cond.value, he]
  cases v <;> simp_all [Value.isRef]
theorem vx_isRefq {C n d : String} {A : Nat → Prop} {s : State} {args : Array Value} (h : va_Zq C n d A s s.heap) : (Cond.isRef (.static C n d)).before args s = true := by
  rcases h with h | ⟨t, h⟩
  · exact vx_isRef h rfl
  · exact vx_isRef h rfl
/-- the same frame, seen from here: as if the method were called anew in this heap -/
theorem vx_rebase {T : State} (X : Stand p l e R s m args below meth c T locs cells slots) {R' : Room} (hf : R'.frames ≤ R.frames) (hl : R'.locals ≤ R.locals) (hc : cells + R'.cells ≤ R.cells) (hs : slots + R'.slots ≤ R.slots) :
    Stand p l e R' ((T.setVm s.vm).setFrames (.invoking m args :: below)) m args below meth c T [] 0 0 := by
  have htop : (T.setVm s.vm).topJava?.isSome := X.here.top
  have hF : ((T.setVm s.vm).setFrames (.invoking m args :: below)).frames = .invoking m args :: below := State.frames_setFrames _ (State.cur_lt_of_top htop)
  obtain ⟨g₀, hg0⟩ := Option.isSome_iff_exists.mp htop
  obtain ⟨r, hr⟩ := State.topJava?_eq_some.mp hg0
  have hl9 : e.platform.stackLimits (T.setVm s.vm).me = e.platform.stackLimits s.me := X.limits
  have hb9 : (T.setVm s.vm).me.stackBytes = s.me.stackBytes := X.bytes
  refine ⟨X.admits, X.cas, X.clock, hF, ?_, X.hears, X.method, X.code, X.here, X.tail, X.warmed, ?_, ?_, ?_⟩
  · have h := X.room
    have hU : ((T.setVm s.vm).setFrames (.invoking m args :: below)).localsInUse = s.localsInUse := by
      rw [State.localsInUse_invoking hF (meth := meth) (c := c) X.method X.code, State.localsInUse_invoking X.frames X.method X.code]
    simp only [State.hasRoom, Bool.and_eq_true, decide_eq_true_eq] at h ⊢
    obtain ⟨⟨⟨⟨h1, h2, h3, h4, h5, h6⟩, h7⟩, h8⟩, h9⟩ := h
    rw [X.frames, List.length_cons] at h2 h3
    have q1 := X.heapSize
    have q2 := X.used
    simp only [hF, hU, List.length_cons, State.stackLimits_setFrames, State.stackBytes_setFrames, hl9, hb9]
    refine ⟨⟨⟨⟨by omega, by omega, by omega, by omega, by omega, h6⟩, ?_⟩, ?_⟩, X.book⟩
    · show T.heap.size + R'.cells ≤ e.platform.maxCells
      omega
    · show T.slotsUsed + R'.slots ≤ e.platform.maxSlots
      omega
  · rw [State.stackLimits_setFrames]; rfl
  · rw [State.stackBytes_setFrames]; rfl
  · refine ⟨?_, Nat.le_refl _, Nat.le_refl _, ?_, ?_, fun a c9 h9 => ⟨c9, h9, rfl, rfl, fun _ _ => rfl⟩⟩
    · obtain ⟨t, ht, -⟩ := State.frames_cons hr
      show T.setVm s.vm = { ((T.setVm s.vm).setFrames (.invoking m args :: below)).setFrames (T.setVm s.vm).frames with heap := T.heap, slotsUsed := T.slotsUsed }
      rw [State.setFrames_setFrames, State.setFrames_self ht]
      rfl
    · show T.slotsUsed = T.slotsUsed + ((T.heap.toList.drop T.heap.size).map (·.slots.size)).sum
      rw [List.drop_eq_nil_of_le (Nat.le_of_eq Array.length_toList)]
      rfl
    · show ((T.heap.toList.drop T.heap.size).map (·.slots.size)).sum ≤ 0
      rw [List.drop_eq_nil_of_le (Nat.le_of_eq Array.length_toList)]
      exact Nat.le_refl _
/-- 'throw new E()': new; dup; invokespecial; athrow -/
theorem vx_throw0 {cc : ByteArray} {pc : Nat} (hexec : p.tables.exec = Jvm.exec) (hb : c.code = cc) (hl : l.stackTraces = false) {own cls : String} {names : List String} {ik ic mc ms : Nat} {A : Nat → Prop}
    (hown : s.vm.findClass own = some m.cls) (hcls : Bundle.fit cls = true) (hnames : ∀ n ∈ names, Bundle.fit n = true)
    (hk : (Cond.classLink own ik cls).before args s = true) (hini : (Cond.initialized cls).before args s = true) (hat : ∀ w ∈ vx_at0 own ic cls names, w.before args s = true)
    (hgood : ∀ w ∈ Cond.classLink own ik cls :: Cond.initialized cls :: vx_at0 own ic cls names, vx_ot w = true)
    (hU : vx_Zq Bundle.tN "UNASSIGNED_STACK" Bundle.steD A s s.heap) (hN : vx_Zq Bundle.tN "SUPPRESSED_SENTINEL" Bundle.listD A s s.heap) (hS : va_S A s.heap H locs) (hsize : ls.size = c.maxLocals)
    (d0 : decode cc pc = .ok (.new ik, 3)) (d3 : decode cc (pc + 3) = .ok (.dup, 1)) (d4 : decode cc (pc + 4) = .ok (.invokespecial ic, 3)) (d7 : decode cc (pc + 7) = .ok (.athrow, 1))
    (hout : ∀ x ∈ c.exceptionTable.toList, covers x (pc + 7) = false)
    (hRframes : names.length + 3 < R.frames) (hRlocals : (rest.map fun v => v.category).sum + (13 * (names.length + 1) + 42) ≤ R.locals) (hRcells : cells + 1 ≤ R.cells) (hRslots : slots + 6 ≤ R.slots) (hlocks : meth.locks = false)
    (hx : ∀ t : State, s.vm.Alike t.vm → H.size ≤ t.heap.size → (∀ q : Nat, q < H.size → t.heap[q]? = H[q]?) → XC cls s t)
    (hf : ∀ z ∈ locs, free z.base) (hc : cells + 1 ≤ mc) (hs : slots + 6 ≤ ms) :
    W p l e R s m args below meth c H locs cells slots (vx_MQ below Qc XC args s mc ms free) (F0 m pc ls rest) := by
  intro T hT X
  have htr : e.platform.stackTraces = false := (show e.platform.stackTraces = l.stackTraces by rw [X.admits.platform]).trans hl
  have Y := vx_rebase X (R' := { frames := R.frames, locals := R.locals, cells := 1, slots := 6 }) (Nat.le_refl _) (Nat.le_refl _) hRcells hRslots
  obtain ⟨s', hA⟩ : ∃ z, z = (T.setVm s.vm).setFrames (.invoking m args :: below) := ⟨_, rfl⟩
  rw [← hA] at Y
  have hvm : s'.vm = s.vm := by rw [hA]; rfl
  have hhp : s'.heap = H := by rw [hA]; exact hT
  have hW0 : s.WarmedH s'.vm := by rw [hvm]; exact State.WarmedH.refl s
  have hat' : ∀ w ∈ vx_at0 own ic cls names, w.before args s' = true := fun w hw => vx_ot_at hW0 hvm.symm (hgood w (List.mem_cons_of_mem _ (List.mem_cons_of_mem _ hw))) (hat w hw)
  have hk' : (Cond.classLink own ik cls).before args s' = true := vx_ot_at hW0 hvm.symm (hgood _ List.mem_cons_self) hk
  have hini' : (Cond.initialized cls).before args s' = true := vx_ot_at hW0 hvm.symm (hgood _ (List.mem_cons_of_mem _ List.mem_cons_self)) hini
  have hU' : vx_Zq Bundle.tN "UNASSIGNED_STACK" Bundle.steD A s' s'.heap := by rw [hhp]; exact vx_Zq.moved hW0.alike (hU.kept hS.2.1)
  have hN' : vx_Zq Bundle.tN "SUPPRESSED_SENTINEL" Bundle.listD A s' s'.heap := by rw [hhp]; exact vx_Zq.moved hW0.alike (hN.kept hS.2.1)
  have h : ∀ w ∈ Bundle.ownAtoms0 own ic cls names, w.before args s' = true := vx_own hat' (vx_isRefq hU'.1) (vx_isRefq hN'.1) hU'.2.word hN'.2.word
  have hown' : s'.vm.findClass own = some m.cls := by rw [hvm]; exact hown
  have hins : (Cond.instantiable cls 6).before args s' = true := h _ (by simp [Bundle.ownAtoms0])
  obtain ⟨vm₁, cX, kX, hfX, hkX, -, -, X₁, st1⟩ := Y.newCold hexec (own := own) (C := cls) (index := ik) (n := 6) hown' hk' hins hini'
    (g := F0 m pc ls rest) rfl (by rw [hb]; exact d0) (Nat.le_refl _) (Nat.le_refl _)
  generalize hT1 : (T.setVm vm₁).pushCell { cls := cX, slots := kX.instanceTypes.map defaultValue, vm := .none } = T1 at X₁ st1
  have hcat : (Value.ref T.heap.size).category = 1 := rfl
  have hcellA : T1.heap[T.heap.size]? = some (freshCell cX kX) := by rw [← hT1]; exact State.heap_pushCell_size _ _
  have d3' : decode c.code (pc + 3) = .ok (.dup, 1) := by rw [hb]; exact d3
  obtain ⟨U, hsteps, hrun, hend, hW, hsame, ce, hce, hO⟩ := X₁.ctorThrow0 hexec htr (own := own) (cls := cls) (names := names) (ic := ic) hown' hcls hnames h (fun x hx => nomatch hx) hfX hkX hcellA (by rw [hhp, hT]; exact Nat.le_refl _)
    (g := { method := m, pc := pc + 4, locals := ls, stack := .ref T.heap.size :: .ref T.heap.size :: rest, locked := none }) rfl hsize rfl rfl (rest := rest) rfl
    (by rw [hb]; exact d4) (by rw [hb]; exact d7) hout hRframes (by simp only [List.map_cons, List.sum_cons, hcat]; omega) hlocks
  obtain ⟨f1, f2⟩ := vx_frame hsame
  rw [hhp] at f1 f2
  have hWs : s.WarmedH U.vm := State.WarmedH.trans hW0 hW
  have hcl : s.vm.findClass cls = some ce.cls := by
    have h9 := hO.cls
    rw [hvm] at h9
    exact h9
  have hall : s.sameButNew ({ U with vm := s.vm } : State) locs mc ms := by
    subst hA
    obtain ⟨e1, e2⟩ := hsame
    rw [State.setFrames_setFrames] at e1
    have h2 : (T.setVm s.vm).sameButNew ({ U with vm := s.vm } : State) [] (0 + 1) (0 + 6) := ⟨e1, e2⟩
    have h3 := X.same.trans h2
    rw [List.append_nil] at h3
    exact h3.mono hc hs
  refine ⟨U, ?_, .threw T.heap.size, hrun, hend, Or.inr ⟨T.heap.size, rfl, cls, ce, locs, hx U hWs.alike f1 (fun q hq => f2 q hq (fun z hz => nomatch hz)), hce, hO.vm, hcl, hWs, hall, hf⟩⟩
  refine st1 _ ?_
  show Steps p.tables e below (T1.setTop { method := m, pc := pc + 3, locals := ls, stack := .ref T.heap.size :: rest, locked := none }) _
  jvm_step X₁.here [X₁.here.top, hexec, d3', Value.category]
  exact hsteps
/-- 'throw new E("text")': new; dup; ldc; invokespecial; athrow -/
theorem vx_throwS {cc : ByteArray} {pc : Nat} (hexec : p.tables.exec = Jvm.exec) (hb : c.code = cc) (hl : l.stackTraces = false) {own cls text : String} {names : List String} {ik is ic mc ms sa : Nat} {A : Nat → Prop}
    (hown : s.vm.findClass own = some m.cls) (hcls : Bundle.fit cls = true) (hnames : ∀ n ∈ names, Bundle.fit n = true)
    (hk : (Cond.classLink own ik cls).before args s = true) (hini : (Cond.initialized cls).before args s = true) (hstr : vk_R own is text sa s) (hat : ∀ w ∈ vx_atS own ic cls names, w.before args s = true)
    (hgood : ∀ w ∈ Cond.classLink own ik cls :: Cond.initialized cls :: vx_atS own ic cls names, vx_ot w = true)
    (hU : vx_Zq Bundle.tN "UNASSIGNED_STACK" Bundle.steD A s s.heap) (hN : vx_Zq Bundle.tN "SUPPRESSED_SENTINEL" Bundle.listD A s s.heap) (hS : va_S A s.heap H locs) (hsize : ls.size = c.maxLocals)
    (d0 : decode cc pc = .ok (.new ik, 3)) (d3 : decode cc (pc + 3) = .ok (.dup, 1)) (d4 : decode cc (pc + 4) = .ok (.ldc is, 2)) (d6 : decode cc (pc + 6) = .ok (.invokespecial ic, 3)) (d9 : decode cc (pc + 9) = .ok (.athrow, 1))
    (hout : ∀ x ∈ c.exceptionTable.toList, covers x (pc + 9) = false)
    (hRframes : names.length + 3 < R.frames) (hRlocals : (rest.map fun v => v.category).sum + (13 * (names.length + 1) + 43) ≤ R.locals) (hRcells : cells + 1 ≤ R.cells) (hRslots : slots + 6 ≤ R.slots) (hlocks : meth.locks = false)
    (hx : ∀ t : State, s.vm.Alike t.vm → H.size ≤ t.heap.size → (∀ q : Nat, q < H.size → t.heap[q]? = H[q]?) → XC cls s t)
    (hf : ∀ z ∈ locs, free z.base) (hc : cells + 1 ≤ mc) (hs : slots + 6 ≤ ms) :
    W p l e R s m args below meth c H locs cells slots (vx_MQ below Qc XC args s mc ms free) (F0 m pc ls rest) := by
  intro T hT X
  have htr : e.platform.stackTraces = false := (show e.platform.stackTraces = l.stackTraces by rw [X.admits.platform]).trans hl
  have Y := vx_rebase X (R' := { frames := R.frames, locals := R.locals, cells := 1, slots := 6 }) (Nat.le_refl _) (Nat.le_refl _) hRcells hRslots
  obtain ⟨s', hA⟩ : ∃ z, z = (T.setVm s.vm).setFrames (.invoking m args :: below) := ⟨_, rfl⟩
  rw [← hA] at Y
  have hvm : s'.vm = s.vm := by rw [hA]; rfl
  have hhp : s'.heap = H := by rw [hA]; exact hT
  have hW0 : s.WarmedH s'.vm := by rw [hvm]; exact State.WarmedH.refl s
  have hat' : ∀ w ∈ vx_atS own ic cls names, w.before args s' = true := fun w hw => vx_ot_at hW0 hvm.symm (hgood w (List.mem_cons_of_mem _ (List.mem_cons_of_mem _ hw))) (hat w hw)
  have hk' : (Cond.classLink own ik cls).before args s' = true := vx_ot_at hW0 hvm.symm (hgood _ List.mem_cons_self) hk
  have hini' : (Cond.initialized cls).before args s' = true := vx_ot_at hW0 hvm.symm (hgood _ (List.mem_cons_of_mem _ List.mem_cons_self)) hini
  have hU' : vx_Zq Bundle.tN "UNASSIGNED_STACK" Bundle.steD A s' s'.heap := by rw [hhp]; exact vx_Zq.moved hW0.alike (hU.kept hS.2.1)
  have hN' : vx_Zq Bundle.tN "SUPPRESSED_SENTINEL" Bundle.listD A s' s'.heap := by rw [hhp]; exact vx_Zq.moved hW0.alike (hN.kept hS.2.1)
  have h : ∀ w ∈ Bundle.ownAtoms own ic cls names, w.before args s' = true := vx_own hat' (vx_isRefq hU'.1) (vx_isRefq hN'.1) hU'.2.word hN'.2.word
  have hown' : s'.vm.findClass own = some m.cls := by rw [hvm]; exact hown
  have hins : (Cond.instantiable cls 6).before args s' = true := h _ (by simp [Bundle.ownAtoms])
  obtain ⟨vm₁, cX, kX, hfX, hkX, -, -, X₁, st1⟩ := Y.newCold hexec (own := own) (C := cls) (index := ik) (n := 6) hown' hk' hins hini'
    (g := F0 m pc ls rest) rfl (by rw [hb]; exact d0) (Nat.le_refl _) (Nat.le_refl _)
  generalize hT1 : (T.setVm vm₁).pushCell { cls := cX, slots := kX.instanceTypes.map defaultValue, vm := .none } = T1 at X₁ st1
  have hcat : (Value.ref T.heap.size).category = 1 := rfl
  have hcellA : T1.heap[T.heap.size]? = some (freshCell cX kX) := by rw [← hT1]; exact State.heap_pushCell_size _ _
  have d3' : decode c.code (pc + 3) = .ok (.dup, 1) := by rw [hb]; exact d3
  have d4' : decode c.code (pc + 4) = .ok (.ldc is, 2) := by rw [hb]; exact d4
  have hstr' : vk_R own is text sa s' := vk_R.warm hW0 hstr
  obtain ⟨U, hsteps, hrun, hend, hW, hsame, ce, hce, hO⟩ := X₁.ctorThrowS hexec htr (own := own) (cls := cls) (names := names) (ic := ic) hown' hcls hnames h (fun x hx => nomatch hx) hfX hkX hcellA (by rw [hhp, hT]; exact Nat.le_refl _) (msg := .ref sa) rfl
    (g := { method := m, pc := pc + 6, locals := ls, stack := .ref sa :: .ref T.heap.size :: .ref T.heap.size :: rest, locked := none }) rfl hsize rfl rfl (rest := rest) rfl
    (by rw [hb]; exact d6) (by rw [hb]; exact d9) hout hRframes (by simp only [List.map_cons, List.sum_cons, hcat]; omega) hlocks
  obtain ⟨f1, f2⟩ := vx_frame hsame
  rw [hhp] at f1 f2
  have hWs : s.WarmedH U.vm := State.WarmedH.trans hW0 hW
  have hcl : s.vm.findClass cls = some ce.cls := by
    have h9 := hO.cls
    rw [hvm] at h9
    exact h9
  have hall : s.sameButNew ({ U with vm := s.vm } : State) locs mc ms := by
    subst hA
    obtain ⟨e1, e2⟩ := hsame
    rw [State.setFrames_setFrames] at e1
    have h2 : (T.setVm s.vm).sameButNew ({ U with vm := s.vm } : State) [] (0 + 1) (0 + 6) := ⟨e1, e2⟩
    have h3 := X.same.trans h2
    rw [List.append_nil] at h3
    exact h3.mono hc hs
  refine ⟨U, ?_, .threw T.heap.size, hrun, hend, Or.inr ⟨T.heap.size, rfl, cls, ce, locs, hx U hWs.alike f1 (fun q hq => f2 q hq (fun z hz => nomatch hz)), hce, hO.vm, hcl, hWs, hall, hf⟩⟩
  refine st1 _ ?_
  show Steps p.tables e below (T1.setTop { method := m, pc := pc + 3, locals := ls, stack := .ref T.heap.size :: rest, locked := none }) _
  jvm_step X₁.here [X₁.here.top, hexec, d3', Value.category]
  exact X₁.ldcString hexec (own := own) (text := text) (index := is) (a := sa) hown' hstr'.1 hstr'.2
    (g := { method := m, pc := pc + 4, locals := ls, stack := .ref T.heap.size :: .ref T.heap.size :: rest, locked := none }) rfl d4' _ hsteps
/-- 'throw new E("text")', the text by a wide index -/
theorem vx_throwSW {cc : ByteArray} {pc : Nat} (hexec : p.tables.exec = Jvm.exec) (hb : c.code = cc) (hl : l.stackTraces = false) {own cls text : String} {names : List String} {ik is ic mc ms sa : Nat} {A : Nat → Prop}
    (hown : s.vm.findClass own = some m.cls) (hcls : Bundle.fit cls = true) (hnames : ∀ n ∈ names, Bundle.fit n = true)
    (hk : (Cond.classLink own ik cls).before args s = true) (hini : (Cond.initialized cls).before args s = true) (hstr : vk_R own is text sa s) (hat : ∀ w ∈ vx_atS own ic cls names, w.before args s = true)
    (hgood : ∀ w ∈ Cond.classLink own ik cls :: Cond.initialized cls :: vx_atS own ic cls names, vx_ot w = true)
    (hU : vx_Zq Bundle.tN "UNASSIGNED_STACK" Bundle.steD A s s.heap) (hN : vx_Zq Bundle.tN "SUPPRESSED_SENTINEL" Bundle.listD A s s.heap) (hS : va_S A s.heap H locs) (hsize : ls.size = c.maxLocals)
    (d0 : decode cc pc = .ok (.new ik, 3)) (d3 : decode cc (pc + 3) = .ok (.dup, 1)) (d4 : decode cc (pc + 4) = .ok (.ldc_w is, 3)) (d7 : decode cc (pc + 7) = .ok (.invokespecial ic, 3)) (d10 : decode cc (pc + 10) = .ok (.athrow, 1))
    (hout : ∀ x ∈ c.exceptionTable.toList, covers x (pc + 10) = false)
    (hRframes : names.length + 3 < R.frames) (hRlocals : (rest.map fun v => v.category).sum + (13 * (names.length + 1) + 43) ≤ R.locals) (hRcells : cells + 1 ≤ R.cells) (hRslots : slots + 6 ≤ R.slots) (hlocks : meth.locks = false)
    (hx : ∀ t : State, s.vm.Alike t.vm → H.size ≤ t.heap.size → (∀ q : Nat, q < H.size → t.heap[q]? = H[q]?) → XC cls s t)
    (hf : ∀ z ∈ locs, free z.base) (hc : cells + 1 ≤ mc) (hs : slots + 6 ≤ ms) :
    W p l e R s m args below meth c H locs cells slots (vx_MQ below Qc XC args s mc ms free) (F0 m pc ls rest) := by
  intro T hT X
  have htr : e.platform.stackTraces = false := (show e.platform.stackTraces = l.stackTraces by rw [X.admits.platform]).trans hl
  have Y := vx_rebase X (R' := { frames := R.frames, locals := R.locals, cells := 1, slots := 6 }) (Nat.le_refl _) (Nat.le_refl _) hRcells hRslots
  obtain ⟨s', hA⟩ : ∃ z, z = (T.setVm s.vm).setFrames (.invoking m args :: below) := ⟨_, rfl⟩
  rw [← hA] at Y
  have hvm : s'.vm = s.vm := by rw [hA]; rfl
  have hhp : s'.heap = H := by rw [hA]; exact hT
  have hW0 : s.WarmedH s'.vm := by rw [hvm]; exact State.WarmedH.refl s
  have hat' : ∀ w ∈ vx_atS own ic cls names, w.before args s' = true := fun w hw => vx_ot_at hW0 hvm.symm (hgood w (List.mem_cons_of_mem _ (List.mem_cons_of_mem _ hw))) (hat w hw)
  have hk' : (Cond.classLink own ik cls).before args s' = true := vx_ot_at hW0 hvm.symm (hgood _ List.mem_cons_self) hk
  have hini' : (Cond.initialized cls).before args s' = true := vx_ot_at hW0 hvm.symm (hgood _ (List.mem_cons_of_mem _ List.mem_cons_self)) hini
  have hU' : vx_Zq Bundle.tN "UNASSIGNED_STACK" Bundle.steD A s' s'.heap := by rw [hhp]; exact vx_Zq.moved hW0.alike (hU.kept hS.2.1)
  have hN' : vx_Zq Bundle.tN "SUPPRESSED_SENTINEL" Bundle.listD A s' s'.heap := by rw [hhp]; exact vx_Zq.moved hW0.alike (hN.kept hS.2.1)
  have h : ∀ w ∈ Bundle.ownAtoms own ic cls names, w.before args s' = true := vx_own hat' (vx_isRefq hU'.1) (vx_isRefq hN'.1) hU'.2.word hN'.2.word
  have hown' : s'.vm.findClass own = some m.cls := by rw [hvm]; exact hown
  have hins : (Cond.instantiable cls 6).before args s' = true := h _ (by simp [Bundle.ownAtoms])
  obtain ⟨vm₁, cX, kX, hfX, hkX, -, -, X₁, st1⟩ := Y.newCold hexec (own := own) (C := cls) (index := ik) (n := 6) hown' hk' hins hini'
    (g := F0 m pc ls rest) rfl (by rw [hb]; exact d0) (Nat.le_refl _) (Nat.le_refl _)
  generalize hT1 : (T.setVm vm₁).pushCell { cls := cX, slots := kX.instanceTypes.map defaultValue, vm := .none } = T1 at X₁ st1
  have hcat : (Value.ref T.heap.size).category = 1 := rfl
  have hcellA : T1.heap[T.heap.size]? = some (freshCell cX kX) := by rw [← hT1]; exact State.heap_pushCell_size _ _
  have d3' : decode c.code (pc + 3) = .ok (.dup, 1) := by rw [hb]; exact d3
  have d4' : decode c.code (pc + 4) = .ok (.ldc_w is, 3) := by rw [hb]; exact d4
  have hstr' : vk_R own is text sa s' := vk_R.warm hW0 hstr
  obtain ⟨U, hsteps, hrun, hend, hW, hsame, ce, hce, hO⟩ := X₁.ctorThrowS hexec htr (own := own) (cls := cls) (names := names) (ic := ic) hown' hcls hnames h (fun x hx => nomatch hx) hfX hkX hcellA (by rw [hhp, hT]; exact Nat.le_refl _) (msg := .ref sa) rfl
    (g := { method := m, pc := pc + 7, locals := ls, stack := .ref sa :: .ref T.heap.size :: .ref T.heap.size :: rest, locked := none }) rfl hsize rfl rfl (rest := rest) rfl
    (by rw [hb]; exact d7) (by rw [hb]; exact d10) hout hRframes (by simp only [List.map_cons, List.sum_cons, hcat]; omega) hlocks
  obtain ⟨f1, f2⟩ := vx_frame hsame
  rw [hhp] at f1 f2
  have hWs : s.WarmedH U.vm := State.WarmedH.trans hW0 hW
  have hcl : s.vm.findClass cls = some ce.cls := by
    have h9 := hO.cls
    rw [hvm] at h9
    exact h9
  have hall : s.sameButNew ({ U with vm := s.vm } : State) locs mc ms := by
    subst hA
    obtain ⟨e1, e2⟩ := hsame
    rw [State.setFrames_setFrames] at e1
    have h2 : (T.setVm s.vm).sameButNew ({ U with vm := s.vm } : State) [] (0 + 1) (0 + 6) := ⟨e1, e2⟩
    have h3 := X.same.trans h2
    rw [List.append_nil] at h3
    exact h3.mono hc hs
  refine ⟨U, ?_, .threw T.heap.size, hrun, hend, Or.inr ⟨T.heap.size, rfl, cls, ce, locs, hx U hWs.alike f1 (fun q hq => f2 q hq (fun z hz => nomatch hz)), hce, hO.vm, hcl, hWs, hall, hf⟩⟩
  refine st1 _ ?_
  show Steps p.tables e below (T1.setTop { method := m, pc := pc + 3, locals := ls, stack := .ref T.heap.size :: rest, locked := none }) _
  jvm_step X₁.here [X₁.here.top, hexec, d3', Value.category]
  exact X₁.ldcStringW hexec (own := own) (text := text) (index := is) (a := sa) hown' hstr'.1 hstr'.2
    (g := { method := m, pc := pc + 4, locals := ls, stack := .ref T.heap.size :: .ref T.heap.size :: rest, locked := none }) rfl d4' _ hsteps
end Ends
section Bodies
variable {l : Launch}
theorem vx_ofW {y : MethodName} {ws ws' : List Cond} {rm : Room} {Pc : Array Value → State → Prop} {Qc : Array Value → State → Outcome → State → Prop} {XC : String → State → State → Prop} {mc ms : Nat} {free : Addr → Prop} {cc : ByteArray} {maxL : Nat} {ret : Option FieldType}
    (hy : plainName y.cls = true) (hw : ws = Cond.code y cc maxL ret :: ws')
    (body : ∀ p e s m args below meth c s₁, BodyLoose p l y (headSpec ws rm) cc maxL ret e s m args below meth c s₁ → c.maxLocals = maxL → (∀ x ∈ c.exceptionTable.toList, False) → Pc args s →
      W p l e (headSpec ws rm).room s m args below meth c s.heap [] 0 0 (vx_MQ below Qc XC args s mc ms free) (entryFrame m args maxL)) : vx_Met l y ws rm Pc Qc XC mc ms free := by
  refine MetFree.of_bodyS (code := cc) (maxLocals := maxL) (ret := ret) hy ?_ ?_
  · intro args s m h hn
    obtain ⟨meth, c, h1, h2, h3, h4, h5, h6, -, -⟩ := Cond.code_spec hn (atoms_spec (ws := ws) h _ (by rw [hw]; exact List.mem_cons_self))
    exact ⟨meth, c, h1, h2, h3, h4, h5, h6⟩
  · intro p e s m args below meth c s₁ B hml hP _
    have hh0 : s₁.heap = s.heap := by rw [B.state]; rfl
    have ht : ∀ x ∈ c.exceptionTable.toList, False := by
      obtain ⟨meth9, c9, h1, h2, -, -, -, -, h7, -⟩ := Cond.code_spec B.named (atoms_spec (ws := ws) B.pre _ (by rw [hw]; exact List.mem_cons_self))
      cases Option.some.inj (h1.symm.trans B.method)
      cases Option.some.inj (h2.symm.trans (Stand.of_body B).code)
      intro x hx
      rw [Array.isEmpty_iff.mp h7] at hx
      cases hx
    obtain ⟨t, a1, o, b1, b2, b3⟩ := body p e s m args below meth c s₁ B hml ht hP s₁ hh0 (Stand.of_body B)
    exact ⟨t, o, a1, b1, b2, b3⟩
/-- the table of a body with handlers -/
theorem vx_table {p : Program} {x y : MethodName} {S : Spec} {cc bytes : ByteArray} {maxL maxL' : Nat} {ret ret' : Option FieldType} {e : Env} {s s₁ : State} {m : MethodId} {args : Array Value} {below : List Frame} {meth : Method} {c : Code} {hh : List (Nat × Nat × Nat × Nat)}
    (B : BodyLoose p l y S cc maxL ret e s m args below meth c s₁) (h : (Cond.codeWith y bytes maxL' ret' hh).before args s = true) : c.exceptionTable.toList = tableOf hh := by
  obtain ⟨m9, meth9, c9, hn9, h1, h2, -, -, h6, -⟩ := Cond.codeWith_spec h
  cases Option.some.inj (hn9.symm.trans B.named)
  cases Option.some.inj (h1.symm.trans B.method)
  cases Option.some.inj (h2.symm.trans (Stand.of_body B).code)
  rw [← h6, table_eq]
end Bodies
end VXA
/-! ===== END ===== -/
/-! ===== BEGIN a static call of a method with an exception table ===== -/
section VXS
variable {p : Program} {l : Launch} {e : Env} {R : Room} {s : State} {m : MethodId} {args : Array Value} {below : List Frame} {meth : Method} {c : Code} {T : State} {H : Heap} {locs : List Loc} {cells slots : Nat}
abbrev vx_CSW (R : Room) (s : State) (args : Array Value) (own : String) (index : Nat) (y : MethodName) (bytes : ByteArray) (maxL : Nat) (ret : Option FieldType) (hh : List (Nat × Nat × Nat × Nat)) (ws : List Cond) (rm : Room) (mc ms n : Nat) : Prop :=
  (rm.cells = mc ∧ rm.slots = ms ∧ rm.frames + 1 ≤ R.frames ∧ 8 + (maxL + 11) + rm.locals ≤ R.locals ∧ (∀ w ∈ ws, ∀ (a' : Array Value) (U : State), s.WarmedH U.vm → w.before a' U = true) ∧ Cond.codeWith y bytes maxL ret hh ∈ ws) ∧
  (Cond.codeWith y bytes maxL ret hh).before args s = true ∧ (Cond.initialized y.cls).before args s = true ∧ (y.cls ≠ "java/lang/invoke/MethodHandle" ∧ y.cls ≠ "java/lang/invoke/VarHandle") ∧
  (∀ sig, parseMethodDescriptor y.desc = some sig → n = sig.parameters.length) ∧ (Cond.methodLink own index y).before args s = true ∧ (Cond.static y).before args s = true
theorem vx_cwSW {own : String} {index maxL mc ms : Nat} {y : MethodName} {bytes : ByteArray} {ret : Option FieldType} {hh : List (Nat × Nat × Nat × Nat)} {Ts ws ws' : List Cond} {rm : Room} (n : Nat) (ht : ∀ w ∈ Ts, w.before args s = true) (hT : GoodIn Ts (va_wsS own index y ws)) (hw : ws = Cond.codeWith y bytes maxL ret hh :: ws') (hrc : rm.cells = mc) (hrs : rm.slots = ms)
    (hd : y.cls ≠ "java/lang/invoke/MethodHandle" ∧ y.cls ≠ "java/lang/invoke/VarHandle" ∧ (parseMethodDescriptor y.desc).map (fun d => d.parameters.length) = some n) (hR : rm.frames + 1 ≤ R.frames ∧ 8 + (maxL + 11) + rm.locals ≤ R.locals) :
    vx_CSW R s args own index y bytes maxL ret hh ws rm mc ms n := by
  have ok : ∀ w ∈ va_wsS own index y ws, w.before args s = true := fun w h => ht w (hT w h).1
  have hG : GoodIn Ts ws := fun w h => hT w (by unfold va_wsS; exact List.mem_append_right _ h)
  have hc : Cond.codeWith y bytes maxL ret hh ∈ ws := by rw [hw]; exact List.mem_cons_self
  refine ⟨⟨hrc, hrs, hR.1, hR.2, pay_in ht hG, hc⟩, ht _ (hG _ hc).1, ok _ (by simp [va_wsS]), ⟨hd.1, hd.2.1⟩, fun sig h => ?_, ok _ (by simp [va_wsS]), ok _ (by simp [va_wsS])⟩
  have h2 := hd.2.2
  rw [h] at h2
  exact (Option.some.inj h2).symm
theorem vx_callSW (X : Stand p l e R s m args below meth c T locs cells slots) (hexec : p.tables.exec = Jvm.exec) {own : String} {index : Nat} {y : MethodName} {bytes : ByteArray} {maxL : Nat} {ret : Option FieldType} {hh : List (Nat × Nat × Nat × Nat)}
    (hown : s.vm.findClass own = some m.cls) (hlink : (Cond.methodLink own index y).before args s = true) (hstat : (Cond.static y).before args s = true) (hinit : (Cond.initialized y.cls).before args s = true)
    (hcode : (Cond.codeWith y bytes maxL ret hh).before args s = true) (hy : y.cls ≠ "java/lang/invoke/MethodHandle" ∧ y.cls ≠ "java/lang/invoke/VarHandle")
    {W9 : Nat} {Pre : Pt → Array Value → Prop} {Post : Pt → Array Value → Option Value → Pt → Prop} (hK : Back l R p e below s args y 3 W9 Pre Post)
    {g : JFrame} (hg : g.method = m) (hsize : g.locals.size = c.maxLocals) {argsL rest : List Value} (hlen : ∀ sig, parseMethodDescriptor y.desc = some sig → argsL.length = sig.parameters.length)
    (hstack : g.stack = argsL.reverse ++ rest) (hW : 2 * g.monitorRoom + (rest.map fun v => v.category).sum ≤ W9) (hdg : decode c.code g.pc = .ok (.invokestatic index, 3))
    (hpre : ∀ vm₁, s.WarmedH vm₁ → Pre ⟨T.setVm vm₁, locs, cells, slots⟩ argsL.toArray) :
    ∃ (v : Option Value) (vm₁ : Vm) (B : Pt), s.WarmedH vm₁ ∧ Stand p l e R s m args below meth c B.U B.locs B.cells B.slots ∧ Post ⟨T.setVm vm₁, locs, cells, slots⟩ argsL.toArray v B ∧
      ∀ target, Steps p.tables e below (B.U.setTop { g with pc := g.pc + 3, stack := v.toList ++ rest }) target → Steps p.tables e below (T.setTop g) target := by
  obtain ⟨mk, methM, cM, hnamed, hmethM, -, -, -, -, -, -, hsigM⟩ := Cond.codeWith_spec hcode
  have hstatic : methM.isStatic = true := Cond.static_spec hnamed hmethM hstat
  obtain ⟨kP, hkP, -⟩ := className_of_methodNamed hnamed
  have hinitP : kP.init = .initialized := Cond.initialized_spec (findClass_of_methodNamed hnamed) hkP hinit
  obtain ⟨vm₁, X₁, hstep₁⟩ := X.invokestatic hexec hown hlink hnamed hmethM hstatic hkP hinitP hy (g := g) hg (argsL := argsL) (rest := rest) (hlen _ hsigM) hstack hdg
  obtain ⟨v, B, X', hpost, hsteps⟩ := hK m meth c ⟨T.setVm vm₁, locs, cells, slots⟩ { g with stack := rest } (.invokestatic index) mk argsL.toArray X₁ hg hsize hdg hW (X₁.named hnamed) (hpre vm₁ X₁.warmed)
  exact ⟨v, vm₁, B, X₁.warmed, X', hpost, fun target h => hstep₁ _ fun acts => by rw [doInvoke_state]; exact hsteps.trans h⟩
theorem vx_runSW {y : MethodName} {bytes cc : ByteArray} {maxL nL mc ms n index : Nat} {ret : Option FieldType} {hh : List (Nat × Nat × Nat × Nat)} {ws : List Cond} {rm : Room} {Pc : Array Value → State → Prop} {Qc : Array Value → State → Outcome → State → Prop} {free : Addr → Prop} {Ts : List Cond} {own : String} {As rest : List Value} {g : JFrame}
    (S : CallFix p m c cc nL s args Ts own) (hM : Met l y ws rm Pc Qc mc ms free) (cw : vx_CSW R s args own index y bytes maxL ret hh ws rm mc ms n) (hp : PreS s H Pc As)
    (hg : g.method = m) (hn : As.length = n) (hsize : g.locals.size = nL) (hstack : g.stack = As.reverse ++ rest) (hW : 2 * g.monitorRoom + (rest.map fun v => v.category).sum ≤ 8) (hdg : decode cc g.pc = .ok (.invokestatic index, 3)) (hf : cells + mc ≤ R.cells ∧ slots + ms ≤ R.slots) :
    va_Run p l e R s m args below meth c H locs cells slots mc ms g rest (Qc As.toArray) (free) := by
  obtain ⟨⟨hrc, hrs, hfr, hlo, hws, hcw⟩, hcode, hini, hy, hlen, hl, hstt⟩ := cw
  have hK : Back l R p e below s args y 3 8 (PreOf R mc ms Pc) (PostOf Qc mc ms free) := va_backW (hh := hh) (bytes := bytes) (maxL := maxL) (ret := ret) hM hp.1 hrc hrs hfr hlo hws hcw (fun a' U hW => word_at hW (Or.inl (by first | rfl | simp [Cond.onTables, Cond.keeps, Cond.steady])) hini)
  obtain ⟨hx, hb, hml, ho, -⟩ := S
  intro T hT X
  obtain ⟨v, vm₁, ⟨U', l2, c2, s2⟩, hW₁, X', ⟨g', mk, t, L, e1, e2, hq, h1, hL, h2, h3⟩, st⟩ := vx_callSW X hx (hh := hh) (bytes := bytes) (maxL := maxL) (ret := ret) ho hl hstt hini hcode hy hK hg (hsize.trans hml.symm) (argsL := As) (rest := rest) (fun sig h => hn.trans (hlen sig h)) hstack hW (by rw [hb]; exact hdg)
    (fun vm₁ hW₁ => ⟨hf.1, hf.2, hp.2 (T.setVm vm₁) hT hW₁⟩)
  dsimp only [Pt.U, Pt.locs, Pt.cells, Pt.slots] at X' e1 e2 h1 h2 h3 st
  subst h1; subst h2; subst h3
  exact ⟨v, (T.setVm vm₁).calling g' mk As.toArray, t, U', L, hT, X', hL, e1, e2, hq, st⟩
/-- not caught here, past rows that name other classes: it goes on to the caller -/
theorem vx_outP {p : Program} {l : Launch} {e : Env} {R : Room} {s : State} {m : MethodId} {args : Array Value} {below : List Frame} {meth : Method} {c : Code} {H : Heap} {locs : List Loc} {cells slots : Nat} {free : Addr → Prop} {ls : Array Slot} {rest : List Value} {Qc : Array Value → State → Outcome → State → Prop} {XC : String → State → State → Prop}
    {pc : Nat} {own E : String} {ce : Cell} {q : Addr} {mc ms : Nat} (hown : s.vm.findClass own = some m.cls) (hlocks : meth.locks = false)
    (hpass : ∀ z ∈ c.exceptionTable.toList, covers z pc = false ∨ (z.catchType ≠ 0 ∧ ∃ nm : String, (Cond.classLink own z.catchType nm).before args s = true ∧ va_Nc E nm s)) (hcell : H[q]? = some ce) (hv : ce.vm = .none) (hcl : s.vm.findClass E = some ce.cls)
    (hx : ∀ t : State, t.heap = H → s.vm.Alike t.vm → XC E s t) (hf : ∀ z ∈ locs, free z.base) (hc : cells ≤ mc) (hs : slots ≤ ms) :
    vx_W p l e R s m args below meth c H locs cells slots (vx_MQ below Qc XC args s mc ms free) (F0 m pc ls rest) q := by
  intro T hT X
  have hpl : e.platform.magicAccessors = ({} : Platform).magicAccessors := by rw [X.admits.platform]
  obtain ⟨vm', hW', X', st⟩ := X.outThrough hlocks q (g := F0 m pc ls rest) rfl rfl rfl (cell := ce) (by rw [hT]; exact hcell) (by rw [hv]; rfl)
    (by obtain ⟨k9, h9, -⟩ := Vm.findClass_spec hcl; exact ⟨k9, h9⟩) (fun z hz => by
      rcases hpass z hz with h | ⟨hz0, nm, hl1, hn1⟩
      · exact Or.inl h
      · obtain ⟨c6, hc6, hcl6⟩ := Cond.classLink_spec hown hl1 e.platform hpl
        obtain ⟨a8, b8, h1, h2, h3⟩ := hn1
        cases Option.some.inj (h1.symm.trans hcl)
        cases Option.some.inj (h2.symm.trans hc6)
        exact Or.inr ⟨hz0, _, hcl6, h3⟩)
  obtain ⟨g₀, hfr⟩ := X'.frames_eq
  have hcell9 : ((T.setVm vm').setFrames (.throwing q :: below)).heap[q]? = some ce := by
    show T.heap[q]? = some ce
    rw [hT]; exact hcell
  have hend : Ended ((T.setVm vm').setFrames (.throwing q :: below)) below (.threw q) := State.frames_setFrames _ (State.cur_lt_of_frames hfr)
  refine ⟨(T.setVm vm').setFrames (.throwing q :: below), ?_, .threw q, X'.here.running, hend, Or.inr ⟨q, rfl, E, ce, locs, hx _ hT (X'.ends _).1.alike, hcell9, hv, hcl, (X'.ends _).1, (X'.ends _).2.mono hc hs, hf⟩⟩
  rw [X.pushThrowing_eq]
  exact st
/-- a thing of a world lies in the heap -/
theorem vx_lt {D : va_G} {cl : List vw_C} {ws : va_W} {H1 : Heap} (h : va_P D cl ws H1) {k : Nat} {q : Nat × va_E} (hk : ws[k]? = some q) : q.1 < H1.size := (h k q hk).lt
end VXS
/-! ===== END ===== -/
/-! ===== BEGIN methods with a table of their own: called by a name, returning or throwing ===== -/
section VXH
/-! vx_backW, vx_callVX, vx_callSX, vx_callVW, vx_runVW, vx_runVX, vx_runSX, vx_ofWH follow the same proofs as their sisters above (Free/Laws.lean, Shelf42/LK1.lean); vx_outP calls Shelf42/NT130.lean (outThrough). -/
section
variable {l : Launch} {R : Room} {p : Program} {e : Env} {below : List Frame} {s : State} {sargs : Array Value} {y : MethodName} {len W9 : Nat}
theorem vx_backW {ws : List Cond} {rm : Room} {Pc : Array Value → State → Prop} {Qc : Array Value → State → Outcome → State → Prop} {XC : String → State → State → Prop} {mc ms : Nat} {free : Addr → Prop} {bytes : ByteArray} {maxL : Nat} {ret : Option FieldType} {hh : List (Nat × Nat × Nat × Nat)}
    (hM : vx_Met l y ws rm Pc Qc XC mc ms free) (hblind : FrameBlind Pc) (hrc : rm.cells = mc) (hrs : rm.slots = ms)
    (hframes : rm.frames + 1 ≤ R.frames) (hlocals : W9 + (maxL + 11) + rm.locals ≤ R.locals)
    (hws : ∀ w ∈ ws, ∀ a' U, s.WarmedH U.vm → w.before a' U = true) (hcode : Cond.codeWith y bytes maxL ret hh ∈ ws) (hinit : ∀ a' U, s.WarmedH U.vm → (Cond.initialized y.cls).before a' U = true) :
    vx_Back l R p e below s sargs y len W9 (PreOf R mc ms Pc) (PostOf Qc mc ms free) (vx_Post XC mc ms free) := by
  intro m meth c A g ig mk a X hg hsize hdg hW hn hp
  have h1 : (headSpec ws rm).pre.before a A.U = true := atoms_intro fun w hw => hws w hw _ _ X.warmed
  have h2 : (Cond.codeWith y bytes maxL ret hh).before a A.U = true := hws _ hcode _ _ X.warmed
  have h3 : (Cond.initialized y.cls).before a A.U = true := hinit _ _ X.warmed
  have h4 : A.cells + (headSpec ws rm).room.cells ≤ R.cells := by rw [show (headSpec ws rm).room.cells = mc from hrc]; exact hp.1
  have h5 : A.slots + (headSpec ws rm).room.slots ≤ R.slots := by rw [show (headSpec ws rm).room.slots = ms from hrs]; exact hp.2.1
  have hPc : Pc a (A.U.calling g mk a) := hblind _ _ _ _ hp.2.2
  obtain ⟨U, Ls, c0, s0⟩ := A
  dsimp only [Pt.U, Pt.locs, Pt.cells, Pt.slots] at h1 h2 h3 h4 h5 X hn hPc ⊢
  obtain ⟨m9, methY, cY, hn9, hmY, hcY, -, hlY, -⟩ := Cond.codeWith_spec h2
  cases Option.some.inj (hn9.symm.trans hn)
  obtain ⟨kY, hkY, -⟩ := className_of_methodNamed hn
  have hinitY : kY.init = .initialized := Cond.initialized_spec (findClass_of_methodNamed hn) hkY h3
  have h : At U g.method c below := by rw [hg]; exact X.here
  have hlocals9 : W9 + (maxL + 11) + (headSpec ws rm).room.locals ≤ R.locals := hlocals
  have happ : (headSpec ws rm).appliesLoose y e.platform (U.calling g mk a) = true :=
    Spec.appliesLoose_calling (g := g) h hdg hn hkY hinitY
      (X.room_calling (g := g) (R' := (headSpec ws rm).room) hsize hmY hcY hframes (by rw [hlY]; omega) h4 h5) h1
  obtain ⟨mid, hmid⟩ := h.above
  have hfr : (U.setTop g).frames = (.java g :: mid) ++ below := by rw [State.frames_setTop' g h.top, hmid]; rfl
  obtain ⟨o, s₂, hsteps, -, hend, hq⟩ := Steps.callFree hM p X.admits X.cas X.clock (acts := []) hfr happ hPc trivial
  have hq' : vx_Q Qc XC mc ms free a (U.calling g mk a) o s₂ := hq
  rw [State.frames_setTop' g h.top] at hend
  obtain ⟨g₀, hg0⟩ := Option.isSome_iff_exists.mp h.top
  obtain ⟨r, hr⟩ := State.topJava?_eq_some.mp hg0
  have hr' : (({ U with heap := s₂.heap, slotsUsed := s₂.slotsUsed } : State).setVm s₂.vm).frames = .java g₀ :: r := hr
  rcases hq' with ⟨hqc, L, hfe, hL⟩ | ⟨q, rfl, E, ce, L, hx, hce, hcv, hcl, hW₂, hsm, hL⟩
  · obtain ⟨⟨v, rfl⟩, hW₂, e2, q2, q3, q4, q5, q6⟩ := id hfe
    have e3 : s₂ = ({ (U.calling g mk a).setFrames s₂.frames with heap := s₂.heap, slotsUsed := s₂.slotsUsed } : State).setVm s₂.vm := by
      have : s₂ = ({ s₂ with vm := (U.calling g mk a).vm } : State).setVm s₂.vm := rfl
      rw [e2] at this
      exact this
    obtain ⟨c₂, i₂, len₂, hc₂, hd₂, hf₂⟩ := hend
    have hW' : U.WarmedH s₂.vm := hW₂
    have hcc : c₂ = c := by
      have h1 : s₂.code? g.method = U.code? g.method := by
        rw [State.code?_eq, State.code?_eq, hW'.alike.method?]
      exact Option.some.inj (hc₂.symm.trans (h1.trans h.code))
    subst hcc
    have hlen : len₂ = len := by rw [hdg] at hd₂; cases hd₂; rfl
    subst hlen
    have hs₂ : s₂ = (({ U with heap := s₂.heap, slotsUsed := s₂.slotsUsed } : State).setVm s₂.vm).setTop { g with pc := g.pc + len₂, stack := v.toList ++ g.stack } := by
      refine e3.trans ?_
      rw [hf₂, State.calling_eq h.top, State.setFrames_setFrames, State.setTop_of_frames _ hr', hr]
      rfl
    have hsame : U.sameButNew ({ U with heap := s₂.heap, slotsUsed := s₂.slotsUsed } : State) L mc ms := by
      refine ⟨?_, q2, q3, q4, q5, q6⟩
      obtain ⟨t, ht, -⟩ := State.frames_cons hr
      show ({ U with heap := s₂.heap, slotsUsed := s₂.slotsUsed } : State) = { U.setFrames U.frames with heap := s₂.heap, slotsUsed := s₂.slotsUsed }
      rw [State.setFrames_self ht]
    subst hg
    refine Or.inl ⟨v, ⟨(({ U with heap := s₂.heap, slotsUsed := s₂.slotsUsed } : State).setVm s₂.vm), Ls ++ L, c0 + mc, s0 + ms⟩,
      ⟨X.admits, X.cas, X.clock, X.frames, X.room, X.hears, X.method, X.code, (X.here.setHeapUsed s₂.heap s₂.slotsUsed).setVm hW'.alike, X.tail, State.WarmedH.trans X.warmed hW', X.limits, X.bytes, X.same.trans (hsame.setVm s.vm)⟩,
      ⟨g, mk, s₂, L, rfl, rfl, hqc, rfl, hL, rfl, rfl⟩, ?_⟩
    show Steps p.tables e below _ ((({ U with heap := s₂.heap, slotsUsed := s₂.slotsUsed } : State).setVm s₂.vm).setTop { g with pc := g.pc + len₂, stack := v.toList ++ g.stack })
    rw [← hs₂]
    exact hsteps
  · obtain ⟨e2, q2, q3, q4, q5, q6⟩ := id hsm
    have e3 : s₂ = ({ (U.calling g mk a).setFrames s₂.frames with heap := s₂.heap, slotsUsed := s₂.slotsUsed } : State).setVm s₂.vm := by
      have : s₂ = ({ s₂ with vm := (U.calling g mk a).vm } : State).setVm s₂.vm := rfl
      rw [e2] at this
      exact this
    have hf₂ : s₂.frames = .throwing q :: .java g :: U.frames.tail := hend
    have hW' : U.WarmedH s₂.vm := hW₂
    have hs₂ : s₂ = ((({ U with heap := s₂.heap, slotsUsed := s₂.slotsUsed } : State).setVm s₂.vm).setTop g).pushFrame (.throwing q) := by
      refine e3.trans ?_
      rw [hf₂, State.calling_eq h.top, State.setFrames_setFrames, State.pushFrame, State.frames_setTop _ hr', State.setTop_of_frames _ hr', State.setFrames_setFrames, hr]
      rfl
    have hsame : U.sameButNew ({ U with heap := s₂.heap, slotsUsed := s₂.slotsUsed } : State) L mc ms := by
      refine ⟨?_, q2, q3, q4, q5, q6⟩
      obtain ⟨t, ht, -⟩ := State.frames_cons hr
      show ({ U with heap := s₂.heap, slotsUsed := s₂.slotsUsed } : State) = { U.setFrames U.frames with heap := s₂.heap, slotsUsed := s₂.slotsUsed }
      rw [State.setFrames_self ht]
    subst hg
    refine Or.inr ⟨q, ⟨(({ U with heap := s₂.heap, slotsUsed := s₂.slotsUsed } : State).setVm s₂.vm), Ls ++ L, c0 + mc, s0 + ms⟩,
      ⟨X.admits, X.cas, X.clock, X.frames, X.room, X.hears, X.method, X.code, (X.here.setHeapUsed s₂.heap s₂.slotsUsed).setVm hW'.alike, X.tail, State.WarmedH.trans X.warmed hW', X.limits, X.bytes, X.same.trans (hsame.setVm s.vm)⟩,
      ⟨g, mk, s₂, L, E, ce, rfl, rfl, hx, hce, hcv, hcl, rfl, hL, rfl, rfl⟩, ?_⟩
    show Steps p.tables e below _ (((({ U with heap := s₂.heap, slotsUsed := s₂.slotsUsed } : State).setVm s₂.vm).setTop g).pushFrame (.throwing q))
    rw [← hs₂]
    exact hsteps
end
variable {p : Program} {l : Launch} {e : Env} {R : Room} {s : State} {m : MethodId} {args : Array Value} {below : List Frame} {meth : Method} {c : Code} {T : State} {H : Heap} {locs : List Loc} {cells slots : Nat}
theorem vx_callVX (X : Stand p l e R s m args below meth c T locs cells slots) (hexec : p.tables.exec = Jvm.exec) {own C : String} {index : Nat} {y : MethodName} {bytes : ByteArray} {maxL : Nat} {ret : Option FieldType} {hh : List (Nat × Nat × Nat × Nat)}
    (hown : s.vm.findClass own = some m.cls) (hlink : (Cond.methodLink own index y).before args s = true) (hinst : (Cond.instanceMethod y).before args s = true) (hsel : (Cond.selects C y y).before args s = true)
    (hcode : (Cond.codeWith y bytes maxL ret hh).before args s = true) (hy : y.cls ≠ "java/lang/invoke/MethodHandle" ∧ y.cls ≠ "java/lang/invoke/VarHandle")
    {W9 : Nat} {Pre : Pt → Array Value → Prop} {Post : Pt → Array Value → Option Value → Pt → Prop} {PostX : Pt → Array Value → Addr → Pt → Prop} (hK : vx_Back l R p e below s args y 3 W9 Pre Post PostX)
    {b : Addr} {cellB : Cell} (hcell : T.heap[b]? = some cellB) (hobj : cellB.vm.isStatics = false) (hcls : s.vm.findClass C = some cellB.cls)
    {g : JFrame} (hg : g.method = m) (hsize : g.locals.size = c.maxLocals) {argsL rest : List Value} (hlen : ∀ sig, parseMethodDescriptor y.desc = some sig → argsL.length = sig.parameters.length)
    (hstack : g.stack = argsL.reverse ++ .ref b :: rest) (hW : 2 * g.monitorRoom + (rest.map fun v => v.category).sum ≤ W9) (hdg : decode c.code g.pc = .ok (.invokevirtual index, 3))
    (hpre : ∀ vm₁, s.WarmedH vm₁ → Pre ⟨T.setVm vm₁, locs, cells, slots⟩ (Value.ref b :: argsL).toArray) :
    (∃ (v : Option Value) (vm₁ : Vm) (B : Pt), s.WarmedH vm₁ ∧ Stand p l e R s m args below meth c B.U B.locs B.cells B.slots ∧ Post ⟨T.setVm vm₁, locs, cells, slots⟩ (Value.ref b :: argsL).toArray v B ∧
      ∀ target, Steps p.tables e below (B.U.setTop { g with pc := g.pc + 3, stack := v.toList ++ rest }) target → Steps p.tables e below (T.setTop g) target) ∨
    (∃ (q : Addr) (vm₁ : Vm) (B : Pt), s.WarmedH vm₁ ∧ Stand p l e R s m args below meth c B.U B.locs B.cells B.slots ∧ PostX ⟨T.setVm vm₁, locs, cells, slots⟩ (Value.ref b :: argsL).toArray q B ∧
      Steps p.tables e below (T.setTop g) ((B.U.setTop { g with stack := rest }).pushFrame (.throwing q))) := by
  obtain ⟨mk, methM, hnamed, hmethM, hstM, habM⟩ := Cond.instanceMethod_spec hinst
  obtain ⟨m8, methM', cM, hn8, hmethM', -, -, -, -, -, -, hsigM⟩ := Cond.codeWith_spec hcode
  cases Option.some.inj (hn8.symm.trans hnamed)
  cases hmethM.symm.trans hmethM'
  obtain ⟨c2, r2, m2, q1, q2, q3, q4, kP, hkP, hkPi⟩ := Cond.selects_spec hsel
  cases hcls.symm.trans q1
  cases (State.methodFound?_of_named hnamed hy).symm.trans q2
  cases hnamed.symm.trans q3
  have hselP : selectMethod e.platform s.vm cellB.cls mk = .method mk := by rw [Launch.admits_selectMethod X.admits]; exact q4
  obtain ⟨vm₁, X₁, hstep₁⟩ := X.invokevirtual hexec hown hlink hnamed hmethM hstM hkP hkPi hy (a := b) (cell := cellB) hcell
    (fun z h => by rw [h] at hobj; cases hobj) hselP hmethM habM hkP hkPi (g := g) hg (argsL := argsL) (rest := rest) (hlen _ hsigM) hstack hdg
  rcases hK m meth c ⟨T.setVm vm₁, locs, cells, slots⟩ { g with stack := rest } (.invokevirtual index) mk (Value.ref b :: argsL).toArray X₁ hg hsize hdg hW (X₁.named hnamed) (hpre vm₁ X₁.warmed) with ⟨v, B, X', hpost, hsteps⟩ | ⟨q, B, X', hpost, hsteps⟩
  · exact Or.inl ⟨v, vm₁, B, X₁.warmed, X', hpost, fun target h => hstep₁ _ fun acts => by rw [doInvoke_state]; exact hsteps.trans h⟩
  · exact Or.inr ⟨q, vm₁, B, X₁.warmed, X', hpost, hstep₁ _ fun acts => by rw [doInvoke_state]; exact hsteps⟩
theorem vx_callSX (X : Stand p l e R s m args below meth c T locs cells slots) (hexec : p.tables.exec = Jvm.exec) {own : String} {index : Nat} {y : MethodName} {bytes : ByteArray} {maxL : Nat} {ret : Option FieldType} {hh : List (Nat × Nat × Nat × Nat)}
    (hown : s.vm.findClass own = some m.cls) (hlink : (Cond.methodLink own index y).before args s = true) (hstat : (Cond.static y).before args s = true) (hinit : (Cond.initialized y.cls).before args s = true)
    (hcode : (Cond.codeWith y bytes maxL ret hh).before args s = true) (hy : y.cls ≠ "java/lang/invoke/MethodHandle" ∧ y.cls ≠ "java/lang/invoke/VarHandle")
    {W9 : Nat} {Pre : Pt → Array Value → Prop} {Post : Pt → Array Value → Option Value → Pt → Prop} {PostX : Pt → Array Value → Addr → Pt → Prop} (hK : vx_Back l R p e below s args y 3 W9 Pre Post PostX)
    {g : JFrame} (hg : g.method = m) (hsize : g.locals.size = c.maxLocals) {argsL rest : List Value} (hlen : ∀ sig, parseMethodDescriptor y.desc = some sig → argsL.length = sig.parameters.length)
    (hstack : g.stack = argsL.reverse ++ rest) (hW : 2 * g.monitorRoom + (rest.map fun v => v.category).sum ≤ W9) (hdg : decode c.code g.pc = .ok (.invokestatic index, 3))
    (hpre : ∀ vm₁, s.WarmedH vm₁ → Pre ⟨T.setVm vm₁, locs, cells, slots⟩ argsL.toArray) :
    (∃ (v : Option Value) (vm₁ : Vm) (B : Pt), s.WarmedH vm₁ ∧ Stand p l e R s m args below meth c B.U B.locs B.cells B.slots ∧ Post ⟨T.setVm vm₁, locs, cells, slots⟩ argsL.toArray v B ∧
      ∀ target, Steps p.tables e below (B.U.setTop { g with pc := g.pc + 3, stack := v.toList ++ rest }) target → Steps p.tables e below (T.setTop g) target) ∨
    (∃ (q : Addr) (vm₁ : Vm) (B : Pt), s.WarmedH vm₁ ∧ Stand p l e R s m args below meth c B.U B.locs B.cells B.slots ∧ PostX ⟨T.setVm vm₁, locs, cells, slots⟩ argsL.toArray q B ∧
      Steps p.tables e below (T.setTop g) ((B.U.setTop { g with stack := rest }).pushFrame (.throwing q))) := by
  obtain ⟨mk, methM, cM, hnamed, hmethM, -, -, -, -, -, -, hsigM⟩ := Cond.codeWith_spec hcode
  have hstatic : methM.isStatic = true := Cond.static_spec hnamed hmethM hstat
  obtain ⟨kP, hkP, -⟩ := className_of_methodNamed hnamed
  have hinitP : kP.init = .initialized := Cond.initialized_spec (findClass_of_methodNamed hnamed) hkP hinit
  obtain ⟨vm₁, X₁, hstep₁⟩ := X.invokestatic hexec hown hlink hnamed hmethM hstatic hkP hinitP hy (g := g) hg (argsL := argsL) (rest := rest) (hlen _ hsigM) hstack hdg
  rcases hK m meth c ⟨T.setVm vm₁, locs, cells, slots⟩ { g with stack := rest } (.invokestatic index) mk argsL.toArray X₁ hg hsize hdg hW (X₁.named hnamed) (hpre vm₁ X₁.warmed) with ⟨v, B, X', hpost, hsteps⟩ | ⟨q, B, X', hpost, hsteps⟩
  · exact Or.inl ⟨v, vm₁, B, X₁.warmed, X', hpost, fun target h => hstep₁ _ fun acts => by rw [doInvoke_state]; exact hsteps.trans h⟩
  · exact Or.inr ⟨q, vm₁, B, X₁.warmed, X', hpost, hstep₁ _ fun acts => by rw [doInvoke_state]; exact hsteps⟩
theorem vx_callVW (X : Stand p l e R s m args below meth c T locs cells slots) (hexec : p.tables.exec = Jvm.exec) {own C : String} {index : Nat} {y : MethodName} {bytes : ByteArray} {maxL : Nat} {ret : Option FieldType} {hh : List (Nat × Nat × Nat × Nat)}
    (hown : s.vm.findClass own = some m.cls) (hlink : (Cond.methodLink own index y).before args s = true) (hinst : (Cond.instanceMethod y).before args s = true) (hsel : (Cond.selects C y y).before args s = true)
    (hcode : (Cond.codeWith y bytes maxL ret hh).before args s = true) (hy : y.cls ≠ "java/lang/invoke/MethodHandle" ∧ y.cls ≠ "java/lang/invoke/VarHandle")
    {W9 : Nat} {Pre : Pt → Array Value → Prop} {Post : Pt → Array Value → Option Value → Pt → Prop} (hK : Back l R p e below s args y 3 W9 Pre Post)
    {b : Addr} {cellB : Cell} (hcell : T.heap[b]? = some cellB) (hobj : cellB.vm.isStatics = false) (hcls : s.vm.findClass C = some cellB.cls)
    {g : JFrame} (hg : g.method = m) (hsize : g.locals.size = c.maxLocals) {argsL rest : List Value} (hlen : ∀ sig, parseMethodDescriptor y.desc = some sig → argsL.length = sig.parameters.length)
    (hstack : g.stack = argsL.reverse ++ .ref b :: rest) (hW : 2 * g.monitorRoom + (rest.map fun v => v.category).sum ≤ W9) (hdg : decode c.code g.pc = .ok (.invokevirtual index, 3))
    (hpre : ∀ vm₁, s.WarmedH vm₁ → Pre ⟨T.setVm vm₁, locs, cells, slots⟩ (Value.ref b :: argsL).toArray) :
    ∃ (v : Option Value) (vm₁ : Vm) (B : Pt), s.WarmedH vm₁ ∧ Stand p l e R s m args below meth c B.U B.locs B.cells B.slots ∧ Post ⟨T.setVm vm₁, locs, cells, slots⟩ (Value.ref b :: argsL).toArray v B ∧
      ∀ target, Steps p.tables e below (B.U.setTop { g with pc := g.pc + 3, stack := v.toList ++ rest }) target → Steps p.tables e below (T.setTop g) target := by
  obtain ⟨mk, methM, hnamed, hmethM, hstM, habM⟩ := Cond.instanceMethod_spec hinst
  obtain ⟨m8, methM', cM, hn8, hmethM', -, -, -, -, -, -, hsigM⟩ := Cond.codeWith_spec hcode
  cases Option.some.inj (hn8.symm.trans hnamed)
  cases hmethM.symm.trans hmethM'
  obtain ⟨c2, r2, m2, q1, q2, q3, q4, kP, hkP, hkPi⟩ := Cond.selects_spec hsel
  cases hcls.symm.trans q1
  cases (State.methodFound?_of_named hnamed hy).symm.trans q2
  cases hnamed.symm.trans q3
  have hselP : selectMethod e.platform s.vm cellB.cls mk = .method mk := by rw [Launch.admits_selectMethod X.admits]; exact q4
  obtain ⟨vm₁, X₁, hstep₁⟩ := X.invokevirtual hexec hown hlink hnamed hmethM hstM hkP hkPi hy (a := b) (cell := cellB) hcell
    (fun z h => by rw [h] at hobj; cases hobj) hselP hmethM habM hkP hkPi (g := g) hg (argsL := argsL) (rest := rest) (hlen _ hsigM) hstack hdg
  obtain ⟨v, B, X', hpost, hsteps⟩ := hK m meth c ⟨T.setVm vm₁, locs, cells, slots⟩ { g with stack := rest } (.invokevirtual index) mk (Value.ref b :: argsL).toArray X₁ hg hsize hdg hW (X₁.named hnamed) (hpre vm₁ X₁.warmed)
  exact ⟨v, vm₁, B, X₁.warmed, X', hpost, fun target h => hstep₁ _ fun acts => by rw [doInvoke_state]; exact hsteps.trans h⟩
abbrev vx_CVW (R : Room) (s : State) (args : Array Value) (own C : String) (index : Nat) (y : MethodName) (bytes : ByteArray) (maxL : Nat) (ret : Option FieldType) (hh : List (Nat × Nat × Nat × Nat)) (ws : List Cond) (rm : Room) (mc ms n : Nat) : Prop :=
  (rm.cells = mc ∧ rm.slots = ms ∧ rm.frames + 1 ≤ R.frames ∧ 8 + (maxL + 11) + rm.locals ≤ R.locals ∧ (∀ w ∈ ws, ∀ (a' : Array Value) (U : State), s.WarmedH U.vm → w.before a' U = true) ∧ Cond.codeWith y bytes maxL ret hh ∈ ws) ∧
  (Cond.codeWith y bytes maxL ret hh).before args s = true ∧ (Cond.initialized y.cls).before args s = true ∧ (y.cls ≠ "java/lang/invoke/MethodHandle" ∧ y.cls ≠ "java/lang/invoke/VarHandle") ∧
  (∀ sig, parseMethodDescriptor y.desc = some sig → n = sig.parameters.length) ∧ (Cond.methodLink own index y).before args s = true ∧ (Cond.instanceMethod y).before args s = true ∧ (Cond.selects C y y).before args s = true
theorem vx_cwVW {own C : String} {index maxL mc ms : Nat} {y : MethodName} {bytes : ByteArray} {ret : Option FieldType} {hh : List (Nat × Nat × Nat × Nat)} {Ts ws ws' : List Cond} {rm : Room} (n : Nat) (ht : ∀ w ∈ Ts, w.before args s = true) (hT : GoodIn Ts (wsV own index C y ws)) (hw : ws = Cond.codeWith y bytes maxL ret hh :: ws') (hrc : rm.cells = mc) (hrs : rm.slots = ms)
    (hd : y.cls = C ∧ y.cls ≠ "java/lang/invoke/MethodHandle" ∧ y.cls ≠ "java/lang/invoke/VarHandle" ∧ (parseMethodDescriptor y.desc).map (fun d => d.parameters.length) = some n) (hR : rm.frames + 1 ≤ R.frames ∧ 8 + (maxL + 11) + rm.locals ≤ R.locals) :
    vx_CVW R s args own C index y bytes maxL ret hh ws rm mc ms n := by
  obtain ⟨hC, hd⟩ := hd
  subst hC
  have ok : ∀ w ∈ wsV own index y.cls y ws, w.before args s = true := fun w h => ht w (hT w h).1
  have hG : GoodIn Ts ws := fun w h => hT w (by unfold wsV; exact List.mem_append_right _ h)
  have hc : Cond.codeWith y bytes maxL ret hh ∈ ws := by rw [hw]; exact List.mem_cons_self
  refine ⟨⟨hrc, hrs, hR.1, hR.2, pay_in ht hG, hc⟩, ht _ (hG _ hc).1, ok _ (by simp [wsV]), ⟨hd.1, hd.2.1⟩, fun sig h => ?_, ok _ (by simp [wsV]), ok _ (by simp [wsV]), ok _ (by simp [wsV])⟩
  have h2 := hd.2.2
  rw [h] at h2
  exact (Option.some.inj h2).symm
theorem vx_runVW {y : MethodName} {bytes cc : ByteArray} {maxL nL mc ms n index : Nat} {ret : Option FieldType} {hh : List (Nat × Nat × Nat × Nat)} {ws : List Cond} {rm : Room} {Pc : Array Value → State → Prop} {Qc : Array Value → State → Outcome → State → Prop} {free : Addr → Prop} {Ts : List Cond} {own C : String} {b : Addr} {As rest : List Value} {g : JFrame}
    (S : CallFix p m c cc nL s args Ts own) (hM : Met l y ws rm Pc Qc mc ms free) (cw : vx_CVW R s args own C index y bytes maxL ret hh ws rm mc ms n) (hp : PreV s H C b Pc As)
    (hg : g.method = m) (hn : As.length = n) (hsize : g.locals.size = nL) (hstack : g.stack = As.reverse ++ .ref b :: rest) (hW : 2 * g.monitorRoom + (rest.map fun v => v.category).sum ≤ 8) (hdg : decode cc g.pc = .ok (.invokevirtual index, 3)) (hf : cells + mc ≤ R.cells ∧ slots + ms ≤ R.slots) :
    va_Run p l e R s m args below meth c H locs cells slots mc ms g rest (Qc (Value.ref b :: As).toArray) free := by
  obtain ⟨⟨hrc, hrs, hfr, hlo, hws, hcw⟩, hcode, hini, hy, hlen, hl, hin, hse⟩ := cw
  have hK : Back l R p e below s args y 3 8 (PreOf R mc ms Pc) (PostOf Qc mc ms free) := va_backW (hh := hh) (bytes := bytes) (maxL := maxL) (ret := ret) hM hp.1 hrc hrs hfr hlo hws hcw (fun a' U hW => word_at hW (Or.inl (by first | rfl | simp [Cond.onTables, Cond.keeps, Cond.steady])) hini)
  obtain ⟨hx, hb, hml, ho, -⟩ := S
  obtain ⟨-, ⟨cellB, hcB, hoB, hclB⟩, hPc⟩ := hp
  intro T hT X
  obtain ⟨v, vm₁, ⟨U', l2, c2, s2⟩, hW₁, X', ⟨g', mk, t, L, e1, e2, hq, h1, hL, h2, h3⟩, st⟩ := vx_callVW X hx (C := C) (hh := hh) (bytes := bytes) (maxL := maxL) (ret := ret) ho hl hin hse hcode hy hK (by rw [hT]; exact hcB) hoB hclB hg (hsize.trans hml.symm) (argsL := As) (rest := rest) (fun sig h => hn.trans (hlen sig h)) hstack hW (by rw [hb]; exact hdg)
    (fun vm₁ hW₁ => ⟨hf.1, hf.2, hPc (T.setVm vm₁) hT hW₁⟩)
  dsimp only [Pt.U, Pt.locs, Pt.cells, Pt.slots] at X' e1 e2 h1 h2 h3 st
  subst h1; subst h2; subst h3
  exact ⟨v, (T.setVm vm₁).calling g' mk (Value.ref b :: As).toArray, t, U', L, hT, X', hL, e1, e2, hq, st⟩
section
variable {y : MethodName} {bytes cc : ByteArray} {maxL nL mc ms n index : Nat} {ret : Option FieldType} {ws : List Cond} {rm : Room} {Pc : Array Value → State → Prop} {Qc : Array Value → State → Outcome → State → Prop} {XC : String → State → State → Prop} {free : Addr → Prop} {Ts : List Cond} {own C : String} {b : Addr} {As rest : List Value} {g : JFrame}
theorem vx_runVX {hh : List (Nat × Nat × Nat × Nat)} (S : CallFix p m c cc nL s args Ts own) (hM : vx_Met l y ws rm Pc Qc XC mc ms free) (cw : vx_CVW R s args own C index y bytes maxL ret hh ws rm mc ms n) (hp : PreV s H C b Pc As)
    (hg : g.method = m) (hn : As.length = n) (hsize : g.locals.size = nL) (hstack : g.stack = As.reverse ++ .ref b :: rest) (hW : 2 * g.monitorRoom + (rest.map fun v => v.category).sum ≤ 8) (hdg : decode cc g.pc = .ok (.invokevirtual index, 3)) (hf : cells + mc ≤ R.cells ∧ slots + ms ≤ R.slots) :
    vx_Run p l e R s m args below meth c H locs cells slots mc ms g rest (Qc (Value.ref b :: As).toArray) XC free := by
  obtain ⟨⟨hrc, hrs, hfr, hlo, hws, hcw⟩, hcode, hini, hy, hlen, hl, hin, hse⟩ := cw
  have hK : vx_Back l R p e below s args y 3 8 (PreOf R mc ms Pc) (PostOf Qc mc ms free) (vx_Post XC mc ms free) := vx_backW (hh := hh) (bytes := bytes) (maxL := maxL) (ret := ret) hM hp.1 hrc hrs hfr hlo hws hcw (fun a' U hW => word_at hW (Or.inl (by first | rfl | simp [Cond.onTables, Cond.keeps, Cond.steady])) hini)
  obtain ⟨hx, hb, hml, ho, -⟩ := S
  obtain ⟨-, ⟨cellB, hcB, hoB, hclB⟩, hPc⟩ := hp
  intro T hT X
  rcases vx_callVX X hx (C := C) (hh := hh) (bytes := bytes) (maxL := maxL) (ret := ret) ho hl hin hse hcode hy hK (by rw [hT]; exact hcB) hoB hclB hg (hsize.trans hml.symm) (argsL := As) (rest := rest) (fun sig h => hn.trans (hlen sig h)) hstack hW (by rw [hb]; exact hdg)
    (fun vm₁ hW₁ => ⟨hf.1, hf.2, hPc (T.setVm vm₁) hT hW₁⟩) with ⟨v, vm₁, ⟨U', l2, c2, s2⟩, hW₁, X', ⟨g', mk, t, L, e1, e2, hq, h1, hL, h2, h3⟩, st⟩ | ⟨q, vm₁, ⟨U', l2, c2, s2⟩, hW₁, X', ⟨g', mk, t, L, E, ce, e1, e2, hq, hce, hcv, hcl, h1, hL, h2, h3⟩, st⟩
  · dsimp only [Pt.U, Pt.locs, Pt.cells, Pt.slots] at X' e1 e2 h1 h2 h3 st
    subst h1; subst h2; subst h3
    exact Or.inl ⟨v, (T.setVm vm₁).calling g' mk (Value.ref b :: As).toArray, t, U', L, hT, X', hL, e1, e2, hq, st⟩
  · dsimp only [Pt.U, Pt.locs, Pt.cells, Pt.slots] at X' e1 e2 h1 h2 h3 st hcl
    subst h1; subst h2; subst h3
    exact Or.inr ⟨q, (T.setVm vm₁).calling g' mk (Value.ref b :: As).toArray, t, U', L, E, ce, hT, X', hL, e1, e2, hq, hce, hcv, vx_cls hW₁ hcl, st⟩
theorem vx_runSX {hh : List (Nat × Nat × Nat × Nat)} (S : CallFix p m c cc nL s args Ts own) (hM : vx_Met l y ws rm Pc Qc XC mc ms free) (cw : vx_CSW R s args own index y bytes maxL ret hh ws rm mc ms n) (hp : PreS s H Pc As)
    (hg : g.method = m) (hn : As.length = n) (hsize : g.locals.size = nL) (hstack : g.stack = As.reverse ++ rest) (hW : 2 * g.monitorRoom + (rest.map fun v => v.category).sum ≤ 8) (hdg : decode cc g.pc = .ok (.invokestatic index, 3)) (hf : cells + mc ≤ R.cells ∧ slots + ms ≤ R.slots) :
    vx_Run p l e R s m args below meth c H locs cells slots mc ms g rest (Qc As.toArray) XC free := by
  obtain ⟨⟨hrc, hrs, hfr, hlo, hws, hcw⟩, hcode, hini, hy, hlen, hl, hstt⟩ := cw
  have hK : vx_Back l R p e below s args y 3 8 (PreOf R mc ms Pc) (PostOf Qc mc ms free) (vx_Post XC mc ms free) := vx_backW (hh := hh) (bytes := bytes) (maxL := maxL) (ret := ret) hM hp.1 hrc hrs hfr hlo hws hcw (fun a' U hW => word_at hW (Or.inl (by first | rfl | simp [Cond.onTables, Cond.keeps, Cond.steady])) hini)
  obtain ⟨hx, hb, hml, ho, -⟩ := S
  intro T hT X
  rcases vx_callSX X hx (hh := hh) (bytes := bytes) (maxL := maxL) (ret := ret) ho hl hstt hini hcode hy hK hg (hsize.trans hml.symm) (argsL := As) (rest := rest) (fun sig h => hn.trans (hlen sig h)) hstack hW (by rw [hb]; exact hdg)
    (fun vm₁ hW₁ => ⟨hf.1, hf.2, hp.2 (T.setVm vm₁) hT hW₁⟩) with ⟨v, vm₁, ⟨U', l2, c2, s2⟩, hW₁, X', ⟨g', mk, t, L, e1, e2, hq, h1, hL, h2, h3⟩, st⟩ | ⟨q, vm₁, ⟨U', l2, c2, s2⟩, hW₁, X', ⟨g', mk, t, L, E, ce, e1, e2, hq, hce, hcv, hcl, h1, hL, h2, h3⟩, st⟩
  · dsimp only [Pt.U, Pt.locs, Pt.cells, Pt.slots] at X' e1 e2 h1 h2 h3 st
    subst h1; subst h2; subst h3
    exact Or.inl ⟨v, (T.setVm vm₁).calling g' mk As.toArray, t, U', L, hT, X', hL, e1, e2, hq, st⟩
  · dsimp only [Pt.U, Pt.locs, Pt.cells, Pt.slots] at X' e1 e2 h1 h2 h3 st hcl
    subst h1; subst h2; subst h3
    exact Or.inr ⟨q, (T.setVm vm₁).calling g' mk As.toArray, t, U', L, E, ce, hT, X', hL, e1, e2, hq, hce, hcv, vx_cls hW₁ hcl, st⟩
end
end VXH
theorem vx_ofWH {l : Launch} {y : MethodName} {ws ws' : List Cond} {rm : Room} {Pc : Array Value → State → Prop} {Qc : Array Value → State → Outcome → State → Prop} {XC : String → State → State → Prop} {mc ms : Nat} {free : Addr → Prop} {cc : ByteArray} {maxL : Nat} {ret : Option FieldType} {hh : List (Nat × Nat × Nat × Nat)}
    (hy : plainName y.cls = true) (hw : ws = Cond.codeWith y cc maxL ret hh :: ws')
    (body : ∀ p e s m args below meth c s₁, BodyLoose p l y (headSpec ws rm) cc maxL ret e s m args below meth c s₁ → c.maxLocals = maxL → Pc args s →
      W p l e (headSpec ws rm).room s m args below meth c s.heap [] 0 0 (vx_MQ below Qc XC args s mc ms free) (entryFrame m args maxL)) : vx_Met l y ws rm Pc Qc XC mc ms free := by
  refine MetFree.of_bodyS (code := cc) (maxLocals := maxL) (ret := ret) hy ?_ ?_
  · intro args s m h hn
    obtain ⟨m9, meth, c, hn9, h1, h2, h3, h4, -, h5, h6, -⟩ := Cond.codeWith_spec (atoms_spec (ws := ws) h _ (by rw [hw]; exact List.mem_cons_self))
    cases hn.symm.trans hn9
    exact ⟨meth, c, h1, h2, h3, h4, h5, h6⟩
  · intro p e s m args below meth c s₁ B hml hP _
    have hh0 : s₁.heap = s.heap := by rw [B.state]; rfl
    obtain ⟨t, a1, o, b1, b2, b3⟩ := body p e s m args below meth c s₁ B hml hP s₁ hh0 (Stand.of_body B)
    exact ⟨t, o, a1, b1, b2, b3⟩
/-! ===== END ===== -/
end
section
def RX0 : String := "BitumenNeedle$Drum"
def TX0 : u_T := fun k => match k with
  | 0 => ("BitumenNeedle$Drum", "softness", "I", false)
  | 1 => ("BitumenNeedle$Drum", "days", "I", false)
  | _ => ("BitumenNeedle$Drum", "grade", "I", false)
def tyX0 : Nat → FieldType := fun k => match k with
  | 0 => .int
  | 1 => .int
  | _ => .int
theorem nmX0 : ∀ a, a < 3 → ∀ b, b < 3 → a ≠ b → (TX0 a).2.1 ≠ (TX0 b).2.1 := by decide +kernel
theorem tyX0_ok : ∀ k, k < 3 → parseFieldDescriptor (TX0 k).2.2.1 = some (tyX0 k) := by decide +kernel
abbrev cX0_init : ByteArray := prog_2_method_1_code
def yX0_init : MethodName := ⟨RX0, "<init>", "()V"⟩
abbrev cX0_fill : ByteArray := prog_2_method_2_code
def yX0_fill : MethodName := ⟨RX0, "fill", "(I)V"⟩
abbrev cX0_copyFrom : ByteArray := prog_2_method_3_code
def yX0_copyFrom : MethodName := ⟨RX0, "copyFrom", "(LBitumenNeedle$Drum;)V"⟩
abbrev cX0_hardness : ByteArray := prog_2_method_4_code
def yX0_hardness : MethodName := ⟨RX0, "hardness", "()I"⟩
def RX1 : String := "BitumenNeedle$History"
def TX1 : u_T := fun k => match k with
  | 0 => ("BitumenNeedle$History", "saved", "[LBitumenNeedle$Lab;", true)
  | 1 => ("BitumenNeedle$History", "snapshot", "LBitumenNeedle$Lab;", true)
  | 2 => ("BitumenNeedle$History", "count", "I", false)
  | _ => ("BitumenNeedle$History", "kept", "Z", false)
def tyX1 : Nat → FieldType := fun k => match k with
  | 0 => .array (.object "BitumenNeedle$Lab")
  | 1 => .object "BitumenNeedle$Lab"
  | 2 => .int
  | _ => .boolean
theorem nmX1 : ∀ a, a < 4 → ∀ b, b < 4 → a ≠ b → (TX1 a).2.1 ≠ (TX1 b).2.1 := by decide +kernel
theorem tyX1_ok : ∀ k, k < 4 → parseFieldDescriptor (TX1 k).2.2.1 = some (tyX1 k) := by decide +kernel
abbrev cX1_init : ByteArray := prog_3_method_1_code
def yX1_init : MethodName := ⟨RX1, "<init>", "()V"⟩
abbrev cX1_save : ByteArray := prog_3_method_2_code
def yX1_save : MethodName := ⟨RX1, "save", "(LBitumenNeedle$Lab;)V"⟩
abbrev cX1_dropOldest : ByteArray := prog_3_method_3_code
def yX1_dropOldest : MethodName := ⟨RX1, "dropOldest", "()V"⟩
abbrev cX1_goBack : ByteArray := prog_3_method_4_code
def yX1_goBack : MethodName := ⟨RX1, "goBack", "(LBitumenNeedle$Lab;)V"⟩
def RX2 : String := "BitumenNeedle$Lab"
def TX2 : u_T := fun k => match k with
  | 0 => ("BitumenNeedle$Lab", "drums", "[LBitumenNeedle$Drum;", true)
  | 1 => ("BitumenNeedle$Lab", "samples", "[LBitumenNeedle$Specimen;", true)
  | 2 => ("BitumenNeedle$Lab", "needles", "[LBitumenNeedle$Needle;", true)
  | 3 => ("BitumenNeedle$Lab", "degrees", "[I", true)
  | 4 => ("BitumenNeedle$Lab", "settings", "[I", true)
  | 5 => ("BitumenNeedle$Lab", "drumCount", "I", false)
  | 6 => ("BitumenNeedle$Lab", "sampleCount", "I", false)
  | 7 => ("BitumenNeedle$Lab", "minutes", "I", false)
  | 8 => ("BitumenNeedle$Lab", "renewed", "I", false)
  | 9 => ("BitumenNeedle$Lab", "stopPart", "I", false)
  | _ => ("BitumenNeedle$Lab", "stopReason", "I", false)
def tyX2 : Nat → FieldType := fun k => match k with
  | 0 => .array (.object "BitumenNeedle$Drum")
  | 1 => .array (.object "BitumenNeedle$Specimen")
  | 2 => .array (.object "BitumenNeedle$Needle")
  | 3 => .array .int
  | 4 => .array .int
  | 5 => .int
  | 6 => .int
  | 7 => .int
  | 8 => .int
  | 9 => .int
  | _ => .int
theorem nmX2 : ∀ a, a < 11 → ∀ b, b < 11 → a ≠ b → (TX2 a).2.1 ≠ (TX2 b).2.1 := by decide +kernel
theorem tyX2_ok : ∀ k, k < 11 → parseFieldDescriptor (TX2 k).2.2.1 = some (tyX2 k) := by decide +kernel
abbrev cX2_init : ByteArray := prog_4_method_1_code
def yX2_init : MethodName := ⟨RX2, "<init>", "()V"⟩
abbrev cX2_copyFrom : ByteArray := prog_4_method_2_code
def yX2_copyFrom : MethodName := ⟨RX2, "copyFrom", "(LBitumenNeedle$Lab;)V"⟩
abbrev cX2_hasDrum : ByteArray := prog_4_method_3_code
def yX2_hasDrum : MethodName := ⟨RX2, "hasDrum", "(I)Z"⟩
abbrev cX2_hasSample : ByteArray := prog_4_method_4_code
def yX2_hasSample : MethodName := ⟨RX2, "hasSample", "(I)Z"⟩
abbrev cX2_addDrum : ByteArray := prog_4_method_5_code
def yX2_addDrum : MethodName := ⟨RX2, "addDrum", "(I)I"⟩
abbrev cX2_ageDrums : ByteArray := prog_4_method_6_code
def yX2_ageDrums : MethodName := ⟨RX2, "ageDrums", "(I)I"⟩
abbrev cX2_whyNotTaken : ByteArray := prog_4_method_7_code
def yX2_whyNotTaken : MethodName := ⟨RX2, "whyNotTaken", "(I)I"⟩
abbrev cX2_take : ByteArray := prog_4_method_8_code
def yX2_take : MethodName := ⟨RX2, "take", "(I)I"⟩
abbrev cX2_throwAway : ByteArray := prog_4_method_9_code
def yX2_throwAway : MethodName := ⟨RX2, "throwAway", "(I)I"⟩
abbrev cX2_samplesIn : ByteArray := prog_4_method_10_code
def yX2_samplesIn : MethodName := ⟨RX2, "samplesIn", "(I)I"⟩
abbrev cX2_hasRoomFor : ByteArray := prog_4_method_11_code
def yX2_hasRoomFor : MethodName := ⟨RX2, "hasRoomFor", "(II)Z"⟩
abbrev cX2_whyNotLaid : ByteArray := prog_4_method_12_code
def yX2_whyNotLaid : MethodName := ⟨RX2, "whyNotLaid", "(II)I"⟩
abbrev cX2_lay : ByteArray := prog_4_method_13_code
def yX2_lay : MethodName := ⟨RX2, "lay", "(II)I"⟩
abbrev cX2_degreeAround : ByteArray := prog_4_method_14_code
def yX2_degreeAround : MethodName := ⟨RX2, "degreeAround", "(I)I"⟩
abbrev cX2_passMinutes : ByteArray := prog_4_method_15_code
def yX2_passMinutes : MethodName := ⟨RX2, "passMinutes", "(I)V"⟩
abbrev cX2_samplesAsTheirBath : ByteArray := prog_4_method_16_code
def yX2_samplesAsTheirBath : MethodName := ⟨RX2, "samplesAsTheirBath", "()I"⟩
abbrev cX2_depth : ByteArray := prog_4_method_17_code
def yX2_depth : MethodName := ⟨RX2, "depth", "(IIII)I"⟩
abbrev cX2_whyNotSunk : ByteArray := prog_4_method_18_code
def yX2_whyNotSunk : MethodName := ⟨RX2, "whyNotSunk", "(II)I"⟩
abbrev cX2_read : ByteArray := prog_4_method_19_code
def yX2_read : MethodName := ⟨RX2, "read", "(IIII)I"⟩
abbrev cX2_whyNotSoftened : ByteArray := prog_4_method_20_code
def yX2_whyNotSoftened : MethodName := ⟨RX2, "whyNotSoftened", "(I)I"⟩
abbrev cX2_minutesIn : ByteArray := prog_4_method_21_code
def yX2_minutesIn : MethodName := ⟨RX2, "minutesIn", "(II)I"⟩
abbrev cX2_minutesToReady : ByteArray := prog_4_method_22_code
def yX2_minutesToReady : MethodName := ⟨RX2, "minutesToReady", "(I)I"⟩
abbrev cX2_quickestBath : ByteArray := prog_4_method_23_code
def yX2_quickestBath : MethodName := ⟨RX2, "quickestBath", "(I)I"⟩
abbrev cX2_greatestDifferenceIn : ByteArray := prog_4_method_24_code
def yX2_greatestDifferenceIn : MethodName := ⟨RX2, "greatestDifferenceIn", "(I)I"⟩
abbrev cX2_bathNumber : ByteArray := prog_4_method_25_code
def yX2_bathNumber : MethodName := ⟨RX2, "bathNumber", "(II)I"⟩
abbrev cX2_samplesWithPenetration : ByteArray := prog_4_method_26_code
def yX2_samplesWithPenetration : MethodName := ⟨RX2, "samplesWithPenetration", "()I"⟩
abbrev cX2_readingsSoFar : ByteArray := prog_4_method_27_code
def yX2_readingsSoFar : MethodName := ⟨RX2, "readingsSoFar", "()I"⟩
abbrev cX2_bentNeedles : ByteArray := prog_4_method_28_code
def yX2_bentNeedles : MethodName := ⟨RX2, "bentNeedles", "()I"⟩
abbrev cX2_soldDrums : ByteArray := prog_4_method_29_code
def yX2_soldDrums : MethodName := ⟨RX2, "soldDrums", "()I"⟩
abbrev cX2_total : ByteArray := prog_4_method_30_code
def yX2_total : MethodName := ⟨RX2, "total", "(I)I"⟩
def RX3 : String := "BitumenNeedle$Needle"
def TX3 : u_T := fun k => match k with
  | 0 => ("BitumenNeedle$Needle", "wear", "I", false)
  | 1 => ("BitumenNeedle$Needle", "bent", "Z", false)
  | _ => ("BitumenNeedle$Needle", "readings", "I", false)
def tyX3 : Nat → FieldType := fun k => match k with
  | 0 => .int
  | 1 => .boolean
  | _ => .int
theorem nmX3 : ∀ a, a < 3 → ∀ b, b < 3 → a ≠ b → (TX3 a).2.1 ≠ (TX3 b).2.1 := by decide +kernel
theorem tyX3_ok : ∀ k, k < 3 → parseFieldDescriptor (TX3 k).2.2.1 = some (tyX3 k) := by decide +kernel
abbrev cX3_init : ByteArray := prog_5_method_1_code
def yX3_init : MethodName := ⟨RX3, "<init>", "()V"⟩
abbrev cX3_copyFrom : ByteArray := prog_5_method_2_code
def yX3_copyFrom : MethodName := ⟨RX3, "copyFrom", "(LBitumenNeedle$Needle;)V"⟩
abbrev cX3_makeNew : ByteArray := prog_5_method_3_code
def yX3_makeNew : MethodName := ⟨RX3, "makeNew", "()I"⟩
abbrev cX3_wearBy : ByteArray := prog_5_method_4_code
def yX3_wearBy : MethodName := ⟨RX3, "wearBy", "(I)V"⟩
abbrev cX3_number : ByteArray := prog_5_method_5_code
def yX3_number : MethodName := ⟨RX3, "number", "(I)I"⟩
def RX4 : String := "BitumenNeedle$OrderText"
def TX4 : u_T := fun k => match k with
  | 0 => ("BitumenNeedle$OrderText", "characters", "[C", true)
  | 1 => ("BitumenNeedle$OrderText", "part", "LBitumenNeedle$Part;", true)
  | 2 => ("BitumenNeedle$OrderText", "length", "I", false)
  | _ => ("BitumenNeedle$OrderText", "place", "I", false)
def tyX4 : Nat → FieldType := fun k => match k with
  | 0 => .array .char
  | 1 => .object "BitumenNeedle$Part"
  | 2 => .int
  | _ => .int
theorem nmX4 : ∀ a, a < 4 → ∀ b, b < 4 → a ≠ b → (TX4 a).2.1 ≠ (TX4 b).2.1 := by decide +kernel
theorem tyX4_ok : ∀ k, k < 4 → parseFieldDescriptor (TX4 k).2.2.1 = some (tyX4 k) := by decide +kernel
abbrev cX4_init : ByteArray := prog_6_method_1_code
def yX4_init : MethodName := ⟨RX4, "<init>", "()V"⟩
abbrev cX4_add : ByteArray := prog_6_method_2_code
def yX4_add : MethodName := ⟨RX4, "add", "(C)I"⟩
abbrev cX4_empty : ByteArray := prog_6_method_3_code
def yX4_empty : MethodName := ⟨RX4, "empty", "()I"⟩
abbrev cX4_errorPlace : ByteArray := prog_6_method_4_code
def yX4_errorPlace : MethodName := ⟨RX4, "errorPlace", "()I"⟩
abbrev cX4_isComplete : ByteArray := prog_6_method_5_code
def yX4_isComplete : MethodName := ⟨RX4, "isComplete", "()Z"⟩
abbrev cX4_nextPart : ByteArray := prog_6_method_6_code
def yX4_nextPart : MethodName := ⟨RX4, "nextPart", "()Z"⟩
def RX5 : String := "BitumenNeedle$Part"
def TX5 : u_T := fun k => match k with
  | 0 => ("BitumenNeedle$Part", "letter", "I", false)
  | 1 => ("BitumenNeedle$Part", "slots", "Ljava/lang/String;", false)
  | 2 => ("BitumenNeedle$Part", "slot", "I", false)
  | 3 => ("BitumenNeedle$Part", "taken", "I", false)
  | _ => ("BitumenNeedle$Part", "values", "[I", true)
def tyX5 : Nat → FieldType := fun k => match k with
  | 0 => .int
  | 1 => .object "java/lang/String"
  | 2 => .int
  | 3 => .int
  | _ => .array .int
theorem nmX5 : ∀ a, a < 5 → ∀ b, b < 5 → a ≠ b → (TX5 a).2.1 ≠ (TX5 b).2.1 := by decide +kernel
theorem tyX5_ok : ∀ k, k < 5 → parseFieldDescriptor (TX5 k).2.2.1 = some (tyX5 k) := by decide +kernel
abbrev cX5_init : ByteArray := prog_7_method_1_code
def yX5_init : MethodName := ⟨RX5, "<init>", "()V"⟩
abbrev cX5_clear : ByteArray := prog_7_method_2_code
def yX5_clear : MethodName := ⟨RX5, "clear", "()V"⟩
abbrev cX5_accept : ByteArray := prog_7_method_3_code
def yX5_accept : MethodName := ⟨RX5, "accept", "(C)Z"⟩
abbrev cX5_isComplete : ByteArray := prog_7_method_4_code
def yX5_isComplete : MethodName := ⟨RX5, "isComplete", "()Z"⟩
abbrev cX5_slotsBehind : ByteArray := prog_7_method_5_code
def yX5_slotsBehind : MethodName := ⟨RX5, "slotsBehind", "(I)Ljava/lang/String;"⟩
abbrev cX5_slotKind : ByteArray := prog_7_method_6_code
def yX5_slotKind : MethodName := ⟨RX5, "slotKind", "()I"⟩
abbrev cX5_fillSlot : ByteArray := prog_7_method_7_code
def yX5_fillSlot : MethodName := ⟨RX5, "fillSlot", "(C)Z"⟩
abbrev cX5_fillWithSign : ByteArray := prog_7_method_8_code
def yX5_fillWithSign : MethodName := ⟨RX5, "fillWithSign", "(II)Z"⟩
abbrev cX5_isSlotFull : ByteArray := prog_7_method_9_code
def yX5_isSlotFull : MethodName := ⟨RX5, "isSlotFull", "()Z"⟩
abbrev cX5_canBecome : ByteArray := prog_7_method_10_code
def yX5_canBecome : MethodName := ⟨RX5, "canBecome", "(III)Z"⟩
abbrev cX5_least : ByteArray := prog_7_method_11_code
def yX5_least : MethodName := ⟨RX5, "least", "(I)I"⟩
abbrev cX5_most : ByteArray := prog_7_method_12_code
def yX5_most : MethodName := ⟨RX5, "most", "(I)I"⟩
def RX6 : String := "BitumenNeedle$Specimen"
def TX6 : u_T := fun k => match k with
  | 0 => ("BitumenNeedle$Specimen", "drum", "I", false)
  | 1 => ("BitumenNeedle$Specimen", "hardness", "I", false)
  | 2 => ("BitumenNeedle$Specimen", "degree", "I", false)
  | 3 => ("BitumenNeedle$Specimen", "bath", "I", false)
  | 4 => ("BitumenNeedle$Specimen", "softening", "I", false)
  | 5 => ("BitumenNeedle$Specimen", "readings", "I", false)
  | _ => ("BitumenNeedle$Specimen", "marks", "[I", true)
def tyX6 : Nat → FieldType := fun k => match k with
  | 0 => .int
  | 1 => .int
  | 2 => .int
  | 3 => .int
  | 4 => .int
  | 5 => .int
  | _ => .array .int
theorem nmX6 : ∀ a, a < 7 → ∀ b, b < 7 → a ≠ b → (TX6 a).2.1 ≠ (TX6 b).2.1 := by decide +kernel
theorem tyX6_ok : ∀ k, k < 7 → parseFieldDescriptor (TX6 k).2.2.1 = some (tyX6 k) := by decide +kernel
abbrev cX6_init : ByteArray := prog_8_method_1_code
def yX6_init : MethodName := ⟨RX6, "<init>", "()V"⟩
abbrev cX6_begin : ByteArray := prog_8_method_2_code
def yX6_begin : MethodName := ⟨RX6, "begin", "(II)V"⟩
abbrev cX6_copyFrom : ByteArray := prog_8_method_3_code
def yX6_copyFrom : MethodName := ⟨RX6, "copyFrom", "(LBitumenNeedle$Specimen;)V"⟩
abbrev cX6_mark : ByteArray := prog_8_method_4_code
def yX6_mark : MethodName := ⟨RX6, "mark", "(II)I"⟩
abbrev cX6_write : ByteArray := prog_8_method_5_code
def yX6_write : MethodName := ⟨RX6, "write", "(IIII)V"⟩
abbrev cX6_depthUnder : ByteArray := prog_8_method_6_code
def yX6_depthUnder : MethodName := ⟨RX6, "depthUnder", "(III)I"⟩
abbrev cX6_whyNoPenetration : ByteArray := prog_8_method_7_code
def yX6_whyNoPenetration : MethodName := ⟨RX6, "whyNoPenetration", "(I)I"⟩
abbrev cX6_penetration : ByteArray := prog_8_method_8_code
def yX6_penetration : MethodName := ⟨RX6, "penetration", "(I)I"⟩
abbrev cX6_latestNeedles : ByteArray := prog_8_method_9_code
def yX6_latestNeedles : MethodName := ⟨RX6, "latestNeedles", "()I"⟩
abbrev cX6_soften : ByteArray := prog_8_method_10_code
def yX6_soften : MethodName := ⟨RX6, "soften", "()I"⟩
abbrev cX6_number : ByteArray := prog_8_method_11_code
def yX6_number : MethodName := ⟨RX6, "number", "(II)I"⟩
def RX7 : String := "BitumenNeedle$Trade"
def TX7 : u_T := fun k => match k with
  | _ => ("", "", "", false)
def tyX7 : Nat → FieldType := fun k => match k with
  | _ => .int
theorem nmX7 : ∀ a, a < 0 → ∀ b, b < 0 → a ≠ b → (TX7 a).2.1 ≠ (TX7 b).2.1 := by decide +kernel
theorem tyX7_ok : ∀ k, k < 0 → parseFieldDescriptor (TX7 k).2.2.1 = some (tyX7 k) := by decide +kernel
abbrev cX7_samplesOf : ByteArray := prog_9_method_2_code
def yX7_samplesOf : MethodName := ⟨RX7, "samplesOf", "(LBitumenNeedle$Lab;I)I"⟩
abbrev cX7_meanPenetration : ByteArray := prog_9_method_3_code
def yX7_meanPenetration : MethodName := ⟨RX7, "meanPenetration", "(LBitumenNeedle$Lab;I)I"⟩
abbrev cX7_meanSoftening : ByteArray := prog_9_method_4_code
def yX7_meanSoftening : MethodName := ⟨RX7, "meanSoftening", "(LBitumenNeedle$Lab;I)I"⟩
abbrev cX7_meanByReadings : ByteArray := prog_9_method_5_code
def yX7_meanByReadings : MethodName := ⟨RX7, "meanByReadings", "(LBitumenNeedle$Lab;I)I"⟩
abbrev cX7_index : ByteArray := prog_9_method_6_code
def yX7_index : MethodName := ⟨RX7, "index", "(III)I"⟩
abbrev cX7_shownIndex : ByteArray := prog_9_method_7_code
def yX7_shownIndex : MethodName := ⟨RX7, "shownIndex", "(LBitumenNeedle$Lab;II)I"⟩
abbrev cX7_samplesWithPenetration : ByteArray := prog_9_method_8_code
def yX7_samplesWithPenetration : MethodName := ⟨RX7, "samplesWithPenetration", "(LBitumenNeedle$Lab;I)I"⟩
abbrev cX7_needlesRead : ByteArray := prog_9_method_9_code
def yX7_needlesRead : MethodName := ⟨RX7, "needlesRead", "(LBitumenNeedle$Lab;I)I"⟩
abbrev cX7_whyNotSold : ByteArray := prog_9_method_10_code
def yX7_whyNotSold : MethodName := ⟨RX7, "whyNotSold", "(LBitumenNeedle$Lab;I)I"⟩
abbrev cX7_close : ByteArray := prog_9_method_11_code
def yX7_close : MethodName := ⟨RX7, "close", "(LBitumenNeedle$Lab;I)I"⟩
abbrev cX7_number : ByteArray := prog_9_method_12_code
def yX7_number : MethodName := ⟨RX7, "number", "(LBitumenNeedle$Lab;II)I"⟩
def RX8 : String := "BitumenNeedle"
def TX8 : u_T := fun k => match k with
  | 0 => ("BitumenNeedle", "lab", "LBitumenNeedle$Lab;", true)
  | 1 => ("BitumenNeedle", "history", "LBitumenNeedle$History;", true)
  | _ => ("BitumenNeedle", "text", "LBitumenNeedle$OrderText;", true)
def tyX8 : Nat → FieldType := fun k => match k with
  | 0 => .object "BitumenNeedle$Lab"
  | 1 => .object "BitumenNeedle$History"
  | _ => .object "BitumenNeedle$OrderText"
theorem nmX8 : ∀ a, a < 3 → ∀ b, b < 3 → a ≠ b → (TX8 a).2.1 ≠ (TX8 b).2.1 := by decide +kernel
theorem tyX8_ok : ∀ k, k < 3 → parseFieldDescriptor (TX8 k).2.2.1 = some (tyX8 k) := by decide +kernel
abbrev cX8_init : ByteArray := prog_1_method_1_code
def yX8_init : MethodName := ⟨RX8, "<init>", "()V"⟩
abbrev cX8_drum : ByteArray := prog_1_method_2_code
def yX8_drum : MethodName := ⟨RX8, "drum", "(I)I"⟩
abbrev cX8_age : ByteArray := prog_1_method_3_code
def yX8_age : MethodName := ⟨RX8, "age", "(I)I"⟩
abbrev cX8_sample : ByteArray := prog_1_method_4_code
def yX8_sample : MethodName := ⟨RX8, "sample", "(I)I"⟩
abbrev cX8_toss : ByteArray := prog_1_method_5_code
def yX8_toss : MethodName := ⟨RX8, "toss", "(I)I"⟩
abbrev cX8_bath : ByteArray := prog_1_method_6_code
def yX8_bath : MethodName := ⟨RX8, "bath", "(II)I"⟩
abbrev cX8_warm : ByteArray := prog_1_method_7_code
def yX8_warm : MethodName := ⟨RX8, "warm", "(II)I"⟩
abbrev cX8_pass : ByteArray := prog_1_method_8_code
def yX8_pass : MethodName := ⟨RX8, "pass", "(I)I"⟩
abbrev cX8_sink : ByteArray := prog_1_method_9_code
def yX8_sink : MethodName := ⟨RX8, "sink", "(IIII)I"⟩
abbrev cX8_renew : ByteArray := prog_1_method_10_code
def yX8_renew : MethodName := ⟨RX8, "renew", "(I)I"⟩
abbrev cX8_ring : ByteArray := prog_1_method_11_code
def yX8_ring : MethodName := ⟨RX8, "ring", "(I)I"⟩
abbrev cX8_sell : ByteArray := prog_1_method_12_code
def yX8_sell : MethodName := ⟨RX8, "sell", "(I)I"⟩
abbrev cX8_set : ByteArray := prog_1_method_13_code
def yX8_set : MethodName := ⟨RX8, "set", "(II)I"⟩
abbrev cX8_append : ByteArray := prog_1_method_14_code
def yX8_append : MethodName := ⟨RX8, "append", "(I)I"⟩
abbrev cX8_clearBuffer : ByteArray := prog_1_method_15_code
def yX8_clearBuffer : MethodName := ⟨RX8, "clearBuffer", "()I"⟩
abbrev cX8_firstError : ByteArray := prog_1_method_16_code
def yX8_firstError : MethodName := ⟨RX8, "firstError", "()I"⟩
abbrev cX8_obey : ByteArray := prog_1_method_17_code
def yX8_obey : MethodName := ⟨RX8, "obey", "()I"⟩
abbrev cX8_stopped : ByteArray := prog_1_method_18_code
def yX8_stopped : MethodName := ⟨RX8, "stopped", "(I)I"⟩
abbrev cX8_undo : ByteArray := prog_1_method_19_code
def yX8_undo : MethodName := ⟨RX8, "undo", "()I"⟩
abbrev cX8_keep : ByteArray := prog_1_method_20_code
def yX8_keep : MethodName := ⟨RX8, "keep", "()I"⟩
abbrev cX8_restore : ByteArray := prog_1_method_21_code
def yX8_restore : MethodName := ⟨RX8, "restore", "()I"⟩
abbrev cX8_drumOf : ByteArray := prog_1_method_22_code
def yX8_drumOf : MethodName := ⟨RX8, "drumOf", "(II)I"⟩
abbrev cX8_sampleOf : ByteArray := prog_1_method_23_code
def yX8_sampleOf : MethodName := ⟨RX8, "sampleOf", "(II)I"⟩
abbrev cX8_reading : ByteArray := prog_1_method_24_code
def yX8_reading : MethodName := ⟨RX8, "reading", "(III)I"⟩
abbrev cX8_needle : ByteArray := prog_1_method_25_code
def yX8_needle : MethodName := ⟨RX8, "needle", "(II)I"⟩
abbrev cX8_bathOf : ByteArray := prog_1_method_26_code
def yX8_bathOf : MethodName := ⟨RX8, "bathOf", "(II)I"⟩
abbrev cX8_count : ByteArray := prog_1_method_27_code
def yX8_count : MethodName := ⟨RX8, "count", "(I)I"⟩
abbrev cX8_noSink : ByteArray := prog_1_method_28_code
def yX8_noSink : MethodName := ⟨RX8, "noSink", "(II)I"⟩
abbrev cX8_noSale : ByteArray := prog_1_method_29_code
def yX8_noSale : MethodName := ⟨RX8, "noSale", "(I)I"⟩
abbrev cX8_ifSunk : ByteArray := prog_1_method_30_code
def yX8_ifSunk : MethodName := ⟨RX8, "ifSunk", "(IIII)I"⟩
abbrev cX8_secondsTo : ByteArray := prog_1_method_31_code
def yX8_secondsTo : MethodName := ⟨RX8, "secondsTo", "(IIII)I"⟩
abbrev cX8_readyIn : ByteArray := prog_1_method_32_code
def yX8_readyIn : MethodName := ⟨RX8, "readyIn", "(I)I"⟩
abbrev cX8_bestBath : ByteArray := prog_1_method_33_code
def yX8_bestBath : MethodName := ⟨RX8, "bestBath", "(I)I"⟩
abbrev cX8_readShare : ByteArray := prog_1_method_34_code
def yX8_readShare : MethodName := ⟨RX8, "readShare", "()D"⟩
abbrev cX8_digest : ByteArray := prog_1_method_35_code
def yX8_digest : MethodName := ⟨RX8, "digest", "()J"⟩
abbrev cX8_mindNumber : ByteArray := prog_1_method_36_code
def yX8_mindNumber : MethodName := ⟨RX8, "mindNumber", "(II)V"⟩
abbrev cX8_mindRange : ByteArray := prog_1_method_37_code
def yX8_mindRange : MethodName := ⟨RX8, "mindRange", "(III)V"⟩
abbrev cX8_refuseFor : ByteArray := prog_1_method_38_code
def yX8_refuseFor : MethodName := ⟨RX8, "refuseFor", "(I)V"⟩
abbrev cX8_doPart : ByteArray := prog_1_method_39_code
def yX8_doPart : MethodName := ⟨RX8, "doPart", "(LBitumenNeedle$Part;)I"⟩
abbrev cX8_whyNotDone : ByteArray := prog_1_method_40_code
def yX8_whyNotDone : MethodName := ⟨RX8, "whyNotDone", "(III)I"⟩
abbrev cX8_mixedWithSample : ByteArray := prog_1_method_41_code
def yX8_mixedWithSample : MethodName := ⟨RX8, "mixedWithSample", "(JI)J"⟩
abbrev cX8_mixedWithTools : ByteArray := prog_1_method_42_code
def yX8_mixedWithTools : MethodName := ⟨RX8, "mixedWithTools", "(J)J"⟩
abbrev cX8_mixed : ByteArray := prog_1_method_43_code
def yX8_mixed : MethodName := ⟨RX8, "mixed", "(JJ)J"⟩
abbrev cX8_bitsOf : ByteArray := prog_1_method_44_code
def yX8_bitsOf : MethodName := ⟨RX8, "bitsOf", "(D)J"⟩
abbrev cX8_divided : ByteArray := prog_1_method_45_code
def yX8_divided : MethodName := ⟨RX8, "divided", "(II)I"⟩
abbrev cX8_degreeNext : ByteArray := prog_1_method_46_code
def yX8_degreeNext : MethodName := ⟨RX8, "degreeNext", "(II)I"⟩
def RX9 : String := "BitumenNeedleModel"
def TX9 : u_T := fun k => match k with
  | 0 => ("BitumenNeedleModel", "thrown", "I", false)
  | 1 => ("BitumenNeedleModel", "s", "[I", true)
  | 2 => ("BitumenNeedleModel", "saved", "I", false)
  | 3 => ("BitumenNeedleModel", "isKept", "Z", false)
  | 4 => ("BitumenNeedleModel", "text", "[I", true)
  | 5 => ("BitumenNeedleModel", "length", "I", false)
  | 6 => ("BitumenNeedleModel", "at", "I", false)
  | 7 => ("BitumenNeedleModel", "part", "I", false)
  | 8 => ("BitumenNeedleModel", "numbers", "[I", true)
  | _ => ("BitumenNeedleModel", "hash", "J", false)
def tyX9 : Nat → FieldType := fun k => match k with
  | 0 => .int
  | 1 => .array .int
  | 2 => .int
  | 3 => .boolean
  | 4 => .array .int
  | 5 => .int
  | 6 => .int
  | 7 => .int
  | 8 => .array .int
  | _ => .long
theorem nmX9 : ∀ a, a < 10 → ∀ b, b < 10 → a ≠ b → (TX9 a).2.1 ≠ (TX9 b).2.1 := by decide +kernel
theorem tyX9_ok : ∀ k, k < 10 → parseFieldDescriptor (TX9 k).2.2.1 = some (tyX9 k) := by decide +kernel
abbrev cX9_init : ByteArray := prog_11_method_1_code
def yX9_init : MethodName := ⟨RX9, "<init>", "()V"⟩
abbrev cX9_thrown : ByteArray := prog_11_method_2_code
def yX9_thrown : MethodName := ⟨RX9, "thrown", "()I"⟩
abbrev cX9_in : ByteArray := prog_11_method_3_code
def yX9_in : MethodName := ⟨RX9, "in", "(III)Z"⟩
abbrev cX9_holds : ByteArray := prog_11_method_4_code
def yX9_holds : MethodName := ⟨RX9, "holds", "(I)Z"⟩
abbrev cX9_div : ByteArray := prog_11_method_5_code
def yX9_div : MethodName := ⟨RX9, "div", "(II)I"⟩
abbrev cX9_size : ByteArray := prog_11_method_6_code
def yX9_size : MethodName := ⟨RX9, "size", "(I)I"⟩
abbrev cX9_isDrum : ByteArray := prog_11_method_7_code
def yX9_isDrum : MethodName := ⟨RX9, "isDrum", "(I)Z"⟩
abbrev cX9_isSample : ByteArray := prog_11_method_8_code
def yX9_isSample : MethodName := ⟨RX9, "isSample", "(I)Z"⟩
abbrev cX9_isOne : ByteArray := prog_11_method_9_code
def yX9_isOne : MethodName := ⟨RX9, "isOne", "(I)Z"⟩
abbrev cX9_of : ByteArray := prog_11_method_10_code
def yX9_of : MethodName := ⟨RX9, "of", "(II)I"⟩
abbrev cX9_lay : ByteArray := prog_11_method_11_code
def yX9_lay : MethodName := ⟨RX9, "lay", "(III)V"⟩
abbrev cX9_drumAt : ByteArray := prog_11_method_12_code
def yX9_drumAt : MethodName := ⟨RX9, "drumAt", "(II)I"⟩
abbrev cX9_needleAt : ByteArray := prog_11_method_13_code
def yX9_needleAt : MethodName := ⟨RX9, "needleAt", "(II)I"⟩
abbrev cX9_warmed : ByteArray := prog_11_method_14_code
def yX9_warmed : MethodName := ⟨RX9, "warmed", "(II)I"⟩
abbrev cX9_inBath : ByteArray := prog_11_method_15_code
def yX9_inBath : MethodName := ⟨RX9, "inBath", "(I)I"⟩
abbrev cX9_hasRoom : ByteArray := prog_11_method_16_code
def yX9_hasRoom : MethodName := ⟨RX9, "hasRoom", "(II)Z"⟩
abbrev cX9_passes : ByteArray := prog_11_method_17_code
def yX9_passes : MethodName := ⟨RX9, "passes", "(I)I"⟩
abbrev cX9_ready : ByteArray := prog_11_method_18_code
def yX9_ready : MethodName := ⟨RX9, "ready", "(II)I"⟩
abbrev cX9_depth : ByteArray := prog_11_method_19_code
def yX9_depth : MethodName := ⟨RX9, "depth", "(IIII)I"⟩
abbrev cX9_whyNot : ByteArray := prog_11_method_20_code
def yX9_whyNot : MethodName := ⟨RX9, "whyNot", "(II)I"⟩
abbrev cX9_sinks : ByteArray := prog_11_method_21_code
def yX9_sinks : MethodName := ⟨RX9, "sinks", "(IIII)I"⟩
abbrev cX9_latest : ByteArray := prog_11_method_22_code
def yX9_latest : MethodName := ⟨RX9, "latest", "(III)I"⟩
abbrev cX9_whyNone : ByteArray := prog_11_method_23_code
def yX9_whyNone : MethodName := ⟨RX9, "whyNone", "(I)I"⟩
abbrev cX9_penetration : ByteArray := prog_11_method_24_code
def yX9_penetration : MethodName := ⟨RX9, "penetration", "(I)I"⟩
abbrev cX9_needles : ByteArray := prog_11_method_25_code
def yX9_needles : MethodName := ⟨RX9, "needles", "(I)I"⟩
abbrev cX9_rings : ByteArray := prog_11_method_26_code
def yX9_rings : MethodName := ⟨RX9, "rings", "(I)I"⟩
abbrev cX9_hardness : ByteArray := prog_11_method_27_code
def yX9_hardness : MethodName := ⟨RX9, "hardness", "(I)I"⟩
abbrev cX9_samplesOf : ByteArray := prog_11_method_28_code
def yX9_samplesOf : MethodName := ⟨RX9, "samplesOf", "(I)I"⟩
abbrev cX9_told : ByteArray := prog_11_method_29_code
def yX9_told : MethodName := ⟨RX9, "told", "(IZ)I"⟩
abbrev cX9_mean : ByteArray := prog_11_method_30_code
def yX9_mean : MethodName := ⟨RX9, "mean", "(IZ)I"⟩
abbrev cX9_index : ByteArray := prog_11_method_31_code
def yX9_index : MethodName := ⟨RX9, "index", "(I)I"⟩
abbrev cX9_whyNotSold : ByteArray := prog_11_method_32_code
def yX9_whyNotSold : MethodName := ⟨RX9, "whyNotSold", "(I)I"⟩
abbrev cX9_sells : ByteArray := prog_11_method_33_code
def yX9_sells : MethodName := ⟨RX9, "sells", "(I)I"⟩
abbrev cX9_takes : ByteArray := prog_11_method_34_code
def yX9_takes : MethodName := ⟨RX9, "takes", "(I)I"⟩
abbrev cX9_copies : ByteArray := prog_11_method_35_code
def yX9_copies : MethodName := ⟨RX9, "copies", "(II)V"⟩
abbrev cX9_save : ByteArray := prog_11_method_36_code
def yX9_save : MethodName := ⟨RX9, "save", "()V"⟩
abbrev cX9_changed : ByteArray := prog_11_method_37_code
def yX9_changed : MethodName := ⟨RX9, "changed", "(II)I"⟩
abbrev cX9_drum : ByteArray := prog_11_method_38_code
def yX9_drum : MethodName := ⟨RX9, "drum", "(I)I"⟩
abbrev cX9_age : ByteArray := prog_11_method_39_code
def yX9_age : MethodName := ⟨RX9, "age", "(I)I"⟩
abbrev cX9_sample : ByteArray := prog_11_method_40_code
def yX9_sample : MethodName := ⟨RX9, "sample", "(I)I"⟩
abbrev cX9_toss : ByteArray := prog_11_method_41_code
def yX9_toss : MethodName := ⟨RX9, "toss", "(I)I"⟩
abbrev cX9_bath : ByteArray := prog_11_method_42_code
def yX9_bath : MethodName := ⟨RX9, "bath", "(II)I"⟩
abbrev cX9_warm : ByteArray := prog_11_method_43_code
def yX9_warm : MethodName := ⟨RX9, "warm", "(II)I"⟩
abbrev cX9_pass : ByteArray := prog_11_method_44_code
def yX9_pass : MethodName := ⟨RX9, "pass", "(I)I"⟩
abbrev cX9_sink : ByteArray := prog_11_method_45_code
def yX9_sink : MethodName := ⟨RX9, "sink", "(IIII)I"⟩
abbrev cX9_renew : ByteArray := prog_11_method_46_code
def yX9_renew : MethodName := ⟨RX9, "renew", "(I)I"⟩
abbrev cX9_ring : ByteArray := prog_11_method_47_code
def yX9_ring : MethodName := ⟨RX9, "ring", "(I)I"⟩
abbrev cX9_sell : ByteArray := prog_11_method_48_code
def yX9_sell : MethodName := ⟨RX9, "sell", "(I)I"⟩
abbrev cX9_set : ByteArray := prog_11_method_49_code
def yX9_set : MethodName := ⟨RX9, "set", "(II)I"⟩
abbrev cX9_append : ByteArray := prog_11_method_50_code
def yX9_append : MethodName := ⟨RX9, "append", "(I)I"⟩
abbrev cX9_clearBuffer : ByteArray := prog_11_method_51_code
def yX9_clearBuffer : MethodName := ⟨RX9, "clearBuffer", "()I"⟩
abbrev cX9_sign : ByteArray := prog_11_method_52_code
def yX9_sign : MethodName := ⟨RX9, "sign", "()I"⟩
abbrev cX9_takesSign : ByteArray := prog_11_method_53_code
def yX9_takesSign : MethodName := ⟨RX9, "takesSign", "(I)Z"⟩
abbrev cX9_readsDigit : ByteArray := prog_11_method_54_code
def yX9_readsDigit : MethodName := ⟨RX9, "readsDigit", "(II)Z"⟩
abbrev cX9_begins : ByteArray := prog_11_method_55_code
def yX9_begins : MethodName := ⟨RX9, "begins", "(III)Z"⟩
abbrev cX9_readsNumber : ByteArray := prog_11_method_56_code
def yX9_readsNumber : MethodName := ⟨RX9, "readsNumber", "(III)Z"⟩
abbrev cX9_readsPart : ByteArray := prog_11_method_57_code
def yX9_readsPart : MethodName := ⟨RX9, "readsPart", "()Z"⟩
abbrev cX9_areOrders : ByteArray := prog_11_method_58_code
def yX9_areOrders : MethodName := ⟨RX9, "areOrders", "()Z"⟩
abbrev cX9_firstError : ByteArray := prog_11_method_59_code
def yX9_firstError : MethodName := ⟨RX9, "firstError", "()I"⟩
abbrev cX9_stops : ByteArray := prog_11_method_60_code
def yX9_stops : MethodName := ⟨RX9, "stops", "()I"⟩
abbrev cX9_does : ByteArray := prog_11_method_61_code
def yX9_does : MethodName := ⟨RX9, "does", "()V"⟩
abbrev cX9_obey : ByteArray := prog_11_method_62_code
def yX9_obey : MethodName := ⟨RX9, "obey", "()I"⟩
abbrev cX9_stopped : ByteArray := prog_11_method_63_code
def yX9_stopped : MethodName := ⟨RX9, "stopped", "(I)I"⟩
abbrev cX9_undo : ByteArray := prog_11_method_64_code
def yX9_undo : MethodName := ⟨RX9, "undo", "()I"⟩
abbrev cX9_keep : ByteArray := prog_11_method_65_code
def yX9_keep : MethodName := ⟨RX9, "keep", "()I"⟩
abbrev cX9_restore : ByteArray := prog_11_method_66_code
def yX9_restore : MethodName := ⟨RX9, "restore", "()I"⟩
abbrev cX9_ofDrum : ByteArray := prog_11_method_67_code
def yX9_ofDrum : MethodName := ⟨RX9, "ofDrum", "(II)I"⟩
abbrev cX9_drumOf : ByteArray := prog_11_method_68_code
def yX9_drumOf : MethodName := ⟨RX9, "drumOf", "(II)I"⟩
abbrev cX9_ofSample : ByteArray := prog_11_method_69_code
def yX9_ofSample : MethodName := ⟨RX9, "ofSample", "(II)I"⟩
abbrev cX9_sampleOf : ByteArray := prog_11_method_70_code
def yX9_sampleOf : MethodName := ⟨RX9, "sampleOf", "(II)I"⟩
abbrev cX9_reading : ByteArray := prog_11_method_71_code
def yX9_reading : MethodName := ⟨RX9, "reading", "(III)I"⟩
abbrev cX9_needle : ByteArray := prog_11_method_72_code
def yX9_needle : MethodName := ⟨RX9, "needle", "(II)I"⟩
abbrev cX9_farthest : ByteArray := prog_11_method_73_code
def yX9_farthest : MethodName := ⟨RX9, "farthest", "(I)I"⟩
abbrev cX9_ofBath : ByteArray := prog_11_method_74_code
def yX9_ofBath : MethodName := ⟨RX9, "ofBath", "(II)I"⟩
abbrev cX9_bathOf : ByteArray := prog_11_method_75_code
def yX9_bathOf : MethodName := ⟨RX9, "bathOf", "(II)I"⟩
abbrev cX9_soldDrums : ByteArray := prog_11_method_76_code
def yX9_soldDrums : MethodName := ⟨RX9, "soldDrums", "()I"⟩
abbrev cX9_penetrated : ByteArray := prog_11_method_77_code
def yX9_penetrated : MethodName := ⟨RX9, "penetrated", "()I"⟩
abbrev cX9_counted : ByteArray := prog_11_method_78_code
def yX9_counted : MethodName := ⟨RX9, "counted", "(I)I"⟩
abbrev cX9_count : ByteArray := prog_11_method_79_code
def yX9_count : MethodName := ⟨RX9, "count", "(I)I"⟩
abbrev cX9_noSink : ByteArray := prog_11_method_80_code
def yX9_noSink : MethodName := ⟨RX9, "noSink", "(II)I"⟩
abbrev cX9_noSale : ByteArray := prog_11_method_81_code
def yX9_noSale : MethodName := ⟨RX9, "noSale", "(I)I"⟩
abbrev cX9_ifSunk : ByteArray := prog_11_method_82_code
def yX9_ifSunk : MethodName := ⟨RX9, "ifSunk", "(IIII)I"⟩
abbrev cX9_secondsTo : ByteArray := prog_11_method_83_code
def yX9_secondsTo : MethodName := ⟨RX9, "secondsTo", "(IIII)I"⟩
abbrev cX9_readyNow : ByteArray := prog_11_method_84_code
def yX9_readyNow : MethodName := ⟨RX9, "readyNow", "(I)I"⟩
abbrev cX9_readyIn : ByteArray := prog_11_method_85_code
def yX9_readyIn : MethodName := ⟨RX9, "readyIn", "(I)I"⟩
abbrev cX9_best : ByteArray := prog_11_method_86_code
def yX9_best : MethodName := ⟨RX9, "best", "(I)I"⟩
abbrev cX9_bestBath : ByteArray := prog_11_method_87_code
def yX9_bestBath : MethodName := ⟨RX9, "bestBath", "(I)I"⟩
abbrev cX9_share : ByteArray := prog_11_method_88_code
def yX9_share : MethodName := ⟨RX9, "share", "()D"⟩
abbrev cX9_readShare : ByteArray := prog_11_method_89_code
def yX9_readShare : MethodName := ⟨RX9, "readShare", "()D"⟩
abbrev cX9_mix : ByteArray := prog_11_method_90_code
def yX9_mix : MethodName := ⟨RX9, "mix", "(J)V"⟩
abbrev cX9_bits : ByteArray := prog_11_method_91_code
def yX9_bits : MethodName := ⟨RX9, "bits", "(D)J"⟩
abbrev cX9_mixSample : ByteArray := prog_11_method_92_code
def yX9_mixSample : MethodName := ⟨RX9, "mixSample", "(I)V"⟩
abbrev cX9_digest : ByteArray := prog_11_method_93_code
def yX9_digest : MethodName := ⟨RX9, "digest", "()J"⟩
def RJx8e188 : String := "java/lang/Cloneable"
def TJx8e188 : u_T := fun k => match k with
  | _ => ("", "", "", false)
def tyJx8e188 : Nat → FieldType := fun k => match k with
  | _ => .int
theorem nmJx8e188 : ∀ a, a < 0 → ∀ b, b < 0 → a ≠ b → (TJx8e188 a).2.1 ≠ (TJx8e188 b).2.1 := by decide +kernel
theorem tyJx8e188_ok : ∀ k, k < 0 → parseFieldDescriptor (TJx8e188 k).2.2.1 = some (tyJx8e188 k) := by decide +kernel
def RJ6 : String := "java/lang/Integer"
def TJ6 : u_T := fun k => match k with
  | _ => ("", "", "", false)
def tyJ6 : Nat → FieldType := fun k => match k with
  | _ => .int
theorem nmJ6 : ∀ a, a < 0 → ∀ b, b < 0 → a ≠ b → (TJ6 a).2.1 ≠ (TJ6 b).2.1 := by decide +kernel
theorem tyJ6_ok : ∀ k, k < 0 → parseFieldDescriptor (TJ6 k).2.2.1 = some (tyJ6 k) := by decide +kernel
abbrev cJ6_bitCount_0f7a4 : ByteArray := prog_17_method_49_code
def yJ6_bitCount_0f7a4 : MethodName := ⟨RJ6, "bitCount", "(I)I"⟩
def RJ9 : String := "java/lang/Math"
def TJ9 : u_T := fun k => match k with
  | _ => ("", "", "", false)
def tyJ9 : Nat → FieldType := fun k => match k with
  | _ => .int
theorem nmJ9 : ∀ a, a < 0 → ∀ b, b < 0 → a ≠ b → (TJ9 a).2.1 ≠ (TJ9 b).2.1 := by decide +kernel
theorem tyJ9_ok : ∀ k, k < 0 → parseFieldDescriptor (TJ9 k).2.2.1 = some (tyJ9 k) := by decide +kernel
abbrev cJ9_floorDiv_7cf53 : ByteArray := prog_18_method_47_code
def yJ9_floorDiv_7cf53 : MethodName := ⟨RJ9, "floorDiv", "(II)I"⟩
abbrev cJ9_abs_0f7a4 : ByteArray := prog_18_method_59_code
def yJ9_abs_0f7a4 : MethodName := ⟨RJ9, "abs", "(I)I"⟩
abbrev cJ9_max_7cf53 : ByteArray := prog_18_method_65_code
def yJ9_max_7cf53 : MethodName := ⟨RJ9, "max", "(II)I"⟩
abbrev cJ9_min_7cf53 : ByteArray := prog_18_method_69_code
def yJ9_min_7cf53 : MethodName := ⟨RJ9, "min", "(II)I"⟩
def RJ0 : String := "java/lang/String"
def TJ0 : u_T := fun k => match k with
  | _ => ("", "", "", false)
def tyJ0 : Nat → FieldType := fun k => match k with
  | _ => .int
theorem nmJ0 : ∀ a, a < 0 → ∀ b, b < 0 → a ≠ b → (TJ0 a).2.1 ≠ (TJ0 b).2.1 := by decide +kernel
theorem tyJ0_ok : ∀ k, k < 0 → parseFieldDescriptor (TJ0 k).2.2.1 = some (tyJ0 k) := by decide +kernel
abbrev cJ0_length_8abf5 : ByteArray := prog_20_method_54_code
def yJ0_length_8abf5 : MethodName := ⟨RJ0, "length", "()I"⟩
abbrev cJ0_isEmpty_aae02 : ByteArray := prog_20_method_55_code
def yJ0_isEmpty_aae02 : MethodName := ⟨RJ0, "isEmpty", "()Z"⟩
abbrev cJ0_charAt_5068e : ByteArray := prog_20_method_56_code
def yJ0_charAt_5068e : MethodName := ⟨RJ0, "charAt", "(I)C"⟩
abbrev cJ0_coder_7d493 : ByteArray := prog_20_method_152_code
def yJ0_coder_7d493 : MethodName := ⟨RJ0, "coder", "()B"⟩
abbrev cJ0_isLatin1_aae02 : ByteArray := prog_20_method_154_code
def yJ0_isLatin1_aae02 : MethodName := ⟨RJ0, "isLatin1", "()Z"⟩
abbrev cJ0_checkIndex_df160 : ByteArray := prog_20_method_155_code
def yJ0_checkIndex_df160 : MethodName := ⟨RJ0, "checkIndex", "(II)V"⟩
def RJ1 : String := "java/lang/StringLatin1"
def TJ1 : u_T := fun k => match k with
  | _ => ("", "", "", false)
def tyJ1 : Nat → FieldType := fun k => match k with
  | _ => .int
theorem nmJ1 : ∀ a, a < 0 → ∀ b, b < 0 → a ≠ b → (TJ1 a).2.1 ≠ (TJ1 b).2.1 := by decide +kernel
theorem tyJ1_ok : ∀ k, k < 0 → parseFieldDescriptor (TJ1 k).2.2.1 = some (tyJ1 k) := by decide +kernel
abbrev cJ1_charAt_3b067 : ByteArray := prog_21_method_2_code
def yJ1_charAt_3b067 : MethodName := ⟨RJ1, "charAt", "([BI)C"⟩
def RJ2 : String := "java/lang/StringUTF16"
def TJ2 : u_T := fun k => match k with
  | _ => ("", "", "", false)
def tyJ2 : Nat → FieldType := fun k => match k with
  | _ => .int
theorem nmJ2 : ∀ a, a < 0 → ∀ b, b < 0 → a ≠ b → (TJ2 a).2.1 ≠ (TJ2 b).2.1 := by decide +kernel
theorem tyJ2_ok : ∀ k, k < 0 → parseFieldDescriptor (TJ2 k).2.2.1 = some (tyJ2 k) := by decide +kernel
abbrev cJ2_getChar_3b067 : ByteArray := prog_22_method_5_code
def yJ2_getChar_3b067 : MethodName := ⟨RJ2, "getChar", "([BI)C"⟩
abbrev cJ2_length_9d52b : ByteArray := prog_22_method_6_code
def yJ2_length_9d52b : MethodName := ⟨RJ2, "length", "([B)I"⟩
abbrev cJ2_charAt_3b067 : ByteArray := prog_22_method_83_code
def yJ2_charAt_3b067 : MethodName := ⟨RJ2, "charAt", "([BI)C"⟩
abbrev cJ2_checkIndex_2214a : ByteArray := prog_22_method_91_code
def yJ2_checkIndex_2214a : MethodName := ⟨RJ2, "checkIndex", "(I[B)V"⟩
def RJ10 : String := "java/lang/System"
def TJ10 : u_T := fun k => match k with
  | _ => ("", "", "", false)
def tyJ10 : Nat → FieldType := fun k => match k with
  | _ => .int
theorem nmJ10 : ∀ a, a < 0 → ∀ b, b < 0 → a ≠ b → (TJ10 a).2.1 ≠ (TJ10 b).2.1 := by decide +kernel
theorem tyJ10_ok : ∀ k, k < 0 → parseFieldDescriptor (TJ10 k).2.2.1 = some (tyJ10 k) := by decide +kernel
def RJ3 : String := "jdk/internal/util/Preconditions"
def TJ3 : u_T := fun k => match k with
  | _ => ("", "", "", false)
def tyJ3 : Nat → FieldType := fun k => match k with
  | _ => .int
theorem nmJ3 : ∀ a, a < 0 → ∀ b, b < 0 → a ≠ b → (TJ3 a).2.1 ≠ (TJ3 b).2.1 := by decide +kernel
theorem tyJ3_ok : ∀ k, k < 0 → parseFieldDescriptor (TJ3 k).2.2.1 = some (tyJ3 k) := by decide +kernel
abbrev cJ3_checkIndex_8e157 : ByteArray := prog_25_method_11_code
def yJ3_checkIndex_8e157 : MethodName := ⟨RJ3, "checkIndex", "(IILjava/util/function/BiFunction;)I"⟩
def RL : String := "BitumenNeedleLaw"
abbrev cL_drum : ByteArray := method_3_code
def yL_drum : MethodName := ⟨RL, "drum", "(LBitumenNeedle;I[J)I"⟩
abbrev cL_age : ByteArray := method_4_code
def yL_age : MethodName := ⟨RL, "age", "(LBitumenNeedle;I[J)I"⟩
abbrev cL_sample : ByteArray := method_5_code
def yL_sample : MethodName := ⟨RL, "sample", "(LBitumenNeedle;I[J)I"⟩
abbrev cL_toss : ByteArray := method_6_code
def yL_toss : MethodName := ⟨RL, "toss", "(LBitumenNeedle;I[J)I"⟩
abbrev cL_bath : ByteArray := method_7_code
def yL_bath : MethodName := ⟨RL, "bath", "(LBitumenNeedle;II[J)I"⟩
abbrev cL_warm : ByteArray := method_8_code
def yL_warm : MethodName := ⟨RL, "warm", "(LBitumenNeedle;II[J)I"⟩
abbrev cL_pass : ByteArray := method_9_code
def yL_pass : MethodName := ⟨RL, "pass", "(LBitumenNeedle;I[J)I"⟩
abbrev cL_sink : ByteArray := method_10_code
def yL_sink : MethodName := ⟨RL, "sink", "(LBitumenNeedle;IIII[J)I"⟩
abbrev cL_renew : ByteArray := method_11_code
def yL_renew : MethodName := ⟨RL, "renew", "(LBitumenNeedle;I[J)I"⟩
abbrev cL_ring : ByteArray := method_12_code
def yL_ring : MethodName := ⟨RL, "ring", "(LBitumenNeedle;I[J)I"⟩
abbrev cL_sell : ByteArray := method_13_code
def yL_sell : MethodName := ⟨RL, "sell", "(LBitumenNeedle;I[J)I"⟩
abbrev cL_set : ByteArray := method_14_code
def yL_set : MethodName := ⟨RL, "set", "(LBitumenNeedle;II[J)I"⟩
abbrev cL_append : ByteArray := method_15_code
def yL_append : MethodName := ⟨RL, "append", "(LBitumenNeedle;I[J)I"⟩
abbrev cL_obey : ByteArray := method_16_code
def yL_obey : MethodName := ⟨RL, "obey", "(LBitumenNeedle;[J)I"⟩
abbrev cL_stopped : ByteArray := method_17_code
def yL_stopped : MethodName := ⟨RL, "stopped", "(LBitumenNeedle;I[J)I"⟩
abbrev cL_undo : ByteArray := method_18_code
def yL_undo : MethodName := ⟨RL, "undo", "(LBitumenNeedle;[J)I"⟩
abbrev cL_restore : ByteArray := method_19_code
def yL_restore : MethodName := ⟨RL, "restore", "(LBitumenNeedle;[J)I"⟩
abbrev cL_drumOf : ByteArray := method_20_code
def yL_drumOf : MethodName := ⟨RL, "drumOf", "(LBitumenNeedle;II[J)I"⟩
abbrev cL_sampleOf : ByteArray := method_21_code
def yL_sampleOf : MethodName := ⟨RL, "sampleOf", "(LBitumenNeedle;II[J)I"⟩
abbrev cL_reading : ByteArray := method_22_code
def yL_reading : MethodName := ⟨RL, "reading", "(LBitumenNeedle;III[J)I"⟩
abbrev cL_needle : ByteArray := method_23_code
def yL_needle : MethodName := ⟨RL, "needle", "(LBitumenNeedle;II[J)I"⟩
abbrev cL_bathOf : ByteArray := method_24_code
def yL_bathOf : MethodName := ⟨RL, "bathOf", "(LBitumenNeedle;II[J)I"⟩
abbrev cL_count : ByteArray := method_25_code
def yL_count : MethodName := ⟨RL, "count", "(LBitumenNeedle;I[J)I"⟩
abbrev cL_noSink : ByteArray := method_26_code
def yL_noSink : MethodName := ⟨RL, "noSink", "(LBitumenNeedle;II[J)I"⟩
abbrev cL_noSale : ByteArray := method_27_code
def yL_noSale : MethodName := ⟨RL, "noSale", "(LBitumenNeedle;I[J)I"⟩
abbrev cL_ifSunk : ByteArray := method_28_code
def yL_ifSunk : MethodName := ⟨RL, "ifSunk", "(LBitumenNeedle;IIII[J)I"⟩
abbrev cL_secondsTo : ByteArray := method_29_code
def yL_secondsTo : MethodName := ⟨RL, "secondsTo", "(LBitumenNeedle;IIII[J)I"⟩
abbrev cL_readyIn : ByteArray := method_30_code
def yL_readyIn : MethodName := ⟨RL, "readyIn", "(LBitumenNeedle;I[J)I"⟩
abbrev cL_bestBath : ByteArray := method_31_code
def yL_bestBath : MethodName := ⟨RL, "bestBath", "(LBitumenNeedle;I[J)I"⟩
abbrev cL_law : ByteArray := code
def yL_law : MethodName := ⟨RL, "law", "([I)Z"⟩
abbrev vwCl : List vw_C := [(RX0, TX0, 3), (RX1, TX1, 4), (RX2, TX2, 11), (RX3, TX3, 3), (RX4, TX4, 4), (RX5, TX5, 5), (RX6, TX6, 7), (RX8, TX8, 3), (RX9, TX9, 10)]
end
section
/-! THE FRAME: an abstract memory M (address to cell), one predicate fW between it and the heap, one judgement fR for a point of a body, one contract fM for a method. -/
abbrev MC : Type := (Nat × List Value) ⊕ (Nat × vp_A)
abbrev Mem : Type := Nat → Option MC
abbrev Out : Type := Option Value ⊕ String
abbrev FPost : Type := Out → Mem → Prop
/-- a method: name, bytes, locals, return type, room, its table of handlers -/
abbrev MD : Type := MethodName × ByteArray × Nat × Option FieldType × Room × List (Nat × Nat × Nat × Nat)
/-- what is fixed in a run: the first address of the run's own cells, the script (address, length, values), the addresses of String constants, of their arrays, of the static arrays -/
abbrev KP : Type := Nat × Nat × Nat × (Nat → Int32) × (Nat → Nat) × (Nat → Nat) × (Nat → Nat)
abbrev kO (κ : KP) : Nat := κ.1
abbrev kB (κ : KP) : Nat := κ.2.1
abbrev kL (κ : KP) : Nat := κ.2.2.1
abbrev kX (κ : KP) : Nat → Int32 := κ.2.2.2.1
abbrev kK (κ : KP) : Nat → Nat := κ.2.2.2.2.1
abbrev kV (κ : KP) : Nat → Nat := κ.2.2.2.2.2.1
abbrev kT (κ : KP) : Nat → Nat := κ.2.2.2.2.2.2
abbrev mY (μ : MD) : MethodName := μ.1
abbrev mB (μ : MD) : ByteArray := μ.2.1
abbrev mL (μ : MD) : Nat := μ.2.2.1
abbrev mT (μ : MD) : Option FieldType := μ.2.2.2.1
abbrev mR (μ : MD) : Room := μ.2.2.2.2.1
abbrev mH (μ : MD) : List (Nat × Nat × Nat × Nat) := μ.2.2.2.2.2
def fA (o : Nat) : Nat → Prop := fun q => o ≤ q
def fTy : Nat → FieldType
  | 0 => .int
  | 1 => .char
  | 2 => .long
  | 3 => .object "BitumenNeedle$Drum"
  | 4 => .object "BitumenNeedle$Specimen"
  | 5 => .object "BitumenNeedle$Needle"
  | _ => .object "BitumenNeedle$Lab"
def fIn (tys : List (ClassId × FieldType)) (ws : va_W) (a : Nat) : MC → Prop
  | .inl x => ∃ k : Nat, ws[k]? = some (a, (Sum.inr x : va_E))
  | .inr x => ∃ (k k' : Nat) (cA : ClassId), ws[k]? = some (a, (Sum.inl (cA, x.2) : va_E)) ∧ tys[k']? = some (cA, fTy x.1)
/-- the heap H holds what M says -/
def fW (o : Nat) (U : State) (M : Mem) (H : Heap) : Prop :=
  ∃ (dC : Nat → ClassId) (dI : Nat → Nat → Nat) (tys : List (ClassId × FieldType)) (ws : va_W), va_K (dC, dI) vwCl tys U ∧ va_P (dC, dI) vwCl ws H ∧ va_D (fA o) ws ∧ (∀ a c, M a = some c → fIn tys ws a c)
theorem fW.moved {o : Nat} {u U : State} {M : Mem} {H : Heap} (hvm : u.vm.Alike U.vm) (h : fW o u M H) : fW o U M H := by
  obtain ⟨dC, dI, tys, ws, h1, h2⟩ := h
  exact ⟨dC, dI, tys, ws, va_K.moved hvm h1, h2⟩
/-- the String constants: class, place in its file, text, our number -/
def fStr : List (String × Nat × String × Nat) := [("BitumenNeedle$Part", 9, "", 0), ("BitumenNeedle$Part", 52, "D", 1), ("BitumenNeedle$Part", 54, "PB", 2), ("BitumenNeedle$Part", 56, "NP*W/S", 3), ("BitumenNeedle$Part", 58, "P", 4), ("BitumenNeedle$Part", 60, "M", 5), ("BitumenNeedle", 259, "a value is out of range", 6), ("BitumenNeedle", 261, "there is no such drum or sample", 7), ("BitumenNeedle", 263, "it is refused", 8), ("BitumenNeedle", 256, "there is no such number", 9), ("BitumenNeedle", 152, "the buffer is not complete orders", 10), ("BitumenNeedle", 179, "no state is saved", 11), ("BitumenNeedle", 195, "there is no snapshot", 12), ("BitumenNeedle", 203, "a reading has a place from 0", 13)]
def fLen : List Nat := [0, 1, 2, 6, 1, 1]
def fByt : List (List Int32) := [[], [68], [80, 66], [78, 80, 42, 87, 47, 83], [80], [77]]
def fNcs : List (String × String) := [("java/lang/IndexOutOfBoundsException", "java/lang/IllegalArgumentException"), ("java/lang/IllegalStateException", "java/lang/IllegalArgumentException"), ("java/lang/IllegalArgumentException", "java/lang/IllegalStateException"), ("java/lang/IndexOutOfBoundsException", "java/lang/IllegalStateException"), ("java/lang/IllegalArgumentException", "java/lang/IndexOutOfBoundsException"), ("java/lang/IllegalStateException", "java/lang/IndexOutOfBoundsException")]
/-- constants of the run that lie below its own cells -/
def fZ (κ : KP) (U : State) (H : Heap) : Prop :=
  (va_X (kB κ) (kL κ) (kX κ) U H ∧ kB κ < kO κ) ∧
  (va_Z "BitumenNeedle" "FIRST_DEGREES" "[I" (.ref (kT κ 0)) (fA (kO κ)) U H ∧ va_T .int (kT κ 0) 3 (fun j => .int ([150, 250, 350].getD j 0)) (fA (kO κ)) U H) ∧
  (va_Z "BitumenNeedle" "FIRST_SETTINGS" "[I" (.ref (kT κ 1)) (fA (kO κ)) U H ∧ va_T .int (kT κ 1) 3 (fun j => .int ([5, 12, 8].getD j 0)) (fA (kO κ)) U H) ∧
  (va_Z "BitumenNeedle" "MOST_OF_SETTING" "[I" (.ref (kT κ 2)) (fA (kO κ)) U H ∧ va_T .int (kT κ 2) 3 (fun j => .int ([50, 100, 60].getD j 0)) (fA (kO κ)) U H) ∧
  (vx_Zq Bundle.tN "UNASSIGNED_STACK" Bundle.steD (fA (kO κ)) U H ∧ vx_Zq Bundle.tN "SUPPRESSED_SENTINEL" Bundle.listD (fA (kO κ)) U H) ∧
  (vk_S 6 fLen fByt (kK κ) (kV κ) (fA (kO κ)) U H ∧ va_Z "java/lang/String" "COMPACT_STRINGS" "Z" (.int 1) (fA (kO κ)) U H)
theorem fZ.moved {κ : KP} {u U : State} {H : Heap} (hvm : u.vm.Alike U.vm) (h : fZ κ u H) : fZ κ U H := by
  obtain ⟨⟨a1, a2⟩, ⟨b1, b2⟩, ⟨c1, c2⟩, ⟨d1, d2⟩, ⟨e1, e2⟩, f1, f2⟩ := h
  exact ⟨⟨va_X.moved hvm a1, a2⟩, ⟨va_Z.moved hvm b1, va_T.moved hvm b2⟩, ⟨va_Z.moved hvm c1, va_T.moved hvm c2⟩, ⟨va_Z.moved hvm d1, va_T.moved hvm d2⟩, ⟨vx_Zq.moved hvm e1, vx_Zq.moved hvm e2⟩, vk_S.moved hvm f1, va_Z.moved hvm f2⟩
theorem fZ.kept {κ : KP} {U : State} {H H1 : Heap} (h : fZ κ U H) (hq : ∀ a : Nat, a < H.size → ¬ fA (kO κ) a → H1[a]? = H[a]?) : fZ κ U H1 := by
  obtain ⟨⟨a1, a2⟩, ⟨b1, b2⟩, ⟨c1, c2⟩, ⟨d1, d2⟩, ⟨e1, e2⟩, f1, f2⟩ := h
  have hb : H1[kB κ]? = H[kB κ]? := by
    obtain ⟨scr, h1, -⟩ := a1
    exact hq _ (Array.getElem?_eq_some_iff.mp h1).1 (Nat.not_le.mpr a2)
  exact ⟨⟨a1.kept hb, a2⟩, ⟨b1.kept hq, b2.kept hq⟩, ⟨c1.kept hq, c2.kept hq⟩, ⟨d1.kept hq, d2.kept hq⟩, ⟨e1.kept hq, e2.kept hq⟩, f1.kept hq, f2.kept hq⟩
/-- words that keep by other laws than the good ones -/
def fKind : Cond → Bool
  | .methodLinkNest .. => true
  | .fieldLinkNest .. => true
  | .declares _ => true
  | .castable .. => true
  | .privateMethod _ => true
  | _ => false
theorem fKind_warm {w : Cond} {s U : State} (hW : s.WarmedH U.vm) (hk : fKind w = true) (h : va_Nw w s) : va_Nw w U := by
  cases w with
  | methodLinkNest a b c d => exact va_Nw.warmM hW h
  | fieldLinkNest a b c d e f => exact va_Nw.warmF hW h
  | declares a => exact va_Nw.warmD hW h
  | castable a b => exact va_Nw.warmC hW h
  | privateMethod x => exact va_tabs rfl (rfl : (s.setVm U.vm).vm = U.vm) (by rw [Cond.privateMethod_setVm hW.alike]; exact h)
  | _ => cases hk
def fN (κ : KP) (U : State) : Prop :=
  (∀ w ∈ lw_tbl, fKind w = true → va_Nw w U) ∧
  (∀ C ∈ ["BitumenNeedle$Drum", "BitumenNeedle$Specimen", "BitumenNeedle$Needle", "BitumenNeedle$Lab"], va_AO C U) ∧
  (∀ q ∈ fStr, vk_R q.1 q.2.1 q.2.2.1 (kK κ q.2.2.2) U) ∧
  (∀ q ∈ fNcs, va_Nc q.1 q.2 U)
theorem fN.warm {κ : KP} {s U : State} (hW : s.WarmedH U.vm) (h : fN κ s) : fN κ U :=
  ⟨fun w hw hk => fKind_warm hW hk (h.1 w hw hk), fun C hC => va_AO.moved hW.alike (h.2.1 C hC), fun q hq => vk_R.warm hW (h.2.2.1 q hq), fun q hq => va_Nc.moved hW.alike (h.2.2.2 q hq)⟩
def fCode (μ : MD) : Cond := match mH μ with
  | [] => .code (mY μ) (mB μ) (mL μ) (mT μ)
  | hh => .codeWith (mY μ) (mB μ) (mL μ) (mT μ) hh
def lwG : List Cond := lw_tbl.filter goodWord
theorem lwG_of {w : Cond} (h : w ∈ lw_tbl) (hg : goodWord w = true) : w ∈ lwG := List.mem_filter.mpr ⟨h, hg⟩
theorem lw_of {w : Cond} {i : Nat} (h : tables_1[i]? = some w) : w ∈ lw_tbl := List.mem_append_right _ (List.mem_of_getElem? h)
/-- what stands through a whole body -/
def fC (l : Launch) (κ : KP) (μ : MD) (p : Program) (e : Env) (s : State) (m : MethodId) (args : Array Value) (meth : Method) (c : Code) : Prop :=
  l.stackTraces = false ∧ p.tables.exec = Jvm.exec ∧ c.code = mB μ ∧ meth.sig.returnType = mT μ ∧ c.maxLocals = mL μ ∧ s.vm.findClass (mY μ).cls = some m.cls ∧ (∀ w ∈ lwG, w.before args s = true) ∧ meth.locks = false ∧ meth.name = (mY μ).name ∧ c.exceptionTable.toList = tableOf (mH μ) ∧ fZ κ s s.heap ∧ fN κ s ∧ kO κ ≤ s.heap.size
def fQ (κ : KP) (P : FPost) : Array Value → State → Outcome → State → Prop := fun _ st oc t => (∃ (v : Option Value) (M' : Mem), oc = .returned v ∧ P (.inl v) M' ∧ fW (kO κ) t M' t.heap) ∧ va_F (fA (kO κ)) st t
def fX (κ : KP) (P : FPost) : String → State → State → Prop := fun E st t => (∃ M' : Mem, P (.inr E) M' ∧ fW (kO κ) t M' t.heap) ∧ va_F (fA (kO κ)) st t
def fP (κ : KP) (av : List Value) (M : Mem) : Array Value → State → Prop := va_Pc av (fun U => fW (kO κ) U M U.heap ∧ fZ κ U U.heap ∧ fN κ U ∧ kO κ ≤ U.heap.size)
/-- a method's contract -/
def fM (l : Launch) (κ : KP) (μ : MD) (av : List Value) (M : Mem) (P : FPost) : Prop :=
  l.stackTraces = false → vx_Met l (mY μ) (fCode μ :: lwG) (mR μ) (fP κ av M) (fQ κ P) (fX κ P) (mR μ).cells (mR μ).slots (fA (kO κ))
/-- a point of a body: locals lv, stack st, memory M, bc cells and bs slots still to be made -/
def fR (l : Launch) (κ : KP) (μ : MD) (pc : Nat) (lv : List (Nat × Value)) (st : List Value) (M : Mem) (bc bs : Nat) (P : FPost) : Prop :=
  ∀ (p : Program) (e : Env) (s : State) (m : MethodId) (args : Array Value) (below : List Frame) (meth : Method) (c : Code), fC l κ μ p e s m args meth c →
    ∀ (H : Heap) (locs : List Loc) (cells slots : Nat) (ls : Array Slot), fW (kO κ) s M H → va_S (fA (kO κ)) s.heap H locs → lv_has ls (mL μ) lv → cells + bc ≤ (mR μ).cells → slots + bs ≤ (mR μ).slots →
      W p l e (mR μ) s m args below meth c H locs cells slots (vx_MQ below (fQ κ P) (fX κ P) args s (mR μ).cells (mR μ).slots (fA (kO κ))) (F0 m pc ls st)

theorem fZ.at {κ : KP} {s : State} {H : Heap} {locs : List Loc} (h : fZ κ s s.heap) (hS : va_S (fA (kO κ)) s.heap H locs) : fZ κ s H := h.kept hS.2.1
theorem fP_blind {κ : KP} {av : List Value} {M : Mem} : FrameBlind (fP κ av M) := by
  intro a U g mk ⟨h0, h1, h2, h3, h4⟩
  refine ⟨h0, ?_, ?_, ?_, h4⟩
  · exact fW.moved (u := U) (U := U.calling g mk a) (Vm.Alike.refl U.vm) h1
  · exact fZ.moved (u := U) (U := U.calling g mk a) (Vm.Alike.refl U.vm) h2
  · obtain ⟨a1, a2, a3, a4⟩ := h3
    exact ⟨fun w hw hk => va_tabs (by cases w <;> first | rfl | cases hk) (rfl : U.vm = (U.calling g mk a).vm) (a1 w hw hk), fun C hC => va_AO.moved (u := U) (U := U.calling g mk a) (Vm.Alike.refl U.vm) (a2 C hC), fun q hq => vk_R.same (u := U) rfl (a3 q hq), fun q hq => va_Nc.moved (u := U) (U := U.calling g mk a) (Vm.Alike.refl U.vm) (a4 q hq)⟩
section FR
variable {l : Launch} {κ : KP} {μ μ' : MD} {pc : Nat} {lv : List (Nat × Value)} {st rest : List Value} {M : Mem} {bc bs : Nat} {P P' : FPost}
/-- a body's start -/
theorem fM_of {av : List Value} (hH : mH μ = []) (hy : plainName (mY μ).cls = true) (hn : (lg_sl av).length ≤ mL μ) (k : fR l κ μ 0 (lv_args 0 av) [] M (mR μ).cells (mR μ).slots P) : fM l κ μ av M P := by
  intro hl
  have hcode : fCode μ = Cond.code (mY μ) (mB μ) (mL μ) (mT μ) := by unfold fCode; rw [hH]
  rw [hcode]
  refine vx_ofW (cc := mB μ) (maxL := mL μ) (ret := mT μ) hy rfl ?_
  intro p e s m args below meth c s₁ B hml htab hv
  obtain ⟨rfl, hW, hZ, hN, hO⟩ := hv
  have htl : c.exceptionTable.toList = tableOf (mH μ) := by
    rw [hH]
    cases ht : c.exceptionTable.toList with
    | nil => rfl
    | cons x t => exact (htab x (by rw [ht]; exact List.mem_cons_self)).elim
  have hts := atoms_spec (ws := Cond.code (mY μ) (mB μ) (mL μ) (mT μ) :: lwG) B.pre
  rw [lg_entry_eq]
  exact k p e s m av.toArray below meth c ⟨hl, B.exec, B.bytes, B.returns, hml, findClass_of_methodNamed B.named, fun w hw => hts w (List.mem_cons_of_mem _ hw), B.notSynchronized, (name_of_methodNamed B.named B.method).1, htl, hZ, hN, hO⟩ s.heap [] 0 0 _ hW va_S.rf (lv_entry av hn) (Nat.le_of_eq (Nat.zero_add _)) (Nat.le_of_eq (Nat.zero_add _))
/-- a weaker end -/
theorem fR.mono (h : fR l κ μ pc lv st M bc bs P) (hP : ∀ o M', P o M' → P' o M') : fR l κ μ pc lv st M bc bs P' := by
  intro p e s m args below meth c C H locs cells slots ls hW hS hl hc hs
  have k := h p e s m args below meth c C H locs cells slots ls hW hS hl hc hs
  intro T hT X
  obtain ⟨t, a1, o, b1, b2, b3⟩ := k T hT X
  refine ⟨t, a1, o, b1, b2, ?_⟩
  rcases b3 with ⟨⟨⟨v, M', h1, h2, h3⟩, h4⟩, h5⟩ | ⟨q, h0, E, ce, L, ⟨⟨M', h1, h2⟩, h3⟩, h4⟩
  · exact Or.inl ⟨⟨⟨v, M', h1, hP _ _ h2, h3⟩, h4⟩, h5⟩
  · exact Or.inr ⟨q, h0, E, ce, L, ⟨⟨M', hP _ _ h1, h2⟩, h3⟩, h4⟩
theorem fM.mono {av : List Value} (h : fM l κ μ av M P) (hP : ∀ o M', P o M' → P' o M') : fM l κ μ av M P' := by
  intro hl
  refine MetFree.mono (h hl) (fun _ _ h => h) (fun _ _ _ _ _ h => h) ?_
  rintro a s o t - (⟨⟨⟨v, M', h1, h2, h3⟩, h4⟩, h5⟩ | ⟨q, h0, E, ce, L, ⟨⟨M', h1, h2⟩, h3⟩, h4⟩)
  · exact Or.inl ⟨⟨⟨v, M', h1, hP _ _ h2, h3⟩, h4⟩, h5⟩
  · exact Or.inr ⟨q, h0, E, ce, L, ⟨⟨M', hP _ _ h1, h2⟩, h3⟩, h4⟩
/-- a method that doesn't throw -/
theorem fM_met {av : List Value} (h : fM l κ μ av M P) (hl : l.stackTraces = false) (hno : ∀ E M', ¬ P (.inr E) M') : Met l (mY μ) (fCode μ :: lwG) (mR μ) (fP κ av M) (fQ κ P) (mR μ).cells (mR μ).slots (fA (kO κ)) := by
  refine MetFree.mono (h hl) (fun _ _ h => h) (fun _ _ _ _ _ h => h) ?_
  rintro a s o t - (h1 | ⟨q, h0, E, ce, L, ⟨⟨M', h1, -⟩, -⟩, -⟩)
  · exact h1
  · exact (hno _ _ h1).elim
/-- the ends -/
theorem fR_iret {v : Int32} (d : decode (mB μ) pc = .ok (.ireturn, 1)) (hr : mT μ = some .int) (hP : P (.inl (some (.int v))) M) : fR l κ μ pc lv [.int v] M bc bs P := by
  intro p e s m args below meth c C H locs cells slots ls hW hS hl hc hs
  refine W.widen (k := (mR μ).cells) (n := (mR μ).slots) (by omega) (by omega) (vx_ret ?_)
  exact W.iret C.2.1 C.2.2.1 (C.2.2.2.1.trans hr) (fun t ht hw => ⟨⟨_, M, rfl, hP, by rw [ht]; exact hW.moved hw.alike⟩, hS.F ht⟩) hS.2.2 d (hlocks := C.2.2.2.2.2.2.2.1)
theorem fR_zret {v : Int32} {ty : FieldType} (d : decode (mB μ) pc = .ok (.ireturn, 1)) (hr : mT μ = some ty) (hn : narrow ty (.int v) = .int v) (hP : P (.inl (some (.int v))) M) : fR l κ μ pc lv [.int v] M bc bs P := by
  intro p e s m args below meth c C H locs cells slots ls hW hS hl hc hs
  refine W.widen (k := (mR μ).cells) (n := (mR μ).slots) (by omega) (by omega) (vx_ret ?_)
  exact W.zret C.2.1 C.2.2.1 (C.2.2.2.1.trans hr) hn (fun t ht hw => ⟨⟨_, M, rfl, hP, by rw [ht]; exact hW.moved hw.alike⟩, hS.F ht⟩) hS.2.2 d (hlocks := C.2.2.2.2.2.2.2.1)
theorem fR_vret (d : decode (mB μ) pc = .ok (.return_, 1)) (hr : mT μ = none) (hP : P (.inl none) M) : fR l κ μ pc lv [] M bc bs P := by
  intro p e s m args below meth c C H locs cells slots ls hW hS hl hc hs
  refine W.widen (k := (mR μ).cells) (n := (mR μ).slots) (by omega) (by omega) (vx_ret ?_)
  exact W.vret C.2.1 C.2.2.1 (C.2.2.2.1.trans hr) (fun t ht hw => ⟨⟨_, M, rfl, hP, by rw [ht]; exact hW.moved hw.alike⟩, hS.F ht⟩) hS.2.2 d (hlocks := C.2.2.2.2.2.2.2.1)
theorem fR_lret {v : Int64} (d : decode (mB μ) pc = .ok (.lreturn, 1)) (hr : mT μ = some .long) (hP : P (.inl (some (.long v))) M) : fR l κ μ pc lv [.long v] M bc bs P := by
  intro p e s m args below meth c C H locs cells slots ls hW hS hl hc hs
  refine W.widen (k := (mR μ).cells) (n := (mR μ).slots) (by omega) (by omega) (vx_ret ?_)
  exact W.lret C.2.1 C.2.2.1 (C.2.2.2.1.trans hr) (fun t ht hw => ⟨⟨_, M, rfl, hP, by rw [ht]; exact hW.moved hw.alike⟩, hS.F ht⟩) hS.2.2 d (hlocks := C.2.2.2.2.2.2.2.1)
theorem fR_dret {v : UInt64} (d : decode (mB μ) pc = .ok (.dreturn, 1)) (hr : mT μ = some .double) (hP : P (.inl (some (.double v))) M) : fR l κ μ pc lv [.double v] M bc bs P := by
  intro p e s m args below meth c C H locs cells slots ls hW hS hl hc hs
  refine W.widen (k := (mR μ).cells) (n := (mR μ).slots) (by omega) (by omega) (vx_ret ?_)
  exact W.dret C.2.1 C.2.2.1 (C.2.2.2.1.trans hr) (fun t ht hw => ⟨⟨_, M, rfl, hP, by rw [ht]; exact hW.moved hw.alike⟩, hS.F ht⟩) hS.2.2 d (hlocks := C.2.2.2.2.2.2.2.1)
/-- what every use of a method needs of the tables -/
def fOK (μ : MD) (n : Nat) : Prop := mH μ = [] ∧ fCode μ ∈ lw_tbl ∧ Cond.initialized (mY μ).cls ∈ lw_tbl ∧ ((mY μ).cls ≠ "java/lang/invoke/MethodHandle" ∧ (mY μ).cls ≠ "java/lang/invoke/VarHandle") ∧ (parseMethodDescriptor (mY μ).desc).map (fun d => d.parameters.length) = some n
def fRoom (μ μ' : MD) (bc bs : Nat) : Prop := (mR μ').frames + 1 ≤ (mR μ).frames ∧ 8 + (mL μ' + 11) + (mR μ').locals ≤ (mR μ).locals ∧ (mR μ').cells ≤ bc ∧ (mR μ').slots ≤ bs
theorem fcallB {n idx : Nat} {s : State} {args : Array Value} (hts : ∀ w ∈ lwG, w.before args s = true) (hok : fOK μ' n) (hlink : Cond.methodLink (mY μ).cls idx (mY μ') ∈ lw_tbl) (hR : fRoom μ μ' bc bs) :
    CallB (mR μ) s args (mY μ).cls idx (mY μ') (mB μ') (mL μ') (mT μ') (fCode μ' :: lwG) (mR μ') (mR μ').cells (mR μ').slots n := by
  obtain ⟨h0, h1, h2, h3, h4⟩ := hok
  have hc : fCode μ' = Cond.code (mY μ') (mB μ') (mL μ') (mT μ') := by unfold fCode; rw [h0]
  rw [hc] at h1 ⊢
  refine callB_of n hts ?_ rfl rfl rfl (hts _ (lwG_of h2 rfl)) (hts _ (lwG_of hlink rfl)) ⟨h3.1, h3.2, h4⟩ ⟨hR.1, hR.2.1⟩
  intro w hw
  rcases List.mem_cons.mp hw with rfl | hw
  · exact ⟨lwG_of h1 rfl, good_of_word rfl⟩
  · exact ⟨hw, good_of_word (List.mem_filter.mp hw).2⟩
/-- behind a call: it returned, or it threw and this method lets it pass -/
theorem fR_run {p : Program} {e : Env} {s : State} {m : MethodId} {args : Array Value} {below : List Frame} {meth : Method} {c : Code} {H : Heap} {locs : List Loc} {cells slots : Nat} {ls : Array Slot} {a : Array Value} {st0 : List Value}
    (C : fC l κ μ p e s m args meth c) (hH : mH μ = []) (hS : va_S (fA (kO κ)) s.heap H locs) (hl : lv_has ls (mL μ) lv) (hc : cells + bc ≤ (mR μ).cells) (hs : slots + bs ≤ (mR μ).slots) (hb : (mR μ').cells ≤ bc ∧ (mR μ').slots ≤ bs)
    (hr : vx_Run p l e (mR μ) s m args below meth c H locs cells slots (mR μ').cells (mR μ').slots (F0 m pc ls st0) rest (fQ κ P' a) (fX κ P') (fA (kO κ)))
    (kr : ∀ v M', P' (.inl v) M' → fR l κ μ (pc + 3) lv (v.toList ++ rest) M' (bc - (mR μ').cells) (bs - (mR μ').slots) P) (kx : ∀ E M', P' (.inr E) M' → P (.inr E) M') :
    W p l e (mR μ) s m args below meth c H locs cells slots (vx_MQ below (fQ κ P) (fX κ P) args s (mR μ).cells (mR μ).slots (fA (kO κ))) (F0 m pc ls st0) := by
  intro T hT X
  have hA : ∀ q, q < H.size → fA (kO κ) q → fA (kO κ) q := fun _ _ h => h
  have hf : ∀ q, fA (kO κ) q → fA (kO κ) q := fun _ h => h
  rcases hr T hT X with ⟨v, st₀, t, T', L, h0, X', hL, e1, e2, ⟨⟨v', M', hv, hp, hw⟩, hF⟩, stp⟩ | ⟨q, st₀, t, T', L, E, ce, h0, X', hL, e1, e2, ⟨⟨M', hp, hw⟩, hF⟩, hce, hcv, hcl, stp⟩
  · cases hv
    obtain ⟨k1, k2, k3⟩ := vx_keep h0 e1 hS hA hf hL hF
    have hal : s.vm.Alike t.vm := by rw [← e2]; exact X'.warmed.alike
    obtain ⟨t2, a1, b1⟩ := kr v M' hp p e s m args below meth c C T'.heap (locs ++ L) (cells + (mR μ').cells) (slots + (mR μ').slots) ls (by rw [e1]; exact hw.moved hal.symm) k3 hl (by omega) (by omega) T' rfl X'
    exact ⟨t2, stp t2 a1, b1⟩
  · obtain ⟨k1, k2, k3⟩ := vx_keep h0 e1 hS hA hf hL hF
    have hal : s.vm.Alike t.vm := by rw [← e2]; exact X'.warmed.alike
    have htab : ∀ x ∈ c.exceptionTable.toList, covers x pc = false := by
      have h9 := C.2.2.2.2.2.2.2.2.2.1
      rw [hH] at h9
      intro x hx
      rw [h9] at hx
      cases hx
    obtain ⟨t2, a1, b1⟩ := (vx_out (p := p) (l := l) (e := e) (R := mR μ) (s := s) (m := m) (args := args) (below := below) (meth := meth) (c := c) (H := T'.heap) (locs := locs ++ L) (cells := cells + (mR μ').cells) (slots := slots + (mR μ').slots) (ls := ls) (rest := rest) (Qc := fQ κ P) (XC := fX κ P) (pc := pc) (free := fA (kO κ)) htab C.2.2.2.2.2.2.2.1 (by rw [e1]; exact hce) hcv hcl
      (fun t9 h9 hal9 => ⟨⟨M', kx E M' hp, by rw [h9, e1]; exact (hw.moved hal.symm).moved hal9⟩, ⟨by rw [h9]; exact k3.1, fun q h1 h2 => by rw [h9]; exact k3.2.1 q h1 h2⟩⟩) k3.2.2 (show cells + (mR μ').cells ≤ (mR μ).cells by omega) (show slots + (mR μ').slots ≤ (mR μ).slots by omega)) T' rfl X'
    exact ⟨t2, stp.trans a1, b1⟩
/-- a virtual call of a method of the receiver's own class -/
theorem fR_callV {idx n b ci : Nat} {fs As : List Value} {q : vw_C} (d : decode (mB μ) pc = .ok (.invokevirtual idx, 3)) (hM : fM l κ μ' (.ref b :: As) M P') (hst : st = As.reverse ++ .ref b :: rest)
    (hb : M b = some (.inl (ci, fs))) (hcl : vwCl[ci]? = some q) (hq : q.1 = (mY μ').cls) (hok : fOK μ' n) (hn : As.length = n) (hlink : Cond.methodLink (mY μ).cls idx (mY μ') ∈ lw_tbl) (hin : Cond.instanceMethod (mY μ') ∈ lw_tbl) (hse : Cond.selects (mY μ').cls (mY μ') (mY μ') ∈ lw_tbl)
    (hR : fRoom μ μ' bc bs) (hcat : (rest.map fun v => v.category).sum ≤ 8) (hH : mH μ = [])
    (kr : ∀ v M', P' (.inl v) M' → fR l κ μ (pc + 3) lv (v.toList ++ rest) M' (bc - (mR μ').cells) (bs - (mR μ').slots) P) (kx : ∀ E M', P' (.inr E) M' → P (.inr E) M') : fR l κ μ pc lv st M bc bs P := by
  subst hst
  intro p e s m args below meth c C H locs cells slots ls hW hS hl hc hs
  have hts := C.2.2.2.2.2.2.1
  obtain ⟨dC, dI, tys, ws, hK, hP, hD, hM9⟩ := id hW
  obtain ⟨k0, hk0⟩ := hM9 b _ hb
  refine fR_run C hH hS hl hc hs hR.2.2 (vx_runV (As := As) (rest := rest) (n := n) (C := (mY μ').cls) (own := (mY μ).cls) (index := idx) ⟨C.2.1, C.2.2.1, C.2.2.2.2.1, C.2.2.2.2.2.1, hts⟩ (hM C.1) ⟨fcallB hts hok hlink hR, hts _ (lwG_of hin rfl), hts _ (lwG_of hse rfl)⟩ ⟨fP_blind, ?_, ?_⟩ rfl hn hl.1 rfl (lv_room hcat) d ⟨?_, ?_⟩) kr kx
  · obtain ⟨cell, g1, g2, g3⟩ := va_recv hK hP hcl hk0
    exact ⟨cell, g1, g2, by rw [← hq]; exact g3⟩
  · intro U hU hw
    exact ⟨rfl, by rw [hU]; exact hW.moved hw.alike, by rw [hU]; exact (C.2.2.2.2.2.2.2.2.2.2.1.at hS).moved hw.alike, fN.warm hw C.2.2.2.2.2.2.2.2.2.2.2.1, by rw [hU]; exact Nat.le_trans C.2.2.2.2.2.2.2.2.2.2.2.2 hS.1⟩
  · have := hR.2.2.1; omega
  · have := hR.2.2.2; omega
/-- a static call -/
theorem fR_callS {idx n : Nat} {As : List Value} (d : decode (mB μ) pc = .ok (.invokestatic idx, 3)) (hM : fM l κ μ' As M P') (hst : st = As.reverse ++ rest)
    (hok : fOK μ' n) (hn : As.length = n) (hlink : Cond.methodLink (mY μ).cls idx (mY μ') ∈ lw_tbl) (hin : Cond.static (mY μ') ∈ lw_tbl)
    (hR : fRoom μ μ' bc bs) (hcat : (rest.map fun v => v.category).sum ≤ 8) (hH : mH μ = [])
    (kr : ∀ v M', P' (.inl v) M' → fR l κ μ (pc + 3) lv (v.toList ++ rest) M' (bc - (mR μ').cells) (bs - (mR μ').slots) P) (kx : ∀ E M', P' (.inr E) M' → P (.inr E) M') : fR l κ μ pc lv st M bc bs P := by
  subst hst
  intro p e s m args below meth c C H locs cells slots ls hW hS hl hc hs
  have hts := C.2.2.2.2.2.2.1
  refine fR_run C hH hS hl hc hs hR.2.2 (vx_runS (As := As) (rest := rest) (n := n) (own := (mY μ).cls) (index := idx) ⟨C.2.1, C.2.2.1, C.2.2.2.2.1, C.2.2.2.2.2.1, hts⟩ (hM C.1) ⟨fcallB hts hok hlink hR, hts _ (lwG_of hin rfl)⟩ ⟨fP_blind, ?_⟩ rfl hn hl.1 rfl (lv_room hcat) d ⟨?_, ?_⟩) kr kx
  · intro U hU hw
    exact ⟨rfl, by rw [hU]; exact hW.moved hw.alike, by rw [hU]; exact (C.2.2.2.2.2.2.2.2.2.2.1.at hS).moved hw.alike, fN.warm hw C.2.2.2.2.2.2.2.2.2.2.2.1, by rw [hU]; exact Nat.le_trans C.2.2.2.2.2.2.2.2.2.2.2.2 hS.1⟩
  · have := hR.2.2.1; omega
  · have := hR.2.2.2; omega
end FR
end
section
/-! THE RULES: a row an instruction, over fR. -/
def fget : List (Nat × Value) → Nat → Option Value
  | [], _ => none
  | (j, v) :: t, i => if j = i then some v else fget t i
theorem fget_mem : ∀ {lv : List (Nat × Value)} {i : Nat} {v : Value}, fget lv i = some v → (i, v) ∈ lv
  | [], i, v, h => by cases h
  | (j, w) :: t, i, v, h => by
    unfold fget at h
    by_cases e : j = i
    · rw [if_pos e] at h; cases h; subst e; exact List.mem_cons_self
    · rw [if_neg e] at h; exact List.mem_cons_of_mem _ (fget_mem h)
theorem fget_at {ls : Array Slot} {n : Nat} {lv : List (Nat × Value)} (h : lv_has ls n lv) {i : Nat} {v : Value} (hv : fget lv i = some v) : ls[i]? = some (.val v) := h.2.2 (i, v) (fget_mem hv)
/-- one change of the memory -/
def fup (M : Mem) (a : Nat) (c : MC) : Mem := fun b => if b = a then some c else M b
theorem fup_eq {M : Mem} {a : Nat} {c : MC} : fup M a c a = some c := if_pos rfl
theorem fup_ne {M : Mem} {a b : Nat} {c : MC} (h : b ≠ a) : fup M a c b = M b := if_neg h
theorem fIn_set {tys : List (ClassId × FieldType)} {ws : va_W} {M : Mem} {o a k0 : Nat} {e e' : va_E} {c' : MC} (hD : va_D (fA o) ws) (h : ∀ b c, M b = some c → fIn tys ws b c) (hk : ws[k0]? = some (a, e)) (hc : fIn tys (ws.set k0 (a, e')) a c') : ∀ b c, fup M a c' b = some c → fIn tys (ws.set k0 (a, e')) b c := by
  intro b c hb
  by_cases e9 : b = a
  · subst e9; rw [fup_eq] at hb; cases hb; exact hc
  · rw [fup_ne e9] at hb
    have keep : ∀ (k : Nat) (z : Nat × va_E), ws[k]? = some z → z.1 = b → (ws.set k0 (a, e'))[k]? = some z := by
      intro k z hz hb
      rw [List.getElem?_set]
      by_cases e8 : k0 = k
      · subst e8; rw [hk] at hz; cases hz; exact absurd hb.symm e9
      · rw [if_neg e8]; exact hz
    have h1 := h b c hb
    cases c with
    | inl x => obtain ⟨k, hk⟩ := h1; exact ⟨k, keep k _ hk rfl⟩
    | inr x => obtain ⟨k, k', cA, hk, ht⟩ := h1; exact ⟨k, k', cA, keep k _ hk rfl, ht⟩
theorem fset_at {ws : va_W} {k0 a : Nat} {e e' : va_E} (hk : ws[k0]? = some (a, e)) : (ws.set k0 (a, e'))[k0]? = some (a, e') := by
  rw [List.getElem?_set, if_pos rfl, if_pos (List.getElem?_eq_some_iff.mp hk).1]
theorem fIn_push {tys tys' : List (ClassId × FieldType)} {ws : va_W} {M : Mem} {q : Nat} {e : va_E} {c' : MC} (h : ∀ b c, M b = some c → fIn tys ws b c) (hc : fIn (tys ++ tys') (ws ++ [(q, e)]) q c') : ∀ b c, fup M q c' b = some c → fIn (tys ++ tys') (ws ++ [(q, e)]) b c := by
  intro b c hb
  by_cases e9 : b = q
  · subst e9; rw [fup_eq] at hb; cases hb; exact hc
  · rw [fup_ne e9] at hb
    have k1 : ∀ (k : Nat) (z : Nat × va_E), ws[k]? = some z → (ws ++ [(q, e)])[k]? = some z := fun k z hz => by
      rw [List.getElem?_append_left (List.getElem?_eq_some_iff.mp hz).1]; exact hz
    have k2 : ∀ (k : Nat) (z : ClassId × FieldType), tys[k]? = some z → (tys ++ tys')[k]? = some z := fun k z hz => by
      rw [List.getElem?_append_left (List.getElem?_eq_some_iff.mp hz).1]; exact hz
    have h1 := h b c hb
    cases c with
    | inl x => obtain ⟨k, hk⟩ := h1; exact ⟨k, k1 k _ hk⟩
    | inr x => obtain ⟨k, k', cA, hk, ht⟩ := h1; exact ⟨k, k', cA, k1 k _ hk, k2 k' _ ht⟩
theorem fIn_fresh {tys : List (ClassId × FieldType)} {ws : va_W} {M : Mem} {o q : Nat} {e : va_E} (hD : va_D (fA o) (ws ++ [(q, e)])) (h : ∀ b c, M b = some c → fIn tys ws b c) : M q = none := by
  cases hq : M q with
  | none => rfl
  | some c =>
    have key : ∀ (k : Nat) (z : va_E), ws[k]? = some (q, z) → False := by
      intro k z hz
      have hlt := (List.getElem?_eq_some_iff.mp hz).1
      have h1 : (ws ++ [(q, e)])[k]? = some (q, z) := by rw [List.getElem?_append_left hlt]; exact hz
      have h2 : (ws ++ [(q, e)])[ws.length]? = some (q, e) := by simp
      have := hD.1 k ws.length _ _ h1 h2 rfl
      omega
    have h1 := h q c hq
    cases c with
    | inl x => obtain ⟨k, hk⟩ := h1; exact (key k _ hk).elim
    | inr x => obtain ⟨k, k', cA, hk, ht⟩ := h1; exact (key k _ hk).elim
/-- the classes' fields: their types, their words -/
def fTyOf : Nat → Nat → FieldType
  | 0 => tyX0
  | 1 => tyX1
  | 2 => tyX2
  | 3 => tyX3
  | 4 => tyX4
  | 5 => tyX5
  | 6 => tyX6
  | 7 => tyX8
  | _ => tyX9
theorem fcl_cases {Q : Nat → vw_C → Prop} (h0 : Q 0 (RX0, TX0, 3)) (h1 : Q 1 (RX1, TX1, 4)) (h2 : Q 2 (RX2, TX2, 11)) (h3 : Q 3 (RX3, TX3, 3)) (h4 : Q 4 (RX4, TX4, 4)) (h5 : Q 5 (RX5, TX5, 5)) (h6 : Q 6 (RX6, TX6, 7)) (h7 : Q 7 (RX8, TX8, 3)) (h8 : Q 8 (RX9, TX9, 10)) {ci : Nat} {q : vw_C} (h : vwCl[ci]? = some q) : Q ci q := by
  match ci, h with
  | 0, h => cases h; exact h0
  | 1, h => cases h; exact h1
  | 2, h => cases h; exact h2
  | 3, h => cases h; exact h3
  | 4, h => cases h; exact h4
  | 5, h => cases h; exact h5
  | 6, h => cases h; exact h6
  | 7, h => cases h; exact h7
  | 8, h => cases h; exact h8
  | n + 9, h => simp [vwCl] at h
theorem fTy_ok {ci : Nat} {q : vw_C} (h : vwCl[ci]? = some q) : ∀ k, k < q.2.2 → parseFieldDescriptor (q.2.1 k).2.2.1 = some (fTyOf ci k) :=
  fcl_cases (Q := fun ci q => ∀ k, k < q.2.2 → parseFieldDescriptor (q.2.1 k).2.2.1 = some (fTyOf ci k)) tyX0_ok tyX1_ok tyX2_ok tyX3_ok tyX4_ok tyX5_ok tyX6_ok tyX8_ok tyX9_ok h
theorem fNm_ok {ci : Nat} {q : vw_C} (h : vwCl[ci]? = some q) : ∀ a, a < q.2.2 → ∀ b, b < q.2.2 → a ≠ b → (q.2.1 a).2.1 ≠ (q.2.1 b).2.1 :=
  fcl_cases (Q := fun ci q => ∀ a, a < q.2.2 → ∀ b, b < q.2.2 → a ≠ b → (q.2.1 a).2.1 ≠ (q.2.1 b).2.1) nmX0 nmX1 nmX2 nmX3 nmX4 nmX5 nmX6 nmX8 nmX9 h
theorem fWs_ok {ci : Nat} {q : vw_C} (h : vwCl[ci]? = some q) : ∀ w ∈ u_ws q.1 q.2.1 q.2.2, w ∈ lwG :=
  fcl_cases (Q := fun _ q => ∀ w ∈ u_ws q.1 q.2.1 q.2.2, w ∈ lwG) (by decide +kernel) (by decide +kernel) (by decide +kernel) (by decide +kernel) (by decide +kernel) (by decide +kernel) (by decide +kernel) (by decide +kernel) (by decide +kernel) h
section FRR
variable {l : Launch} {κ : KP} {μ μ' : MD} {pc : Nat} {lv lv' : List (Nat × Value)} {st rest : List Value} {M : Mem} {bc bs : Nat} {P P' : FPost}

theorem r_iload_n {k : Fin 4} {x : Int32} (d : decode (mB μ) pc = .ok (.iload_n k, 1)) (h : fget lv (k : Nat) = some (.int x)) (kk : fR l κ μ (pc + 1) lv (.int x :: st) M bc bs P) : fR l κ μ pc lv st M bc bs P := by
  intro p e s m args below meth c C H locs cells slots ls hW hS hl hc hs
  exact lv_iload_n C.2.1 C.2.2.1 d rfl (fget_at hl h) (kk p e s m args below meth c C H locs cells slots ls hW hS hl hc hs)

theorem r_iload {i : Nat} {x : Int32} (d : decode (mB μ) pc = .ok (.iload i, 2)) (h : fget lv i = some (.int x)) (kk : fR l κ μ (pc + 2) lv (.int x :: st) M bc bs P) : fR l κ μ pc lv st M bc bs P := by
  intro p e s m args below meth c C H locs cells slots ls hW hS hl hc hs
  exact lv_iload C.2.1 C.2.2.1 d (fget_at hl h) (kk p e s m args below meth c C H locs cells slots ls hW hS hl hc hs)

theorem r_istore_n {k : Fin 4} {x : Int32} (d : decode (mB μ) pc = .ok (.istore_n k, 1)) (hn : (k : Nat) < mL μ) (h : ((k : Nat), Value.int x) :: lv.filter (fun q => !(q.1 == (k : Nat)) && !(q.1 + 1 == (k : Nat) && q.2.category == 2)) = lv') (kk : fR l κ μ (pc + 1) lv' st M bc bs P) : fR l κ μ pc lv (.int x :: st) M bc bs P := by
  intro p e s m args below meth c C H locs cells slots ls hW hS hl hc hs
  exact lv_istore_n C.2.1 C.2.2.1 d rfl hl hn h (fun ls' hl' => kk p e s m args below meth c C H locs cells slots ls' hW hS hl' hc hs)

theorem r_istore {i : Nat} {x : Int32} (d : decode (mB μ) pc = .ok (.istore i, 2)) (hn : i < mL μ) (h : (i, Value.int x) :: lv.filter (fun q => !(q.1 == i) && !(q.1 + 1 == i && q.2.category == 2)) = lv') (kk : fR l κ μ (pc + 2) lv' st M bc bs P) : fR l κ μ pc lv (.int x :: st) M bc bs P := by
  intro p e s m args below meth c C H locs cells slots ls hW hS hl hc hs
  exact lv_istore C.2.1 C.2.2.1 d hl hn h (fun ls' hl' => kk p e s m args below meth c C H locs cells slots ls' hW hS hl' hc hs)

theorem r_lload_n {k : Fin 4} {x : Int64} (d : decode (mB μ) pc = .ok (.lload_n k, 1)) (h : fget lv (k : Nat) = some (.long x)) (kk : fR l κ μ (pc + 1) lv (.long x :: st) M bc bs P) : fR l κ μ pc lv st M bc bs P := by
  intro p e s m args below meth c C H locs cells slots ls hW hS hl hc hs
  exact lv_lload_n C.2.1 C.2.2.1 d rfl (fget_at hl h) (kk p e s m args below meth c C H locs cells slots ls hW hS hl hc hs)

theorem r_lload {i : Nat} {x : Int64} (d : decode (mB μ) pc = .ok (.lload i, 2)) (h : fget lv i = some (.long x)) (kk : fR l κ μ (pc + 2) lv (.long x :: st) M bc bs P) : fR l κ μ pc lv st M bc bs P := by
  intro p e s m args below meth c C H locs cells slots ls hW hS hl hc hs
  exact lv_lload C.2.1 C.2.2.1 d (fget_at hl h) (kk p e s m args below meth c C H locs cells slots ls hW hS hl hc hs)

theorem r_lstore_n {k : Fin 4} {x : Int64} (d : decode (mB μ) pc = .ok (.lstore_n k, 1)) (hn : (k : Nat) + 1 < mL μ) (h : ((k : Nat), Value.long x) :: lv.filter (fun q => !(q.1 == (k : Nat)) && (!(q.1 == (k : Nat) + 1) && !(q.1 + 1 == (k : Nat) && q.2.category == 2))) = lv') (kk : fR l κ μ (pc + 1) lv' st M bc bs P) : fR l κ μ pc lv (.long x :: st) M bc bs P := by
  intro p e s m args below meth c C H locs cells slots ls hW hS hl hc hs
  exact lv_lstore_n C.2.1 C.2.2.1 d rfl hl hn h (fun ls' hl' => kk p e s m args below meth c C H locs cells slots ls' hW hS hl' hc hs)

theorem r_lstore {i : Nat} {x : Int64} (d : decode (mB μ) pc = .ok (.lstore i, 2)) (hn : i + 1 < mL μ) (h : (i, Value.long x) :: lv.filter (fun q => !(q.1 == i) && (!(q.1 == i + 1) && !(q.1 + 1 == i && q.2.category == 2))) = lv') (kk : fR l κ μ (pc + 2) lv' st M bc bs P) : fR l κ μ pc lv (.long x :: st) M bc bs P := by
  intro p e s m args below meth c C H locs cells slots ls hW hS hl hc hs
  exact lv_lstore C.2.1 C.2.2.1 d hl hn h (fun ls' hl' => kk p e s m args below meth c C H locs cells slots ls' hW hS hl' hc hs)

theorem r_dload_n {k : Fin 4} {x : UInt64} (d : decode (mB μ) pc = .ok (.dload_n k, 1)) (h : fget lv (k : Nat) = some (.double x)) (kk : fR l κ μ (pc + 1) lv (.double x :: st) M bc bs P) : fR l κ μ pc lv st M bc bs P := by
  intro p e s m args below meth c C H locs cells slots ls hW hS hl hc hs
  exact lv_dload_n C.2.1 C.2.2.1 d rfl (fget_at hl h) (kk p e s m args below meth c C H locs cells slots ls hW hS hl hc hs)

theorem r_dload {i : Nat} {x : UInt64} (d : decode (mB μ) pc = .ok (.dload i, 2)) (h : fget lv i = some (.double x)) (kk : fR l κ μ (pc + 2) lv (.double x :: st) M bc bs P) : fR l κ μ pc lv st M bc bs P := by
  intro p e s m args below meth c C H locs cells slots ls hW hS hl hc hs
  exact lv_dload C.2.1 C.2.2.1 d (fget_at hl h) (kk p e s m args below meth c C H locs cells slots ls hW hS hl hc hs)

theorem r_dstore_n {k : Fin 4} {x : UInt64} (d : decode (mB μ) pc = .ok (.dstore_n k, 1)) (hn : (k : Nat) + 1 < mL μ) (h : ((k : Nat), Value.double x) :: lv.filter (fun q => !(q.1 == (k : Nat)) && (!(q.1 == (k : Nat) + 1) && !(q.1 + 1 == (k : Nat) && q.2.category == 2))) = lv') (kk : fR l κ μ (pc + 1) lv' st M bc bs P) : fR l κ μ pc lv (.double x :: st) M bc bs P := by
  intro p e s m args below meth c C H locs cells slots ls hW hS hl hc hs
  exact lv_dstore_n C.2.1 C.2.2.1 d rfl hl hn h (fun ls' hl' => kk p e s m args below meth c C H locs cells slots ls' hW hS hl' hc hs)

theorem r_dstore {i : Nat} {x : UInt64} (d : decode (mB μ) pc = .ok (.dstore i, 2)) (hn : i + 1 < mL μ) (h : (i, Value.double x) :: lv.filter (fun q => !(q.1 == i) && (!(q.1 == i + 1) && !(q.1 + 1 == i && q.2.category == 2))) = lv') (kk : fR l κ μ (pc + 2) lv' st M bc bs P) : fR l κ μ pc lv (.double x :: st) M bc bs P := by
  intro p e s m args below meth c C H locs cells slots ls hW hS hl hc hs
  exact lv_dstore C.2.1 C.2.2.1 d hl hn h (fun ls' hl' => kk p e s m args below meth c C H locs cells slots ls' hW hS hl' hc hs)

theorem r_aload_n {k : Fin 4} {x : Nat} (d : decode (mB μ) pc = .ok (.aload_n k, 1)) (h : fget lv (k : Nat) = some (.ref x)) (kk : fR l κ μ (pc + 1) lv (.ref x :: st) M bc bs P) : fR l κ μ pc lv st M bc bs P := by
  intro p e s m args below meth c C H locs cells slots ls hW hS hl hc hs
  exact lv_aload_n C.2.1 C.2.2.1 d rfl (fget_at hl h) (kk p e s m args below meth c C H locs cells slots ls hW hS hl hc hs)

theorem r_aload {i : Nat} {x : Nat} (d : decode (mB μ) pc = .ok (.aload i, 2)) (h : fget lv i = some (.ref x)) (kk : fR l κ μ (pc + 2) lv (.ref x :: st) M bc bs P) : fR l κ μ pc lv st M bc bs P := by
  intro p e s m args below meth c C H locs cells slots ls hW hS hl hc hs
  exact lv_aload C.2.1 C.2.2.1 d (fget_at hl h) (kk p e s m args below meth c C H locs cells slots ls hW hS hl hc hs)

theorem r_astore_n {k : Fin 4} {x : Nat} (d : decode (mB μ) pc = .ok (.astore_n k, 1)) (hn : (k : Nat) < mL μ) (h : ((k : Nat), Value.ref x) :: lv.filter (fun q => !(q.1 == (k : Nat)) && !(q.1 + 1 == (k : Nat) && q.2.category == 2)) = lv') (kk : fR l κ μ (pc + 1) lv' st M bc bs P) : fR l κ μ pc lv (.ref x :: st) M bc bs P := by
  intro p e s m args below meth c C H locs cells slots ls hW hS hl hc hs
  exact lv_astore_n C.2.1 C.2.2.1 d rfl hl hn h (fun ls' hl' => kk p e s m args below meth c C H locs cells slots ls' hW hS hl' hc hs)

theorem r_astore {i : Nat} {x : Nat} (d : decode (mB μ) pc = .ok (.astore i, 2)) (hn : i < mL μ) (h : (i, Value.ref x) :: lv.filter (fun q => !(q.1 == i) && !(q.1 + 1 == i && q.2.category == 2)) = lv') (kk : fR l κ μ (pc + 2) lv' st M bc bs P) : fR l κ μ pc lv (.ref x :: st) M bc bs P := by
  intro p e s m args below meth c C H locs cells slots ls hW hS hl hc hs
  exact lv_astore C.2.1 C.2.2.1 d hl hn h (fun ls' hl' => kk p e s m args below meth c C H locs cells slots ls' hW hS hl' hc hs)

theorem r_iinc {i : Nat} {n : Int} {x v : Int32} (d : decode (mB μ) pc = .ok (.iinc i n, 3)) (hg : fget lv i = some (.int x)) (hv : x + Int32.ofInt n = v) (hn : i < mL μ) (h : (i, Value.int v) :: lv.filter (fun q => !(q.1 == i) && !(q.1 + 1 == i && q.2.category == 2)) = lv') (kk : fR l κ μ (pc + 3) lv' st M bc bs P) : fR l κ μ pc lv st M bc bs P := by
  intro p e s m args below meth c C H locs cells slots ls hW hS hl hc hs
  obtain ⟨j, hj⟩ := List.getElem?_of_mem (fget_mem hg)
  exact lv_iinc C.2.1 C.2.2.1 d hl hj hv hn h (fun ls' hl' => kk p e s m args below meth c C H locs cells slots ls' hW hS hl' hc hs)

theorem r_iconst {n : Int} {v : Int32} (d : decode (mB μ) pc = .ok (.iconst n, 1)) (hv : Int32.ofInt n = v) (kk : fR l κ μ (pc + 1) lv (.int v :: st) M bc bs P) : fR l κ μ pc lv (st) M bc bs P := by
  intro p e s m args below meth c C H locs cells slots ls hW hS hl hc hs
  exact lv_iconst C.2.1 C.2.2.1 d hv (kk p e s m args below meth c C H locs cells slots ls hW hS hl hc hs)

theorem r_bipush {n : Int} {v : Int32} (d : decode (mB μ) pc = .ok (.bipush n, 2)) (hv : (Int8.ofInt n).toInt32 = v) (kk : fR l κ μ (pc + 2) lv (.int v :: st) M bc bs P) : fR l κ μ pc lv (st) M bc bs P := by
  intro p e s m args below meth c C H locs cells slots ls hW hS hl hc hs
  exact lv_bipush C.2.1 C.2.2.1 d hv (kk p e s m args below meth c C H locs cells slots ls hW hS hl hc hs)

theorem r_sipush {n : Int} {v : Int32} (d : decode (mB μ) pc = .ok (.sipush n, 3)) (hv : (Int16.ofInt n).toInt32 = v) (kk : fR l κ μ (pc + 3) lv (.int v :: st) M bc bs P) : fR l κ μ pc lv (st) M bc bs P := by
  intro p e s m args below meth c C H locs cells slots ls hW hS hl hc hs
  exact lv_sipush C.2.1 C.2.2.1 d hv (kk p e s m args below meth c C H locs cells slots ls hW hS hl hc hs)

theorem r_lconst {n : Fin 2} {v : Int64} (d : decode (mB μ) pc = .ok (.lconst n, 1)) (hv : Int64.ofNat (n : Nat) = v) (kk : fR l κ μ (pc + 1) lv (.long v :: st) M bc bs P) : fR l κ μ pc lv (st) M bc bs P := by
  intro p e s m args below meth c C H locs cells slots ls hW hS hl hc hs
  exact lv_lconst C.2.1 C.2.2.1 d hv (kk p e s m args below meth c C H locs cells slots ls hW hS hl hc hs)

theorem r_ldc2 {idx : Nat} {v : Int64} (d : decode (mB μ) pc = .ok (.ldc2_w idx, 3)) (hw : Cond.constantLong (mY μ).cls idx v ∈ lw_tbl) (kk : fR l κ μ (pc + 3) lv (.long v :: st) M bc bs P) : fR l κ μ pc lv (st) M bc bs P := by
  intro p e s m args below meth c C H locs cells slots ls hW hS hl hc hs
  exact lv_ldc2 C.2.1 C.2.2.1 C.2.2.2.2.2.1 (C.2.2.2.2.2.2.1 _ (lwG_of hw rfl)) d (kk p e s m args below meth c C H locs cells slots ls hW hS hl hc hs)

theorem r_ldc2d {idx : Nat} {v : UInt64} (d : decode (mB μ) pc = .ok (.ldc2_w idx, 3)) (hw : Cond.constantDouble (mY μ).cls idx v ∈ lw_tbl) (kk : fR l κ μ (pc + 3) lv (.double v :: st) M bc bs P) : fR l κ μ pc lv (st) M bc bs P := by
  intro p e s m args below meth c C H locs cells slots ls hW hS hl hc hs
  exact lv_ldc2d C.2.1 C.2.2.1 C.2.2.2.2.2.1 (C.2.2.2.2.2.2.1 _ (lwG_of hw rfl)) d (kk p e s m args below meth c C H locs cells slots ls hW hS hl hc hs)

theorem r_ldc {idx : Nat} {v : Int32} (d : decode (mB μ) pc = .ok (.ldc idx, 2)) (hw : Cond.constant (mY μ).cls idx v ∈ lw_tbl) (kk : fR l κ μ (pc + 2) lv (.int v :: st) M bc bs P) : fR l κ μ pc lv (st) M bc bs P := by
  intro p e s m args below meth c C H locs cells slots ls hW hS hl hc hs
  exact lv_ldc C.2.1 C.2.2.1 C.2.2.2.2.2.1 (C.2.2.2.2.2.2.1 _ (lwG_of hw rfl)) d (kk p e s m args below meth c C H locs cells slots ls hW hS hl hc hs)

theorem r_ldcS {idx j : Nat} {tx : String} (d : decode (mB μ) pc = .ok (.ldc idx, 2)) (hw : ((mY μ).cls, idx, tx, j) ∈ fStr) (kk : fR l κ μ (pc + 2) lv (.ref (kK κ j) :: st) M bc bs P) : fR l κ μ pc lv (st) M bc bs P := by
  intro p e s m args below meth c C H locs cells slots ls hW hS hl hc hs
  exact va_ldcS C.2.1 C.2.2.1 C.2.2.2.2.2.1 (C.2.2.2.2.2.2.2.2.2.2.2.1.2.2.1 _ hw) d (kk p e s m args below meth c C H locs cells slots ls hW hS hl hc hs)

theorem r_dup {v : Value} (d : decode (mB μ) pc = .ok (.dup, 1)) (hv : v.category = 1) (kk : fR l κ μ (pc + 1) lv (v :: v :: st) M bc bs P) : fR l κ μ pc lv (v :: st) M bc bs P := by
  intro p e s m args below meth c C H locs cells slots ls hW hS hl hc hs
  exact lv_dup C.2.1 C.2.2.1 d hv (kk p e s m args below meth c C H locs cells slots ls hW hS hl hc hs)

theorem r_pop {v : Value} (d : decode (mB μ) pc = .ok (.pop, 1)) (hv : v.category = 1) (kk : fR l κ μ (pc + 1) lv (st) M bc bs P) : fR l κ μ pc lv (v :: st) M bc bs P := by
  intro p e s m args below meth c C H locs cells slots ls hW hS hl hc hs
  exact lv_pop C.2.1 C.2.2.1 d hv (kk p e s m args below meth c C H locs cells slots ls hW hS hl hc hs)

theorem r_dup2 {v w : Value} (d : decode (mB μ) pc = .ok (.dup2, 1)) (hv : v.category = 1) (hw : w.category = 1) (kk : fR l κ μ (pc + 1) lv (v :: w :: v :: w :: st) M bc bs P) : fR l κ μ pc lv (v :: w :: st) M bc bs P := by
  intro p e s m args below meth c C H locs cells slots ls hW hS hl hc hs
  exact lv_dup2_11 C.2.1 C.2.2.1 d hv hw (kk p e s m args below meth c C H locs cells slots ls hW hS hl hc hs)

theorem r_dup_x1 {v w : Value} (d : decode (mB μ) pc = .ok (.dup_x1, 1)) (hv : v.category = 1) (hw : w.category = 1) (kk : fR l κ μ (pc + 1) lv (v :: w :: v :: st) M bc bs P) : fR l κ μ pc lv (v :: w :: st) M bc bs P := by
  intro p e s m args below meth c C H locs cells slots ls hW hS hl hc hs
  exact lv_dup_x1 C.2.1 C.2.2.1 d hv hw (kk p e s m args below meth c C H locs cells slots ls hW hS hl hc hs)

theorem r_iadd {x y : Int32} (d : decode (mB μ) pc = .ok (.iadd, 1)) (kk : fR l κ μ (pc + 1) lv (.int (x + y) :: st) M bc bs P) : fR l κ μ pc lv (.int y :: .int x :: st) M bc bs P := by
  intro p e s m args below meth c C H locs cells slots ls hW hS hl hc hs
  exact lv_iadd C.2.1 C.2.2.1 d (kk p e s m args below meth c C H locs cells slots ls hW hS hl hc hs)

theorem r_isub {x y : Int32} (d : decode (mB μ) pc = .ok (.isub, 1)) (kk : fR l κ μ (pc + 1) lv (.int (x - y) :: st) M bc bs P) : fR l κ μ pc lv (.int y :: .int x :: st) M bc bs P := by
  intro p e s m args below meth c C H locs cells slots ls hW hS hl hc hs
  exact lv_isub C.2.1 C.2.2.1 d (kk p e s m args below meth c C H locs cells slots ls hW hS hl hc hs)

theorem r_imul {x y : Int32} (d : decode (mB μ) pc = .ok (.imul, 1)) (kk : fR l κ μ (pc + 1) lv (.int (x * y) :: st) M bc bs P) : fR l κ μ pc lv (.int y :: .int x :: st) M bc bs P := by
  intro p e s m args below meth c C H locs cells slots ls hW hS hl hc hs
  exact lv_imul C.2.1 C.2.2.1 d (kk p e s m args below meth c C H locs cells slots ls hW hS hl hc hs)

theorem r_iand {x y : Int32} (d : decode (mB μ) pc = .ok (.iand, 1)) (kk : fR l κ μ (pc + 1) lv (.int (x &&& y) :: st) M bc bs P) : fR l κ μ pc lv (.int y :: .int x :: st) M bc bs P := by
  intro p e s m args below meth c C H locs cells slots ls hW hS hl hc hs
  exact lv_iand C.2.1 C.2.2.1 d (kk p e s m args below meth c C H locs cells slots ls hW hS hl hc hs)

theorem r_ior {x y : Int32} (d : decode (mB μ) pc = .ok (.ior, 1)) (kk : fR l κ μ (pc + 1) lv (.int (x ||| y) :: st) M bc bs P) : fR l κ μ pc lv (.int y :: .int x :: st) M bc bs P := by
  intro p e s m args below meth c C H locs cells slots ls hW hS hl hc hs
  exact lv_ior C.2.1 C.2.2.1 d (kk p e s m args below meth c C H locs cells slots ls hW hS hl hc hs)

theorem r_ixor {x y : Int32} (d : decode (mB μ) pc = .ok (.ixor, 1)) (kk : fR l κ μ (pc + 1) lv (.int (x ^^^ y) :: st) M bc bs P) : fR l κ μ pc lv (.int y :: .int x :: st) M bc bs P := by
  intro p e s m args below meth c C H locs cells slots ls hW hS hl hc hs
  exact lv_ixor C.2.1 C.2.2.1 d (kk p e s m args below meth c C H locs cells slots ls hW hS hl hc hs)

theorem r_ishl {x y : Int32} (d : decode (mB μ) pc = .ok (.ishl, 1)) (kk : fR l κ μ (pc + 1) lv (.int (x <<< (y &&& 31)) :: st) M bc bs P) : fR l κ μ pc lv (.int y :: .int x :: st) M bc bs P := by
  intro p e s m args below meth c C H locs cells slots ls hW hS hl hc hs
  exact lv_ishl C.2.1 C.2.2.1 d (kk p e s m args below meth c C H locs cells slots ls hW hS hl hc hs)

theorem r_idiv {x y : Int32} (d : decode (mB μ) pc = .ok (.idiv, 1)) (hne : ¬ y = 0) (kk : fR l κ μ (pc + 1) lv (.int (x / y) :: st) M bc bs P) : fR l κ μ pc lv (.int y :: .int x :: st) M bc bs P := by
  intro p e s m args below meth c C H locs cells slots ls hW hS hl hc hs
  exact lv_idiv C.2.1 C.2.2.1 d hne (kk p e s m args below meth c C H locs cells slots ls hW hS hl hc hs)

theorem r_irem {x y : Int32} (d : decode (mB μ) pc = .ok (.irem, 1)) (hne : ¬ y = 0) (kk : fR l κ μ (pc + 1) lv (.int (x - x / y * y) :: st) M bc bs P) : fR l κ μ pc lv (.int y :: .int x :: st) M bc bs P := by
  intro p e s m args below meth c C H locs cells slots ls hW hS hl hc hs
  exact lv_irem C.2.1 C.2.2.1 d hne (kk p e s m args below meth c C H locs cells slots ls hW hS hl hc hs)

theorem r_ineg {x : Int32} (d : decode (mB μ) pc = .ok (.ineg, 1)) (kk : fR l κ μ (pc + 1) lv (.int (-x) :: st) M bc bs P) : fR l κ μ pc lv (.int x :: st) M bc bs P := by
  intro p e s m args below meth c C H locs cells slots ls hW hS hl hc hs
  exact lv_ineg C.2.1 C.2.2.1 d (kk p e s m args below meth c C H locs cells slots ls hW hS hl hc hs)

theorem r_i2l {x : Int32} (d : decode (mB μ) pc = .ok (.i2l, 1)) (kk : fR l κ μ (pc + 1) lv (.long x.toInt64 :: st) M bc bs P) : fR l κ μ pc lv (.int x :: st) M bc bs P := by
  intro p e s m args below meth c C H locs cells slots ls hW hS hl hc hs
  exact lv_i2l C.2.1 C.2.2.1 d rfl (kk p e s m args below meth c C H locs cells slots ls hW hS hl hc hs)

theorem r_i2d {x : Int32} (d : decode (mB μ) pc = .ok (.i2d, 1)) (kk : fR l κ μ (pc + 1) lv (.double (FP.i2d x) :: st) M bc bs P) : fR l κ μ pc lv (.int x :: st) M bc bs P := by
  intro p e s m args below meth c C H locs cells slots ls hW hS hl hc hs
  exact lv_i2d C.2.1 C.2.2.1 d (kk p e s m args below meth c C H locs cells slots ls hW hS hl hc hs)

theorem r_i2c {x : Int32} (d : decode (mB μ) pc = .ok (.i2c, 1)) (kk : fR l κ μ (pc + 1) lv (.int (x.toUInt32 % 65536).toInt32 :: st) M bc bs P) : fR l κ μ pc lv (.int x :: st) M bc bs P := by
  intro p e s m args below meth c C H locs cells slots ls hW hS hl hc hs
  exact lv_i2c C.2.1 C.2.2.1 d rfl (kk p e s m args below meth c C H locs cells slots ls hW hS hl hc hs)

theorem r_ladd {x y : Int64} (d : decode (mB μ) pc = .ok (.ladd, 1)) (kk : fR l κ μ (pc + 1) lv (.long (x + y) :: st) M bc bs P) : fR l κ μ pc lv (.long y :: .long x :: st) M bc bs P := by
  intro p e s m args below meth c C H locs cells slots ls hW hS hl hc hs
  exact lv_ladd C.2.1 C.2.2.1 d (kk p e s m args below meth c C H locs cells slots ls hW hS hl hc hs)

theorem r_lsub {x y : Int64} (d : decode (mB μ) pc = .ok (.lsub, 1)) (kk : fR l κ μ (pc + 1) lv (.long (x - y) :: st) M bc bs P) : fR l κ μ pc lv (.long y :: .long x :: st) M bc bs P := by
  intro p e s m args below meth c C H locs cells slots ls hW hS hl hc hs
  exact lv_lsub C.2.1 C.2.2.1 d (kk p e s m args below meth c C H locs cells slots ls hW hS hl hc hs)

theorem r_lmul {x y : Int64} (d : decode (mB μ) pc = .ok (.lmul, 1)) (kk : fR l κ μ (pc + 1) lv (.long (x * y) :: st) M bc bs P) : fR l κ μ pc lv (.long y :: .long x :: st) M bc bs P := by
  intro p e s m args below meth c C H locs cells slots ls hW hS hl hc hs
  exact lv_lmul C.2.1 C.2.2.1 d (kk p e s m args below meth c C H locs cells slots ls hW hS hl hc hs)

theorem r_dmul {x y : UInt64} (d : decode (mB μ) pc = .ok (.dmul, 1)) (hne : vf_n64 (FP.dmul x y)) (kk : fR l κ μ (pc + 1) lv (.double (FP.dmul x y) :: st) M bc bs P) : fR l κ μ pc lv (.double y :: .double x :: st) M bc bs P := by
  intro p e s m args below meth c C H locs cells slots ls hW hS hl hc hs
  exact lv_dmul C.2.1 C.2.2.1 d hne (kk p e s m args below meth c C H locs cells slots ls hW hS hl hc hs)

theorem r_ddiv {x y : UInt64} (d : decode (mB μ) pc = .ok (.ddiv, 1)) (hne : vf_n64 (FP.ddiv x y)) (kk : fR l κ μ (pc + 1) lv (.double (FP.ddiv x y) :: st) M bc bs P) : fR l κ μ pc lv (.double y :: .double x :: st) M bc bs P := by
  intro p e s m args below meth c C H locs cells slots ls hW hS hl hc hs
  exact lv_ddiv C.2.1 C.2.2.1 d hne (kk p e s m args below meth c C H locs cells slots ls hW hS hl hc hs)

theorem r_dsub {x y : UInt64} (d : decode (mB μ) pc = .ok (.dsub, 1)) (hne : vf_n64 (FP.dsub x y)) (kk : fR l κ μ (pc + 1) lv (.double (FP.dsub x y) :: st) M bc bs P) : fR l κ μ pc lv (.double y :: .double x :: st) M bc bs P := by
  intro p e s m args below meth c C H locs cells slots ls hW hS hl hc hs
  exact lv_dsub C.2.1 C.2.2.1 d hne (kk p e s m args below meth c C H locs cells slots ls hW hS hl hc hs)

theorem r_dcmp {x y : UInt64} {op : CmpOp} (d : decode (mB μ) pc = .ok (.dcmp op, 1)) (kk : fR l κ μ (pc + 1) lv (.int (Op.cmpValue (FP.dcmp x y) op) :: st) M bc bs P) : fR l κ μ pc lv (.double y :: .double x :: st) M bc bs P := by
  intro p e s m args below meth c C H locs cells slots ls hW hS hl hc hs
  exact lv_dcmp C.2.1 C.2.2.1 d (kk p e s m args below meth c C H locs cells slots ls hW hS hl hc hs)

theorem r_if_eq {x : Int32} {off : Int} {tgt : Nat} (d : decode (mB μ) pc = .ok (.ifCond .eq off, 3)) (ht : (pc : Int) + off = (tgt : Int)) (kt : x = 0 → fR l κ μ tgt lv st M bc bs P) (kf : ¬ x = 0 → fR l κ μ (pc + 3) lv st M bc bs P) : fR l κ μ pc lv (.int x :: st) M bc bs P := by
  intro p e s m args below meth c C H locs cells slots ls hW hS hl hc hs
  exact lv_if_eq C.2.1 C.2.2.1 d ht (fun h => kt h p e s m args below meth c C H locs cells slots ls hW hS hl hc hs) (fun h => kf h p e s m args below meth c C H locs cells slots ls hW hS hl hc hs)

theorem r_if_ne {x : Int32} {off : Int} {tgt : Nat} (d : decode (mB μ) pc = .ok (.ifCond .ne off, 3)) (ht : (pc : Int) + off = (tgt : Int)) (kt : ¬ x = 0 → fR l κ μ tgt lv st M bc bs P) (kf : x = 0 → fR l κ μ (pc + 3) lv st M bc bs P) : fR l κ μ pc lv (.int x :: st) M bc bs P := by
  intro p e s m args below meth c C H locs cells slots ls hW hS hl hc hs
  exact lv_if_ne C.2.1 C.2.2.1 d ht (fun h => kt h p e s m args below meth c C H locs cells slots ls hW hS hl hc hs) (fun h => kf h p e s m args below meth c C H locs cells slots ls hW hS hl hc hs)

theorem r_if_lt {x : Int32} {off : Int} {tgt : Nat} (d : decode (mB μ) pc = .ok (.ifCond .lt off, 3)) (ht : (pc : Int) + off = (tgt : Int)) (kt : x < 0 → fR l κ μ tgt lv st M bc bs P) (kf : ¬ x < 0 → fR l κ μ (pc + 3) lv st M bc bs P) : fR l κ μ pc lv (.int x :: st) M bc bs P := by
  intro p e s m args below meth c C H locs cells slots ls hW hS hl hc hs
  exact lv_if_lt C.2.1 C.2.2.1 d ht (fun h => kt h p e s m args below meth c C H locs cells slots ls hW hS hl hc hs) (fun h => kf h p e s m args below meth c C H locs cells slots ls hW hS hl hc hs)

theorem r_if_ge {x : Int32} {off : Int} {tgt : Nat} (d : decode (mB μ) pc = .ok (.ifCond .ge off, 3)) (ht : (pc : Int) + off = (tgt : Int)) (kt : 0 ≤ x → fR l κ μ tgt lv st M bc bs P) (kf : ¬ 0 ≤ x → fR l κ μ (pc + 3) lv st M bc bs P) : fR l κ μ pc lv (.int x :: st) M bc bs P := by
  intro p e s m args below meth c C H locs cells slots ls hW hS hl hc hs
  exact lv_if_ge C.2.1 C.2.2.1 d ht (fun h => kt h p e s m args below meth c C H locs cells slots ls hW hS hl hc hs) (fun h => kf h p e s m args below meth c C H locs cells slots ls hW hS hl hc hs)

theorem r_if_gt {x : Int32} {off : Int} {tgt : Nat} (d : decode (mB μ) pc = .ok (.ifCond .gt off, 3)) (ht : (pc : Int) + off = (tgt : Int)) (kt : 0 < x → fR l κ μ tgt lv st M bc bs P) (kf : ¬ 0 < x → fR l κ μ (pc + 3) lv st M bc bs P) : fR l κ μ pc lv (.int x :: st) M bc bs P := by
  intro p e s m args below meth c C H locs cells slots ls hW hS hl hc hs
  exact lv_if_gt C.2.1 C.2.2.1 d ht (fun h => kt h p e s m args below meth c C H locs cells slots ls hW hS hl hc hs) (fun h => kf h p e s m args below meth c C H locs cells slots ls hW hS hl hc hs)

theorem r_if_le {x : Int32} {off : Int} {tgt : Nat} (d : decode (mB μ) pc = .ok (.ifCond .le off, 3)) (ht : (pc : Int) + off = (tgt : Int)) (kt : x ≤ 0 → fR l κ μ tgt lv st M bc bs P) (kf : ¬ x ≤ 0 → fR l κ μ (pc + 3) lv st M bc bs P) : fR l κ μ pc lv (.int x :: st) M bc bs P := by
  intro p e s m args below meth c C H locs cells slots ls hW hS hl hc hs
  exact lv_if_le C.2.1 C.2.2.1 d ht (fun h => kt h p e s m args below meth c C H locs cells slots ls hW hS hl hc hs) (fun h => kf h p e s m args below meth c C H locs cells slots ls hW hS hl hc hs)

theorem r_icmp_eq {x y : Int32} {off : Int} {tgt : Nat} (d : decode (mB μ) pc = .ok (.if_icmp .eq off, 3)) (ht : (pc : Int) + off = (tgt : Int)) (kt : x = y → fR l κ μ tgt lv st M bc bs P) (kf : ¬ x = y → fR l κ μ (pc + 3) lv st M bc bs P) : fR l κ μ pc lv (.int y :: .int x :: st) M bc bs P := by
  intro p e s m args below meth c C H locs cells slots ls hW hS hl hc hs
  exact lv_icmp_eq C.2.1 C.2.2.1 d ht (fun h => kt h p e s m args below meth c C H locs cells slots ls hW hS hl hc hs) (fun h => kf h p e s m args below meth c C H locs cells slots ls hW hS hl hc hs)

theorem r_icmp_ne {x y : Int32} {off : Int} {tgt : Nat} (d : decode (mB μ) pc = .ok (.if_icmp .ne off, 3)) (ht : (pc : Int) + off = (tgt : Int)) (kt : ¬ x = y → fR l κ μ tgt lv st M bc bs P) (kf : x = y → fR l κ μ (pc + 3) lv st M bc bs P) : fR l κ μ pc lv (.int y :: .int x :: st) M bc bs P := by
  intro p e s m args below meth c C H locs cells slots ls hW hS hl hc hs
  exact lv_icmp_ne C.2.1 C.2.2.1 d ht (fun h => kt h p e s m args below meth c C H locs cells slots ls hW hS hl hc hs) (fun h => kf h p e s m args below meth c C H locs cells slots ls hW hS hl hc hs)

theorem r_icmp_lt {x y : Int32} {off : Int} {tgt : Nat} (d : decode (mB μ) pc = .ok (.if_icmp .lt off, 3)) (ht : (pc : Int) + off = (tgt : Int)) (kt : x < y → fR l κ μ tgt lv st M bc bs P) (kf : ¬ x < y → fR l κ μ (pc + 3) lv st M bc bs P) : fR l κ μ pc lv (.int y :: .int x :: st) M bc bs P := by
  intro p e s m args below meth c C H locs cells slots ls hW hS hl hc hs
  exact lv_icmp_lt C.2.1 C.2.2.1 d ht (fun h => kt h p e s m args below meth c C H locs cells slots ls hW hS hl hc hs) (fun h => kf h p e s m args below meth c C H locs cells slots ls hW hS hl hc hs)

theorem r_icmp_ge {x y : Int32} {off : Int} {tgt : Nat} (d : decode (mB μ) pc = .ok (.if_icmp .ge off, 3)) (ht : (pc : Int) + off = (tgt : Int)) (kt : y ≤ x → fR l κ μ tgt lv st M bc bs P) (kf : ¬ y ≤ x → fR l κ μ (pc + 3) lv st M bc bs P) : fR l κ μ pc lv (.int y :: .int x :: st) M bc bs P := by
  intro p e s m args below meth c C H locs cells slots ls hW hS hl hc hs
  exact lv_icmp_ge C.2.1 C.2.2.1 d ht (fun h => kt h p e s m args below meth c C H locs cells slots ls hW hS hl hc hs) (fun h => kf h p e s m args below meth c C H locs cells slots ls hW hS hl hc hs)

theorem r_icmp_gt {x y : Int32} {off : Int} {tgt : Nat} (d : decode (mB μ) pc = .ok (.if_icmp .gt off, 3)) (ht : (pc : Int) + off = (tgt : Int)) (kt : y < x → fR l κ μ tgt lv st M bc bs P) (kf : ¬ y < x → fR l κ μ (pc + 3) lv st M bc bs P) : fR l κ μ pc lv (.int y :: .int x :: st) M bc bs P := by
  intro p e s m args below meth c C H locs cells slots ls hW hS hl hc hs
  exact lv_icmp_gt C.2.1 C.2.2.1 d ht (fun h => kt h p e s m args below meth c C H locs cells slots ls hW hS hl hc hs) (fun h => kf h p e s m args below meth c C H locs cells slots ls hW hS hl hc hs)

theorem r_icmp_le {x y : Int32} {off : Int} {tgt : Nat} (d : decode (mB μ) pc = .ok (.if_icmp .le off, 3)) (ht : (pc : Int) + off = (tgt : Int)) (kt : x ≤ y → fR l κ μ tgt lv st M bc bs P) (kf : ¬ x ≤ y → fR l κ μ (pc + 3) lv st M bc bs P) : fR l κ μ pc lv (.int y :: .int x :: st) M bc bs P := by
  intro p e s m args below meth c C H locs cells slots ls hW hS hl hc hs
  exact lv_icmp_le C.2.1 C.2.2.1 d ht (fun h => kt h p e s m args below meth c C H locs cells slots ls hW hS hl hc hs) (fun h => kf h p e s m args below meth c C H locs cells slots ls hW hS hl hc hs)

theorem r_goto {off : Int} {tgt : Nat} (d : decode (mB μ) pc = .ok (.goto off, 3)) (ht : (pc : Int) + off = (tgt : Int)) (kk : fR l κ μ tgt lv st M bc bs P) : fR l κ μ pc lv st M bc bs P := by
  intro p e s m args below meth c C H locs cells slots ls hW hS hl hc hs
  exact lv_goto C.2.1 C.2.2.1 d ht (kk p e s m args below meth c C H locs cells slots ls hW hS hl hc hs)

theorem r_lookup {dflt : Int} {ps : Array (Int × Int)} {len : Nat} {x : Int32} {off : Int} {tgt : Nat} (d : decode (mB μ) pc = .ok (.lookupswitch dflt ps, len)) (hp : (ps.toList.zip (ps.toList.drop 1)).all (fun (a, next) => a.1 < next.1) = true) (ho : Op.lookupswitch.offset ps.toList dflt x.toInt = off) (ht : (pc : Int) + off = (tgt : Int)) (kk : fR l κ μ tgt lv st M bc bs P) : fR l κ μ pc lv (.int x :: st) M bc bs P := by
  intro p e s m args below meth c C H locs cells slots ls hW hS hl hc hs
  exact lv_lookup C.2.1 C.2.2.1 d hp ho ht (kk p e s m args below meth c C H locs cells slots ls hW hS hl hc hs)

theorem r_tableOut {dflt lo hi : Int} {offs : Array Int} {len : Nat} {x : Int32} {tgt : Nat} (d : decode (mB μ) pc = .ok (.tableswitch dflt lo hi offs, len)) (h : x.toInt < lo ∨ hi < x.toInt) (ht : (pc : Int) + dflt = (tgt : Int)) (kk : fR l κ μ tgt lv st M bc bs P) : fR l κ μ pc lv (.int x :: st) M bc bs P := by
  intro p e s m args below meth c C H locs cells slots ls hW hS hl hc hs
  exact lv_tableOut C.2.1 C.2.2.1 d h ht (kk p e s m args below meth c C H locs cells slots ls hW hS hl hc hs)

theorem r_tableIn {dflt lo hi : Int} {offs : Array Int} {len : Nat} {x : Int32} {off : Int} {tgt : Nat} (d : decode (mB μ) pc = .ok (.tableswitch dflt lo hi offs, len)) (h1 : ¬ x.toInt < lo) (h2 : ¬ hi < x.toInt) (ho : offs[(x.toInt - lo).toNat]? = some off) (ht : (pc : Int) + off = (tgt : Int)) (kk : fR l κ μ tgt lv st M bc bs P) : fR l κ μ pc lv (.int x :: st) M bc bs P := by
  intro p e s m args below meth c C H locs cells slots ls hW hS hl hc hs
  exact lv_tableIn C.2.1 C.2.2.1 d h1 h2 ho ht (kk p e s m args below meth c C H locs cells slots ls hW hS hl hc hs)

theorem r_get {idx ci k a : Nat} {fs : List Value} {v : Value} {C0 : String} {T0 : u_T} {N0 : Nat} (d : decode (mB μ) pc = .ok (.getfield idx, 3)) (hm : M a = some (.inl (ci, fs))) (hq : vwCl[ci]? = some (C0, T0, N0)) (hv : fs[k]? = some v) (hk : k < N0) (hlink : Cond.fieldLink (mY μ).cls idx (T0 k).1 (T0 k).2.1 (T0 k).2.2.1 ∈ lw_tbl) (kk : fR l κ μ (pc + 3) lv (v :: st) M bc bs P) : fR l κ μ pc lv (.ref a :: st) M bc bs P := by
  intro p e s m args below meth c C H locs cells slots ls hW hS hl hc hs
  obtain ⟨dC, dI, tys, ws, hK, hP, hD, hM9⟩ := id hW
  obtain ⟨k0, hk0⟩ := hM9 a _ hm
  exact va_get C.2.1 C.2.2.1 C.2.2.2.2.2.2.1 (fWs_ok hq) C.2.2.2.2.2.1 hK hP k0 hk0 hq k hk (C.2.2.2.2.2.2.1 _ (lwG_of hlink rfl)) (fun x h => h) hv d (kk p e s m args below meth c C H locs cells slots ls hW hS hl hc hs)

theorem r_put {idx ci k a : Nat} {fs fs' : List Value} {v : Value} {C0 : String} {T0 : u_T} {N0 : Nat} (d : decode (mB μ) pc = .ok (.putfield idx, 3)) (hm : M a = some (.inl (ci, fs))) (hq : vwCl[ci]? = some (C0, T0, N0)) (hk : k < N0) (hlink : Cond.fieldLink (mY μ).cls idx (T0 k).1 (T0 k).2.1 (T0 k).2.2.1 ∈ lw_tbl) (hfin : (T0 k).2.2.2 = false) (hn : narrow (fTyOf ci k) v = v) (hfit : fits (fTyOf ci k) v = true) (hlen : k < fs.length) (hset : fs.set k v = fs') (kk : fR l κ μ (pc + 3) lv st (fup M a (.inl (ci, fs'))) bc bs P) : fR l κ μ pc lv (v :: .ref a :: st) M bc bs P := by
  subst hset
  intro p e s m args below meth c C H locs cells slots ls hW hS hl hc hs
  obtain ⟨dC, dI, tys, ws, hK, hP, hD, hM9⟩ := id hW
  obtain ⟨k0, hk0⟩ := hM9 a _ hm
  exact va_put C.2.1 C.2.2.1 C.2.2.2.2.2.2.1 (fWs_ok hq) (fTyOf ci) (fTy_ok hq) (fNm_ok hq) C.2.2.2.2.2.1 hK hP hD hS k0 hk0 hq k hk (C.2.2.2.2.2.2.1 _ (lwG_of hlink rfl)) (fun x h => h) hfin (fTy_ok hq k hk) hn hfit hlen d (fun H1 locs1 hP1 hD1 hS1 => kk p e s m args below meth c C H1 locs1 cells slots ls ⟨dC, dI, tys, _, hK, hP1, hD1, fIn_set hD hM9 hk0 ⟨k0, fset_at hk0⟩⟩ hS1 hl hc hs)

theorem r_putF {idx ci k a : Nat} {fs fs' : List Value} {v : Value} {C0 : String} {T0 : u_T} {N0 : Nat} (d : decode (mB μ) pc = .ok (.putfield idx, 3)) (hm : M a = some (.inl (ci, fs))) (hq : vwCl[ci]? = some (C0, T0, N0)) (hk : k < N0) (hlink : Cond.fieldLink (mY μ).cls idx (T0 k).1 (T0 k).2.1 (T0 k).2.2.1 ∈ lw_tbl) (hfin : (T0 k).2.2.2 = true) (hin : (mY μ).name = "<init>") (hdecl : (T0 k).1 = (mY μ).cls) (hn : narrow (fTyOf ci k) v = v) (hfit : fits (fTyOf ci k) v = true) (hlen : k < fs.length) (hset : fs.set k v = fs') (kk : fR l κ μ (pc + 3) lv st (fup M a (.inl (ci, fs'))) bc bs P) : fR l κ μ pc lv (v :: .ref a :: st) M bc bs P := by
  subst hset
  intro p e s m args below meth c C H locs cells slots ls hW hS hl hc hs
  obtain ⟨dC, dI, tys, ws, hK, hP, hD, hM9⟩ := id hW
  obtain ⟨k0, hk0⟩ := hM9 a _ hm
  exact va_putF C.2.1 C.2.2.1 C.2.2.2.2.2.2.1 (fWs_ok hq) (fTyOf ci) (fTy_ok hq) (fNm_ok hq) C.2.2.2.2.2.1 hK hP hD hS k0 hk0 hq k hk (C.2.2.2.2.2.2.1 _ (lwG_of hlink rfl)) (fun x h => h) hfin (C.2.2.2.2.2.2.2.2.1.trans hin) hdecl (fTy_ok hq k hk) hn hfit hlen d (fun H1 locs1 hP1 hD1 hS1 => kk p e s m args below meth c C H1 locs1 cells slots ls ⟨dC, dI, tys, _, hK, hP1, hD1, fIn_set hD hM9 hk0 ⟨k0, fset_at hk0⟩⟩ hS1 hl hc hs)

theorem r_iald {a n : Nat} {f : Nat → Int32} {i : Int32} (d : decode (mB μ) pc = .ok (.iaload, 1)) (hm : M a = some (.inr (0, n, .inl f))) (hin : vp_in i n) (kk : fR l κ μ (pc + 1) lv (.int (f i.toNatClampNeg) :: st) M bc bs P) : fR l κ μ pc lv (.int i :: .ref a :: st) M bc bs P := by
  intro p e s m args below meth c C H locs cells slots ls hW hS hl hc hs
  obtain ⟨dC, dI, tys, ws, hK, hP, hD, hM9⟩ := id hW
  obtain ⟨k0, t0, cA, hk0, ht0⟩ := hM9 a _ hm
  exact va_iald C.2.1 C.2.2.1 hK hP k0 t0 hk0 ht0 hin d (kk p e s m args below meth c C H locs cells slots ls hW hS hl hc hs)

theorem r_cald {a n : Nat} {f : Nat → Int32} {i : Int32} (d : decode (mB μ) pc = .ok (.caload, 1)) (hm : M a = some (.inr (1, n, .inl f))) (hin : vp_in i n) (kk : fR l κ μ (pc + 1) lv (.int (f i.toNatClampNeg) :: st) M bc bs P) : fR l κ μ pc lv (.int i :: .ref a :: st) M bc bs P := by
  intro p e s m args below meth c C H locs cells slots ls hW hS hl hc hs
  obtain ⟨dC, dI, tys, ws, hK, hP, hD, hM9⟩ := id hW
  obtain ⟨k0, t0, cA, hk0, ht0⟩ := hM9 a _ hm
  exact va_cald C.2.1 C.2.2.1 hK hP k0 t0 hk0 ht0 hin d (kk p e s m args below meth c C H locs cells slots ls hW hS hl hc hs)

theorem r_lald {a n : Nat} {f : Nat → Int64} {i : Int32} (d : decode (mB μ) pc = .ok (.laload, 1)) (hm : M a = some (.inr (2, n, .inr (.inl f)))) (hin : vp_in i n) (kk : fR l κ μ (pc + 1) lv (.long (f i.toNatClampNeg) :: st) M bc bs P) : fR l κ μ pc lv (.int i :: .ref a :: st) M bc bs P := by
  intro p e s m args below meth c C H locs cells slots ls hW hS hl hc hs
  obtain ⟨dC, dI, tys, ws, hK, hP, hD, hM9⟩ := id hW
  obtain ⟨k0, t0, cA, hk0, ht0⟩ := hM9 a _ hm
  exact va_lald C.2.1 C.2.2.1 hK hP k0 t0 hk0 ht0 hin d (kk p e s m args below meth c C H locs cells slots ls hW hS hl hc hs)

theorem r_aldq {a n t : Nat} {Cn : String} {f : Nat → Option Nat} {i : Int32} (d : decode (mB μ) pc = .ok (.aaload, 1)) (hm : M a = some (.inr (t, n, .inr (.inr (.inr (.inr f)))))) (ht : fTy t = .object Cn) (hin : vp_in i n) (kk : fR l κ μ (pc + 1) lv (va_rf (f i.toNatClampNeg) :: st) M bc bs P) : fR l κ μ pc lv (.int i :: .ref a :: st) M bc bs P := by
  intro p e s m args below meth c C H locs cells slots ls hW hS hl hc hs
  obtain ⟨dC, dI, tys, ws, hK, hP, hD, hM9⟩ := id hW
  obtain ⟨k0, t0, cA, hk0, ht0⟩ := hM9 a _ hm
  exact va_aldq C.2.1 C.2.2.1 hK hP k0 t0 hk0 (ht0.trans (by rw [ht])) hin d (kk p e s m args below meth c C H locs cells slots ls hW hS hl hc hs)

theorem r_iast {a n : Nat} {f : Nat → Int32} {i : Int32} {x : Int32} (d : decode (mB μ) pc = .ok (.iastore, 1)) (hm : M a = some (.inr (0, n, .inl f))) (hin : vp_in i n) (kk : fR l κ μ (pc + 1) lv st (fup M a (.inr (0, n, .inl (upd f i.toNatClampNeg x)))) bc bs P) : fR l κ μ pc lv (.int x :: .int i :: .ref a :: st) M bc bs P := by
  intro p e s m args below meth c C H locs cells slots ls hW hS hl hc hs
  obtain ⟨dC, dI, tys, ws, hK, hP, hD, hM9⟩ := id hW
  obtain ⟨k0, t0, cA, hk0, ht0⟩ := hM9 a _ hm
  exact va_iast C.2.1 C.2.2.1 hK hP hD hS k0 t0 hk0 ht0 hin d (fun H1 locs1 hP1 hD1 hS1 => kk p e s m args below meth c C H1 locs1 cells slots ls ⟨dC, dI, tys, _, hK, hP1, hD1, fIn_set hD hM9 hk0 ⟨k0, t0, cA, fset_at hk0, ht0⟩⟩ hS1 hl hc hs)

theorem r_cast {a n : Nat} {f : Nat → Int32} {i : Int32} {x : Int32} (d : decode (mB μ) pc = .ok (.castore, 1)) (hm : M a = some (.inr (1, n, .inl f))) (hin : vp_in i n) (kk : fR l κ μ (pc + 1) lv st (fup M a (.inr (1, n, .inl (upd f i.toNatClampNeg (vp_nar .char x))))) bc bs P) : fR l κ μ pc lv (.int x :: .int i :: .ref a :: st) M bc bs P := by
  intro p e s m args below meth c C H locs cells slots ls hW hS hl hc hs
  obtain ⟨dC, dI, tys, ws, hK, hP, hD, hM9⟩ := id hW
  obtain ⟨k0, t0, cA, hk0, ht0⟩ := hM9 a _ hm
  exact va_cast C.2.1 C.2.2.1 hK hP hD hS k0 t0 hk0 ht0 hin d (fun H1 locs1 hP1 hD1 hS1 => kk p e s m args below meth c C H1 locs1 cells slots ls ⟨dC, dI, tys, _, hK, hP1, hD1, fIn_set hD hM9 hk0 ⟨k0, t0, cA, fset_at hk0, ht0⟩⟩ hS1 hl hc hs)

theorem r_last {a n : Nat} {f : Nat → Int64} {i : Int32} {x : Int64} (d : decode (mB μ) pc = .ok (.lastore, 1)) (hm : M a = some (.inr (2, n, .inr (.inl f)))) (hin : vp_in i n) (kk : fR l κ μ (pc + 1) lv st (fup M a (.inr (2, n, .inr (.inl (vp_updL f i.toNatClampNeg x))))) bc bs P) : fR l κ μ pc lv (.long x :: .int i :: .ref a :: st) M bc bs P := by
  intro p e s m args below meth c C H locs cells slots ls hW hS hl hc hs
  obtain ⟨dC, dI, tys, ws, hK, hP, hD, hM9⟩ := id hW
  obtain ⟨k0, t0, cA, hk0, ht0⟩ := hM9 a _ hm
  exact va_last C.2.1 C.2.2.1 hK hP hD hS k0 t0 hk0 ht0 hin d (fun H1 locs1 hP1 hD1 hS1 => kk p e s m args below meth c C H1 locs1 cells slots ls ⟨dC, dI, tys, _, hK, hP1, hD1, fIn_set hD hM9 hk0 ⟨k0, t0, cA, fset_at hk0, ht0⟩⟩ hS1 hl hc hs)

theorem r_astq {a n t v ci : Nat} {vs : List Value} {q : vw_C} {f : Nat → Option Nat} {i : Int32} (d : decode (mB μ) pc = .ok (.aastore, 1)) (hm : M a = some (.inr (t, n, .inr (.inr (.inr (.inr f)))))) (hv : M v = some (.inl (ci, vs))) (hq : vwCl[ci]? = some q) (ht : fTy t = .object q.1) (hin : vp_in i n) (kk : fR l κ μ (pc + 1) lv st (fup M a (.inr (t, n, .inr (.inr (.inr (.inr (va_up f i.toNatClampNeg (some v)))))))) bc bs P) : fR l κ μ pc lv (.ref v :: .int i :: .ref a :: st) M bc bs P := by
  intro p e s m args below meth c C H locs cells slots ls hW hS hl hc hs
  obtain ⟨dC, dI, tys, ws, hK, hP, hD, hM9⟩ := id hW
  obtain ⟨k0, t0, cA, hk0, ht0⟩ := hM9 a _ hm
  obtain ⟨k1, hk1⟩ := hM9 v _ hv
  exact va_astq C.2.1 C.2.2.1 hK hP hD hS k0 t0 k1 ci hk0 (ht0.trans (by rw [ht])) hk1 hq hin d (fun H1 locs1 hP1 hD1 hS1 => kk p e s m args below meth c C H1 locs1 cells slots ls ⟨dC, dI, tys, _, hK, hP1, hD1, fIn_set hD hM9 hk0 ⟨k0, t0, cA, fset_at hk0, ht0⟩⟩ hS1 hl hc hs)

theorem r_alen {a : Nat} {t : Nat} {x : vp_A} {v : Int32} (d : decode (mB μ) pc = .ok (.arraylength, 1)) (hm : M a = some (.inr (t, x))) (hv : Int32.ofNat x.1 = v) (kk : fR l κ μ (pc + 1) lv (.int v :: st) M bc bs P) : fR l κ μ pc lv (.ref a :: st) M bc bs P := by
  intro p e s m args below meth c C H locs cells slots ls hW hS hl hc hs
  obtain ⟨dC, dI, tys, ws, hK, hP, hD, hM9⟩ := id hW
  obtain ⟨k0, t0, cA, hk0, ht0⟩ := hM9 a _ hm
  exact va_alen C.2.1 C.2.2.1 hK hP k0 t0 hk0 ht0 hv d (kk p e s m args below meth c C H locs cells slots ls hW hS hl hc hs)

theorem r_sld {i : Int32} (d : decode (mB μ) pc = .ok (.iaload, 1)) (hin : vp_in i (kL κ)) (kk : fR l κ μ (pc + 1) lv (.int (kX κ i.toNatClampNeg) :: st) M bc bs P) : fR l κ μ pc lv (.int i :: .ref (kB κ) :: st) M bc bs P := by
  intro p e s m args below meth c C H locs cells slots ls hW hS hl hc hs
  have hZ := C.2.2.2.2.2.2.2.2.2.2.1.1
  exact va_sld C.2.1 C.2.2.1 hZ.1 (by obtain ⟨scr, h1, -⟩ := hZ.1; exact (Array.getElem?_eq_some_iff.mp h1).1) (Nat.not_le.mpr hZ.2) hS hin d (kk p e s m args below meth c C H locs cells slots ls hW hS hl hc hs)
theorem r_slen (d : decode (mB μ) pc = .ok (.arraylength, 1)) (kk : fR l κ μ (pc + 1) lv (.int (Int32.ofNat (kL κ)) :: st) M bc bs P) : fR l κ μ pc lv (.ref (kB κ) :: st) M bc bs P := by
  intro p e s m args below meth c C H locs cells slots ls hW hS hl hc hs
  have hZ := C.2.2.2.2.2.2.2.2.2.2.1.1
  exact va_slen C.2.1 C.2.2.1 hZ.1 (by obtain ⟨scr, h1, -⟩ := hZ.1; exact (Array.getElem?_eq_some_iff.mp h1).1) (Nat.not_le.mpr hZ.2) hS d (kk p e s m args below meth c C H locs cells slots ls hW hS hl hc hs)

theorem r_new {idx ci : Nat} {fs : List Value} {C0 : String} {T0 : u_T} {N0 bc' bs' : Nat} (d : decode (mB μ) pc = .ok (.new idx, 3)) (hq : vwCl[ci]? = some (C0, T0, N0)) (hlink : Cond.classLink (mY μ).cls idx C0 ∈ lw_tbl) (hins : Cond.instantiable C0 N0 ∈ lw_tbl) (hini : Cond.initialized C0 ∈ lw_tbl) (hfs : ∀ j, j < N0 → defaultValue (fTyOf ci j) = vp_V fs j) (hbc : bc = bc' + 1) (hbs : bs = bs' + N0) (kk : ∀ q : Nat, M q = none → fR l κ μ (pc + 3) lv (.ref q :: st) (fup M q (.inl (ci, fs))) bc' bs' P) : fR l κ μ pc lv st M bc bs P := by
  intro p e s m args below meth c C H locs cells slots ls hW hS hl hc hs
  obtain ⟨dC, dI, tys, ws, hK, hP, hD, hM9⟩ := id hW
  have hA : ∀ q, s.heap.size ≤ q → fA (kO κ) q := fun q h => Nat.le_trans C.2.2.2.2.2.2.2.2.2.2.2.2 h
  refine va_new C.2.1 C.2.2.1 C.2.2.2.2.2.2.1 (fWs_ok hq) (fTyOf ci) (fTy_ok hq) C.2.2.2.2.2.1 (C.2.2.2.2.2.2.1 _ (lwG_of hlink rfl)) (C.2.2.2.2.2.2.1 _ (lwG_of hins rfl)) (C.2.2.2.2.2.2.1 _ (lwG_of hini rfl)) hK hP hD hS hA hq hfs (by omega) (show slots + N0 ≤ (mR μ).slots by omega) d (fun q H1 hP1 hD1 hS1 => kk q (fIn_fresh hD1 hM9) p e s m args below meth c C H1 locs (cells + 1) (slots + N0) ls ⟨dC, dI, tys ++ [], _, by rw [List.append_nil]; exact hK, hP1, hD1, fIn_push hM9 ⟨ws.length, by simp⟩⟩ hS1 hl (by omega) (by omega))

theorem r_newa {atype : ArrayType} {t : Nat} {n : Int32} {N bc' bs' : Nat} {a0 : vp_A} (d : decode (mB μ) pc = .ok (.newarray atype, 2)) (harr : Cond.arrayClass (newarray.typeOf atype) ∈ lw_tbl) (hty : newarray.typeOf atype = fTy t) (ha : ∀ cA : ClassId, vp_cell cA a0 = arrV cA N (fun _ => defaultValue (fTy t))) (hn : ¬ n < 0) (hN : n.toNatClampNeg = N) (hby : N * componentBytes (fTy t) ≤ 536870912) (hbc : bc = bc' + 1) (hbs : bs = bs' + N) (kk : ∀ q : Nat, M q = none → fR l κ μ (pc + 2) lv (.ref q :: st) (fup M q (.inr (t, a0))) bc' bs' P) : fR l κ μ pc lv (.int n :: st) M bc bs P := by
  intro p e s m args below meth c C H locs cells slots ls hW hS hl hc hs
  obtain ⟨dC, dI, tys, ws, hK, hP, hD, hM9⟩ := id hW
  have hA : ∀ q, s.heap.size ≤ q → fA (kO κ) q := fun q h => Nat.le_trans C.2.2.2.2.2.2.2.2.2.2.2.2 h
  refine va_newa (atype := atype) C.2.1 C.2.2.1 (C.2.2.2.2.2.2.1 _ (lwG_of harr rfl)) hty hK hP hD hS hA ha hn hN hby (by omega) (by omega) d (fun q cA H1 hK1 hP1 hD1 hS1 => kk q (fIn_fresh hD1 hM9) p e s m args below meth c C H1 locs (cells + 1) (slots + N) ls ⟨dC, dI, _, _, hK1, hP1, hD1, fIn_push hM9 ⟨ws.length, tys.length, cA, by simp, by simp⟩⟩ hS1 hl (by omega) (by omega))

theorem r_newq {idx t : Nat} {C0 : String} {n : Int32} {N bc' bs' : Nat} (d : decode (mB μ) pc = .ok (.anewarray idx, 3)) (hlink : Cond.classLink (mY μ).cls idx C0 ∈ lw_tbl) (hov : C0 ∈ ["BitumenNeedle$Drum", "BitumenNeedle$Specimen", "BitumenNeedle$Needle", "BitumenNeedle$Lab"]) (hty : FieldType.object C0 = fTy t) (hn : ¬ n < 0) (hN : n.toNatClampNeg = N) (hby : N * 4 ≤ 536870912) (hbc : bc = bc' + 1) (hbs : bs = bs' + N) (kk : ∀ q : Nat, M q = none → fR l κ μ (pc + 3) lv (.ref q :: st) (fup M q (.inr (t, N, .inr (.inr (.inr (.inr (fun _ => none))))))) bc' bs' P) : fR l κ μ pc lv (.int n :: st) M bc bs P := by
  intro p e s m args below meth c C H locs cells slots ls hW hS hl hc hs
  obtain ⟨dC, dI, tys, ws, hK, hP, hD, hM9⟩ := id hW
  have hA : ∀ q, s.heap.size ≤ q → fA (kO κ) q := fun q h => Nat.le_trans C.2.2.2.2.2.2.2.2.2.2.2.2 h
  refine va_newq C.2.1 C.2.2.1 C.2.2.2.2.2.1 (C.2.2.2.2.2.2.1 _ (lwG_of hlink rfl)) (C.2.2.2.2.2.2.2.2.2.2.2.1.2.1 C0 hov) hK hP hD hS hA hn hN hby (by omega) (by omega) d (fun q cA H1 hK1 hP1 hD1 hS1 => kk q (fIn_fresh hD1 hM9) p e s m args below meth c C H1 locs (cells + 1) (slots + N) ls ⟨dC, dI, _, _, hK1, hP1, hD1, fIn_push hM9 ⟨ws.length, tys.length, cA, by simp, by simp [hty]⟩⟩ hS1 hl (by omega) (by omega))

end FRR
end
section
section FR2
variable {l : Launch} {κ : KP} {μ μ' : MD} {pc : Nat} {lv lv' : List (Nat × Value)} {st rest : List Value} {M : Mem} {bc bs : Nat} {P P' : FPost}
/-- behind a call of a method that doesn't throw -/
theorem fR_run0 {p : Program} {e : Env} {s : State} {m : MethodId} {args : Array Value} {below : List Frame} {meth : Method} {c : Code} {H : Heap} {locs : List Loc} {cells slots : Nat} {ls : Array Slot} {a : Array Value} {st0 : List Value}
    (C : fC l κ μ p e s m args meth c) (hS : va_S (fA (kO κ)) s.heap H locs) (hl : lv_has ls (mL μ) lv) (hc : cells + bc ≤ (mR μ).cells) (hs : slots + bs ≤ (mR μ).slots) (hb : (mR μ').cells ≤ bc ∧ (mR μ').slots ≤ bs)
    (hr : va_Run p l e (mR μ) s m args below meth c H locs cells slots (mR μ').cells (mR μ').slots (F0 m pc ls st0) rest (fQ κ P' a) (fA (kO κ)))
    (kr : ∀ v M', P' (.inl v) M' → fR l κ μ (pc + 3) lv (v.toList ++ rest) M' (bc - (mR μ').cells) (bs - (mR μ').slots) P) :
    W p l e (mR μ) s m args below meth c H locs cells slots (vx_MQ below (fQ κ P) (fX κ P) args s (mR μ).cells (mR μ).slots (fA (kO κ))) (F0 m pc ls st0) := by
  intro T hT X
  have hA : ∀ q, q < H.size → fA (kO κ) q → fA (kO κ) q := fun _ _ h => h
  have hf : ∀ q, fA (kO κ) q → fA (kO κ) q := fun _ h => h
  obtain ⟨v, st₀, t, T', L, h0, X', hL, e1, e2, ⟨⟨v', M', hv, hp, hw⟩, hF⟩, stp⟩ := hr T hT X
  cases hv
  obtain ⟨k1, k2, k3⟩ := vx_keep h0 e1 hS hA hf hL hF
  have hal : s.vm.Alike t.vm := by rw [← e2]; exact X'.warmed.alike
  obtain ⟨t2, a1, b1⟩ := kr v M' hp p e s m args below meth c C T'.heap (locs ++ L) (cells + (mR μ').cells) (slots + (mR μ').slots) ls (by rw [e1]; exact hw.moved hal.symm) k3 hl (by omega) (by omega) T' rfl X'
  exact ⟨t2, stp t2 a1, b1⟩
theorem fPre {s : State} {p : Program} {e : Env} {m : MethodId} {args : Array Value} {meth : Method} {c : Code} {H : Heap} {locs : List Loc} (C : fC l κ μ p e s m args meth c) (hW : fW (kO κ) s M H) (hS : va_S (fA (kO κ)) s.heap H locs) (av : List Value) : PreS s H (fP κ av M) av :=
  ⟨fP_blind, fun U hU hw => ⟨rfl, by rw [hU]; exact hW.moved hw.alike, by rw [hU]; exact (C.2.2.2.2.2.2.2.2.2.2.1.at hS).moved hw.alike, fN.warm hw C.2.2.2.2.2.2.2.2.2.2.2.1, by rw [hU]; exact Nat.le_trans C.2.2.2.2.2.2.2.2.2.2.2.2 hS.1⟩⟩
theorem fcallN {n idx : Nat} {host : String} {s : State} {args : Array Value} (hts : ∀ w ∈ lwG, w.before args s = true) (hN : fN κ s) (hok : fOK μ' n) (hlink : Cond.methodLinkNest (mY μ).cls idx (mY μ') host ∈ lw_tbl) (hR : fRoom μ μ' bc bs) :
    va_CN (mR μ) s args (mY μ).cls idx (mY μ') host (mB μ') (mL μ') (mT μ') (fCode μ' :: lwG) (mR μ') (mR μ').cells (mR μ').slots n := by
  obtain ⟨h0, h1, h2, h3, h4⟩ := hok
  have hc : fCode μ' = Cond.code (mY μ') (mB μ') (mL μ') (mT μ') := by unfold fCode; rw [h0]
  rw [hc] at h1 ⊢
  refine va_cnB n hts ?_ rfl rfl rfl (hN.1 _ hlink rfl) (hts _ (lwG_of h2 rfl)) ⟨h3.1, h3.2, h4⟩ ⟨hR.1, hR.2.1⟩
  intro w hw
  rcases List.mem_cons.mp hw with rfl | hw
  · exact ⟨lwG_of h1 rfl, good_of_word rfl⟩
  · exact ⟨hw, good_of_word (List.mem_filter.mp hw).2⟩
/-- a constructor of an own class -/
theorem fR_callI {idx n b : Nat} {As : List Value} (d : decode (mB μ) pc = .ok (.invokespecial idx, 3)) (hM : fM l κ μ' (.ref b :: As) M P') (hst : st = As.reverse ++ .ref b :: rest)
    (hok : fOK μ' n) (hn : As.length = n) (hret : mT μ' = none) (hnm : (mY μ').name = "<init>") (hlink : Cond.methodLink (mY μ).cls idx (mY μ') ∈ lw_tbl) (hin : Cond.instanceMethod (mY μ') ∈ lw_tbl)
    (hR : fRoom μ μ' bc bs) (hcat : (rest.map fun v => v.category).sum ≤ 8) (hno : ∀ E M', ¬ P' (.inr E) M')
    (kr : ∀ v M', P' (.inl v) M' → fR l κ μ (pc + 3) lv (v.toList ++ rest) M' (bc - (mR μ').cells) (bs - (mR μ').slots) P) : fR l κ μ pc lv st M bc bs P := by
  subst hst
  intro p e s m args below meth c C H locs cells slots ls hW hS hl hc hs
  have hts := C.2.2.2.2.2.2.1
  have hcb := fcallB hts hok hlink hR
  rw [hret] at hcb
  refine fR_run0 C hS hl hc hs hR.2.2 (va_runI (As := As) (rest := rest) (n := n) (own := (mY μ).cls) (index := idx) ⟨C.2.1, C.2.2.1, C.2.2.2.2.1, C.2.2.2.2.2.1, hts⟩ (fM_met hM C.1 hno) ⟨hcb, hnm, hts _ (lwG_of hin rfl)⟩ (fPre C hW hS _) rfl hn hl.1 rfl (lv_room hcat) d ⟨?_, ?_⟩) kr
  · have := hR.2.2.1; omega
  · have := hR.2.2.2; omega
/-- a private constructor of a nest mate -/
theorem fR_callIN {idx n b : Nat} {host : String} {As : List Value} (d : decode (mB μ) pc = .ok (.invokespecial idx, 3)) (hM : fM l κ μ' (.ref b :: As) M P') (hst : st = As.reverse ++ .ref b :: rest)
    (hok : fOK μ' n) (hn : As.length = n) (hret : mT μ' = none) (hnm : (mY μ').name = "<init>") (hlink : Cond.methodLinkNest (mY μ).cls idx (mY μ') host ∈ lw_tbl) (hin : Cond.instanceMethod (mY μ') ∈ lw_tbl)
    (hR : fRoom μ μ' bc bs) (hcat : (rest.map fun v => v.category).sum ≤ 8) (hno : ∀ E M', ¬ P' (.inr E) M')
    (kr : ∀ v M', P' (.inl v) M' → fR l κ μ (pc + 3) lv (v.toList ++ rest) M' (bc - (mR μ').cells) (bs - (mR μ').slots) P) : fR l κ μ pc lv st M bc bs P := by
  subst hst
  intro p e s m args below meth c C H locs cells slots ls hW hS hl hc hs
  have hts := C.2.2.2.2.2.2.1
  have hcb := fcallN (κ := κ) hts C.2.2.2.2.2.2.2.2.2.2.2.1 hok hlink hR
  rw [hret] at hcb
  refine fR_run0 C hS hl hc hs hR.2.2 (va_runIN (As := As) (rest := rest) (n := n) (own := (mY μ).cls) (index := idx) ⟨C.2.1, C.2.2.1, C.2.2.2.2.1, C.2.2.2.2.2.1, hts⟩ (fM_met hM C.1 hno) ⟨hcb, hnm, hts _ (lwG_of hin rfl)⟩ (fPre C hW hS _) rfl hn hl.1 rfl (lv_room hcat) d ⟨?_, ?_⟩) kr
  · have := hR.2.2.1; omega
  · have := hR.2.2.2; omega
/-- a private static method of a nest mate -/
theorem fR_callSN {idx n : Nat} {host : String} {As : List Value} (d : decode (mB μ) pc = .ok (.invokestatic idx, 3)) (hM : fM l κ μ' As M P') (hst : st = As.reverse ++ rest)
    (hok : fOK μ' n) (hn : As.length = n) (hlink : Cond.methodLinkNest (mY μ).cls idx (mY μ') host ∈ lw_tbl) (hin : Cond.static (mY μ') ∈ lw_tbl)
    (hR : fRoom μ μ' bc bs) (hcat : (rest.map fun v => v.category).sum ≤ 8) (hno : ∀ E M', ¬ P' (.inr E) M')
    (kr : ∀ v M', P' (.inl v) M' → fR l κ μ (pc + 3) lv (v.toList ++ rest) M' (bc - (mR μ').cells) (bs - (mR μ').slots) P) : fR l κ μ pc lv st M bc bs P := by
  subst hst
  intro p e s m args below meth c C H locs cells slots ls hW hS hl hc hs
  have hts := C.2.2.2.2.2.2.1
  refine fR_run0 C hS hl hc hs hR.2.2 (va_runSN (As := As) (rest := rest) (n := n) (own := (mY μ).cls) (index := idx) ⟨C.2.1, C.2.2.1, C.2.2.2.2.1, C.2.2.2.2.2.1, hts⟩ (fM_met hM C.1 hno) ⟨fcallN (κ := κ) hts C.2.2.2.2.2.2.2.2.2.2.2.1 hok hlink hR, hts _ (lwG_of hin rfl), trivial⟩ (fPre C hW hS _) rfl hn hl.1 rfl (lv_room hcat) d ⟨?_, ?_⟩) kr
  · have := hR.2.2.1; omega
  · have := hR.2.2.2; omega
/-- Object.<init> -/
theorem r_objInit {idx a : Nat} (d : decode (mB μ) pc = .ok (.invokespecial idx, 3)) (hlink : Cond.methodLink (mY μ).cls idx Lib.objectInit ∈ lw_tbl) (hin : Cond.instanceMethod Lib.objectInit ∈ lw_tbl) (hcode : Cond.code Lib.objectInit ⟨#[0xb1]⟩ 1 none ∈ lw_tbl) (hfr : 1 ≤ (mR μ).frames) (hlo : (st.map fun v => v.category).sum + 12 ≤ (mR μ).locals)
    (kk : fR l κ μ (pc + 3) lv st M bc bs P) : fR l κ μ pc lv (.ref a :: st) M bc bs P := by
  intro p e s m args below meth c C H locs cells slots ls hW hS hl hc hs
  have hts := C.2.2.2.2.2.2.1
  refine W.objInit C.2.1 C.2.2.1 C.2.2.2.2.2.1 (hts _ (lwG_of hlink rfl)) (hts _ (lwG_of hin rfl)) (hts _ (lwG_of hcode rfl)) rfl (by rw [C.2.2.2.2.1]; exact hl.1) rfl d hfr (by show 2 * 0 + _ + 12 ≤ _; omega) ?_
  exact kk p e s m args below meth c C H locs cells slots ls hW hS hl hc hs
theorem r_mmax {idx : Nat} {x y : Int32} (d : decode (mB μ) pc = .ok (.invokestatic idx, 3)) (hlink : Cond.methodLink (mY μ).cls idx Lib.Math.max.name ∈ lw_tbl) (hst : Cond.static Lib.Math.max.name ∈ lw_tbl) (hini : Cond.initialized "java/lang/Math" ∈ lw_tbl) (hcode : Cond.code Lib.Math.max.name Lib.Math.max.code 2 (some .int) ∈ lw_tbl) (hfr : 1 ≤ (mR μ).frames) (hlo : (st.map fun v => v.category).sum + 13 ≤ (mR μ).locals)
    (kk : fR l κ μ (pc + 3) lv (.int (if x < y then y else x) :: st) M bc bs P) : fR l κ μ pc lv (.int y :: .int x :: st) M bc bs P := by
  intro p e s m args below meth c C H locs cells slots ls hW hS hl hc hs
  have hts := C.2.2.2.2.2.2.1
  exact va_mmax C.2.1 C.2.2.1 (C.2.2.2.2.1.trans hl.1.symm) C.2.2.2.2.2.1 (hts _ (lwG_of hlink rfl)) (hts _ (lwG_of hst rfl)) (hts _ (lwG_of hini rfl)) (hts _ (lwG_of hcode rfl)) hfr hlo (by omega) (by omega) d (kk p e s m args below meth c C H locs cells slots ls hW hS hl hc hs)
theorem r_mmin {idx : Nat} {x y : Int32} (d : decode (mB μ) pc = .ok (.invokestatic idx, 3)) (hlink : Cond.methodLink (mY μ).cls idx Lib.Math.min.name ∈ lw_tbl) (hst : Cond.static Lib.Math.min.name ∈ lw_tbl) (hini : Cond.initialized "java/lang/Math" ∈ lw_tbl) (hcode : Cond.code Lib.Math.min.name Lib.Math.min.code 2 (some .int) ∈ lw_tbl) (hfr : 1 ≤ (mR μ).frames) (hlo : (st.map fun v => v.category).sum + 13 ≤ (mR μ).locals)
    (kk : fR l κ μ (pc + 3) lv (.int (if y < x then y else x) :: st) M bc bs P) : fR l κ μ pc lv (.int y :: .int x :: st) M bc bs P := by
  intro p e s m args below meth c C H locs cells slots ls hW hS hl hc hs
  have hts := C.2.2.2.2.2.2.1
  exact va_mmin C.2.1 C.2.2.1 (C.2.2.2.2.1.trans hl.1.symm) C.2.2.2.2.2.1 (hts _ (lwG_of hlink rfl)) (hts _ (lwG_of hst rfl)) (hts _ (lwG_of hini rfl)) (hts _ (lwG_of hcode rfl)) hfr hlo (by omega) (by omega) d (kk p e s m args below meth c C H locs cells slots ls hW hS hl hc hs)
theorem r_mabs {idx : Nat} {x : Int32} (d : decode (mB μ) pc = .ok (.invokestatic idx, 3)) (hlink : Cond.methodLink (mY μ).cls idx Lib.Math.abs.name ∈ lw_tbl) (hst : Cond.static Lib.Math.abs.name ∈ lw_tbl) (hini : Cond.initialized "java/lang/Math" ∈ lw_tbl) (hcode : Cond.code Lib.Math.abs.name Lib.Math.abs.code 1 (some .int) ∈ lw_tbl) (hfr : 1 ≤ (mR μ).frames) (hlo : (st.map fun v => v.category).sum + 13 ≤ (mR μ).locals)
    (kk : fR l κ μ (pc + 3) lv (.int (if 0 ≤ x then x else 0 - x) :: st) M bc bs P) : fR l κ μ pc lv (.int x :: st) M bc bs P := by
  intro p e s m args below meth c C H locs cells slots ls hW hS hl hc hs
  have hts := C.2.2.2.2.2.2.1
  exact va_mabs C.2.1 C.2.2.1 (C.2.2.2.2.1.trans hl.1.symm) C.2.2.2.2.2.1 (hts _ (lwG_of hlink rfl)) (hts _ (lwG_of hst rfl)) (hts _ (lwG_of hini rfl)) (hts _ (lwG_of hcode rfl)) hfr hlo (by omega) (by omega) d (kk p e s m args below meth c C H locs cells slots ls hW hS hl hc hs)
/-- System.arraycopy over int arrays -/
theorem r_copyi {idx a0 a n0 n1 : Nat} {f g : Nat → Int32} {sp dp n : Int32} (d : decode (mB μ) pc = .ok (.invokestatic idx, 3)) (hlink : Cond.methodLink (mY μ).cls idx arraycopyName ∈ lw_tbl) (hnat : Cond.native arraycopyName ∈ lw_tbl) (hst : Cond.static arraycopyName ∈ lw_tbl) (hini : Cond.initialized "java/lang/System" ∈ lw_tbl)
    (hm0 : M a0 = some (.inr (0, n0, .inl f))) (hm1 : M a = some (.inr (0, n1, .inl g))) (h1 : ¬ sp < 0) (h2 : ¬ dp < 0) (h3 : ¬ n < 0) (h4 : sp.toNatClampNeg + n.toNatClampNeg ≤ n0) (h5 : dp.toNatClampNeg + n.toNatClampNeg ≤ n1) (hfr : 1 ≤ (mR μ).frames) (hlo : (st.map fun v => v.category).sum + (nativeFrameWords "java/lang/System" "arraycopy" 5 + 11) ≤ (mR μ).locals)
    (kk : fR l κ μ (pc + 3) lv st (fup M a (.inr (0, n1, .inl (va_cpy f g sp.toNatClampNeg dp.toNatClampNeg n.toNatClampNeg)))) bc bs P) : fR l κ μ pc lv (.int n :: .int dp :: .ref a :: .int sp :: .ref a0 :: st) M bc bs P := by
  intro p e s m args below meth c C H locs cells slots ls hW hS hl hc hs
  have hts := C.2.2.2.2.2.2.1
  obtain ⟨dC, dI, tys, ws, hK, hP, hD, hM9⟩ := id hW
  obtain ⟨q0, t0, c0, hk0, ht0⟩ := hM9 a0 _ hm0
  obtain ⟨q1, t1, c1, hk1, ht1⟩ := hM9 a _ hm1
  exact va_copyi C.2.1 C.2.2.1 (C.2.2.2.2.1.trans hl.1.symm) C.2.2.2.2.2.1 (hts _ (lwG_of hlink rfl)) (hts _ (lwG_of hnat rfl)) (hts _ (lwG_of hst rfl)) (hts _ (lwG_of hini rfl)) hK hP hD hS q0 q1 t0 t1 hk0 hk1 ht0 ht1 rfl h1 h2 h3 h4 h5 (fun _ _ => rfl) hfr hlo d (fun H1 locs1 hP1 hD1 hS1 => kk p e s m args below meth c C H1 locs1 cells slots ls ⟨dC, dI, tys, _, hK, hP1, hD1, fIn_set hD hM9 hk1 ⟨q1, t1, c1, fset_at hk1, ht1⟩⟩ hS1 hl hc hs)
/-- the greatest values of the settings -/
theorem r_getsMost {idx : Nat} (d : decode (mB μ) pc = .ok (.getstatic idx, 3)) (hlink : Cond.fieldLink (mY μ).cls idx "BitumenNeedle" "MOST_OF_SETTING" "[I" ∈ lw_tbl) (kk : fR l κ μ (pc + 3) lv (.ref (kT κ 2) :: st) M bc bs P) : fR l κ μ pc lv st M bc bs P := by
  intro p e s m args below meth c C H locs cells slots ls hW hS hl hc hs
  exact va_gets C.2.1 C.2.2.1 C.2.2.2.2.2.2.2.2.2.2.1.2.2.2.1.1 hS C.2.2.2.2.2.1 (C.2.2.2.2.2.2.1 _ (lwG_of hlink rfl)) (fun x h => h) d (kk p e s m args below meth c C H locs cells slots ls hW hS hl hc hs)
theorem r_ldMost {i : Int32} {v : Int32} (d : decode (mB μ) pc = .ok (.iaload, 1)) (hin : vp_in i 3) (hv : [(50 : Int32), 100, 60].getD i.toNatClampNeg 0 = v) (kk : fR l κ μ (pc + 1) lv (.int v :: st) M bc bs P) : fR l κ μ pc lv (.int i :: .ref (kT κ 2) :: st) M bc bs P := by
  intro p e s m args below meth c C H locs cells slots ls hW hS hl hc hs
  exact va_ti C.2.1 C.2.2.1 C.2.2.2.2.2.2.2.2.2.2.1.2.2.2.1.2 hS hin (by rw [hv]) d (kk p e s m args below meth c C H locs cells slots ls hW hS hl hc hs)
/-- new E; dup; ldc text; E.<init>(text); athrow -/
def fThr (own : String) (ik ic : Nat) (cls : String) : Bool :=
  (vx_atS own ic cls ["java/lang/RuntimeException", "java/lang/Exception"]).all (fun w => decide (w ∈ lw_tbl) && (goodWord w || (fKind w && w.onTables))) &&
  (Cond.classLink own ik cls :: Cond.initialized cls :: vx_atS own ic cls ["java/lang/RuntimeException", "java/lang/Exception"]).all vx_ot && decide (Cond.classLink own ik cls ∈ lw_tbl) && decide (Cond.initialized cls ∈ lw_tbl) && Bundle.fit cls && (["java/lang/RuntimeException", "java/lang/Exception"]).all Bundle.fit
theorem r_throw {ik is ic j : Nat} {cls tx : String} (hh : fThr (mY μ).cls ik ic cls = true) (d0 : decode (mB μ) pc = .ok (.new ik, 3)) (d3 : decode (mB μ) (pc + 3) = .ok (.dup, 1)) (d4 : decode (mB μ) (pc + 4) = .ok (.ldc is, 2)) (d6 : decode (mB μ) (pc + 6) = .ok (.invokespecial ic, 3)) (d9 : decode (mB μ) (pc + 9) = .ok (.athrow, 1))
    (hstr : ((mY μ).cls, is, tx, j) ∈ fStr) (hfr : 5 < (mR μ).frames) (hlo : (st.map fun v => v.category).sum + 82 ≤ (mR μ).locals) (hbc : 1 ≤ bc) (hbs : 6 ≤ bs) (hH : mH μ = []) (hp : P (.inr cls) M) : fR l κ μ pc lv st M bc bs P := by
  intro p e s m args below meth c C H locs cells slots ls hW hS hl hc hs
  have hts := C.2.2.2.2.2.2.1
  have hN := C.2.2.2.2.2.2.2.2.2.2.2.1
  have hZ := C.2.2.2.2.2.2.2.2.2.2.1.2.2.2.2.1
  simp only [fThr, Bool.and_eq_true, List.all_eq_true, decide_eq_true_eq, Bool.or_eq_true] at hh
  obtain ⟨⟨⟨⟨⟨h1, h2⟩, h3⟩, h4⟩, h5⟩, h6⟩ := hh
  have htab : ∀ x ∈ c.exceptionTable.toList, covers x (pc + 9) = false := by
    have h9 := C.2.2.2.2.2.2.2.2.2.1
    rw [hH] at h9
    intro x hx
    rw [h9] at hx
    cases hx
  refine vx_throwS (ik := ik) (is := is) (ic := ic) (sa := kK κ j) (cls := cls) (text := tx) (names := ["java/lang/RuntimeException", "java/lang/Exception"]) (A := fA (kO κ)) C.2.1 C.2.2.1 C.1 C.2.2.2.2.2.1 h5 h6 (hts _ (lwG_of h3 rfl)) (hts _ (lwG_of h4 rfl)) (hN.2.2.1 _ hstr) ?_ h2 hZ.1 hZ.2 hS (by rw [C.2.2.2.2.1]; exact hl.1) d0 d3 d4 d6 d9 htab (show 2 + 3 < _ by omega) (show _ + (13 * (2 + 1) + 43) ≤ _ by omega) (by omega) (by omega) C.2.2.2.2.2.2.2.1 ?_ hS.2.2 (by omega) (by omega)
  · intro w hw
    obtain ⟨g1, g2⟩ := h1 w hw
    rcases g2 with g2 | g2
    · exact hts _ (lwG_of g1 g2)
    · exact va_Nw.use g2.2 (hN.1 w g1 g2.1)
  · intro t hal hz hk
    obtain ⟨dC, dI, tys, ws, hK, hP, hD, hM9⟩ := hW
    refine ⟨⟨M, hp, fW.moved hal ⟨dC, dI, tys, ws, hK, hP.kept (fun k q hq => hk q.1 (hP k q hq).lt), hD, hM9⟩⟩, Nat.le_trans hS.1 hz, fun q h1 h2 => ?_⟩
    rw [hk q (Nat.lt_of_lt_of_le h1 hS.1)]
    exact hS.2.1 q h1 h2
end FR2
end
section
def mX0_init : MD := (yX0_init, cX0_init, 1, (none : Option FieldType), { frames := 1, cells := 0, slots := 0, locals := 64 }, [])
theorem oX0_init : fOK mX0_init 0 := ⟨rfl, lw_of (i := 58) (by decide +kernel), lw_of (i := 3) (by decide +kernel), by decide +kernel, by decide +kernel⟩
theorem nX0_init : Cond.instanceMethod yX0_init ∈ lw_tbl := lw_of (i := 57) (by decide +kernel)
def mX0_fill : MD := (yX0_fill, cX0_fill, 2, (none : Option FieldType), { frames := 1, cells := 0, slots := 0, locals := 64 }, [])
theorem oX0_fill : fOK mX0_fill 1 := ⟨rfl, lw_of (i := 707) (by decide +kernel), lw_of (i := 3) (by decide +kernel), by decide +kernel, by decide +kernel⟩
theorem nX0_fill : Cond.instanceMethod yX0_fill ∈ lw_tbl := lw_of (i := 705) (by decide +kernel)
theorem eX0_fill : Cond.selects yX0_fill.cls yX0_fill yX0_fill ∈ lw_tbl := lw_of (i := 706) (by decide +kernel)
def mX0_copyFrom : MD := (yX0_copyFrom, cX0_copyFrom, 2, (none : Option FieldType), { frames := 1, cells := 0, slots := 0, locals := 64 }, [])
theorem oX0_copyFrom : fOK mX0_copyFrom 1 := ⟨rfl, lw_of (i := 382) (by decide +kernel), lw_of (i := 3) (by decide +kernel), by decide +kernel, by decide +kernel⟩
theorem nX0_copyFrom : Cond.instanceMethod yX0_copyFrom ∈ lw_tbl := lw_of (i := 380) (by decide +kernel)
theorem eX0_copyFrom : Cond.selects yX0_copyFrom.cls yX0_copyFrom yX0_copyFrom ∈ lw_tbl := lw_of (i := 381) (by decide +kernel)
def mX0_hardness : MD := (yX0_hardness, cX0_hardness, 1, (some FieldType.int), { frames := 3, cells := 0, slots := 0, locals := 107 }, [])
theorem oX0_hardness : fOK mX0_hardness 0 := ⟨rfl, lw_of (i := 445) (by decide +kernel), lw_of (i := 3) (by decide +kernel), by decide +kernel, by decide +kernel⟩
theorem nX0_hardness : Cond.instanceMethod yX0_hardness ∈ lw_tbl := lw_of (i := 443) (by decide +kernel)
theorem eX0_hardness : Cond.selects yX0_hardness.cls yX0_hardness yX0_hardness ∈ lw_tbl := lw_of (i := 444) (by decide +kernel)
def mX1_init : MD := (yX1_init, cX1_init, 2, (none : Option FieldType), { frames := 3, cells := 218, slots := 2841, locals := 105 }, [])
theorem oX1_init : fOK mX1_init 0 := ⟨rfl, lw_of (i := 179) (by decide +kernel), lw_of (i := 6) (by decide +kernel), by decide +kernel, by decide +kernel⟩
theorem nX1_init : Cond.instanceMethod yX1_init ∈ lw_tbl := lw_of (i := 178) (by decide +kernel)
def mX1_save : MD := (yX1_save, cX1_save, 2, (none : Option FieldType), { frames := 3, cells := 0, slots := 0, locals := 107 }, [])
theorem oX1_save : fOK mX1_save 1 := ⟨rfl, lw_of (i := 694) (by decide +kernel), lw_of (i := 6) (by decide +kernel), by decide +kernel, by decide +kernel⟩
theorem nX1_save : Cond.instanceMethod yX1_save ∈ lw_tbl := lw_of (i := 692) (by decide +kernel)
theorem eX1_save : Cond.selects yX1_save.cls yX1_save yX1_save ∈ lw_tbl := lw_of (i := 693) (by decide +kernel)
def mX1_dropOldest : MD := (yX1_dropOldest, cX1_dropOldest, 3, (none : Option FieldType), { frames := 1, cells := 0, slots := 0, locals := 64 }, [])
theorem oX1_dropOldest : fOK mX1_dropOldest 0 := ⟨rfl, lw_of (i := 698) (by decide +kernel), lw_of (i := 6) (by decide +kernel), by decide +kernel, by decide +kernel⟩
theorem nX1_dropOldest : Cond.instanceMethod yX1_dropOldest ∈ lw_tbl := lw_of (i := 697) (by decide +kernel)
theorem eX1_dropOldest : Cond.selects yX1_dropOldest.cls yX1_dropOldest yX1_dropOldest ∈ lw_tbl := List.mem_append_left _ (by decide +kernel)
def mX1_goBack : MD := (yX1_goBack, cX1_goBack, 2, (none : Option FieldType), { frames := 3, cells := 0, slots := 0, locals := 107 }, [])
theorem oX1_goBack : fOK mX1_goBack 1 := ⟨rfl, lw_of (i := 927) (by decide +kernel), lw_of (i := 6) (by decide +kernel), by decide +kernel, by decide +kernel⟩
theorem nX1_goBack : Cond.instanceMethod yX1_goBack ∈ lw_tbl := lw_of (i := 925) (by decide +kernel)
theorem eX1_goBack : Cond.selects yX1_goBack.cls yX1_goBack yX1_goBack ∈ lw_tbl := lw_of (i := 926) (by decide +kernel)
def mX2_init : MD := (yX2_init, cX2_init, 2, (none : Option FieldType), { frames := 2, cells := 30, slots := 394, locals := 84 }, [])
theorem oX2_init : fOK mX2_init 0 := ⟨rfl, lw_of (i := 36) (by decide +kernel), lw_of (i := 2) (by decide +kernel), by decide +kernel, by decide +kernel⟩
theorem nX2_init : Cond.instanceMethod yX2_init ∈ lw_tbl := lw_of (i := 35) (by decide +kernel)
def mX2_copyFrom : MD := (yX2_copyFrom, cX2_copyFrom, 3, (none : Option FieldType), { frames := 2, cells := 0, slots := 0, locals := 85 }, [])
theorem oX2_copyFrom : fOK mX2_copyFrom 1 := ⟨rfl, lw_of (i := 378) (by decide +kernel), lw_of (i := 2) (by decide +kernel), by decide +kernel, by decide +kernel⟩
theorem nX2_copyFrom : Cond.instanceMethod yX2_copyFrom ∈ lw_tbl := lw_of (i := 376) (by decide +kernel)
theorem eX2_copyFrom : Cond.selects yX2_copyFrom.cls yX2_copyFrom yX2_copyFrom ∈ lw_tbl := lw_of (i := 377) (by decide +kernel)
def mX2_hasDrum : MD := (yX2_hasDrum, cX2_hasDrum, 2, (some FieldType.boolean), { frames := 1, cells := 0, slots := 0, locals := 64 }, [])
theorem oX2_hasDrum : fOK mX2_hasDrum 1 := ⟨rfl, lw_of (i := 491) (by decide +kernel), lw_of (i := 2) (by decide +kernel), by decide +kernel, by decide +kernel⟩
theorem nX2_hasDrum : Cond.instanceMethod yX2_hasDrum ∈ lw_tbl := lw_of (i := 489) (by decide +kernel)
theorem eX2_hasDrum : Cond.selects yX2_hasDrum.cls yX2_hasDrum yX2_hasDrum ∈ lw_tbl := lw_of (i := 490) (by decide +kernel)
def mX2_hasSample : MD := (yX2_hasSample, cX2_hasSample, 2, (some FieldType.boolean), { frames := 1, cells := 0, slots := 0, locals := 64 }, [])
theorem oX2_hasSample : fOK mX2_hasSample 1 := ⟨rfl, lw_of (i := 771) (by decide +kernel), lw_of (i := 2) (by decide +kernel), by decide +kernel, by decide +kernel⟩
theorem nX2_hasSample : Cond.instanceMethod yX2_hasSample ∈ lw_tbl := lw_of (i := 769) (by decide +kernel)
theorem eX2_hasSample : Cond.selects yX2_hasSample.cls yX2_hasSample yX2_hasSample ∈ lw_tbl := lw_of (i := 770) (by decide +kernel)
def mX2_addDrum : MD := (yX2_addDrum, cX2_addDrum, 3, (some FieldType.int), { frames := 2, cells := 0, slots := 0, locals := 85 }, [])
theorem oX2_addDrum : fOK mX2_addDrum 1 := ⟨rfl, lw_of (i := 703) (by decide +kernel), lw_of (i := 2) (by decide +kernel), by decide +kernel, by decide +kernel⟩
theorem nX2_addDrum : Cond.instanceMethod yX2_addDrum ∈ lw_tbl := lw_of (i := 701) (by decide +kernel)
theorem eX2_addDrum : Cond.selects yX2_addDrum.cls yX2_addDrum yX2_addDrum ∈ lw_tbl := lw_of (i := 702) (by decide +kernel)
def mX2_ageDrums : MD := (yX2_ageDrums, cX2_ageDrums, 4, (some FieldType.int), { frames := 1, cells := 0, slots := 0, locals := 64 }, [])
theorem oX2_ageDrums : fOK mX2_ageDrums 1 := ⟨rfl, lw_of (i := 718) (by decide +kernel), lw_of (i := 2) (by decide +kernel), by decide +kernel, by decide +kernel⟩
theorem nX2_ageDrums : Cond.instanceMethod yX2_ageDrums ∈ lw_tbl := lw_of (i := 716) (by decide +kernel)
theorem eX2_ageDrums : Cond.selects yX2_ageDrums.cls yX2_ageDrums yX2_ageDrums ∈ lw_tbl := lw_of (i := 717) (by decide +kernel)
def mX2_whyNotTaken : MD := (yX2_whyNotTaken, cX2_whyNotTaken, 2, (some FieldType.int), { frames := 2, cells := 0, slots := 0, locals := 85 }, [])
theorem oX2_whyNotTaken : fOK mX2_whyNotTaken 1 := ⟨rfl, lw_of (i := 731) (by decide +kernel), lw_of (i := 2) (by decide +kernel), by decide +kernel, by decide +kernel⟩
theorem nX2_whyNotTaken : Cond.instanceMethod yX2_whyNotTaken ∈ lw_tbl := lw_of (i := 729) (by decide +kernel)
theorem eX2_whyNotTaken : Cond.selects yX2_whyNotTaken.cls yX2_whyNotTaken yX2_whyNotTaken ∈ lw_tbl := lw_of (i := 730) (by decide +kernel)
def mX2_take : MD := (yX2_take, cX2_take, 3, (some FieldType.int), { frames := 4, cells := 0, slots := 0, locals := 127 }, [])
theorem oX2_take : fOK mX2_take 1 := ⟨rfl, lw_of (i := 736) (by decide +kernel), lw_of (i := 2) (by decide +kernel), by decide +kernel, by decide +kernel⟩
theorem nX2_take : Cond.instanceMethod yX2_take ∈ lw_tbl := lw_of (i := 734) (by decide +kernel)
theorem eX2_take : Cond.selects yX2_take.cls yX2_take yX2_take ∈ lw_tbl := lw_of (i := 735) (by decide +kernel)
def mX2_throwAway : MD := (yX2_throwAway, cX2_throwAway, 4, (some FieldType.int), { frames := 1, cells := 0, slots := 0, locals := 64 }, [])
theorem oX2_throwAway : fOK mX2_throwAway 1 := ⟨rfl, lw_of (i := 756) (by decide +kernel), lw_of (i := 2) (by decide +kernel), by decide +kernel, by decide +kernel⟩
theorem nX2_throwAway : Cond.instanceMethod yX2_throwAway ∈ lw_tbl := lw_of (i := 754) (by decide +kernel)
theorem eX2_throwAway : Cond.selects yX2_throwAway.cls yX2_throwAway yX2_throwAway ∈ lw_tbl := lw_of (i := 755) (by decide +kernel)
def mX2_samplesIn : MD := (yX2_samplesIn, cX2_samplesIn, 4, (some FieldType.int), { frames := 1, cells := 0, slots := 0, locals := 64 }, [])
theorem oX2_samplesIn : fOK mX2_samplesIn 1 := ⟨rfl, lw_of (i := 548) (by decide +kernel), lw_of (i := 2) (by decide +kernel), by decide +kernel, by decide +kernel⟩
theorem nX2_samplesIn : Cond.instanceMethod yX2_samplesIn ∈ lw_tbl := lw_of (i := 546) (by decide +kernel)
theorem eX2_samplesIn : Cond.selects yX2_samplesIn.cls yX2_samplesIn yX2_samplesIn ∈ lw_tbl := lw_of (i := 547) (by decide +kernel)
def mX2_hasRoomFor : MD := (yX2_hasRoomFor, cX2_hasRoomFor, 3, (some FieldType.boolean), { frames := 2, cells := 0, slots := 0, locals := 87 }, [])
theorem oX2_hasRoomFor : fOK mX2_hasRoomFor 2 := ⟨rfl, lw_of (i := 544) (by decide +kernel), lw_of (i := 2) (by decide +kernel), by decide +kernel, by decide +kernel⟩
theorem nX2_hasRoomFor : Cond.instanceMethod yX2_hasRoomFor ∈ lw_tbl := lw_of (i := 542) (by decide +kernel)
theorem eX2_hasRoomFor : Cond.selects yX2_hasRoomFor.cls yX2_hasRoomFor yX2_hasRoomFor ∈ lw_tbl := lw_of (i := 543) (by decide +kernel)
def mX2_whyNotLaid : MD := (yX2_whyNotLaid, cX2_whyNotLaid, 3, (some FieldType.int), { frames := 3, cells := 0, slots := 0, locals := 109 }, [])
theorem oX2_whyNotLaid : fOK mX2_whyNotLaid 2 := ⟨rfl, lw_of (i := 767) (by decide +kernel), lw_of (i := 2) (by decide +kernel), by decide +kernel, by decide +kernel⟩
theorem nX2_whyNotLaid : Cond.instanceMethod yX2_whyNotLaid ∈ lw_tbl := lw_of (i := 765) (by decide +kernel)
theorem eX2_whyNotLaid : Cond.selects yX2_whyNotLaid.cls yX2_whyNotLaid yX2_whyNotLaid ∈ lw_tbl := lw_of (i := 766) (by decide +kernel)
def mX2_lay : MD := (yX2_lay, cX2_lay, 4, (some FieldType.int), { frames := 1, cells := 0, slots := 0, locals := 64 }, [])
theorem oX2_lay : fOK mX2_lay 2 := ⟨rfl, lw_of (i := 775) (by decide +kernel), lw_of (i := 2) (by decide +kernel), by decide +kernel, by decide +kernel⟩
theorem nX2_lay : Cond.instanceMethod yX2_lay ∈ lw_tbl := lw_of (i := 773) (by decide +kernel)
theorem eX2_lay : Cond.selects yX2_lay.cls yX2_lay yX2_lay ∈ lw_tbl := lw_of (i := 774) (by decide +kernel)
def mX2_degreeAround : MD := (yX2_degreeAround, cX2_degreeAround, 2, (some FieldType.int), { frames := 1, cells := 0, slots := 0, locals := 64 }, [])
theorem oX2_degreeAround : fOK mX2_degreeAround 1 := ⟨rfl, lw_of (i := 530) (by decide +kernel), lw_of (i := 2) (by decide +kernel), by decide +kernel, by decide +kernel⟩
theorem nX2_degreeAround : Cond.instanceMethod yX2_degreeAround ∈ lw_tbl := lw_of (i := 528) (by decide +kernel)
theorem eX2_degreeAround : Cond.selects yX2_degreeAround.cls yX2_degreeAround yX2_degreeAround ∈ lw_tbl := lw_of (i := 529) (by decide +kernel)
def mX2_passMinutes : MD := (yX2_passMinutes, cX2_passMinutes, 5, (none : Option FieldType), { frames := 3, cells := 0, slots := 0, locals := 108 }, [])
theorem oX2_passMinutes : fOK mX2_passMinutes 1 := ⟨rfl, lw_of (i := 793) (by decide +kernel), lw_of (i := 2) (by decide +kernel), by decide +kernel, by decide +kernel⟩
theorem nX2_passMinutes : Cond.instanceMethod yX2_passMinutes ∈ lw_tbl := lw_of (i := 791) (by decide +kernel)
theorem eX2_passMinutes : Cond.selects yX2_passMinutes.cls yX2_passMinutes yX2_passMinutes ∈ lw_tbl := lw_of (i := 792) (by decide +kernel)
def mX2_samplesAsTheirBath : MD := (yX2_samplesAsTheirBath, cX2_samplesAsTheirBath, 4, (some FieldType.int), { frames := 2, cells := 0, slots := 0, locals := 85 }, [])
theorem oX2_samplesAsTheirBath : fOK mX2_samplesAsTheirBath 0 := ⟨rfl, lw_of (i := 797) (by decide +kernel), lw_of (i := 2) (by decide +kernel), by decide +kernel, by decide +kernel⟩
theorem nX2_samplesAsTheirBath : Cond.instanceMethod yX2_samplesAsTheirBath ∈ lw_tbl := lw_of (i := 795) (by decide +kernel)
theorem eX2_samplesAsTheirBath : Cond.selects yX2_samplesAsTheirBath.cls yX2_samplesAsTheirBath yX2_samplesAsTheirBath ∈ lw_tbl := lw_of (i := 796) (by decide +kernel)
def mX2_depth : MD := (yX2_depth, cX2_depth, 5, (some FieldType.int), { frames := 4, cells := 0, slots := 0, locals := 133 }, [])
theorem oX2_depth : fOK mX2_depth 4 := ⟨rfl, lw_of (i := 812) (by decide +kernel), lw_of (i := 2) (by decide +kernel), by decide +kernel, by decide +kernel⟩
theorem nX2_depth : Cond.instanceMethod yX2_depth ∈ lw_tbl := lw_of (i := 810) (by decide +kernel)
theorem eX2_depth : Cond.selects yX2_depth.cls yX2_depth yX2_depth ∈ lw_tbl := lw_of (i := 811) (by decide +kernel)
def mX2_whyNotSunk : MD := (yX2_whyNotSunk, cX2_whyNotSunk, 4, (some FieldType.int), { frames := 2, cells := 0, slots := 0, locals := 85 }, [])
theorem oX2_whyNotSunk : fOK mX2_whyNotSunk 2 := ⟨rfl, lw_of (i := 552) (by decide +kernel), lw_of (i := 2) (by decide +kernel), by decide +kernel, by decide +kernel⟩
theorem nX2_whyNotSunk : Cond.instanceMethod yX2_whyNotSunk ∈ lw_tbl := lw_of (i := 550) (by decide +kernel)
theorem eX2_whyNotSunk : Cond.selects yX2_whyNotSunk.cls yX2_whyNotSunk yX2_whyNotSunk ∈ lw_tbl := lw_of (i := 551) (by decide +kernel)
def mX2_read : MD := (yX2_read, cX2_read, 6, (some FieldType.int), { frames := 5, cells := 0, slots := 0, locals := 157 }, [])
theorem oX2_read : fOK mX2_read 4 := ⟨rfl, lw_of (i := 808) (by decide +kernel), lw_of (i := 2) (by decide +kernel), by decide +kernel, by decide +kernel⟩
theorem nX2_read : Cond.instanceMethod yX2_read ∈ lw_tbl := lw_of (i := 806) (by decide +kernel)
theorem eX2_read : Cond.selects yX2_read.cls yX2_read yX2_read ∈ lw_tbl := lw_of (i := 807) (by decide +kernel)
def mX2_whyNotSoftened : MD := (yX2_whyNotSoftened, cX2_whyNotSoftened, 2, (some FieldType.int), { frames := 2, cells := 0, slots := 0, locals := 85 }, [])
theorem oX2_whyNotSoftened : fOK mX2_whyNotSoftened 1 := ⟨rfl, lw_of (i := 848) (by decide +kernel), lw_of (i := 2) (by decide +kernel), by decide +kernel, by decide +kernel⟩
theorem nX2_whyNotSoftened : Cond.instanceMethod yX2_whyNotSoftened ∈ lw_tbl := lw_of (i := 846) (by decide +kernel)
theorem eX2_whyNotSoftened : Cond.selects yX2_whyNotSoftened.cls yX2_whyNotSoftened yX2_whyNotSoftened ∈ lw_tbl := lw_of (i := 847) (by decide +kernel)
def mX2_minutesIn : MD := (yX2_minutesIn, cX2_minutesIn, 6, (some FieldType.int), { frames := 3, cells := 0, slots := 0, locals := 108 }, [])
theorem oX2_minutesIn : fOK mX2_minutesIn 2 := ⟨rfl, lw_of (i := 526) (by decide +kernel), lw_of (i := 2) (by decide +kernel), by decide +kernel, by decide +kernel⟩
theorem nX2_minutesIn : Cond.instanceMethod yX2_minutesIn ∈ lw_tbl := lw_of (i := 524) (by decide +kernel)
theorem eX2_minutesIn : Cond.selects yX2_minutesIn.cls yX2_minutesIn yX2_minutesIn ∈ lw_tbl := lw_of (i := 525) (by decide +kernel)
def mX2_minutesToReady : MD := (yX2_minutesToReady, cX2_minutesToReady, 3, (some FieldType.int), { frames := 4, cells := 0, slots := 0, locals := 133 }, [])
theorem oX2_minutesToReady : fOK mX2_minutesToReady 1 := ⟨rfl, lw_of (i := 522) (by decide +kernel), lw_of (i := 2) (by decide +kernel), by decide +kernel, by decide +kernel⟩
theorem nX2_minutesToReady : Cond.instanceMethod yX2_minutesToReady ∈ lw_tbl := lw_of (i := 520) (by decide +kernel)
theorem eX2_minutesToReady : Cond.selects yX2_minutesToReady.cls yX2_minutesToReady yX2_minutesToReady ∈ lw_tbl := lw_of (i := 521) (by decide +kernel)
def mX2_quickestBath : MD := (yX2_quickestBath, cX2_quickestBath, 6, (some FieldType.int), { frames := 4, cells := 0, slots := 0, locals := 133 }, [])
theorem oX2_quickestBath : fOK mX2_quickestBath 1 := ⟨rfl, lw_of (i := 540) (by decide +kernel), lw_of (i := 2) (by decide +kernel), by decide +kernel, by decide +kernel⟩
theorem nX2_quickestBath : Cond.instanceMethod yX2_quickestBath ∈ lw_tbl := lw_of (i := 538) (by decide +kernel)
theorem eX2_quickestBath : Cond.selects yX2_quickestBath.cls yX2_quickestBath yX2_quickestBath ∈ lw_tbl := lw_of (i := 539) (by decide +kernel)
def mX2_greatestDifferenceIn : MD := (yX2_greatestDifferenceIn, cX2_greatestDifferenceIn, 4, (some FieldType.int), { frames := 2, cells := 0, slots := 0, locals := 85 }, [])
theorem oX2_greatestDifferenceIn : fOK mX2_greatestDifferenceIn 1 := ⟨rfl, lw_of (i := 568) (by decide +kernel), lw_of (i := 2) (by decide +kernel), by decide +kernel, by decide +kernel⟩
theorem nX2_greatestDifferenceIn : Cond.instanceMethod yX2_greatestDifferenceIn ∈ lw_tbl := lw_of (i := 566) (by decide +kernel)
theorem eX2_greatestDifferenceIn : Cond.selects yX2_greatestDifferenceIn.cls yX2_greatestDifferenceIn yX2_greatestDifferenceIn ∈ lw_tbl := lw_of (i := 567) (by decide +kernel)
def mX2_bathNumber : MD := (yX2_bathNumber, cX2_bathNumber, 3, (some FieldType.int), { frames := 3, cells := 0, slots := 0, locals := 108 }, [])
theorem oX2_bathNumber : fOK mX2_bathNumber 2 := ⟨rfl, lw_of (i := 564) (by decide +kernel), lw_of (i := 2) (by decide +kernel), by decide +kernel, by decide +kernel⟩
theorem nX2_bathNumber : Cond.instanceMethod yX2_bathNumber ∈ lw_tbl := lw_of (i := 562) (by decide +kernel)
theorem eX2_bathNumber : Cond.selects yX2_bathNumber.cls yX2_bathNumber yX2_bathNumber ∈ lw_tbl := lw_of (i := 563) (by decide +kernel)
def mX2_samplesWithPenetration : MD := (yX2_samplesWithPenetration, cX2_samplesWithPenetration, 3, (some FieldType.int), { frames := 2, cells := 0, slots := 0, locals := 89 }, [])
theorem oX2_samplesWithPenetration : fOK mX2_samplesWithPenetration 0 := ⟨rfl, lw_of (i := 402) (by decide +kernel), lw_of (i := 2) (by decide +kernel), by decide +kernel, by decide +kernel⟩
theorem nX2_samplesWithPenetration : Cond.instanceMethod yX2_samplesWithPenetration ∈ lw_tbl := lw_of (i := 400) (by decide +kernel)
theorem eX2_samplesWithPenetration : Cond.selects yX2_samplesWithPenetration.cls yX2_samplesWithPenetration yX2_samplesWithPenetration ∈ lw_tbl := lw_of (i := 401) (by decide +kernel)
def mX2_readingsSoFar : MD := (yX2_readingsSoFar, cX2_readingsSoFar, 3, (some FieldType.int), { frames := 1, cells := 0, slots := 0, locals := 64 }, [])
theorem oX2_readingsSoFar : fOK mX2_readingsSoFar 0 := ⟨rfl, lw_of (i := 425) (by decide +kernel), lw_of (i := 2) (by decide +kernel), by decide +kernel, by decide +kernel⟩
theorem nX2_readingsSoFar : Cond.instanceMethod yX2_readingsSoFar ∈ lw_tbl := lw_of (i := 423) (by decide +kernel)
theorem eX2_readingsSoFar : Cond.selects yX2_readingsSoFar.cls yX2_readingsSoFar yX2_readingsSoFar ∈ lw_tbl := lw_of (i := 424) (by decide +kernel)
def mX2_bentNeedles : MD := (yX2_bentNeedles, cX2_bentNeedles, 3, (some FieldType.int), { frames := 1, cells := 0, slots := 0, locals := 64 }, [])
theorem oX2_bentNeedles : fOK mX2_bentNeedles 0 := ⟨rfl, lw_of (i := 429) (by decide +kernel), lw_of (i := 2) (by decide +kernel), by decide +kernel, by decide +kernel⟩
theorem nX2_bentNeedles : Cond.instanceMethod yX2_bentNeedles ∈ lw_tbl := lw_of (i := 427) (by decide +kernel)
theorem eX2_bentNeedles : Cond.selects yX2_bentNeedles.cls yX2_bentNeedles yX2_bentNeedles ∈ lw_tbl := lw_of (i := 428) (by decide +kernel)
def mX2_soldDrums : MD := (yX2_soldDrums, cX2_soldDrums, 3, (some FieldType.int), { frames := 1, cells := 0, slots := 0, locals := 64 }, [])
theorem oX2_soldDrums : fOK mX2_soldDrums 0 := ⟨rfl, lw_of (i := 433) (by decide +kernel), lw_of (i := 2) (by decide +kernel), by decide +kernel, by decide +kernel⟩
theorem nX2_soldDrums : Cond.instanceMethod yX2_soldDrums ∈ lw_tbl := lw_of (i := 431) (by decide +kernel)
theorem eX2_soldDrums : Cond.selects yX2_soldDrums.cls yX2_soldDrums yX2_soldDrums ∈ lw_tbl := lw_of (i := 432) (by decide +kernel)
def mX2_total : MD := (yX2_total, cX2_total, 2, (some FieldType.int), { frames := 3, cells := 0, slots := 0, locals := 111 }, [])
theorem oX2_total : fOK mX2_total 1 := ⟨rfl, lw_of (i := 421) (by decide +kernel), lw_of (i := 2) (by decide +kernel), by decide +kernel, by decide +kernel⟩
theorem nX2_total : Cond.instanceMethod yX2_total ∈ lw_tbl := lw_of (i := 419) (by decide +kernel)
theorem eX2_total : Cond.selects yX2_total.cls yX2_total yX2_total ∈ lw_tbl := lw_of (i := 420) (by decide +kernel)
def mX3_init : MD := (yX3_init, cX3_init, 1, (none : Option FieldType), { frames := 1, cells := 0, slots := 0, locals := 64 }, [])
theorem oX3_init : fOK mX3_init 0 := ⟨rfl, lw_of (i := 113) (by decide +kernel), lw_of (i := 5) (by decide +kernel), by decide +kernel, by decide +kernel⟩
theorem nX3_init : Cond.instanceMethod yX3_init ∈ lw_tbl := lw_of (i := 112) (by decide +kernel)
def mX3_copyFrom : MD := (yX3_copyFrom, cX3_copyFrom, 2, (none : Option FieldType), { frames := 1, cells := 0, slots := 0, locals := 64 }, [])
theorem oX3_copyFrom : fOK mX3_copyFrom 1 := ⟨rfl, lw_of (i := 393) (by decide +kernel), lw_of (i := 5) (by decide +kernel), by decide +kernel, by decide +kernel⟩
theorem nX3_copyFrom : Cond.instanceMethod yX3_copyFrom ∈ lw_tbl := lw_of (i := 391) (by decide +kernel)
theorem eX3_copyFrom : Cond.selects yX3_copyFrom.cls yX3_copyFrom yX3_copyFrom ∈ lw_tbl := lw_of (i := 392) (by decide +kernel)
def mX3_makeNew : MD := (yX3_makeNew, cX3_makeNew, 2, (some FieldType.int), { frames := 1, cells := 0, slots := 0, locals := 64 }, [])
theorem oX3_makeNew : fOK mX3_makeNew 0 := ⟨rfl, lw_of (i := 837) (by decide +kernel), lw_of (i := 5) (by decide +kernel), by decide +kernel, by decide +kernel⟩
theorem nX3_makeNew : Cond.instanceMethod yX3_makeNew ∈ lw_tbl := lw_of (i := 835) (by decide +kernel)
theorem eX3_makeNew : Cond.selects yX3_makeNew.cls yX3_makeNew yX3_makeNew ∈ lw_tbl := lw_of (i := 836) (by decide +kernel)
def mX3_wearBy : MD := (yX3_wearBy, cX3_wearBy, 2, (none : Option FieldType), { frames := 1, cells := 0, slots := 0, locals := 64 }, [])
theorem oX3_wearBy : fOK mX3_wearBy 1 := ⟨rfl, lw_of (i := 825) (by decide +kernel), lw_of (i := 5) (by decide +kernel), by decide +kernel, by decide +kernel⟩
theorem nX3_wearBy : Cond.instanceMethod yX3_wearBy ∈ lw_tbl := lw_of (i := 823) (by decide +kernel)
theorem eX3_wearBy : Cond.selects yX3_wearBy.cls yX3_wearBy yX3_wearBy ∈ lw_tbl := lw_of (i := 824) (by decide +kernel)
def mX3_number : MD := (yX3_number, cX3_number, 2, (some FieldType.int), { frames := 1, cells := 0, slots := 0, locals := 64 }, [])
theorem oX3_number : fOK mX3_number 1 := ⟨rfl, lw_of (i := 560) (by decide +kernel), lw_of (i := 5) (by decide +kernel), by decide +kernel, by decide +kernel⟩
theorem nX3_number : Cond.instanceMethod yX3_number ∈ lw_tbl := lw_of (i := 558) (by decide +kernel)
theorem eX3_number : Cond.selects yX3_number.cls yX3_number yX3_number ∈ lw_tbl := lw_of (i := 559) (by decide +kernel)
def mX4_init : MD := (yX4_init, cX4_init, 1, (none : Option FieldType), { frames := 2, cells := 3, slots := 71, locals := 84 }, [])
theorem oX4_init : fOK mX4_init 0 := ⟨rfl, lw_of (i := 203) (by decide +kernel), lw_of (i := 7) (by decide +kernel), by decide +kernel, by decide +kernel⟩
theorem nX4_init : Cond.instanceMethod yX4_init ∈ lw_tbl := lw_of (i := 202) (by decide +kernel)
def mX4_add : MD := (yX4_add, cX4_add, 2, (some FieldType.int), { frames := 1, cells := 0, slots := 0, locals := 64 }, [])
theorem oX4_add : fOK mX4_add 1 := ⟨rfl, lw_of (i := 882) (by decide +kernel), lw_of (i := 7) (by decide +kernel), by decide +kernel, by decide +kernel⟩
theorem nX4_add : Cond.instanceMethod yX4_add ∈ lw_tbl := lw_of (i := 880) (by decide +kernel)
theorem eX4_add : Cond.selects yX4_add.cls yX4_add yX4_add ∈ lw_tbl := lw_of (i := 881) (by decide +kernel)
def mX4_empty : MD := (yX4_empty, cX4_empty, 2, (some FieldType.int), { frames := 1, cells := 0, slots := 0, locals := 64 }, [])
theorem oX4_empty : fOK mX4_empty 0 := ⟨rfl, lw_of (i := 265) (by decide +kernel), lw_of (i := 7) (by decide +kernel), by decide +kernel, by decide +kernel⟩
theorem nX4_empty : Cond.instanceMethod yX4_empty ∈ lw_tbl := lw_of (i := 263) (by decide +kernel)
theorem eX4_empty : Cond.selects yX4_empty.cls yX4_empty yX4_empty ∈ lw_tbl := lw_of (i := 264) (by decide +kernel)
def mX4_errorPlace : MD := (yX4_errorPlace, cX4_errorPlace, 3, (some FieldType.int), { frames := 4, cells := 0, slots := 0, locals := 133 }, [])
theorem oX4_errorPlace : fOK mX4_errorPlace 0 := ⟨rfl, lw_of (i := 273) (by decide +kernel), lw_of (i := 7) (by decide +kernel), by decide +kernel, by decide +kernel⟩
theorem nX4_errorPlace : Cond.instanceMethod yX4_errorPlace ∈ lw_tbl := lw_of (i := 271) (by decide +kernel)
theorem eX4_errorPlace : Cond.selects yX4_errorPlace.cls yX4_errorPlace yX4_errorPlace ∈ lw_tbl := lw_of (i := 272) (by decide +kernel)
def mX4_isComplete : MD := (yX4_isComplete, cX4_isComplete, 2, (some FieldType.boolean), { frames := 5, cells := 0, slots := 0, locals := 155 }, [])
theorem oX4_isComplete : fOK mX4_isComplete 0 := ⟨rfl, lw_of (i := 893) (by decide +kernel), lw_of (i := 7) (by decide +kernel), by decide +kernel, by decide +kernel⟩
theorem nX4_isComplete : Cond.instanceMethod yX4_isComplete ∈ lw_tbl := lw_of (i := 891) (by decide +kernel)
theorem eX4_isComplete : Cond.selects yX4_isComplete.cls yX4_isComplete yX4_isComplete ∈ lw_tbl := lw_of (i := 892) (by decide +kernel)
def mX4_nextPart : MD := (yX4_nextPart, cX4_nextPart, 2, (some FieldType.boolean), { frames := 4, cells := 0, slots := 0, locals := 133 }, [])
theorem oX4_nextPart : fOK mX4_nextPart 0 := ⟨rfl, lw_of (i := 899) (by decide +kernel), lw_of (i := 7) (by decide +kernel), by decide +kernel, by decide +kernel⟩
theorem nX4_nextPart : Cond.instanceMethod yX4_nextPart ∈ lw_tbl := lw_of (i := 897) (by decide +kernel)
theorem eX4_nextPart : Cond.selects yX4_nextPart.cls yX4_nextPart yX4_nextPart ∈ lw_tbl := lw_of (i := 898) (by decide +kernel)
def mX5_init : MD := (yX5_init, cX5_init, 1, (none : Option FieldType), { frames := 1, cells := 1, slots := 6, locals := 64 }, [])
theorem oX5_init : fOK mX5_init 0 := ⟨rfl, lw_of (i := 209) (by decide +kernel), lw_of (i := 8) (by decide +kernel), by decide +kernel, by decide +kernel⟩
theorem nX5_init : Cond.instanceMethod yX5_init ∈ lw_tbl := lw_of (i := 208) (by decide +kernel)
def mX5_clear : MD := (yX5_clear, cX5_clear, 2, (none : Option FieldType), { frames := 1, cells := 0, slots := 0, locals := 64 }, [])
theorem oX5_clear : fOK mX5_clear 0 := ⟨rfl, lw_of (i := 277) (by decide +kernel), lw_of (i := 8) (by decide +kernel), by decide +kernel, by decide +kernel⟩
theorem nX5_clear : Cond.instanceMethod yX5_clear ∈ lw_tbl := lw_of (i := 275) (by decide +kernel)
theorem eX5_clear : Cond.selects yX5_clear.cls yX5_clear yX5_clear ∈ lw_tbl := lw_of (i := 276) (by decide +kernel)
def mX5_accept : MD := (yX5_accept, cX5_accept, 2, (some FieldType.boolean), { frames := 3, cells := 0, slots := 0, locals := 112 }, [])
theorem oX5_accept : fOK mX5_accept 1 := ⟨rfl, lw_of (i := 351) (by decide +kernel), lw_of (i := 8) (by decide +kernel), by decide +kernel, by decide +kernel⟩
theorem nX5_accept : Cond.instanceMethod yX5_accept ∈ lw_tbl := lw_of (i := 349) (by decide +kernel)
theorem eX5_accept : Cond.selects yX5_accept.cls yX5_accept yX5_accept ∈ lw_tbl := lw_of (i := 350) (by decide +kernel)
def mX5_isComplete : MD := (yX5_isComplete, cX5_isComplete, 1, (some FieldType.boolean), { frames := 3, cells := 0, slots := 0, locals := 106 }, [])
theorem oX5_isComplete : fOK mX5_isComplete 0 := ⟨rfl, lw_of (i := 281) (by decide +kernel), lw_of (i := 8) (by decide +kernel), by decide +kernel, by decide +kernel⟩
theorem nX5_isComplete : Cond.instanceMethod yX5_isComplete ∈ lw_tbl := lw_of (i := 279) (by decide +kernel)
theorem eX5_isComplete : Cond.selects yX5_isComplete.cls yX5_isComplete yX5_isComplete ∈ lw_tbl := lw_of (i := 280) (by decide +kernel)
def mX5_slotsBehind : MD := (yX5_slotsBehind, cX5_slotsBehind, 1, (some (FieldType.object "java/lang/String")), { frames := 1, cells := 0, slots := 0, locals := 64 }, [])
theorem oX5_slotsBehind : fOK mX5_slotsBehind 1 := ⟨rfl, lw_of (i := 354) (by decide +kernel), lw_of (i := 8) (by decide +kernel), by decide +kernel, by decide +kernel⟩
theorem sX5_slotsBehind : Cond.static yX5_slotsBehind ∈ lw_tbl := lw_of (i := 353) (by decide +kernel)
def mX5_slotKind : MD := (yX5_slotKind, cX5_slotKind, 1, (some FieldType.int), { frames := 1, cells := 0, slots := 0, locals := 64 }, [])
theorem oX5_slotKind : fOK mX5_slotKind 0 := ⟨rfl, lw_of (i := 303) (by decide +kernel), lw_of (i := 8) (by decide +kernel), by decide +kernel, by decide +kernel⟩
theorem nX5_slotKind : Cond.instanceMethod yX5_slotKind ∈ lw_tbl := lw_of (i := 302) (by decide +kernel)
theorem eX5_slotKind : Cond.selects yX5_slotKind.cls yX5_slotKind yX5_slotKind ∈ lw_tbl := List.mem_append_left _ (by decide +kernel)
def mX5_fillSlot : MD := (yX5_fillSlot, cX5_fillSlot, 4, (some FieldType.boolean), { frames := 2, cells := 0, slots := 0, locals := 89 }, [])
theorem oX5_fillSlot : fOK mX5_fillSlot 1 := ⟨rfl, lw_of (i := 363) (by decide +kernel), lw_of (i := 8) (by decide +kernel), by decide +kernel, by decide +kernel⟩
theorem nX5_fillSlot : Cond.instanceMethod yX5_fillSlot ∈ lw_tbl := lw_of (i := 362) (by decide +kernel)
theorem eX5_fillSlot : Cond.selects yX5_fillSlot.cls yX5_fillSlot yX5_fillSlot ∈ lw_tbl := List.mem_append_left _ (by decide +kernel)
def mX5_fillWithSign : MD := (yX5_fillWithSign, cX5_fillWithSign, 3, (some FieldType.boolean), { frames := 1, cells := 0, slots := 0, locals := 64 }, [])
theorem oX5_fillWithSign : fOK mX5_fillWithSign 2 := ⟨rfl, lw_of (i := 367) (by decide +kernel), lw_of (i := 8) (by decide +kernel), by decide +kernel, by decide +kernel⟩
theorem nX5_fillWithSign : Cond.instanceMethod yX5_fillWithSign ∈ lw_tbl := lw_of (i := 366) (by decide +kernel)
theorem eX5_fillWithSign : Cond.selects yX5_fillWithSign.cls yX5_fillWithSign yX5_fillWithSign ∈ lw_tbl := List.mem_append_left _ (by decide +kernel)
def mX5_isSlotFull : MD := (yX5_isSlotFull, cX5_isSlotFull, 3, (some FieldType.boolean), { frames := 2, cells := 0, slots := 0, locals := 84 }, [])
theorem oX5_isSlotFull : fOK mX5_isSlotFull 0 := ⟨rfl, lw_of (i := 299) (by decide +kernel), lw_of (i := 8) (by decide +kernel), by decide +kernel, by decide +kernel⟩
theorem nX5_isSlotFull : Cond.instanceMethod yX5_isSlotFull ∈ lw_tbl := lw_of (i := 298) (by decide +kernel)
theorem eX5_isSlotFull : Cond.selects yX5_isSlotFull.cls yX5_isSlotFull yX5_isSlotFull ∈ lw_tbl := List.mem_append_left _ (by decide +kernel)
def mX5_canBecome : MD := (yX5_canBecome, cX5_canBecome, 6, (some FieldType.boolean), { frames := 1, cells := 0, slots := 0, locals := 64 }, [])
theorem oX5_canBecome : fOK mX5_canBecome 3 := ⟨rfl, lw_of (i := 370) (by decide +kernel), lw_of (i := 8) (by decide +kernel), by decide +kernel, by decide +kernel⟩
theorem sX5_canBecome : Cond.static yX5_canBecome ∈ lw_tbl := lw_of (i := 369) (by decide +kernel)
def mX5_least : MD := (yX5_least, cX5_least, 1, (some FieldType.int), { frames := 1, cells := 0, slots := 0, locals := 64 }, [])
theorem oX5_least : fOK mX5_least 1 := ⟨rfl, lw_of (i := 344) (by decide +kernel), lw_of (i := 8) (by decide +kernel), by decide +kernel, by decide +kernel⟩
theorem sX5_least : Cond.static yX5_least ∈ lw_tbl := lw_of (i := 343) (by decide +kernel)
def mX5_most : MD := (yX5_most, cX5_most, 1, (some FieldType.int), { frames := 1, cells := 0, slots := 0, locals := 64 }, [])
theorem oX5_most : fOK mX5_most 1 := ⟨rfl, lw_of (i := 347) (by decide +kernel), lw_of (i := 8) (by decide +kernel), by decide +kernel, by decide +kernel⟩
theorem sX5_most : Cond.static yX5_most ∈ lw_tbl := lw_of (i := 346) (by decide +kernel)
def mX6_init : MD := (yX6_init, cX6_init, 1, (none : Option FieldType), { frames := 1, cells := 1, slots := 36, locals := 64 }, [])
theorem oX6_init : fOK mX6_init 0 := ⟨rfl, lw_of (i := 79) (by decide +kernel), lw_of (i := 4) (by decide +kernel), by decide +kernel, by decide +kernel⟩
theorem nX6_init : Cond.instanceMethod yX6_init ∈ lw_tbl := lw_of (i := 78) (by decide +kernel)
def mX6_begin : MD := (yX6_begin, cX6_begin, 3, (none : Option FieldType), { frames := 1, cells := 0, slots := 0, locals := 64 }, [])
theorem oX6_begin : fOK mX6_begin 2 := ⟨rfl, lw_of (i := 741) (by decide +kernel), lw_of (i := 4) (by decide +kernel), by decide +kernel, by decide +kernel⟩
theorem nX6_begin : Cond.instanceMethod yX6_begin ∈ lw_tbl := lw_of (i := 739) (by decide +kernel)
theorem eX6_begin : Cond.selects yX6_begin.cls yX6_begin yX6_begin ∈ lw_tbl := lw_of (i := 740) (by decide +kernel)
def mX6_copyFrom : MD := (yX6_copyFrom, cX6_copyFrom, 2, (none : Option FieldType), { frames := 1, cells := 0, slots := 0, locals := 64 }, [])
theorem oX6_copyFrom : fOK mX6_copyFrom 1 := ⟨rfl, lw_of (i := 386) (by decide +kernel), lw_of (i := 4) (by decide +kernel), by decide +kernel, by decide +kernel⟩
theorem nX6_copyFrom : Cond.instanceMethod yX6_copyFrom ∈ lw_tbl := lw_of (i := 384) (by decide +kernel)
theorem eX6_copyFrom : Cond.selects yX6_copyFrom.cls yX6_copyFrom yX6_copyFrom ∈ lw_tbl := lw_of (i := 385) (by decide +kernel)
def mX6_mark : MD := (yX6_mark, cX6_mark, 3, (some FieldType.int), { frames := 1, cells := 0, slots := 0, locals := 64 }, [])
theorem oX6_mark : fOK mX6_mark 2 := ⟨rfl, lw_of (i := 467) (by decide +kernel), lw_of (i := 4) (by decide +kernel), by decide +kernel, by decide +kernel⟩
theorem nX6_mark : Cond.instanceMethod yX6_mark ∈ lw_tbl := lw_of (i := 465) (by decide +kernel)
theorem eX6_mark : Cond.selects yX6_mark.cls yX6_mark yX6_mark ∈ lw_tbl := lw_of (i := 466) (by decide +kernel)
def mX6_write : MD := (yX6_write, cX6_write, 6, (none : Option FieldType), { frames := 1, cells := 0, slots := 0, locals := 64 }, [])
theorem oX6_write : fOK mX6_write 4 := ⟨rfl, lw_of (i := 821) (by decide +kernel), lw_of (i := 4) (by decide +kernel), by decide +kernel, by decide +kernel⟩
theorem nX6_write : Cond.instanceMethod yX6_write ∈ lw_tbl := lw_of (i := 819) (by decide +kernel)
theorem eX6_write : Cond.selects yX6_write.cls yX6_write yX6_write ∈ lw_tbl := lw_of (i := 820) (by decide +kernel)
def mX6_depthUnder : MD := (yX6_depthUnder, cX6_depthUnder, 7, (some FieldType.int), { frames := 3, cells := 0, slots := 0, locals := 107 }, [])
theorem oX6_depthUnder : fOK mX6_depthUnder 3 := ⟨rfl, lw_of (i := 816) (by decide +kernel), lw_of (i := 4) (by decide +kernel), by decide +kernel, by decide +kernel⟩
theorem nX6_depthUnder : Cond.instanceMethod yX6_depthUnder ∈ lw_tbl := lw_of (i := 814) (by decide +kernel)
theorem eX6_depthUnder : Cond.selects yX6_depthUnder.cls yX6_depthUnder yX6_depthUnder ∈ lw_tbl := lw_of (i := 815) (by decide +kernel)
def mX6_whyNoPenetration : MD := (yX6_whyNoPenetration, cX6_whyNoPenetration, 6, (some FieldType.int), { frames := 1, cells := 0, slots := 0, locals := 64 }, [])
theorem oX6_whyNoPenetration : fOK mX6_whyNoPenetration 1 := ⟨rfl, lw_of (i := 406) (by decide +kernel), lw_of (i := 4) (by decide +kernel), by decide +kernel, by decide +kernel⟩
theorem nX6_whyNoPenetration : Cond.instanceMethod yX6_whyNoPenetration ∈ lw_tbl := lw_of (i := 404) (by decide +kernel)
theorem eX6_whyNoPenetration : Cond.selects yX6_whyNoPenetration.cls yX6_whyNoPenetration yX6_whyNoPenetration ∈ lw_tbl := lw_of (i := 405) (by decide +kernel)
def mX6_penetration : MD := (yX6_penetration, cX6_penetration, 4, (some FieldType.int), { frames := 2, cells := 0, slots := 0, locals := 89 }, [])
theorem oX6_penetration : fOK mX6_penetration 1 := ⟨rfl, lw_of (i := 462) (by decide +kernel), lw_of (i := 4) (by decide +kernel), by decide +kernel, by decide +kernel⟩
theorem nX6_penetration : Cond.instanceMethod yX6_penetration ∈ lw_tbl := lw_of (i := 460) (by decide +kernel)
theorem eX6_penetration : Cond.selects yX6_penetration.cls yX6_penetration yX6_penetration ∈ lw_tbl := lw_of (i := 461) (by decide +kernel)
def mX6_latestNeedles : MD := (yX6_latestNeedles, cX6_latestNeedles, 3, (some FieldType.int), { frames := 2, cells := 0, slots := 0, locals := 86 }, [])
theorem oX6_latestNeedles : fOK mX6_latestNeedles 0 := ⟨rfl, lw_of (i := 501) (by decide +kernel), lw_of (i := 4) (by decide +kernel), by decide +kernel, by decide +kernel⟩
theorem nX6_latestNeedles : Cond.instanceMethod yX6_latestNeedles ∈ lw_tbl := lw_of (i := 499) (by decide +kernel)
theorem eX6_latestNeedles : Cond.selects yX6_latestNeedles.cls yX6_latestNeedles yX6_latestNeedles ∈ lw_tbl := lw_of (i := 500) (by decide +kernel)
def mX6_soften : MD := (yX6_soften, cX6_soften, 1, (some FieldType.int), { frames := 1, cells := 0, slots := 0, locals := 64 }, [])
theorem oX6_soften : fOK mX6_soften 0 := ⟨rfl, lw_of (i := 852) (by decide +kernel), lw_of (i := 4) (by decide +kernel), by decide +kernel, by decide +kernel⟩
theorem nX6_soften : Cond.instanceMethod yX6_soften ∈ lw_tbl := lw_of (i := 850) (by decide +kernel)
theorem eX6_soften : Cond.selects yX6_soften.cls yX6_soften yX6_soften ∈ lw_tbl := lw_of (i := 851) (by decide +kernel)
def mX6_number : MD := (yX6_number, cX6_number, 3, (some FieldType.int), { frames := 3, cells := 0, slots := 0, locals := 112 }, [])
theorem oX6_number : fOK mX6_number 2 := ⟨rfl, lw_of (i := 515) (by decide +kernel), lw_of (i := 4) (by decide +kernel), by decide +kernel, by decide +kernel⟩
theorem nX6_number : Cond.instanceMethod yX6_number ∈ lw_tbl := lw_of (i := 513) (by decide +kernel)
theorem eX6_number : Cond.selects yX6_number.cls yX6_number yX6_number ∈ lw_tbl := lw_of (i := 514) (by decide +kernel)
def mX7_samplesOf : MD := (yX7_samplesOf, cX7_samplesOf, 4, (some FieldType.int), { frames := 1, cells := 0, slots := 0, locals := 64 }, [])
theorem oX7_samplesOf : fOK mX7_samplesOf 2 := ⟨rfl, lw_of (i := 455) (by decide +kernel), lw_of (i := 18) (by decide +kernel), by decide +kernel, by decide +kernel⟩
theorem sX7_samplesOf : Cond.static yX7_samplesOf ∈ lw_tbl := lw_of (i := 454) (by decide +kernel)
def mX7_meanPenetration : MD := (yX7_meanPenetration, cX7_meanPenetration, 7, (some FieldType.int), { frames := 3, cells := 0, slots := 0, locals := 112 }, [])
theorem oX7_meanPenetration : fOK mX7_meanPenetration 2 := ⟨rfl, lw_of (i := 458) (by decide +kernel), lw_of (i := 18) (by decide +kernel), by decide +kernel, by decide +kernel⟩
theorem sX7_meanPenetration : Cond.static yX7_meanPenetration ∈ lw_tbl := lw_of (i := 457) (by decide +kernel)
def mX7_meanSoftening : MD := (yX7_meanSoftening, cX7_meanSoftening, 6, (some FieldType.int), { frames := 3, cells := 0, slots := 0, locals := 107 }, [])
theorem oX7_meanSoftening : fOK mX7_meanSoftening 2 := ⟨rfl, lw_of (i := 472) (by decide +kernel), lw_of (i := 18) (by decide +kernel), by decide +kernel, by decide +kernel⟩
theorem sX7_meanSoftening : Cond.static yX7_meanSoftening ∈ lw_tbl := lw_of (i := 471) (by decide +kernel)
def mX7_meanByReadings : MD := (yX7_meanByReadings, cX7_meanByReadings, 8, (some FieldType.int), { frames := 3, cells := 0, slots := 0, locals := 107 }, [])
theorem oX7_meanByReadings : fOK mX7_meanByReadings 2 := ⟨rfl, lw_of (i := 482) (by decide +kernel), lw_of (i := 18) (by decide +kernel), by decide +kernel, by decide +kernel⟩
theorem sX7_meanByReadings : Cond.static yX7_meanByReadings ∈ lw_tbl := lw_of (i := 481) (by decide +kernel)
def mX7_index : MD := (yX7_index, cX7_index, 3, (some FieldType.int), { frames := 2, cells := 0, slots := 0, locals := 86 }, [])
theorem oX7_index : fOK mX7_index 3 := ⟨rfl, lw_of (i := 478) (by decide +kernel), lw_of (i := 18) (by decide +kernel), by decide +kernel, by decide +kernel⟩
theorem sX7_index : Cond.static yX7_index ∈ lw_tbl := lw_of (i := 477) (by decide +kernel)
def mX7_shownIndex : MD := (yX7_shownIndex, cX7_shownIndex, 4, (some FieldType.int), { frames := 4, cells := 0, slots := 0, locals := 132 }, [])
theorem oX7_shownIndex : fOK mX7_shownIndex 3 := ⟨rfl, lw_of (i := 475) (by decide +kernel), lw_of (i := 18) (by decide +kernel), by decide +kernel, by decide +kernel⟩
theorem sX7_shownIndex : Cond.static yX7_shownIndex ∈ lw_tbl := lw_of (i := 474) (by decide +kernel)
def mX7_samplesWithPenetration : MD := (yX7_samplesWithPenetration, cX7_samplesWithPenetration, 5, (some FieldType.int), { frames := 2, cells := 0, slots := 0, locals := 89 }, [])
theorem oX7_samplesWithPenetration : fOK mX7_samplesWithPenetration 2 := ⟨rfl, lw_of (i := 494) (by decide +kernel), lw_of (i := 18) (by decide +kernel), by decide +kernel, by decide +kernel⟩
theorem sX7_samplesWithPenetration : Cond.static yX7_samplesWithPenetration ∈ lw_tbl := lw_of (i := 493) (by decide +kernel)
def mX7_needlesRead : MD := (yX7_needlesRead, cX7_needlesRead, 5, (some FieldType.int), { frames := 3, cells := 0, slots := 0, locals := 108 }, [])
theorem oX7_needlesRead : fOK mX7_needlesRead 2 := ⟨rfl, lw_of (i := 497) (by decide +kernel), lw_of (i := 18) (by decide +kernel), by decide +kernel, by decide +kernel⟩
theorem sX7_needlesRead : Cond.static yX7_needlesRead ∈ lw_tbl := lw_of (i := 496) (by decide +kernel)
def mX7_whyNotSold : MD := (yX7_whyNotSold, cX7_whyNotSold, 4, (some FieldType.int), { frames := 4, cells := 0, slots := 0, locals := 138 }, [])
theorem oX7_whyNotSold : fOK mX7_whyNotSold 2 := ⟨rfl, lw_of (i := 487) (by decide +kernel), lw_of (i := 18) (by decide +kernel), by decide +kernel, by decide +kernel⟩
theorem sX7_whyNotSold : Cond.static yX7_whyNotSold ∈ lw_tbl := lw_of (i := 486) (by decide +kernel)
def mX7_close : MD := (yX7_close, cX7_close, 3, (some FieldType.int), { frames := 4, cells := 0, slots := 0, locals := 138 }, [])
theorem oX7_close : fOK mX7_close 2 := ⟨rfl, lw_of (i := 862) (by decide +kernel), lw_of (i := 18) (by decide +kernel), by decide +kernel, by decide +kernel⟩
theorem sX7_close : Cond.static yX7_close ∈ lw_tbl := lw_of (i := 861) (by decide +kernel)
def mX7_number : MD := (yX7_number, cX7_number, 3, (some FieldType.int), { frames := 5, cells := 0, slots := 0, locals := 155 }, [])
theorem oX7_number : fOK mX7_number 3 := ⟨rfl, lw_of (i := 441) (by decide +kernel), lw_of (i := 18) (by decide +kernel), by decide +kernel, by decide +kernel⟩
theorem sX7_number : Cond.static yX7_number ∈ lw_tbl := lw_of (i := 440) (by decide +kernel)
def mX8_init : MD := (yX8_init, cX8_init, 1, (none : Option FieldType), { frames := 4, cells := 254, slots := 3325, locals := 126 }, [])
theorem oX8_init : fOK mX8_init 0 := ⟨rfl, lw_of (i := 28) (by decide +kernel), lw_of (i := 1) (by decide +kernel), by decide +kernel, by decide +kernel⟩
theorem nX8_init : Cond.instanceMethod yX8_init ∈ lw_tbl := lw_of (i := 27) (by decide +kernel)
def mX8_drum : MD := (yX8_drum, cX8_drum, 2, (some FieldType.int), { frames := 7, cells := 2, slots := 12, locals := 128 }, [])
theorem oX8_drum : fOK mX8_drum 1 := ⟨rfl, lw_of (i := 585) (by decide +kernel), lw_of (i := 1) (by decide +kernel), by decide +kernel, by decide +kernel⟩
theorem nX8_drum : Cond.instanceMethod yX8_drum ∈ lw_tbl := lw_of (i := 583) (by decide +kernel)
theorem eX8_drum : Cond.selects yX8_drum.cls yX8_drum yX8_drum ∈ lw_tbl := lw_of (i := 584) (by decide +kernel)
def mX8_age : MD := (yX8_age, cX8_age, 2, (some FieldType.int), { frames := 7, cells := 1, slots := 6, locals := 128 }, [])
theorem oX8_age : fOK mX8_age 1 := ⟨rfl, lw_of (i := 714) (by decide +kernel), lw_of (i := 1) (by decide +kernel), by decide +kernel, by decide +kernel⟩
theorem nX8_age : Cond.instanceMethod yX8_age ∈ lw_tbl := lw_of (i := 712) (by decide +kernel)
theorem eX8_age : Cond.selects yX8_age.cls yX8_age yX8_age ∈ lw_tbl := lw_of (i := 713) (by decide +kernel)
def mX8_sample : MD := (yX8_sample, cX8_sample, 2, (some FieldType.int), { frames := 7, cells := 1, slots := 6, locals := 149 }, [])
theorem oX8_sample : fOK mX8_sample 1 := ⟨rfl, lw_of (i := 727) (by decide +kernel), lw_of (i := 1) (by decide +kernel), by decide +kernel, by decide +kernel⟩
theorem nX8_sample : Cond.instanceMethod yX8_sample ∈ lw_tbl := lw_of (i := 725) (by decide +kernel)
theorem eX8_sample : Cond.selects yX8_sample.cls yX8_sample yX8_sample ∈ lw_tbl := lw_of (i := 726) (by decide +kernel)
def mX8_toss : MD := (yX8_toss, cX8_toss, 2, (some FieldType.int), { frames := 7, cells := 1, slots := 6, locals := 128 }, [])
theorem oX8_toss : fOK mX8_toss 1 := ⟨rfl, lw_of (i := 748) (by decide +kernel), lw_of (i := 1) (by decide +kernel), by decide +kernel, by decide +kernel⟩
theorem nX8_toss : Cond.instanceMethod yX8_toss ∈ lw_tbl := lw_of (i := 746) (by decide +kernel)
theorem eX8_toss : Cond.selects yX8_toss.cls yX8_toss yX8_toss ∈ lw_tbl := lw_of (i := 747) (by decide +kernel)
def mX8_bath : MD := (yX8_bath, cX8_bath, 3, (some FieldType.int), { frames := 7, cells := 2, slots := 12, locals := 131 }, [])
theorem oX8_bath : fOK mX8_bath 2 := ⟨rfl, lw_of (i := 763) (by decide +kernel), lw_of (i := 1) (by decide +kernel), by decide +kernel, by decide +kernel⟩
theorem nX8_bath : Cond.instanceMethod yX8_bath ∈ lw_tbl := lw_of (i := 761) (by decide +kernel)
theorem eX8_bath : Cond.selects yX8_bath.cls yX8_bath yX8_bath ∈ lw_tbl := lw_of (i := 762) (by decide +kernel)
def mX8_warm : MD := (yX8_warm, cX8_warm, 4, (some FieldType.int), { frames := 7, cells := 2, slots := 12, locals := 128 }, [])
theorem oX8_warm : fOK mX8_warm 2 := ⟨rfl, lw_of (i := 782) (by decide +kernel), lw_of (i := 1) (by decide +kernel), by decide +kernel, by decide +kernel⟩
theorem nX8_warm : Cond.instanceMethod yX8_warm ∈ lw_tbl := lw_of (i := 780) (by decide +kernel)
theorem eX8_warm : Cond.selects yX8_warm.cls yX8_warm yX8_warm ∈ lw_tbl := lw_of (i := 781) (by decide +kernel)
def mX8_pass : MD := (yX8_pass, cX8_pass, 2, (some FieldType.int), { frames := 7, cells := 1, slots := 6, locals := 132 }, [])
theorem oX8_pass : fOK mX8_pass 1 := ⟨rfl, lw_of (i := 789) (by decide +kernel), lw_of (i := 1) (by decide +kernel), by decide +kernel, by decide +kernel⟩
theorem nX8_pass : Cond.instanceMethod yX8_pass ∈ lw_tbl := lw_of (i := 787) (by decide +kernel)
theorem eX8_pass : Cond.selects yX8_pass.cls yX8_pass yX8_pass ∈ lw_tbl := lw_of (i := 788) (by decide +kernel)
def mX8_sink : MD := (yX8_sink, cX8_sink, 5, (some FieldType.int), { frames := 7, cells := 5, slots := 30, locals := 182 }, [])
theorem oX8_sink : fOK mX8_sink 4 := ⟨rfl, lw_of (i := 804) (by decide +kernel), lw_of (i := 1) (by decide +kernel), by decide +kernel, by decide +kernel⟩
theorem nX8_sink : Cond.instanceMethod yX8_sink ∈ lw_tbl := lw_of (i := 802) (by decide +kernel)
theorem eX8_sink : Cond.selects yX8_sink.cls yX8_sink yX8_sink ∈ lw_tbl := lw_of (i := 803) (by decide +kernel)
def mX8_renew : MD := (yX8_renew, cX8_renew, 2, (some FieldType.int), { frames := 7, cells := 1, slots := 6, locals := 128 }, [])
theorem oX8_renew : fOK mX8_renew 1 := ⟨rfl, lw_of (i := 833) (by decide +kernel), lw_of (i := 1) (by decide +kernel), by decide +kernel, by decide +kernel⟩
theorem nX8_renew : Cond.instanceMethod yX8_renew ∈ lw_tbl := lw_of (i := 831) (by decide +kernel)
theorem eX8_renew : Cond.selects yX8_renew.cls yX8_renew yX8_renew ∈ lw_tbl := lw_of (i := 832) (by decide +kernel)
def mX8_ring : MD := (yX8_ring, cX8_ring, 2, (some FieldType.int), { frames := 7, cells := 1, slots := 6, locals := 128 }, [])
theorem oX8_ring : fOK mX8_ring 1 := ⟨rfl, lw_of (i := 844) (by decide +kernel), lw_of (i := 1) (by decide +kernel), by decide +kernel, by decide +kernel⟩
theorem nX8_ring : Cond.instanceMethod yX8_ring ∈ lw_tbl := lw_of (i := 842) (by decide +kernel)
theorem eX8_ring : Cond.selects yX8_ring.cls yX8_ring yX8_ring ∈ lw_tbl := lw_of (i := 843) (by decide +kernel)
def mX8_sell : MD := (yX8_sell, cX8_sell, 2, (some FieldType.int), { frames := 7, cells := 1, slots := 6, locals := 161 }, [])
theorem oX8_sell : fOK mX8_sell 1 := ⟨rfl, lw_of (i := 859) (by decide +kernel), lw_of (i := 1) (by decide +kernel), by decide +kernel, by decide +kernel⟩
theorem nX8_sell : Cond.instanceMethod yX8_sell ∈ lw_tbl := lw_of (i := 857) (by decide +kernel)
theorem eX8_sell : Cond.selects yX8_sell.cls yX8_sell yX8_sell ∈ lw_tbl := lw_of (i := 858) (by decide +kernel)
def mX8_set : MD := (yX8_set, cX8_set, 4, (some FieldType.int), { frames := 7, cells := 2, slots := 12, locals := 128 }, [])
theorem oX8_set : fOK mX8_set 2 := ⟨rfl, lw_of (i := 869) (by decide +kernel), lw_of (i := 1) (by decide +kernel), by decide +kernel, by decide +kernel⟩
theorem nX8_set : Cond.instanceMethod yX8_set ∈ lw_tbl := lw_of (i := 867) (by decide +kernel)
theorem eX8_set : Cond.selects yX8_set.cls yX8_set yX8_set ∈ lw_tbl := lw_of (i := 868) (by decide +kernel)
def mX8_append : MD := (yX8_append, cX8_append, 2, (some FieldType.int), { frames := 7, cells := 2, slots := 12, locals := 118 }, [])
theorem oX8_append : fOK mX8_append 1 := ⟨rfl, lw_of (i := 878) (by decide +kernel), lw_of (i := 1) (by decide +kernel), by decide +kernel, by decide +kernel⟩
theorem nX8_append : Cond.instanceMethod yX8_append ∈ lw_tbl := lw_of (i := 876) (by decide +kernel)
theorem eX8_append : Cond.selects yX8_append.cls yX8_append yX8_append ∈ lw_tbl := lw_of (i := 877) (by decide +kernel)
def mX8_clearBuffer : MD := (yX8_clearBuffer, cX8_clearBuffer, 1, (some FieldType.int), { frames := 2, cells := 0, slots := 0, locals := 85 }, [])
theorem oX8_clearBuffer : fOK mX8_clearBuffer 0 := ⟨rfl, lw_of (i := 261) (by decide +kernel), lw_of (i := 1) (by decide +kernel), by decide +kernel, by decide +kernel⟩
theorem nX8_clearBuffer : Cond.instanceMethod yX8_clearBuffer ∈ lw_tbl := lw_of (i := 259) (by decide +kernel)
theorem eX8_clearBuffer : Cond.selects yX8_clearBuffer.cls yX8_clearBuffer yX8_clearBuffer ∈ lw_tbl := lw_of (i := 260) (by decide +kernel)
def mX8_firstError : MD := (yX8_firstError, cX8_firstError, 1, (some FieldType.int), { frames := 5, cells := 0, slots := 0, locals := 155 }, [])
theorem oX8_firstError : fOK mX8_firstError 0 := ⟨rfl, lw_of (i := 269) (by decide +kernel), lw_of (i := 1) (by decide +kernel), by decide +kernel, by decide +kernel⟩
theorem nX8_firstError : Cond.instanceMethod yX8_firstError ∈ lw_tbl := lw_of (i := 267) (by decide +kernel)
theorem eX8_firstError : Cond.selects yX8_firstError.cls yX8_firstError yX8_firstError ∈ lw_tbl := lw_of (i := 268) (by decide +kernel)
def mX8_obey : MD := (yX8_obey, cX8_obey, 4, (some FieldType.int), { frames := 7, cells := 1, slots := 6, locals := 208 }, [])
theorem oX8_obey : fOK mX8_obey 0 := ⟨rfl, lw_of (i := 889) (by decide +kernel), lw_of (i := 1) (by decide +kernel), by decide +kernel, by decide +kernel⟩
theorem nX8_obey : Cond.instanceMethod yX8_obey ∈ lw_tbl := lw_of (i := 887) (by decide +kernel)
theorem eX8_obey : Cond.selects yX8_obey.cls yX8_obey yX8_obey ∈ lw_tbl := lw_of (i := 888) (by decide +kernel)
def mX8_stopped : MD := (yX8_stopped, cX8_stopped, 2, (some FieldType.int), { frames := 7, cells := 1, slots := 6, locals := 118 }, [])
theorem oX8_stopped : fOK mX8_stopped 1 := ⟨rfl, lw_of (i := 915) (by decide +kernel), lw_of (i := 1) (by decide +kernel), by decide +kernel, by decide +kernel⟩
theorem nX8_stopped : Cond.instanceMethod yX8_stopped ∈ lw_tbl := lw_of (i := 913) (by decide +kernel)
theorem eX8_stopped : Cond.selects yX8_stopped.cls yX8_stopped yX8_stopped ∈ lw_tbl := lw_of (i := 914) (by decide +kernel)
def mX8_undo : MD := (yX8_undo, cX8_undo, 1, (some FieldType.int), { frames := 6, cells := 1, slots := 6, locals := 128 }, [])
theorem oX8_undo : fOK mX8_undo 0 := ⟨rfl, lw_of (i := 922) (by decide +kernel), lw_of (i := 1) (by decide +kernel), by decide +kernel, by decide +kernel⟩
theorem nX8_undo : Cond.instanceMethod yX8_undo ∈ lw_tbl := lw_of (i := 920) (by decide +kernel)
theorem eX8_undo : Cond.selects yX8_undo.cls yX8_undo yX8_undo ∈ lw_tbl := lw_of (i := 921) (by decide +kernel)
def mX8_keep : MD := (yX8_keep, cX8_keep, 1, (some FieldType.int), { frames := 3, cells := 0, slots := 0, locals := 107 }, [])
theorem oX8_keep : fOK mX8_keep 0 := ⟨rfl, lw_of (i := 374) (by decide +kernel), lw_of (i := 1) (by decide +kernel), by decide +kernel, by decide +kernel⟩
theorem nX8_keep : Cond.instanceMethod yX8_keep ∈ lw_tbl := lw_of (i := 372) (by decide +kernel)
theorem eX8_keep : Cond.selects yX8_keep.cls yX8_keep yX8_keep ∈ lw_tbl := lw_of (i := 373) (by decide +kernel)
def mX8_restore : MD := (yX8_restore, cX8_restore, 1, (some FieldType.int), { frames := 6, cells := 1, slots := 6, locals := 128 }, [])
theorem oX8_restore : fOK mX8_restore 0 := ⟨rfl, lw_of (i := 934) (by decide +kernel), lw_of (i := 1) (by decide +kernel), by decide +kernel, by decide +kernel⟩
theorem nX8_restore : Cond.instanceMethod yX8_restore ∈ lw_tbl := lw_of (i := 932) (by decide +kernel)
theorem eX8_restore : Cond.selects yX8_restore.cls yX8_restore yX8_restore ∈ lw_tbl := lw_of (i := 933) (by decide +kernel)
def mX8_drumOf : MD := (yX8_drumOf, cX8_drumOf, 3, (some FieldType.int), { frames := 7, cells := 2, slots := 12, locals := 177 }, [])
theorem oX8_drumOf : fOK mX8_drumOf 2 := ⟨rfl, lw_of (i := 942) (by decide +kernel), lw_of (i := 1) (by decide +kernel), by decide +kernel, by decide +kernel⟩
theorem nX8_drumOf : Cond.instanceMethod yX8_drumOf ∈ lw_tbl := lw_of (i := 940) (by decide +kernel)
theorem eX8_drumOf : Cond.selects yX8_drumOf.cls yX8_drumOf yX8_drumOf ∈ lw_tbl := lw_of (i := 941) (by decide +kernel)
def mX8_sampleOf : MD := (yX8_sampleOf, cX8_sampleOf, 3, (some FieldType.int), { frames := 7, cells := 2, slots := 12, locals := 134 }, [])
theorem oX8_sampleOf : fOK mX8_sampleOf 2 := ⟨rfl, lw_of (i := 949) (by decide +kernel), lw_of (i := 1) (by decide +kernel), by decide +kernel, by decide +kernel⟩
theorem nX8_sampleOf : Cond.instanceMethod yX8_sampleOf ∈ lw_tbl := lw_of (i := 947) (by decide +kernel)
theorem eX8_sampleOf : Cond.selects yX8_sampleOf.cls yX8_sampleOf yX8_sampleOf ∈ lw_tbl := lw_of (i := 948) (by decide +kernel)
def mX8_reading : MD := (yX8_reading, cX8_reading, 4, (some FieldType.int), { frames := 7, cells := 3, slots := 18, locals := 118 }, [])
theorem oX8_reading : fOK mX8_reading 3 := ⟨rfl, lw_of (i := 956) (by decide +kernel), lw_of (i := 1) (by decide +kernel), by decide +kernel, by decide +kernel⟩
theorem nX8_reading : Cond.instanceMethod yX8_reading ∈ lw_tbl := lw_of (i := 954) (by decide +kernel)
theorem eX8_reading : Cond.selects yX8_reading.cls yX8_reading yX8_reading ∈ lw_tbl := lw_of (i := 955) (by decide +kernel)
def mX8_needle : MD := (yX8_needle, cX8_needle, 3, (some FieldType.int), { frames := 7, cells := 2, slots := 12, locals := 118 }, [])
theorem oX8_needle : fOK mX8_needle 2 := ⟨rfl, lw_of (i := 964) (by decide +kernel), lw_of (i := 1) (by decide +kernel), by decide +kernel, by decide +kernel⟩
theorem nX8_needle : Cond.instanceMethod yX8_needle ∈ lw_tbl := lw_of (i := 962) (by decide +kernel)
theorem eX8_needle : Cond.selects yX8_needle.cls yX8_needle yX8_needle ∈ lw_tbl := lw_of (i := 963) (by decide +kernel)
def mX8_bathOf : MD := (yX8_bathOf, cX8_bathOf, 3, (some FieldType.int), { frames := 7, cells := 2, slots := 12, locals := 130 }, [])
theorem oX8_bathOf : fOK mX8_bathOf 2 := ⟨rfl, lw_of (i := 971) (by decide +kernel), lw_of (i := 1) (by decide +kernel), by decide +kernel, by decide +kernel⟩
theorem nX8_bathOf : Cond.instanceMethod yX8_bathOf ∈ lw_tbl := lw_of (i := 969) (by decide +kernel)
theorem eX8_bathOf : Cond.selects yX8_bathOf.cls yX8_bathOf yX8_bathOf ∈ lw_tbl := lw_of (i := 970) (by decide +kernel)
def mX8_count : MD := (yX8_count, cX8_count, 2, (some FieldType.int), { frames := 7, cells := 1, slots := 6, locals := 132 }, [])
theorem oX8_count : fOK mX8_count 1 := ⟨rfl, lw_of (i := 978) (by decide +kernel), lw_of (i := 1) (by decide +kernel), by decide +kernel, by decide +kernel⟩
theorem nX8_count : Cond.instanceMethod yX8_count ∈ lw_tbl := lw_of (i := 976) (by decide +kernel)
theorem eX8_count : Cond.selects yX8_count.cls yX8_count yX8_count ∈ lw_tbl := lw_of (i := 977) (by decide +kernel)
def mX8_noSink : MD := (yX8_noSink, cX8_noSink, 3, (some FieldType.int), { frames := 7, cells := 2, slots := 12, locals := 117 }, [])
theorem oX8_noSink : fOK mX8_noSink 2 := ⟨rfl, lw_of (i := 985) (by decide +kernel), lw_of (i := 1) (by decide +kernel), by decide +kernel, by decide +kernel⟩
theorem nX8_noSink : Cond.instanceMethod yX8_noSink ∈ lw_tbl := lw_of (i := 983) (by decide +kernel)
theorem eX8_noSink : Cond.selects yX8_noSink.cls yX8_noSink yX8_noSink ∈ lw_tbl := lw_of (i := 984) (by decide +kernel)
def mX8_noSale : MD := (yX8_noSale, cX8_noSale, 2, (some FieldType.int), { frames := 7, cells := 1, slots := 6, locals := 161 }, [])
theorem oX8_noSale : fOK mX8_noSale 1 := ⟨rfl, lw_of (i := 992) (by decide +kernel), lw_of (i := 1) (by decide +kernel), by decide +kernel, by decide +kernel⟩
theorem nX8_noSale : Cond.instanceMethod yX8_noSale ∈ lw_tbl := lw_of (i := 990) (by decide +kernel)
theorem eX8_noSale : Cond.selects yX8_noSale.cls yX8_noSale yX8_noSale ∈ lw_tbl := lw_of (i := 991) (by decide +kernel)
def mX8_ifSunk : MD := (yX8_ifSunk, cX8_ifSunk, 5, (some FieldType.int), { frames := 7, cells := 4, slots := 24, locals := 157 }, [])
theorem oX8_ifSunk : fOK mX8_ifSunk 4 := ⟨rfl, lw_of (i := 999) (by decide +kernel), lw_of (i := 1) (by decide +kernel), by decide +kernel, by decide +kernel⟩
theorem nX8_ifSunk : Cond.instanceMethod yX8_ifSunk ∈ lw_tbl := lw_of (i := 997) (by decide +kernel)
theorem eX8_ifSunk : Cond.selects yX8_ifSunk.cls yX8_ifSunk yX8_ifSunk ∈ lw_tbl := lw_of (i := 998) (by decide +kernel)
def mX8_secondsTo : MD := (yX8_secondsTo, cX8_secondsTo, 6, (some FieldType.int), { frames := 7, cells := 4, slots := 24, locals := 157 }, [])
theorem oX8_secondsTo : fOK mX8_secondsTo 4 := ⟨rfl, lw_of (i := 1007) (by decide +kernel), lw_of (i := 1) (by decide +kernel), by decide +kernel, by decide +kernel⟩
theorem nX8_secondsTo : Cond.instanceMethod yX8_secondsTo ∈ lw_tbl := lw_of (i := 1005) (by decide +kernel)
theorem eX8_secondsTo : Cond.selects yX8_secondsTo.cls yX8_secondsTo yX8_secondsTo ∈ lw_tbl := lw_of (i := 1006) (by decide +kernel)
def mX8_readyIn : MD := (yX8_readyIn, cX8_readyIn, 2, (some FieldType.int), { frames := 7, cells := 1, slots := 6, locals := 155 }, [])
theorem oX8_readyIn : fOK mX8_readyIn 1 := ⟨rfl, lw_of (i := 1014) (by decide +kernel), lw_of (i := 1) (by decide +kernel), by decide +kernel, by decide +kernel⟩
theorem nX8_readyIn : Cond.instanceMethod yX8_readyIn ∈ lw_tbl := lw_of (i := 1012) (by decide +kernel)
theorem eX8_readyIn : Cond.selects yX8_readyIn.cls yX8_readyIn yX8_readyIn ∈ lw_tbl := lw_of (i := 1013) (by decide +kernel)
def mX8_bestBath : MD := (yX8_bestBath, cX8_bestBath, 2, (some FieldType.int), { frames := 7, cells := 1, slots := 6, locals := 158 }, [])
theorem oX8_bestBath : fOK mX8_bestBath 1 := ⟨rfl, lw_of (i := 1021) (by decide +kernel), lw_of (i := 1) (by decide +kernel), by decide +kernel, by decide +kernel⟩
theorem nX8_bestBath : Cond.instanceMethod yX8_bestBath ∈ lw_tbl := lw_of (i := 1019) (by decide +kernel)
theorem eX8_bestBath : Cond.selects yX8_bestBath.cls yX8_bestBath yX8_bestBath ∈ lw_tbl := lw_of (i := 1020) (by decide +kernel)
def mX8_readShare : MD := (yX8_readShare, cX8_readShare, 1, (some FieldType.double), { frames := 3, cells := 0, slots := 0, locals := 111 }, [])
theorem oX8_readShare : fOK mX8_readShare 0 := ⟨rfl, lw_of (i := 398) (by decide +kernel), lw_of (i := 1) (by decide +kernel), by decide +kernel, by decide +kernel⟩
theorem nX8_readShare : Cond.instanceMethod yX8_readShare ∈ lw_tbl := lw_of (i := 396) (by decide +kernel)
theorem eX8_readShare : Cond.selects yX8_readShare.cls yX8_readShare yX8_readShare ∈ lw_tbl := lw_of (i := 397) (by decide +kernel)
def mX8_digest : MD := (yX8_digest, cX8_digest, 5, (some FieldType.long), { frames := 6, cells := 0, slots := 0, locals := 186 }, [])
theorem oX8_digest : fOK mX8_digest 0 := ⟨rfl, lw_of (i := 416) (by decide +kernel), lw_of (i := 1) (by decide +kernel), by decide +kernel, by decide +kernel⟩
theorem nX8_digest : Cond.instanceMethod yX8_digest ∈ lw_tbl := lw_of (i := 414) (by decide +kernel)
theorem eX8_digest : Cond.selects yX8_digest.cls yX8_digest yX8_digest ∈ lw_tbl := lw_of (i := 415) (by decide +kernel)
def mX8_mindNumber : MD := (yX8_mindNumber, cX8_mindNumber, 2, (none : Option FieldType), { frames := 6, cells := 1, slots := 6, locals := 96 }, [])
theorem oX8_mindNumber : fOK mX8_mindNumber 2 := ⟨rfl, lw_of (i := 751) (by decide +kernel), lw_of (i := 1) (by decide +kernel), by decide +kernel, by decide +kernel⟩
theorem sX8_mindNumber : Cond.static yX8_mindNumber ∈ lw_tbl := lw_of (i := 750) (by decide +kernel)
def mX8_mindRange : MD := (yX8_mindRange, cX8_mindRange, 3, (none : Option FieldType), { frames := 6, cells := 1, slots := 6, locals := 96 }, [])
theorem oX8_mindRange : fOK mX8_mindRange 3 := ⟨rfl, lw_of (i := 588) (by decide +kernel), lw_of (i := 1) (by decide +kernel), by decide +kernel, by decide +kernel⟩
theorem sX8_mindRange : Cond.static yX8_mindRange ∈ lw_tbl := lw_of (i := 587) (by decide +kernel)
def mX8_refuseFor : MD := (yX8_refuseFor, cX8_refuseFor, 1, (none : Option FieldType), { frames := 6, cells := 1, slots := 6, locals := 96 }, [])
theorem oX8_refuseFor : fOK mX8_refuseFor 1 := ⟨rfl, lw_of (i := 658) (by decide +kernel), lw_of (i := 1) (by decide +kernel), by decide +kernel, by decide +kernel⟩
theorem sX8_refuseFor : Cond.static yX8_refuseFor ∈ lw_tbl := lw_of (i := 657) (by decide +kernel)
def mX8_doPart : MD := (yX8_doPart, cX8_doPart, 5, (some FieldType.int), { frames := 6, cells := 0, slots := 0, locals := 184 }, [])
theorem oX8_doPart : fOK mX8_doPart 1 := ⟨rfl, lw_of (i := 903) (by decide +kernel), lw_of (i := 1) (by decide +kernel), by decide +kernel, by decide +kernel⟩
theorem nX8_doPart : Cond.instanceMethod yX8_doPart ∈ lw_tbl := lw_of (i := 902) (by decide +kernel)
theorem eX8_doPart : Cond.selects yX8_doPart.cls yX8_doPart yX8_doPart ∈ lw_tbl := List.mem_append_left _ (by decide +kernel)
def mX8_whyNotDone : MD := (yX8_whyNotDone, cX8_whyNotDone, 4, (some FieldType.int), { frames := 5, cells := 0, slots := 0, locals := 161 }, [])
theorem oX8_whyNotDone : fOK mX8_whyNotDone 3 := ⟨rfl, lw_of (i := 907) (by decide +kernel), lw_of (i := 1) (by decide +kernel), by decide +kernel, by decide +kernel⟩
theorem nX8_whyNotDone : Cond.instanceMethod yX8_whyNotDone ∈ lw_tbl := lw_of (i := 906) (by decide +kernel)
theorem eX8_whyNotDone : Cond.selects yX8_whyNotDone.cls yX8_whyNotDone yX8_whyNotDone ∈ lw_tbl := List.mem_append_left _ (by decide +kernel)
def mX8_mixedWithSample : MD := (yX8_mixedWithSample, cX8_mixedWithSample, 9, (some FieldType.long), { frames := 5, cells := 0, slots := 0, locals := 158 }, [])
theorem oX8_mixedWithSample : fOK mX8_mixedWithSample 2 := ⟨rfl, lw_of (i := 511) (by decide +kernel), lw_of (i := 1) (by decide +kernel), by decide +kernel, by decide +kernel⟩
theorem nX8_mixedWithSample : Cond.instanceMethod yX8_mixedWithSample ∈ lw_tbl := lw_of (i := 510) (by decide +kernel)
theorem eX8_mixedWithSample : Cond.selects yX8_mixedWithSample.cls yX8_mixedWithSample yX8_mixedWithSample ∈ lw_tbl := List.mem_append_left _ (by decide +kernel)
def mX8_mixedWithTools : MD := (yX8_mixedWithTools, cX8_mixedWithTools, 7, (some FieldType.long), { frames := 4, cells := 0, slots := 0, locals := 130 }, [])
theorem oX8_mixedWithTools : fOK mX8_mixedWithTools 1 := ⟨rfl, lw_of (i := 556) (by decide +kernel), lw_of (i := 1) (by decide +kernel), by decide +kernel, by decide +kernel⟩
theorem nX8_mixedWithTools : Cond.instanceMethod yX8_mixedWithTools ∈ lw_tbl := lw_of (i := 555) (by decide +kernel)
theorem eX8_mixedWithTools : Cond.selects yX8_mixedWithTools.cls yX8_mixedWithTools yX8_mixedWithTools ∈ lw_tbl := List.mem_append_left _ (by decide +kernel)
def mX8_mixed : MD := (yX8_mixed, cX8_mixed, 4, (some FieldType.long), { frames := 1, cells := 0, slots := 0, locals := 64 }, [])
theorem oX8_mixed : fOK mX8_mixed 2 := ⟨rfl, lw_of (i := 437) (by decide +kernel), lw_of (i := 1) (by decide +kernel), by decide +kernel, by decide +kernel⟩
theorem sX8_mixed : Cond.static yX8_mixed ∈ lw_tbl := lw_of (i := 436) (by decide +kernel)
def mX8_bitsOf : MD := (yX8_bitsOf, cX8_bitsOf, 7, (some FieldType.long), { frames := 1, cells := 0, slots := 0, locals := 64 }, [])
theorem oX8_bitsOf : fOK mX8_bitsOf 1 := ⟨rfl, lw_of (i := 573) (by decide +kernel), lw_of (i := 1) (by decide +kernel), by decide +kernel, by decide +kernel⟩
theorem sX8_bitsOf : Cond.static yX8_bitsOf ∈ lw_tbl := lw_of (i := 572) (by decide +kernel)
def mX8_divided : MD := (yX8_divided, cX8_divided, 2, (some FieldType.int), { frames := 2, cells := 0, slots := 0, locals := 86 }, [])
theorem oX8_divided : fOK mX8_divided 2 := ⟨rfl, lw_of (i := 448) (by decide +kernel), lw_of (i := 1) (by decide +kernel), by decide +kernel, by decide +kernel⟩
theorem sX8_divided : Cond.static yX8_divided ∈ lw_tbl := lw_of (i := 447) (by decide +kernel)
def mX8_degreeNext : MD := (yX8_degreeNext, cX8_degreeNext, 3, (some FieldType.int), { frames := 2, cells := 0, slots := 0, locals := 86 }, [])
theorem oX8_degreeNext : fOK mX8_degreeNext 2 := ⟨rfl, lw_of (i := 536) (by decide +kernel), lw_of (i := 1) (by decide +kernel), by decide +kernel, by decide +kernel⟩
theorem sX8_degreeNext : Cond.static yX8_degreeNext ∈ lw_tbl := lw_of (i := 535) (by decide +kernel)
def mX9_init : MD := (yX9_init, cX9_init, 2, (none : Option FieldType), { frames := 1, cells := 3, slots := 3072, locals := 64 }, [])
theorem oX9_init : fOK mX9_init 0 := ⟨rfl, lw_of (i := 1026) (by decide +kernel), lw_of (i := 9) (by decide +kernel), by decide +kernel, by decide +kernel⟩
theorem nX9_init : Cond.instanceMethod yX9_init ∈ lw_tbl := lw_of (i := 1025) (by decide +kernel)
def mX9_thrown : MD := (yX9_thrown, cX9_thrown, 1, (some FieldType.int), { frames := 1, cells := 0, slots := 0, locals := 64 }, [])
theorem oX9_thrown : fOK mX9_thrown 0 := ⟨rfl, lw_of (i := 1062) (by decide +kernel), lw_of (i := 9) (by decide +kernel), by decide +kernel, by decide +kernel⟩
theorem nX9_thrown : Cond.instanceMethod yX9_thrown ∈ lw_tbl := lw_of (i := 1060) (by decide +kernel)
theorem eX9_thrown : Cond.selects yX9_thrown.cls yX9_thrown yX9_thrown ∈ lw_tbl := lw_of (i := 1061) (by decide +kernel)
def mX9_in : MD := (yX9_in, cX9_in, 3, (some FieldType.boolean), { frames := 1, cells := 0, slots := 0, locals := 64 }, [])
theorem oX9_in : fOK mX9_in 3 := ⟨rfl, lw_of (i := 1069) (by decide +kernel), lw_of (i := 9) (by decide +kernel), by decide +kernel, by decide +kernel⟩
theorem sX9_in : Cond.static yX9_in ∈ lw_tbl := lw_of (i := 1068) (by decide +kernel)
def mX9_holds : MD := (yX9_holds, cX9_holds, 2, (some FieldType.boolean), { frames := 1, cells := 0, slots := 0, locals := 64 }, [])
theorem oX9_holds : fOK mX9_holds 1 := ⟨rfl, lw_of (i := 1073) (by decide +kernel), lw_of (i := 9) (by decide +kernel), by decide +kernel, by decide +kernel⟩
theorem nX9_holds : Cond.instanceMethod yX9_holds ∈ lw_tbl := lw_of (i := 1072) (by decide +kernel)
theorem eX9_holds : Cond.selects yX9_holds.cls yX9_holds yX9_holds ∈ lw_tbl := List.mem_append_left _ (by decide +kernel)
def mX9_div : MD := (yX9_div, cX9_div, 3, (some FieldType.int), { frames := 1, cells := 0, slots := 0, locals := 64 }, [])
theorem oX9_div : fOK mX9_div 2 := ⟨rfl, lw_of (i := 1158) (by decide +kernel), lw_of (i := 9) (by decide +kernel), by decide +kernel, by decide +kernel⟩
theorem sX9_div : Cond.static yX9_div ∈ lw_tbl := lw_of (i := 1157) (by decide +kernel)
def mX9_size : MD := (yX9_size, cX9_size, 1, (some FieldType.int), { frames := 1, cells := 0, slots := 0, locals := 64 }, [])
theorem oX9_size : fOK mX9_size 1 := ⟨rfl, lw_of (i := 1173) (by decide +kernel), lw_of (i := 9) (by decide +kernel), by decide +kernel, by decide +kernel⟩
theorem sX9_size : Cond.static yX9_size ∈ lw_tbl := lw_of (i := 1172) (by decide +kernel)
def mX9_isDrum : MD := (yX9_isDrum, cX9_isDrum, 2, (some FieldType.boolean), { frames := 2, cells := 0, slots := 0, locals := 86 }, [])
theorem oX9_isDrum : fOK mX9_isDrum 1 := ⟨rfl, lw_of (i := 1097) (by decide +kernel), lw_of (i := 9) (by decide +kernel), by decide +kernel, by decide +kernel⟩
theorem nX9_isDrum : Cond.instanceMethod yX9_isDrum ∈ lw_tbl := lw_of (i := 1096) (by decide +kernel)
theorem eX9_isDrum : Cond.selects yX9_isDrum.cls yX9_isDrum yX9_isDrum ∈ lw_tbl := List.mem_append_left _ (by decide +kernel)
def mX9_isSample : MD := (yX9_isSample, cX9_isSample, 2, (some FieldType.boolean), { frames := 2, cells := 0, slots := 0, locals := 86 }, [])
theorem oX9_isSample : fOK mX9_isSample 1 := ⟨rfl, lw_of (i := 1117) (by decide +kernel), lw_of (i := 9) (by decide +kernel), by decide +kernel, by decide +kernel⟩
theorem nX9_isSample : Cond.instanceMethod yX9_isSample ∈ lw_tbl := lw_of (i := 1116) (by decide +kernel)
theorem eX9_isSample : Cond.selects yX9_isSample.cls yX9_isSample yX9_isSample ∈ lw_tbl := List.mem_append_left _ (by decide +kernel)
def mX9_isOne : MD := (yX9_isOne, cX9_isOne, 1, (some FieldType.boolean), { frames := 2, cells := 0, slots := 0, locals := 86 }, [])
theorem oX9_isOne : fOK mX9_isOne 1 := ⟨rfl, lw_of (i := 1128) (by decide +kernel), lw_of (i := 9) (by decide +kernel), by decide +kernel, by decide +kernel⟩
theorem sX9_isOne : Cond.static yX9_isOne ∈ lw_tbl := lw_of (i := 1127) (by decide +kernel)
def mX9_of : MD := (yX9_of, cX9_of, 3, (some FieldType.int), { frames := 1, cells := 0, slots := 0, locals := 64 }, [])
theorem oX9_of : fOK mX9_of 2 := ⟨rfl, lw_of (i := 1121) (by decide +kernel), lw_of (i := 9) (by decide +kernel), by decide +kernel, by decide +kernel⟩
theorem nX9_of : Cond.instanceMethod yX9_of ∈ lw_tbl := lw_of (i := 1120) (by decide +kernel)
theorem eX9_of : Cond.selects yX9_of.cls yX9_of yX9_of ∈ lw_tbl := List.mem_append_left _ (by decide +kernel)
def mX9_lay : MD := (yX9_lay, cX9_lay, 4, (none : Option FieldType), { frames := 1, cells := 0, slots := 0, locals := 64 }, [])
theorem oX9_lay : fOK mX9_lay 3 := ⟨rfl, lw_of (i := 1105) (by decide +kernel), lw_of (i := 9) (by decide +kernel), by decide +kernel, by decide +kernel⟩
theorem nX9_lay : Cond.instanceMethod yX9_lay ∈ lw_tbl := lw_of (i := 1104) (by decide +kernel)
theorem eX9_lay : Cond.selects yX9_lay.cls yX9_lay yX9_lay ∈ lw_tbl := List.mem_append_left _ (by decide +kernel)
def mX9_drumAt : MD := (yX9_drumAt, cX9_drumAt, 3, (some FieldType.int), { frames := 1, cells := 0, slots := 0, locals := 64 }, [])
theorem oX9_drumAt : fOK mX9_drumAt 2 := ⟨rfl, lw_of (i := 1089) (by decide +kernel), lw_of (i := 9) (by decide +kernel), by decide +kernel, by decide +kernel⟩
theorem nX9_drumAt : Cond.instanceMethod yX9_drumAt ∈ lw_tbl := lw_of (i := 1088) (by decide +kernel)
theorem eX9_drumAt : Cond.selects yX9_drumAt.cls yX9_drumAt yX9_drumAt ∈ lw_tbl := List.mem_append_left _ (by decide +kernel)
def mX9_needleAt : MD := (yX9_needleAt, cX9_needleAt, 3, (some FieldType.int), { frames := 1, cells := 0, slots := 0, locals := 64 }, [])
theorem oX9_needleAt : fOK mX9_needleAt 2 := ⟨rfl, lw_of (i := 1170) (by decide +kernel), lw_of (i := 9) (by decide +kernel), by decide +kernel, by decide +kernel⟩
theorem nX9_needleAt : Cond.instanceMethod yX9_needleAt ∈ lw_tbl := lw_of (i := 1169) (by decide +kernel)
theorem eX9_needleAt : Cond.selects yX9_needleAt.cls yX9_needleAt yX9_needleAt ∈ lw_tbl := List.mem_append_left _ (by decide +kernel)
def mX9_warmed : MD := (yX9_warmed, cX9_warmed, 3, (some FieldType.int), { frames := 2, cells := 0, slots := 0, locals := 86 }, [])
theorem oX9_warmed : fOK mX9_warmed 2 := ⟨rfl, lw_of (i := 1155) (by decide +kernel), lw_of (i := 9) (by decide +kernel), by decide +kernel, by decide +kernel⟩
theorem sX9_warmed : Cond.static yX9_warmed ∈ lw_tbl := lw_of (i := 1154) (by decide +kernel)
def mX9_inBath : MD := (yX9_inBath, cX9_inBath, 4, (some FieldType.int), { frames := 2, cells := 0, slots := 0, locals := 86 }, [])
theorem oX9_inBath : fOK mX9_inBath 1 := ⟨rfl, lw_of (i := 1136) (by decide +kernel), lw_of (i := 9) (by decide +kernel), by decide +kernel, by decide +kernel⟩
theorem nX9_inBath : Cond.instanceMethod yX9_inBath ∈ lw_tbl := lw_of (i := 1135) (by decide +kernel)
theorem eX9_inBath : Cond.selects yX9_inBath.cls yX9_inBath yX9_inBath ∈ lw_tbl := List.mem_append_left _ (by decide +kernel)
def mX9_hasRoom : MD := (yX9_hasRoom, cX9_hasRoom, 3, (some FieldType.boolean), { frames := 3, cells := 0, slots := 0, locals := 109 }, [])
theorem oX9_hasRoom : fOK mX9_hasRoom 2 := ⟨rfl, lw_of (i := 1132) (by decide +kernel), lw_of (i := 9) (by decide +kernel), by decide +kernel, by decide +kernel⟩
theorem nX9_hasRoom : Cond.instanceMethod yX9_hasRoom ∈ lw_tbl := lw_of (i := 1131) (by decide +kernel)
theorem eX9_hasRoom : Cond.selects yX9_hasRoom.cls yX9_hasRoom yX9_hasRoom ∈ lw_tbl := List.mem_append_left _ (by decide +kernel)
def mX9_passes : MD := (yX9_passes, cX9_passes, 4, (some FieldType.int), { frames := 3, cells := 0, slots := 0, locals := 108 }, [])
theorem oX9_passes : fOK mX9_passes 1 := ⟨rfl, lw_of (i := 1152) (by decide +kernel), lw_of (i := 9) (by decide +kernel), by decide +kernel, by decide +kernel⟩
theorem nX9_passes : Cond.instanceMethod yX9_passes ∈ lw_tbl := lw_of (i := 1151) (by decide +kernel)
theorem eX9_passes : Cond.selects yX9_passes.cls yX9_passes yX9_passes ∈ lw_tbl := List.mem_append_left _ (by decide +kernel)
def mX9_ready : MD := (yX9_ready, cX9_ready, 5, (some FieldType.int), { frames := 3, cells := 0, slots := 0, locals := 108 }, [])
theorem oX9_ready : fOK mX9_ready 2 := ⟨rfl, lw_of (i := 1388) (by decide +kernel), lw_of (i := 9) (by decide +kernel), by decide +kernel, by decide +kernel⟩
theorem nX9_ready : Cond.instanceMethod yX9_ready ∈ lw_tbl := lw_of (i := 1387) (by decide +kernel)
theorem eX9_ready : Cond.selects yX9_ready.cls yX9_ready yX9_ready ∈ lw_tbl := List.mem_append_left _ (by decide +kernel)
def mX9_depth : MD := (yX9_depth, cX9_depth, 7, (some FieldType.int), { frames := 2, cells := 0, slots := 0, locals := 86 }, [])
theorem oX9_depth : fOK mX9_depth 4 := ⟨rfl, lw_of (i := 1181) (by decide +kernel), lw_of (i := 9) (by decide +kernel), by decide +kernel, by decide +kernel⟩
theorem nX9_depth : Cond.instanceMethod yX9_depth ∈ lw_tbl := lw_of (i := 1180) (by decide +kernel)
theorem eX9_depth : Cond.selects yX9_depth.cls yX9_depth yX9_depth ∈ lw_tbl := List.mem_append_left _ (by decide +kernel)
def mX9_whyNot : MD := (yX9_whyNot, cX9_whyNot, 4, (some FieldType.int), { frames := 2, cells := 0, slots := 0, locals := 86 }, [])
theorem oX9_whyNot : fOK mX9_whyNot 2 := ⟨rfl, lw_of (i := 1166) (by decide +kernel), lw_of (i := 9) (by decide +kernel), by decide +kernel, by decide +kernel⟩
theorem nX9_whyNot : Cond.instanceMethod yX9_whyNot ∈ lw_tbl := lw_of (i := 1165) (by decide +kernel)
theorem eX9_whyNot : Cond.selects yX9_whyNot.cls yX9_whyNot yX9_whyNot ∈ lw_tbl := List.mem_append_left _ (by decide +kernel)
def mX9_sinks : MD := (yX9_sinks, cX9_sinks, 8, (some FieldType.int), { frames := 3, cells := 0, slots := 0, locals := 112 }, [])
theorem oX9_sinks : fOK mX9_sinks 4 := ⟨rfl, lw_of (i := 1177) (by decide +kernel), lw_of (i := 9) (by decide +kernel), by decide +kernel, by decide +kernel⟩
theorem nX9_sinks : Cond.instanceMethod yX9_sinks ∈ lw_tbl := lw_of (i := 1176) (by decide +kernel)
theorem eX9_sinks : Cond.selects yX9_sinks.cls yX9_sinks yX9_sinks ∈ lw_tbl := List.mem_append_left _ (by decide +kernel)
def mX9_latest : MD := (yX9_latest, cX9_latest, 4, (some FieldType.int), { frames := 2, cells := 0, slots := 0, locals := 86 }, [])
theorem oX9_latest : fOK mX9_latest 3 := ⟨rfl, lw_of (i := 1213) (by decide +kernel), lw_of (i := 9) (by decide +kernel), by decide +kernel, by decide +kernel⟩
theorem nX9_latest : Cond.instanceMethod yX9_latest ∈ lw_tbl := lw_of (i := 1212) (by decide +kernel)
theorem eX9_latest : Cond.selects yX9_latest.cls yX9_latest yX9_latest ∈ lw_tbl := List.mem_append_left _ (by decide +kernel)
def mX9_whyNone : MD := (yX9_whyNone, cX9_whyNone, 7, (some FieldType.int), { frames := 3, cells := 0, slots := 0, locals := 109 }, [])
theorem oX9_whyNone : fOK mX9_whyNone 1 := ⟨rfl, lw_of (i := 1209) (by decide +kernel), lw_of (i := 9) (by decide +kernel), by decide +kernel, by decide +kernel⟩
theorem nX9_whyNone : Cond.instanceMethod yX9_whyNone ∈ lw_tbl := lw_of (i := 1208) (by decide +kernel)
theorem eX9_whyNone : Cond.selects yX9_whyNone.cls yX9_whyNone yX9_whyNone ∈ lw_tbl := List.mem_append_left _ (by decide +kernel)
def mX9_penetration : MD := (yX9_penetration, cX9_penetration, 2, (some FieldType.int), { frames := 4, cells := 0, slots := 0, locals := 135 }, [])
theorem oX9_penetration : fOK mX9_penetration 1 := ⟨rfl, lw_of (i := 1205) (by decide +kernel), lw_of (i := 9) (by decide +kernel), by decide +kernel, by decide +kernel⟩
theorem nX9_penetration : Cond.instanceMethod yX9_penetration ∈ lw_tbl := lw_of (i := 1204) (by decide +kernel)
theorem eX9_penetration : Cond.selects yX9_penetration.cls yX9_penetration yX9_penetration ∈ lw_tbl := List.mem_append_left _ (by decide +kernel)
def mX9_needles : MD := (yX9_needles, cX9_needles, 4, (some FieldType.int), { frames := 3, cells := 0, slots := 0, locals := 109 }, [])
theorem oX9_needles : fOK mX9_needles 1 := ⟨rfl, lw_of (i := 1217) (by decide +kernel), lw_of (i := 9) (by decide +kernel), by decide +kernel, by decide +kernel⟩
theorem nX9_needles : Cond.instanceMethod yX9_needles ∈ lw_tbl := lw_of (i := 1216) (by decide +kernel)
theorem eX9_needles : Cond.selects yX9_needles.cls yX9_needles yX9_needles ∈ lw_tbl := List.mem_append_left _ (by decide +kernel)
def mX9_rings : MD := (yX9_rings, cX9_rings, 3, (some FieldType.int), { frames := 2, cells := 0, slots := 0, locals := 87 }, [])
theorem oX9_rings : fOK mX9_rings 1 := ⟨rfl, lw_of (i := 1193) (by decide +kernel), lw_of (i := 9) (by decide +kernel), by decide +kernel, by decide +kernel⟩
theorem nX9_rings : Cond.instanceMethod yX9_rings ∈ lw_tbl := lw_of (i := 1192) (by decide +kernel)
theorem eX9_rings : Cond.selects yX9_rings.cls yX9_rings yX9_rings ∈ lw_tbl := List.mem_append_left _ (by decide +kernel)
def mX9_hardness : MD := (yX9_hardness, cX9_hardness, 2, (some FieldType.int), { frames := 2, cells := 0, slots := 0, locals := 86 }, [])
theorem oX9_hardness : fOK mX9_hardness 1 := ⟨rfl, lw_of (i := 1109) (by decide +kernel), lw_of (i := 9) (by decide +kernel), by decide +kernel, by decide +kernel⟩
theorem nX9_hardness : Cond.instanceMethod yX9_hardness ∈ lw_tbl := lw_of (i := 1108) (by decide +kernel)
theorem eX9_hardness : Cond.selects yX9_hardness.cls yX9_hardness yX9_hardness ∈ lw_tbl := List.mem_append_left _ (by decide +kernel)
def mX9_samplesOf : MD := (yX9_samplesOf, cX9_samplesOf, 4, (some FieldType.int), { frames := 2, cells := 0, slots := 0, locals := 86 }, [])
theorem oX9_samplesOf : fOK mX9_samplesOf 1 := ⟨rfl, lw_of (i := 1316) (by decide +kernel), lw_of (i := 9) (by decide +kernel), by decide +kernel, by decide +kernel⟩
theorem nX9_samplesOf : Cond.instanceMethod yX9_samplesOf ∈ lw_tbl := lw_of (i := 1315) (by decide +kernel)
theorem eX9_samplesOf : Cond.selects yX9_samplesOf.cls yX9_samplesOf yX9_samplesOf ∈ lw_tbl := List.mem_append_left _ (by decide +kernel)
def mX9_told : MD := (yX9_told, cX9_told, 3, (some FieldType.int), { frames := 5, cells := 0, slots := 0, locals := 156 }, [])
theorem oX9_told : fOK mX9_told 2 := ⟨rfl, lw_of (i := 1225) (by decide +kernel), lw_of (i := 9) (by decide +kernel), by decide +kernel, by decide +kernel⟩
theorem nX9_told : Cond.instanceMethod yX9_told ∈ lw_tbl := lw_of (i := 1224) (by decide +kernel)
theorem eX9_told : Cond.selects yX9_told.cls yX9_told yX9_told ∈ lw_tbl := List.mem_append_left _ (by decide +kernel)
def mX9_mean : MD := (yX9_mean, cX9_mean, 7, (some FieldType.int), { frames := 6, cells := 0, slots := 0, locals := 178 }, [])
theorem oX9_mean : fOK mX9_mean 2 := ⟨rfl, lw_of (i := 1221) (by decide +kernel), lw_of (i := 9) (by decide +kernel), by decide +kernel, by decide +kernel⟩
theorem nX9_mean : Cond.instanceMethod yX9_mean ∈ lw_tbl := lw_of (i := 1220) (by decide +kernel)
theorem eX9_mean : Cond.selects yX9_mean.cls yX9_mean yX9_mean ∈ lw_tbl := List.mem_append_left _ (by decide +kernel)
def mX9_index : MD := (yX9_index, cX9_index, 4, (some FieldType.int), { frames := 7, cells := 0, slots := 0, locals := 204 }, [])
theorem oX9_index : fOK mX9_index 1 := ⟨rfl, lw_of (i := 1229) (by decide +kernel), lw_of (i := 9) (by decide +kernel), by decide +kernel, by decide +kernel⟩
theorem nX9_index : Cond.instanceMethod yX9_index ∈ lw_tbl := lw_of (i := 1228) (by decide +kernel)
theorem eX9_index : Cond.selects yX9_index.cls yX9_index yX9_index ∈ lw_tbl := List.mem_append_left _ (by decide +kernel)
def mX9_whyNotSold : MD := (yX9_whyNotSold, cX9_whyNotSold, 6, (some FieldType.int), { frames := 8, cells := 0, slots := 0, locals := 227 }, [])
theorem oX9_whyNotSold : fOK mX9_whyNotSold 1 := ⟨rfl, lw_of (i := 1201) (by decide +kernel), lw_of (i := 9) (by decide +kernel), by decide +kernel, by decide +kernel⟩
theorem nX9_whyNotSold : Cond.instanceMethod yX9_whyNotSold ∈ lw_tbl := lw_of (i := 1200) (by decide +kernel)
theorem eX9_whyNotSold : Cond.selects yX9_whyNotSold.cls yX9_whyNotSold yX9_whyNotSold ∈ lw_tbl := List.mem_append_left _ (by decide +kernel)
def mX9_sells : MD := (yX9_sells, cX9_sells, 2, (some FieldType.int), { frames := 7, cells := 0, slots := 0, locals := 204 }, [])
theorem oX9_sells : fOK mX9_sells 1 := ⟨rfl, lw_of (i := 1233) (by decide +kernel), lw_of (i := 9) (by decide +kernel), by decide +kernel, by decide +kernel⟩
theorem nX9_sells : Cond.instanceMethod yX9_sells ∈ lw_tbl := lw_of (i := 1232) (by decide +kernel)
theorem eX9_sells : Cond.selects yX9_sells.cls yX9_sells yX9_sells ∈ lw_tbl := List.mem_append_left _ (by decide +kernel)
def mX9_takes : MD := (yX9_takes, cX9_takes, 3, (some FieldType.int), { frames := 3, cells := 0, slots := 0, locals := 107 }, [])
theorem oX9_takes : fOK mX9_takes 1 := ⟨rfl, lw_of (i := 1101) (by decide +kernel), lw_of (i := 9) (by decide +kernel), by decide +kernel, by decide +kernel⟩
theorem nX9_takes : Cond.instanceMethod yX9_takes ∈ lw_tbl := lw_of (i := 1100) (by decide +kernel)
theorem eX9_takes : Cond.selects yX9_takes.cls yX9_takes yX9_takes ∈ lw_tbl := List.mem_append_left _ (by decide +kernel)
def mX9_copies : MD := (yX9_copies, cX9_copies, 4, (none : Option FieldType), { frames := 1, cells := 0, slots := 0, locals := 64 }, [])
theorem oX9_copies : fOK mX9_copies 2 := ⟨rfl, lw_of (i := 1081) (by decide +kernel), lw_of (i := 9) (by decide +kernel), by decide +kernel, by decide +kernel⟩
theorem nX9_copies : Cond.instanceMethod yX9_copies ∈ lw_tbl := lw_of (i := 1080) (by decide +kernel)
theorem eX9_copies : Cond.selects yX9_copies.cls yX9_copies yX9_copies ∈ lw_tbl := List.mem_append_left _ (by decide +kernel)
def mX9_save : MD := (yX9_save, cX9_save, 2, (none : Option FieldType), { frames := 2, cells := 0, slots := 0, locals := 87 }, [])
theorem oX9_save : fOK mX9_save 0 := ⟨rfl, lw_of (i := 1077) (by decide +kernel), lw_of (i := 9) (by decide +kernel), by decide +kernel, by decide +kernel⟩
theorem nX9_save : Cond.instanceMethod yX9_save ∈ lw_tbl := lw_of (i := 1076) (by decide +kernel)
theorem eX9_save : Cond.selects yX9_save.cls yX9_save yX9_save ∈ lw_tbl := List.mem_append_left _ (by decide +kernel)
def mX9_changed : MD := (yX9_changed, cX9_changed, 4, (some FieldType.int), { frames := 3, cells := 0, slots := 0, locals := 108 }, [])
theorem oX9_changed : fOK mX9_changed 2 := ⟨rfl, lw_of (i := 1140) (by decide +kernel), lw_of (i := 9) (by decide +kernel), by decide +kernel, by decide +kernel⟩
theorem nX9_changed : Cond.instanceMethod yX9_changed ∈ lw_tbl := lw_of (i := 1139) (by decide +kernel)
theorem eX9_changed : Cond.selects yX9_changed.cls yX9_changed yX9_changed ∈ lw_tbl := List.mem_append_left _ (by decide +kernel)
def mX9_drum : MD := (yX9_drum, cX9_drum, 3, (some FieldType.int), { frames := 3, cells := 0, slots := 0, locals := 108 }, [])
theorem oX9_drum : fOK mX9_drum 1 := ⟨rfl, lw_of (i := 1066) (by decide +kernel), lw_of (i := 9) (by decide +kernel), by decide +kernel, by decide +kernel⟩
theorem nX9_drum : Cond.instanceMethod yX9_drum ∈ lw_tbl := lw_of (i := 1064) (by decide +kernel)
theorem eX9_drum : Cond.selects yX9_drum.cls yX9_drum yX9_drum ∈ lw_tbl := lw_of (i := 1065) (by decide +kernel)
def mX9_age : MD := (yX9_age, cX9_age, 5, (some FieldType.int), { frames := 3, cells := 0, slots := 0, locals := 108 }, [])
theorem oX9_age : fOK mX9_age 1 := ⟨rfl, lw_of (i := 1085) (by decide +kernel), lw_of (i := 9) (by decide +kernel), by decide +kernel, by decide +kernel⟩
theorem nX9_age : Cond.instanceMethod yX9_age ∈ lw_tbl := lw_of (i := 1083) (by decide +kernel)
theorem eX9_age : Cond.selects yX9_age.cls yX9_age yX9_age ∈ lw_tbl := lw_of (i := 1084) (by decide +kernel)
def mX9_sample : MD := (yX9_sample, cX9_sample, 2, (some FieldType.int), { frames := 4, cells := 0, slots := 0, locals := 129 }, [])
theorem oX9_sample : fOK mX9_sample 1 := ⟨rfl, lw_of (i := 1093) (by decide +kernel), lw_of (i := 9) (by decide +kernel), by decide +kernel, by decide +kernel⟩
theorem nX9_sample : Cond.instanceMethod yX9_sample ∈ lw_tbl := lw_of (i := 1091) (by decide +kernel)
theorem eX9_sample : Cond.selects yX9_sample.cls yX9_sample yX9_sample ∈ lw_tbl := lw_of (i := 1092) (by decide +kernel)
def mX9_toss : MD := (yX9_toss, cX9_toss, 4, (some FieldType.int), { frames := 3, cells := 0, slots := 0, locals := 108 }, [])
theorem oX9_toss : fOK mX9_toss 1 := ⟨rfl, lw_of (i := 1113) (by decide +kernel), lw_of (i := 9) (by decide +kernel), by decide +kernel, by decide +kernel⟩
theorem nX9_toss : Cond.instanceMethod yX9_toss ∈ lw_tbl := lw_of (i := 1111) (by decide +kernel)
theorem eX9_toss : Cond.selects yX9_toss.cls yX9_toss yX9_toss ∈ lw_tbl := lw_of (i := 1112) (by decide +kernel)
def mX9_bath : MD := (yX9_bath, cX9_bath, 4, (some FieldType.int), { frames := 4, cells := 0, slots := 0, locals := 131 }, [])
theorem oX9_bath : fOK mX9_bath 2 := ⟨rfl, lw_of (i := 1125) (by decide +kernel), lw_of (i := 9) (by decide +kernel), by decide +kernel, by decide +kernel⟩
theorem nX9_bath : Cond.instanceMethod yX9_bath ∈ lw_tbl := lw_of (i := 1123) (by decide +kernel)
theorem eX9_bath : Cond.selects yX9_bath.cls yX9_bath yX9_bath ∈ lw_tbl := lw_of (i := 1124) (by decide +kernel)
def mX9_warm : MD := (yX9_warm, cX9_warm, 3, (some FieldType.int), { frames := 4, cells := 0, slots := 0, locals := 131 }, [])
theorem oX9_warm : fOK mX9_warm 2 := ⟨rfl, lw_of (i := 1144) (by decide +kernel), lw_of (i := 9) (by decide +kernel), by decide +kernel, by decide +kernel⟩
theorem nX9_warm : Cond.instanceMethod yX9_warm ∈ lw_tbl := lw_of (i := 1142) (by decide +kernel)
theorem eX9_warm : Cond.selects yX9_warm.cls yX9_warm yX9_warm ∈ lw_tbl := lw_of (i := 1143) (by decide +kernel)
def mX9_pass : MD := (yX9_pass, cX9_pass, 2, (some FieldType.int), { frames := 4, cells := 0, slots := 0, locals := 131 }, [])
theorem oX9_pass : fOK mX9_pass 1 := ⟨rfl, lw_of (i := 1148) (by decide +kernel), lw_of (i := 9) (by decide +kernel), by decide +kernel, by decide +kernel⟩
theorem nX9_pass : Cond.instanceMethod yX9_pass ∈ lw_tbl := lw_of (i := 1146) (by decide +kernel)
theorem eX9_pass : Cond.selects yX9_pass.cls yX9_pass yX9_pass ∈ lw_tbl := lw_of (i := 1147) (by decide +kernel)
def mX9_sink : MD := (yX9_sink, cX9_sink, 7, (some FieldType.int), { frames := 4, cells := 0, slots := 0, locals := 139 }, [])
theorem oX9_sink : fOK mX9_sink 4 := ⟨rfl, lw_of (i := 1162) (by decide +kernel), lw_of (i := 9) (by decide +kernel), by decide +kernel, by decide +kernel⟩
theorem nX9_sink : Cond.instanceMethod yX9_sink ∈ lw_tbl := lw_of (i := 1160) (by decide +kernel)
theorem eX9_sink : Cond.selects yX9_sink.cls yX9_sink yX9_sink ∈ lw_tbl := lw_of (i := 1161) (by decide +kernel)
def mX9_renew : MD := (yX9_renew, cX9_renew, 3, (some FieldType.int), { frames := 4, cells := 0, slots := 0, locals := 131 }, [])
theorem oX9_renew : fOK mX9_renew 1 := ⟨rfl, lw_of (i := 1185) (by decide +kernel), lw_of (i := 9) (by decide +kernel), by decide +kernel, by decide +kernel⟩
theorem nX9_renew : Cond.instanceMethod yX9_renew ∈ lw_tbl := lw_of (i := 1183) (by decide +kernel)
theorem eX9_renew : Cond.selects yX9_renew.cls yX9_renew yX9_renew ∈ lw_tbl := lw_of (i := 1184) (by decide +kernel)
def mX9_ring : MD := (yX9_ring, cX9_ring, 3, (some FieldType.int), { frames := 3, cells := 0, slots := 0, locals := 109 }, [])
theorem oX9_ring : fOK mX9_ring 1 := ⟨rfl, lw_of (i := 1189) (by decide +kernel), lw_of (i := 9) (by decide +kernel), by decide +kernel, by decide +kernel⟩
theorem nX9_ring : Cond.instanceMethod yX9_ring ∈ lw_tbl := lw_of (i := 1187) (by decide +kernel)
theorem eX9_ring : Cond.selects yX9_ring.cls yX9_ring yX9_ring ∈ lw_tbl := lw_of (i := 1188) (by decide +kernel)
def mX9_sell : MD := (yX9_sell, cX9_sell, 3, (some FieldType.int), { frames := 9, cells := 0, slots := 0, locals := 252 }, [])
theorem oX9_sell : fOK mX9_sell 1 := ⟨rfl, lw_of (i := 1197) (by decide +kernel), lw_of (i := 9) (by decide +kernel), by decide +kernel, by decide +kernel⟩
theorem nX9_sell : Cond.instanceMethod yX9_sell ∈ lw_tbl := lw_of (i := 1195) (by decide +kernel)
theorem eX9_sell : Cond.selects yX9_sell.cls yX9_sell yX9_sell ∈ lw_tbl := lw_of (i := 1196) (by decide +kernel)
def mX9_set : MD := (yX9_set, cX9_set, 4, (some FieldType.int), { frames := 4, cells := 0, slots := 0, locals := 131 }, [])
theorem oX9_set : fOK mX9_set 2 := ⟨rfl, lw_of (i := 1237) (by decide +kernel), lw_of (i := 9) (by decide +kernel), by decide +kernel, by decide +kernel⟩
theorem nX9_set : Cond.instanceMethod yX9_set ∈ lw_tbl := lw_of (i := 1235) (by decide +kernel)
theorem eX9_set : Cond.selects yX9_set.cls yX9_set yX9_set ∈ lw_tbl := lw_of (i := 1236) (by decide +kernel)
def mX9_append : MD := (yX9_append, cX9_append, 2, (some FieldType.int), { frames := 2, cells := 0, slots := 0, locals := 86 }, [])
theorem oX9_append : fOK mX9_append 1 := ⟨rfl, lw_of (i := 1241) (by decide +kernel), lw_of (i := 9) (by decide +kernel), by decide +kernel, by decide +kernel⟩
theorem nX9_append : Cond.instanceMethod yX9_append ∈ lw_tbl := lw_of (i := 1239) (by decide +kernel)
theorem eX9_append : Cond.selects yX9_append.cls yX9_append yX9_append ∈ lw_tbl := lw_of (i := 1240) (by decide +kernel)
def mX9_clearBuffer : MD := (yX9_clearBuffer, cX9_clearBuffer, 2, (some FieldType.int), { frames := 1, cells := 0, slots := 0, locals := 64 }, [])
theorem oX9_clearBuffer : fOK mX9_clearBuffer 0 := ⟨rfl, lw_of (i := 1245) (by decide +kernel), lw_of (i := 9) (by decide +kernel), by decide +kernel, by decide +kernel⟩
theorem nX9_clearBuffer : Cond.instanceMethod yX9_clearBuffer ∈ lw_tbl := lw_of (i := 1243) (by decide +kernel)
theorem eX9_clearBuffer : Cond.selects yX9_clearBuffer.cls yX9_clearBuffer yX9_clearBuffer ∈ lw_tbl := lw_of (i := 1244) (by decide +kernel)
def mX9_sign : MD := (yX9_sign, cX9_sign, 1, (some FieldType.int), { frames := 1, cells := 0, slots := 0, locals := 64 }, [])
theorem oX9_sign : fOK mX9_sign 0 := ⟨rfl, lw_of (i := 1261) (by decide +kernel), lw_of (i := 9) (by decide +kernel), by decide +kernel, by decide +kernel⟩
theorem nX9_sign : Cond.instanceMethod yX9_sign ∈ lw_tbl := lw_of (i := 1260) (by decide +kernel)
theorem eX9_sign : Cond.selects yX9_sign.cls yX9_sign yX9_sign ∈ lw_tbl := List.mem_append_left _ (by decide +kernel)
def mX9_takesSign : MD := (yX9_takesSign, cX9_takesSign, 3, (some FieldType.boolean), { frames := 2, cells := 0, slots := 0, locals := 84 }, [])
theorem oX9_takesSign : fOK mX9_takesSign 1 := ⟨rfl, lw_of (i := 1269) (by decide +kernel), lw_of (i := 9) (by decide +kernel), by decide +kernel, by decide +kernel⟩
theorem nX9_takesSign : Cond.instanceMethod yX9_takesSign ∈ lw_tbl := lw_of (i := 1268) (by decide +kernel)
theorem eX9_takesSign : Cond.selects yX9_takesSign.cls yX9_takesSign yX9_takesSign ∈ lw_tbl := List.mem_append_left _ (by decide +kernel)
def mX9_readsDigit : MD := (yX9_readsDigit, cX9_readsDigit, 4, (some FieldType.boolean), { frames := 2, cells := 0, slots := 0, locals := 86 }, [])
theorem oX9_readsDigit : fOK mX9_readsDigit 2 := ⟨rfl, lw_of (i := 1265) (by decide +kernel), lw_of (i := 9) (by decide +kernel), by decide +kernel, by decide +kernel⟩
theorem nX9_readsDigit : Cond.instanceMethod yX9_readsDigit ∈ lw_tbl := lw_of (i := 1264) (by decide +kernel)
theorem eX9_readsDigit : Cond.selects yX9_readsDigit.cls yX9_readsDigit yX9_readsDigit ∈ lw_tbl := List.mem_append_left _ (by decide +kernel)
def mX9_begins : MD := (yX9_begins, cX9_begins, 6, (some FieldType.boolean), { frames := 1, cells := 0, slots := 0, locals := 64 }, [])
theorem oX9_begins : fOK mX9_begins 3 := ⟨rfl, lw_of (i := 1276) (by decide +kernel), lw_of (i := 9) (by decide +kernel), by decide +kernel, by decide +kernel⟩
theorem sX9_begins : Cond.static yX9_begins ∈ lw_tbl := lw_of (i := 1275) (by decide +kernel)
def mX9_readsNumber : MD := (yX9_readsNumber, cX9_readsNumber, 5, (some FieldType.boolean), { frames := 2, cells := 0, slots := 0, locals := 89 }, [])
theorem oX9_readsNumber : fOK mX9_readsNumber 3 := ⟨rfl, lw_of (i := 1273) (by decide +kernel), lw_of (i := 9) (by decide +kernel), by decide +kernel, by decide +kernel⟩
theorem nX9_readsNumber : Cond.instanceMethod yX9_readsNumber ∈ lw_tbl := lw_of (i := 1272) (by decide +kernel)
theorem eX9_readsNumber : Cond.selects yX9_readsNumber.cls yX9_readsNumber yX9_readsNumber ∈ lw_tbl := List.mem_append_left _ (by decide +kernel)
def mX9_readsPart : MD := (yX9_readsPart, cX9_readsPart, 1, (some FieldType.boolean), { frames := 3, cells := 0, slots := 0, locals := 113 }, [])
theorem oX9_readsPart : fOK mX9_readsPart 0 := ⟨rfl, lw_of (i := 1257) (by decide +kernel), lw_of (i := 9) (by decide +kernel), by decide +kernel, by decide +kernel⟩
theorem nX9_readsPart : Cond.instanceMethod yX9_readsPart ∈ lw_tbl := lw_of (i := 1256) (by decide +kernel)
theorem eX9_readsPart : Cond.selects yX9_readsPart.cls yX9_readsPart yX9_readsPart ∈ lw_tbl := List.mem_append_left _ (by decide +kernel)
def mX9_areOrders : MD := (yX9_areOrders, cX9_areOrders, 1, (some FieldType.boolean), { frames := 4, cells := 0, slots := 0, locals := 133 }, [])
theorem oX9_areOrders : fOK mX9_areOrders 0 := ⟨rfl, lw_of (i := 1253) (by decide +kernel), lw_of (i := 9) (by decide +kernel), by decide +kernel, by decide +kernel⟩
theorem nX9_areOrders : Cond.instanceMethod yX9_areOrders ∈ lw_tbl := lw_of (i := 1252) (by decide +kernel)
theorem eX9_areOrders : Cond.selects yX9_areOrders.cls yX9_areOrders yX9_areOrders ∈ lw_tbl := List.mem_append_left _ (by decide +kernel)
def mX9_firstError : MD := (yX9_firstError, cX9_firstError, 1, (some FieldType.int), { frames := 5, cells := 0, slots := 0, locals := 153 }, [])
theorem oX9_firstError : fOK mX9_firstError 0 := ⟨rfl, lw_of (i := 1249) (by decide +kernel), lw_of (i := 9) (by decide +kernel), by decide +kernel, by decide +kernel⟩
theorem nX9_firstError : Cond.instanceMethod yX9_firstError ∈ lw_tbl := lw_of (i := 1247) (by decide +kernel)
theorem eX9_firstError : Cond.selects yX9_firstError.cls yX9_firstError yX9_firstError ∈ lw_tbl := lw_of (i := 1248) (by decide +kernel)
def mX9_stops : MD := (yX9_stops, cX9_stops, 1, (some FieldType.int), { frames := 9, cells := 0, slots := 0, locals := 252 }, [])
theorem oX9_stops : fOK mX9_stops 0 := ⟨rfl, lw_of (i := 1284) (by decide +kernel), lw_of (i := 9) (by decide +kernel), by decide +kernel, by decide +kernel⟩
theorem nX9_stops : Cond.instanceMethod yX9_stops ∈ lw_tbl := lw_of (i := 1283) (by decide +kernel)
theorem eX9_stops : Cond.selects yX9_stops.cls yX9_stops yX9_stops ∈ lw_tbl := List.mem_append_left _ (by decide +kernel)
def mX9_does : MD := (yX9_does, cX9_does, 1, (none : Option FieldType), { frames := 8, cells := 0, slots := 0, locals := 225 }, [])
theorem oX9_does : fOK mX9_does 0 := ⟨rfl, lw_of (i := 1288) (by decide +kernel), lw_of (i := 9) (by decide +kernel), by decide +kernel, by decide +kernel⟩
theorem nX9_does : Cond.instanceMethod yX9_does ∈ lw_tbl := lw_of (i := 1287) (by decide +kernel)
theorem eX9_does : Cond.selects yX9_does.cls yX9_does yX9_does ∈ lw_tbl := List.mem_append_left _ (by decide +kernel)
def mX9_obey : MD := (yX9_obey, cX9_obey, 3, (some FieldType.int), { frames := 10, cells := 0, slots := 0, locals := 272 }, [])
theorem oX9_obey : fOK mX9_obey 0 := ⟨rfl, lw_of (i := 1280) (by decide +kernel), lw_of (i := 9) (by decide +kernel), by decide +kernel, by decide +kernel⟩
theorem nX9_obey : Cond.instanceMethod yX9_obey ∈ lw_tbl := lw_of (i := 1278) (by decide +kernel)
theorem eX9_obey : Cond.selects yX9_obey.cls yX9_obey yX9_obey ∈ lw_tbl := lw_of (i := 1279) (by decide +kernel)
def mX9_stopped : MD := (yX9_stopped, cX9_stopped, 2, (some FieldType.int), { frames := 2, cells := 0, slots := 0, locals := 86 }, [])
theorem oX9_stopped : fOK mX9_stopped 1 := ⟨rfl, lw_of (i := 1292) (by decide +kernel), lw_of (i := 9) (by decide +kernel), by decide +kernel, by decide +kernel⟩
theorem nX9_stopped : Cond.instanceMethod yX9_stopped ∈ lw_tbl := lw_of (i := 1290) (by decide +kernel)
theorem eX9_stopped : Cond.selects yX9_stopped.cls yX9_stopped yX9_stopped ∈ lw_tbl := lw_of (i := 1291) (by decide +kernel)
def mX9_undo : MD := (yX9_undo, cX9_undo, 1, (some FieldType.int), { frames := 2, cells := 0, slots := 0, locals := 87 }, [])
theorem oX9_undo : fOK mX9_undo 0 := ⟨rfl, lw_of (i := 1296) (by decide +kernel), lw_of (i := 9) (by decide +kernel), by decide +kernel, by decide +kernel⟩
theorem nX9_undo : Cond.instanceMethod yX9_undo ∈ lw_tbl := lw_of (i := 1294) (by decide +kernel)
theorem eX9_undo : Cond.selects yX9_undo.cls yX9_undo yX9_undo ∈ lw_tbl := lw_of (i := 1295) (by decide +kernel)
def mX9_keep : MD := (yX9_keep, cX9_keep, 1, (some FieldType.int), { frames := 2, cells := 0, slots := 0, locals := 87 }, [])
theorem oX9_keep : fOK mX9_keep 0 := ⟨rfl, lw_of (i := 1300) (by decide +kernel), lw_of (i := 9) (by decide +kernel), by decide +kernel, by decide +kernel⟩
theorem nX9_keep : Cond.instanceMethod yX9_keep ∈ lw_tbl := lw_of (i := 1298) (by decide +kernel)
theorem eX9_keep : Cond.selects yX9_keep.cls yX9_keep yX9_keep ∈ lw_tbl := lw_of (i := 1299) (by decide +kernel)
def mX9_restore : MD := (yX9_restore, cX9_restore, 1, (some FieldType.int), { frames := 3, cells := 0, slots := 0, locals := 108 }, [])
theorem oX9_restore : fOK mX9_restore 0 := ⟨rfl, lw_of (i := 1304) (by decide +kernel), lw_of (i := 9) (by decide +kernel), by decide +kernel, by decide +kernel⟩
theorem nX9_restore : Cond.instanceMethod yX9_restore ∈ lw_tbl := lw_of (i := 1302) (by decide +kernel)
theorem eX9_restore : Cond.selects yX9_restore.cls yX9_restore yX9_restore ∈ lw_tbl := lw_of (i := 1303) (by decide +kernel)
def mX9_ofDrum : MD := (yX9_ofDrum, cX9_ofDrum, 3, (some FieldType.int), { frames := 8, cells := 0, slots := 0, locals := 227 }, [])
theorem oX9_ofDrum : fOK mX9_ofDrum 2 := ⟨rfl, lw_of (i := 1312) (by decide +kernel), lw_of (i := 9) (by decide +kernel), by decide +kernel, by decide +kernel⟩
theorem nX9_ofDrum : Cond.instanceMethod yX9_ofDrum ∈ lw_tbl := lw_of (i := 1311) (by decide +kernel)
theorem eX9_ofDrum : Cond.selects yX9_ofDrum.cls yX9_ofDrum yX9_ofDrum ∈ lw_tbl := List.mem_append_left _ (by decide +kernel)
def mX9_drumOf : MD := (yX9_drumOf, cX9_drumOf, 3, (some FieldType.int), { frames := 9, cells := 0, slots := 0, locals := 249 }, [])
theorem oX9_drumOf : fOK mX9_drumOf 2 := ⟨rfl, lw_of (i := 1308) (by decide +kernel), lw_of (i := 9) (by decide +kernel), by decide +kernel, by decide +kernel⟩
theorem nX9_drumOf : Cond.instanceMethod yX9_drumOf ∈ lw_tbl := lw_of (i := 1306) (by decide +kernel)
theorem eX9_drumOf : Cond.selects yX9_drumOf.cls yX9_drumOf yX9_drumOf ∈ lw_tbl := lw_of (i := 1307) (by decide +kernel)
def mX9_ofSample : MD := (yX9_ofSample, cX9_ofSample, 3, (some FieldType.int), { frames := 5, cells := 0, slots := 0, locals := 156 }, [])
theorem oX9_ofSample : fOK mX9_ofSample 2 := ⟨rfl, lw_of (i := 1324) (by decide +kernel), lw_of (i := 9) (by decide +kernel), by decide +kernel, by decide +kernel⟩
theorem nX9_ofSample : Cond.instanceMethod yX9_ofSample ∈ lw_tbl := lw_of (i := 1323) (by decide +kernel)
theorem eX9_ofSample : Cond.selects yX9_ofSample.cls yX9_ofSample yX9_ofSample ∈ lw_tbl := List.mem_append_left _ (by decide +kernel)
def mX9_sampleOf : MD := (yX9_sampleOf, cX9_sampleOf, 3, (some FieldType.int), { frames := 6, cells := 0, slots := 0, locals := 178 }, [])
theorem oX9_sampleOf : fOK mX9_sampleOf 2 := ⟨rfl, lw_of (i := 1320) (by decide +kernel), lw_of (i := 9) (by decide +kernel), by decide +kernel, by decide +kernel⟩
theorem nX9_sampleOf : Cond.instanceMethod yX9_sampleOf ∈ lw_tbl := lw_of (i := 1318) (by decide +kernel)
theorem eX9_sampleOf : Cond.selects yX9_sampleOf.cls yX9_sampleOf yX9_sampleOf ∈ lw_tbl := lw_of (i := 1319) (by decide +kernel)
def mX9_reading : MD := (yX9_reading, cX9_reading, 4, (some FieldType.int), { frames := 3, cells := 0, slots := 0, locals := 107 }, [])
theorem oX9_reading : fOK mX9_reading 3 := ⟨rfl, lw_of (i := 1328) (by decide +kernel), lw_of (i := 9) (by decide +kernel), by decide +kernel, by decide +kernel⟩
theorem nX9_reading : Cond.instanceMethod yX9_reading ∈ lw_tbl := lw_of (i := 1326) (by decide +kernel)
theorem eX9_reading : Cond.selects yX9_reading.cls yX9_reading yX9_reading ∈ lw_tbl := lw_of (i := 1327) (by decide +kernel)
def mX9_needle : MD := (yX9_needle, cX9_needle, 3, (some FieldType.int), { frames := 3, cells := 0, slots := 0, locals := 106 }, [])
theorem oX9_needle : fOK mX9_needle 2 := ⟨rfl, lw_of (i := 1332) (by decide +kernel), lw_of (i := 9) (by decide +kernel), by decide +kernel, by decide +kernel⟩
theorem nX9_needle : Cond.instanceMethod yX9_needle ∈ lw_tbl := lw_of (i := 1330) (by decide +kernel)
theorem eX9_needle : Cond.selects yX9_needle.cls yX9_needle yX9_needle ∈ lw_tbl := lw_of (i := 1331) (by decide +kernel)
def mX9_farthest : MD := (yX9_farthest, cX9_farthest, 5, (some FieldType.int), { frames := 2, cells := 0, slots := 0, locals := 86 }, [])
theorem oX9_farthest : fOK mX9_farthest 1 := ⟨rfl, lw_of (i := 1344) (by decide +kernel), lw_of (i := 9) (by decide +kernel), by decide +kernel, by decide +kernel⟩
theorem nX9_farthest : Cond.instanceMethod yX9_farthest ∈ lw_tbl := lw_of (i := 1343) (by decide +kernel)
theorem eX9_farthest : Cond.selects yX9_farthest.cls yX9_farthest yX9_farthest ∈ lw_tbl := List.mem_append_left _ (by decide +kernel)
def mX9_ofBath : MD := (yX9_ofBath, cX9_ofBath, 3, (some FieldType.int), { frames := 3, cells := 0, slots := 0, locals := 110 }, [])
theorem oX9_ofBath : fOK mX9_ofBath 2 := ⟨rfl, lw_of (i := 1340) (by decide +kernel), lw_of (i := 9) (by decide +kernel), by decide +kernel, by decide +kernel⟩
theorem nX9_ofBath : Cond.instanceMethod yX9_ofBath ∈ lw_tbl := lw_of (i := 1339) (by decide +kernel)
theorem eX9_ofBath : Cond.selects yX9_ofBath.cls yX9_ofBath yX9_ofBath ∈ lw_tbl := List.mem_append_left _ (by decide +kernel)
def mX9_bathOf : MD := (yX9_bathOf, cX9_bathOf, 3, (some FieldType.int), { frames := 4, cells := 0, slots := 0, locals := 132 }, [])
theorem oX9_bathOf : fOK mX9_bathOf 2 := ⟨rfl, lw_of (i := 1336) (by decide +kernel), lw_of (i := 9) (by decide +kernel), by decide +kernel, by decide +kernel⟩
theorem nX9_bathOf : Cond.instanceMethod yX9_bathOf ∈ lw_tbl := lw_of (i := 1334) (by decide +kernel)
theorem eX9_bathOf : Cond.selects yX9_bathOf.cls yX9_bathOf yX9_bathOf ∈ lw_tbl := lw_of (i := 1335) (by decide +kernel)
def mX9_soldDrums : MD := (yX9_soldDrums, cX9_soldDrums, 3, (some FieldType.int), { frames := 2, cells := 0, slots := 0, locals := 86 }, [])
theorem oX9_soldDrums : fOK mX9_soldDrums 0 := ⟨rfl, lw_of (i := 1356) (by decide +kernel), lw_of (i := 9) (by decide +kernel), by decide +kernel, by decide +kernel⟩
theorem nX9_soldDrums : Cond.instanceMethod yX9_soldDrums ∈ lw_tbl := lw_of (i := 1355) (by decide +kernel)
theorem eX9_soldDrums : Cond.selects yX9_soldDrums.cls yX9_soldDrums yX9_soldDrums ∈ lw_tbl := List.mem_append_left _ (by decide +kernel)
def mX9_penetrated : MD := (yX9_penetrated, cX9_penetrated, 3, (some FieldType.int), { frames := 4, cells := 0, slots := 0, locals := 135 }, [])
theorem oX9_penetrated : fOK mX9_penetrated 0 := ⟨rfl, lw_of (i := 1360) (by decide +kernel), lw_of (i := 9) (by decide +kernel), by decide +kernel, by decide +kernel⟩
theorem nX9_penetrated : Cond.instanceMethod yX9_penetrated ∈ lw_tbl := lw_of (i := 1359) (by decide +kernel)
theorem eX9_penetrated : Cond.selects yX9_penetrated.cls yX9_penetrated yX9_penetrated ∈ lw_tbl := List.mem_append_left _ (by decide +kernel)
def mX9_counted : MD := (yX9_counted, cX9_counted, 2, (some FieldType.int), { frames := 5, cells := 0, slots := 0, locals := 157 }, [])
theorem oX9_counted : fOK mX9_counted 1 := ⟨rfl, lw_of (i := 1352) (by decide +kernel), lw_of (i := 9) (by decide +kernel), by decide +kernel, by decide +kernel⟩
theorem nX9_counted : Cond.instanceMethod yX9_counted ∈ lw_tbl := lw_of (i := 1351) (by decide +kernel)
theorem eX9_counted : Cond.selects yX9_counted.cls yX9_counted yX9_counted ∈ lw_tbl := List.mem_append_left _ (by decide +kernel)
def mX9_count : MD := (yX9_count, cX9_count, 2, (some FieldType.int), { frames := 6, cells := 0, slots := 0, locals := 178 }, [])
theorem oX9_count : fOK mX9_count 1 := ⟨rfl, lw_of (i := 1348) (by decide +kernel), lw_of (i := 9) (by decide +kernel), by decide +kernel, by decide +kernel⟩
theorem nX9_count : Cond.instanceMethod yX9_count ∈ lw_tbl := lw_of (i := 1346) (by decide +kernel)
theorem eX9_count : Cond.selects yX9_count.cls yX9_count yX9_count ∈ lw_tbl := lw_of (i := 1347) (by decide +kernel)
def mX9_noSink : MD := (yX9_noSink, cX9_noSink, 3, (some FieldType.int), { frames := 3, cells := 0, slots := 0, locals := 109 }, [])
theorem oX9_noSink : fOK mX9_noSink 2 := ⟨rfl, lw_of (i := 1364) (by decide +kernel), lw_of (i := 9) (by decide +kernel), by decide +kernel, by decide +kernel⟩
theorem nX9_noSink : Cond.instanceMethod yX9_noSink ∈ lw_tbl := lw_of (i := 1362) (by decide +kernel)
theorem eX9_noSink : Cond.selects yX9_noSink.cls yX9_noSink yX9_noSink ∈ lw_tbl := lw_of (i := 1363) (by decide +kernel)
def mX9_noSale : MD := (yX9_noSale, cX9_noSale, 2, (some FieldType.int), { frames := 9, cells := 0, slots := 0, locals := 252 }, [])
theorem oX9_noSale : fOK mX9_noSale 1 := ⟨rfl, lw_of (i := 1368) (by decide +kernel), lw_of (i := 9) (by decide +kernel), by decide +kernel, by decide +kernel⟩
theorem nX9_noSale : Cond.instanceMethod yX9_noSale ∈ lw_tbl := lw_of (i := 1366) (by decide +kernel)
theorem eX9_noSale : Cond.selects yX9_noSale.cls yX9_noSale yX9_noSale ∈ lw_tbl := lw_of (i := 1367) (by decide +kernel)
def mX9_ifSunk : MD := (yX9_ifSunk, cX9_ifSunk, 7, (some FieldType.int), { frames := 3, cells := 0, slots := 0, locals := 112 }, [])
theorem oX9_ifSunk : fOK mX9_ifSunk 4 := ⟨rfl, lw_of (i := 1372) (by decide +kernel), lw_of (i := 9) (by decide +kernel), by decide +kernel, by decide +kernel⟩
theorem nX9_ifSunk : Cond.instanceMethod yX9_ifSunk ∈ lw_tbl := lw_of (i := 1370) (by decide +kernel)
theorem eX9_ifSunk : Cond.selects yX9_ifSunk.cls yX9_ifSunk yX9_ifSunk ∈ lw_tbl := lw_of (i := 1371) (by decide +kernel)
def mX9_secondsTo : MD := (yX9_secondsTo, cX9_secondsTo, 8, (some FieldType.int), { frames := 3, cells := 0, slots := 0, locals := 112 }, [])
theorem oX9_secondsTo : fOK mX9_secondsTo 4 := ⟨rfl, lw_of (i := 1376) (by decide +kernel), lw_of (i := 9) (by decide +kernel), by decide +kernel, by decide +kernel⟩
theorem nX9_secondsTo : Cond.instanceMethod yX9_secondsTo ∈ lw_tbl := lw_of (i := 1374) (by decide +kernel)
theorem eX9_secondsTo : Cond.selects yX9_secondsTo.cls yX9_secondsTo yX9_secondsTo ∈ lw_tbl := lw_of (i := 1375) (by decide +kernel)
def mX9_readyNow : MD := (yX9_readyNow, cX9_readyNow, 2, (some FieldType.int), { frames := 4, cells := 0, slots := 0, locals := 132 }, [])
theorem oX9_readyNow : fOK mX9_readyNow 1 := ⟨rfl, lw_of (i := 1384) (by decide +kernel), lw_of (i := 9) (by decide +kernel), by decide +kernel, by decide +kernel⟩
theorem nX9_readyNow : Cond.instanceMethod yX9_readyNow ∈ lw_tbl := lw_of (i := 1383) (by decide +kernel)
theorem eX9_readyNow : Cond.selects yX9_readyNow.cls yX9_readyNow yX9_readyNow ∈ lw_tbl := List.mem_append_left _ (by decide +kernel)
def mX9_readyIn : MD := (yX9_readyIn, cX9_readyIn, 2, (some FieldType.int), { frames := 5, cells := 0, slots := 0, locals := 153 }, [])
theorem oX9_readyIn : fOK mX9_readyIn 1 := ⟨rfl, lw_of (i := 1380) (by decide +kernel), lw_of (i := 9) (by decide +kernel), by decide +kernel, by decide +kernel⟩
theorem nX9_readyIn : Cond.instanceMethod yX9_readyIn ∈ lw_tbl := lw_of (i := 1378) (by decide +kernel)
theorem eX9_readyIn : Cond.selects yX9_readyIn.cls yX9_readyIn yX9_readyIn ∈ lw_tbl := lw_of (i := 1379) (by decide +kernel)
def mX9_best : MD := (yX9_best, cX9_best, 7, (some FieldType.int), { frames := 4, cells := 0, slots := 0, locals := 132 }, [])
theorem oX9_best : fOK mX9_best 1 := ⟨rfl, lw_of (i := 1396) (by decide +kernel), lw_of (i := 9) (by decide +kernel), by decide +kernel, by decide +kernel⟩
theorem nX9_best : Cond.instanceMethod yX9_best ∈ lw_tbl := lw_of (i := 1395) (by decide +kernel)
theorem eX9_best : Cond.selects yX9_best.cls yX9_best yX9_best ∈ lw_tbl := List.mem_append_left _ (by decide +kernel)
def mX9_bestBath : MD := (yX9_bestBath, cX9_bestBath, 2, (some FieldType.int), { frames := 5, cells := 0, slots := 0, locals := 158 }, [])
theorem oX9_bestBath : fOK mX9_bestBath 1 := ⟨rfl, lw_of (i := 1392) (by decide +kernel), lw_of (i := 9) (by decide +kernel), by decide +kernel, by decide +kernel⟩
theorem nX9_bestBath : Cond.instanceMethod yX9_bestBath ∈ lw_tbl := lw_of (i := 1390) (by decide +kernel)
theorem eX9_bestBath : Cond.selects yX9_bestBath.cls yX9_bestBath yX9_bestBath ∈ lw_tbl := lw_of (i := 1391) (by decide +kernel)
def mX9_share : MD := (yX9_share, cX9_share, 1, (some FieldType.double), { frames := 5, cells := 0, slots := 0, locals := 157 }, [])
theorem oX9_share : fOK mX9_share 0 := ⟨rfl, lw_of (i := 1404) (by decide +kernel), lw_of (i := 9) (by decide +kernel), by decide +kernel, by decide +kernel⟩
theorem nX9_share : Cond.instanceMethod yX9_share ∈ lw_tbl := lw_of (i := 1403) (by decide +kernel)
theorem eX9_share : Cond.selects yX9_share.cls yX9_share yX9_share ∈ lw_tbl := List.mem_append_left _ (by decide +kernel)
def mX9_readShare : MD := (yX9_readShare, cX9_readShare, 1, (some FieldType.double), { frames := 6, cells := 0, slots := 0, locals := 177 }, [])
theorem oX9_readShare : fOK mX9_readShare 0 := ⟨rfl, lw_of (i := 1400) (by decide +kernel), lw_of (i := 9) (by decide +kernel), by decide +kernel, by decide +kernel⟩
theorem nX9_readShare : Cond.instanceMethod yX9_readShare ∈ lw_tbl := lw_of (i := 1398) (by decide +kernel)
theorem eX9_readShare : Cond.selects yX9_readShare.cls yX9_readShare yX9_readShare ∈ lw_tbl := lw_of (i := 1399) (by decide +kernel)
def mX9_mix : MD := (yX9_mix, cX9_mix, 3, (none : Option FieldType), { frames := 1, cells := 0, slots := 0, locals := 64 }, [])
theorem oX9_mix : fOK mX9_mix 1 := ⟨rfl, lw_of (i := 1413) (by decide +kernel), lw_of (i := 9) (by decide +kernel), by decide +kernel, by decide +kernel⟩
theorem nX9_mix : Cond.instanceMethod yX9_mix ∈ lw_tbl := lw_of (i := 1412) (by decide +kernel)
theorem eX9_mix : Cond.selects yX9_mix.cls yX9_mix yX9_mix ∈ lw_tbl := List.mem_append_left _ (by decide +kernel)
def mX9_bits : MD := (yX9_bits, cX9_bits, 6, (some FieldType.long), { frames := 1, cells := 0, slots := 0, locals := 64 }, [])
theorem oX9_bits : fOK mX9_bits 1 := ⟨rfl, lw_of (i := 1421) (by decide +kernel), lw_of (i := 9) (by decide +kernel), by decide +kernel, by decide +kernel⟩
theorem sX9_bits : Cond.static yX9_bits ∈ lw_tbl := lw_of (i := 1420) (by decide +kernel)
def mX9_mixSample : MD := (yX9_mixSample, cX9_mixSample, 3, (none : Option FieldType), { frames := 6, cells := 0, slots := 0, locals := 178 }, [])
theorem oX9_mixSample : fOK mX9_mixSample 1 := ⟨rfl, lw_of (i := 1418) (by decide +kernel), lw_of (i := 9) (by decide +kernel), by decide +kernel, by decide +kernel⟩
theorem nX9_mixSample : Cond.instanceMethod yX9_mixSample ∈ lw_tbl := lw_of (i := 1417) (by decide +kernel)
theorem eX9_mixSample : Cond.selects yX9_mixSample.cls yX9_mixSample yX9_mixSample ∈ lw_tbl := List.mem_append_left _ (by decide +kernel)
def mX9_digest : MD := (yX9_digest, cX9_digest, 3, (some FieldType.long), { frames := 9, cells := 0, slots := 0, locals := 252 }, [])
theorem oX9_digest : fOK mX9_digest 0 := ⟨rfl, lw_of (i := 1408) (by decide +kernel), lw_of (i := 9) (by decide +kernel), by decide +kernel, by decide +kernel⟩
theorem nX9_digest : Cond.instanceMethod yX9_digest ∈ lw_tbl := lw_of (i := 1406) (by decide +kernel)
theorem eX9_digest : Cond.selects yX9_digest.cls yX9_digest yX9_digest ∈ lw_tbl := lw_of (i := 1407) (by decide +kernel)
def mJ6_bitCount_0f7a4 : MD := (yJ6_bitCount_0f7a4, cJ6_bitCount_0f7a4, 1, (some FieldType.int), { frames := 1, cells := 0, slots := 0, locals := 64 }, [])
theorem oJ6_bitCount_0f7a4 : fOK mJ6_bitCount_0f7a4 1 := ⟨rfl, lw_of (i := 504) (by decide +kernel), lw_of (i := 19) (by decide +kernel), by decide +kernel, by decide +kernel⟩
theorem sJ6_bitCount_0f7a4 : Cond.static yJ6_bitCount_0f7a4 ∈ lw_tbl := lw_of (i := 503) (by decide +kernel)
def mJ9_floorDiv_7cf53 : MD := (yJ9_floorDiv_7cf53, cJ9_floorDiv_7cf53, 3, (some FieldType.int), { frames := 1, cells := 0, slots := 0, locals := 64 }, [])
theorem oJ9_floorDiv_7cf53 : fOK mJ9_floorDiv_7cf53 2 := ⟨rfl, lw_of (i := 451) (by decide +kernel), lw_of (i := 17) (by decide +kernel), by decide +kernel, by decide +kernel⟩
theorem sJ9_floorDiv_7cf53 : Cond.static yJ9_floorDiv_7cf53 ∈ lw_tbl := lw_of (i := 450) (by decide +kernel)
theorem kX8_1M : Cond.methodLink RX8 1 ⟨"java/lang/Object", "<init>", "()V"⟩ ∈ lw_tbl := lw_of (i := 29) (by decide +kernel)
theorem kX8_7C : Cond.classLink RX8 7 "BitumenNeedle$Lab" ∈ lw_tbl := lw_of (i := 32) (by decide +kernel)
theorem kX8_9M : Cond.methodLink RX8 9 yX2_init ∈ lw_tbl := lw_of (i := 34) (by decide +kernel)
theorem kX8_10F : Cond.fieldLink RX8 10 "BitumenNeedle" "lab" "LBitumenNeedle$Lab;" ∈ lw_tbl := lw_of (i := 248) (by decide +kernel)
theorem kX8_16C : Cond.classLink RX8 16 "BitumenNeedle$History" ∈ lw_tbl := lw_of (i := 175) (by decide +kernel)
theorem kX8_18M : Cond.methodLink RX8 18 yX1_init ∈ lw_tbl := lw_of (i := 177) (by decide +kernel)
theorem kX8_19F : Cond.fieldLink RX8 19 "BitumenNeedle" "history" "LBitumenNeedle$History;" ∈ lw_tbl := lw_of (i := 249) (by decide +kernel)
theorem kX8_23C : Cond.classLink RX8 23 "BitumenNeedle$OrderText" ∈ lw_tbl := lw_of (i := 199) (by decide +kernel)
theorem kX8_25M : Cond.methodLinkNest RX8 25 yX4_init "BitumenNeedle" ∈ lw_tbl := lw_of (i := 201) (by decide +kernel)
theorem kX8_26F : Cond.fieldLink RX8 26 "BitumenNeedle" "text" "LBitumenNeedle$OrderText;" ∈ lw_tbl := lw_of (i := 250) (by decide +kernel)
theorem kX8_30M : Cond.methodLink RX8 30 yX8_mindRange ∈ lw_tbl := lw_of (i := 586) (by decide +kernel)
theorem kX8_34F : Cond.fieldLink RX8 34 "BitumenNeedle$Lab" "drumCount" "I" ∈ lw_tbl := lw_of (i := 141) (by decide +kernel)
theorem kX8_38M : Cond.methodLink RX8 38 yX8_refuseFor ∈ lw_tbl := lw_of (i := 656) (by decide +kernel)
theorem kX8_42M : Cond.methodLink RX8 42 yX1_save ∈ lw_tbl := lw_of (i := 691) (by decide +kernel)
theorem kX8_46M : Cond.methodLink RX8 46 yX2_addDrum ∈ lw_tbl := lw_of (i := 700) (by decide +kernel)
theorem kX8_50M : Cond.methodLink RX8 50 yX2_ageDrums ∈ lw_tbl := lw_of (i := 715) (by decide +kernel)
theorem kX8_53M : Cond.methodLink RX8 53 yX2_whyNotTaken ∈ lw_tbl := lw_of (i := 728) (by decide +kernel)
theorem kX8_56M : Cond.methodLink RX8 56 yX2_take ∈ lw_tbl := lw_of (i := 733) (by decide +kernel)
theorem kX8_59F : Cond.fieldLink RX8 59 "BitumenNeedle$Lab" "sampleCount" "I" ∈ lw_tbl := lw_of (i := 144) (by decide +kernel)
theorem kX8_62M : Cond.methodLink RX8 62 yX8_mindNumber ∈ lw_tbl := lw_of (i := 749) (by decide +kernel)
theorem kX8_66M : Cond.methodLink RX8 66 yX2_throwAway ∈ lw_tbl := lw_of (i := 753) (by decide +kernel)
theorem kX8_69M : Cond.methodLink RX8 69 yX2_whyNotLaid ∈ lw_tbl := lw_of (i := 764) (by decide +kernel)
theorem kX8_73M : Cond.methodLink RX8 73 yX2_lay ∈ lw_tbl := lw_of (i := 772) (by decide +kernel)
theorem kX8_76F : Cond.fieldLink RX8 76 "BitumenNeedle$Lab" "degrees" "[I" ∈ lw_tbl := lw_of (i := 136) (by decide +kernel)
theorem kX8_80M : Cond.methodLink RX8 80 yX2_passMinutes ∈ lw_tbl := lw_of (i := 790) (by decide +kernel)
theorem kX8_83M : Cond.methodLink RX8 83 yX2_samplesAsTheirBath ∈ lw_tbl := lw_of (i := 794) (by decide +kernel)
theorem kX8_87M : Cond.methodLink RX8 87 yX2_whyNotSunk ∈ lw_tbl := lw_of (i := 549) (by decide +kernel)
theorem kX8_90M : Cond.methodLink RX8 90 yX2_read ∈ lw_tbl := lw_of (i := 805) (by decide +kernel)
theorem kX8_94F : Cond.fieldLink RX8 94 "BitumenNeedle$Lab" "renewed" "I" ∈ lw_tbl := lw_of (i := 147) (by decide +kernel)
theorem kX8_97F : Cond.fieldLink RX8 97 "BitumenNeedle$Lab" "needles" "[LBitumenNeedle$Needle;" ∈ lw_tbl := lw_of (i := 134) (by decide +kernel)
theorem kX8_101M : Cond.methodLink RX8 101 yX3_makeNew ∈ lw_tbl := lw_of (i := 834) (by decide +kernel)
theorem kX8_106M : Cond.methodLink RX8 106 yX2_whyNotSoftened ∈ lw_tbl := lw_of (i := 845) (by decide +kernel)
theorem kX8_109F : Cond.fieldLink RX8 109 "BitumenNeedle$Lab" "samples" "[LBitumenNeedle$Specimen;" ∈ lw_tbl := lw_of (i := 132) (by decide +kernel)
theorem kX8_113M : Cond.methodLink RX8 113 yX6_soften ∈ lw_tbl := lw_of (i := 849) (by decide +kernel)
theorem kX8_118M : Cond.methodLink RX8 118 yX7_whyNotSold ∈ lw_tbl := lw_of (i := 485) (by decide +kernel)
theorem kX8_124M : Cond.methodLink RX8 124 yX7_close ∈ lw_tbl := lw_of (i := 860) (by decide +kernel)
theorem kX8_127F : Cond.fieldLink RX8 127 "BitumenNeedle" "MOST_OF_SETTING" "[I" ∈ lw_tbl := lw_of (i := 870) (by decide +kernel)
theorem kX8_130F : Cond.fieldLink RX8 130 "BitumenNeedle$Lab" "settings" "[I" ∈ lw_tbl := lw_of (i := 139) (by decide +kernel)
theorem kX8_133F : Cond.fieldLink RX8 133 "BitumenNeedle$OrderText" "length" "I" ∈ lw_tbl := lw_of (i := 237) (by decide +kernel)
theorem kX8_136M : Cond.methodLink RX8 136 yX4_add ∈ lw_tbl := lw_of (i := 879) (by decide +kernel)
theorem kX8_140M : Cond.methodLink RX8 140 yX4_empty ∈ lw_tbl := lw_of (i := 262) (by decide +kernel)
theorem kX8_143M : Cond.methodLink RX8 143 yX4_errorPlace ∈ lw_tbl := lw_of (i := 270) (by decide +kernel)
theorem kX8_146M : Cond.methodLink RX8 146 yX4_isComplete ∈ lw_tbl := lw_of (i := 890) (by decide +kernel)
theorem kX8_150C : Cond.classLink RX8 150 "java/lang/IllegalArgumentException" ∈ lw_tbl := lw_of (i := 589) (by decide +kernel)
theorem kX8_154M : Cond.methodLink RX8 154 ⟨"java/lang/IllegalArgumentException", "<init>", "(Ljava/lang/String;)V"⟩ ∈ lw_tbl := lw_of (i := 631) (by decide +kernel)
theorem kX8_157M : Cond.methodLink RX8 157 yX4_nextPart ∈ lw_tbl := lw_of (i := 896) (by decide +kernel)
theorem kX8_160F : Cond.fieldLink RX8 160 "BitumenNeedle$OrderText" "part" "LBitumenNeedle$Part;" ∈ lw_tbl := lw_of (i := 235) (by decide +kernel)
theorem kX8_164M : Cond.methodLink RX8 164 yX8_doPart ∈ lw_tbl := lw_of (i := 900) (by decide +kernel)
theorem kX8_168F : Cond.fieldLink RX8 168 "BitumenNeedle$Lab" "stopPart" "I" ∈ lw_tbl := lw_of (i := 149) (by decide +kernel)
theorem kX8_171F : Cond.fieldLink RX8 171 "BitumenNeedle$Lab" "stopReason" "I" ∈ lw_tbl := lw_of (i := 151) (by decide +kernel)
theorem kX8_174F : Cond.fieldLink RX8 174 "BitumenNeedle$History" "count" "I" ∈ lw_tbl := lw_of (i := 188) (by decide +kernel)
theorem kX8_177C : Cond.classLink RX8 177 "java/lang/IllegalStateException" ∈ lw_tbl := lw_of (i := 675) (by decide +kernel)
theorem kX8_181M : Cond.methodLink RX8 181 ⟨"java/lang/IllegalStateException", "<init>", "(Ljava/lang/String;)V"⟩ ∈ lw_tbl := lw_of (i := 685) (by decide +kernel)
theorem kX8_182M : Cond.methodLink RX8 182 yX1_goBack ∈ lw_tbl := lw_of (i := 924) (by decide +kernel)
theorem kX8_185F : Cond.fieldLink RX8 185 "BitumenNeedle$History" "snapshot" "LBitumenNeedle$Lab;" ∈ lw_tbl := lw_of (i := 186) (by decide +kernel)
theorem kX8_188M : Cond.methodLink RX8 188 yX2_copyFrom ∈ lw_tbl := lw_of (i := 375) (by decide +kernel)
theorem kX8_191F : Cond.fieldLink RX8 191 "BitumenNeedle$History" "kept" "Z" ∈ lw_tbl := lw_of (i := 189) (by decide +kernel)
theorem kX8_197M : Cond.methodLink RX8 197 yX7_number ∈ lw_tbl := lw_of (i := 439) (by decide +kernel)
theorem kX8_201M : Cond.methodLink RX8 201 yX6_number ∈ lw_tbl := lw_of (i := 512) (by decide +kernel)
theorem kX8_205M : Cond.methodLink RX8 205 yX6_mark ∈ lw_tbl := lw_of (i := 518) (by decide +kernel)
theorem kX8_208M : Cond.methodLink RX8 208 yX3_number ∈ lw_tbl := lw_of (i := 557) (by decide +kernel)
theorem kX8_210M : Cond.methodLink RX8 210 yX2_bathNumber ∈ lw_tbl := lw_of (i := 561) (by decide +kernel)
theorem kX8_213M : Cond.methodLink RX8 213 yX2_total ∈ lw_tbl := lw_of (i := 418) (by decide +kernel)
theorem kX8_216M : Cond.methodLink RX8 216 yX2_depth ∈ lw_tbl := lw_of (i := 1000) (by decide +kernel)
theorem kX8_219M : Cond.methodLink RX8 219 yX2_minutesToReady ∈ lw_tbl := lw_of (i := 519) (by decide +kernel)
theorem kX8_222M : Cond.methodLink RX8 222 yX2_quickestBath ∈ lw_tbl := lw_of (i := 537) (by decide +kernel)
theorem kX8_225M : Cond.methodLink RX8 225 yX2_samplesWithPenetration ∈ lw_tbl := lw_of (i := 399) (by decide +kernel)
theorem kX8_228K : Cond.constantLong RX8 228 3767 ∈ lw_tbl := lw_of (i := 417) (by decide +kernel)
theorem kX8_230M : Cond.methodLink RX8 230 yX8_mixed ∈ lw_tbl := lw_of (i := 435) (by decide +kernel)
theorem kX8_234M : Cond.methodLink RX8 234 yX8_mixedWithSample ∈ lw_tbl := lw_of (i := 508) (by decide +kernel)
theorem kX8_238M : Cond.methodLink RX8 238 yX8_mixedWithTools ∈ lw_tbl := lw_of (i := 553) (by decide +kernel)
theorem kX8_242M : Cond.methodLink RX8 242 yX8_readShare ∈ lw_tbl := lw_of (i := 570) (by decide +kernel)
theorem kX8_246M : Cond.methodLink RX8 246 yX8_bitsOf ∈ lw_tbl := lw_of (i := 571) (by decide +kernel)
theorem kX8_250F : Cond.fieldLink RX8 250 "BitumenNeedle$OrderText" "characters" "[C" ∈ lw_tbl := lw_of (i := 233) (by decide +kernel)
theorem kX8_254C : Cond.classLink RX8 254 "java/lang/IndexOutOfBoundsException" ∈ lw_tbl := lw_of (i := 659) (by decide +kernel)
theorem kX8_258M : Cond.methodLink RX8 258 ⟨"java/lang/IndexOutOfBoundsException", "<init>", "(Ljava/lang/String;)V"⟩ ∈ lw_tbl := lw_of (i := 669) (by decide +kernel)
theorem kX8_265F : Cond.fieldLink RX8 265 "BitumenNeedle$Part" "values" "[I" ∈ lw_tbl := lw_of (i := 218) (by decide +kernel)
theorem kX8_270F : Cond.fieldLink RX8 270 "BitumenNeedle$Part" "letter" "I" ∈ lw_tbl := lw_of (i := 213) (by decide +kernel)
theorem kX8_273M : Cond.methodLink RX8 273 yX8_whyNotDone ∈ lw_tbl := lw_of (i := 904) (by decide +kernel)
theorem kX8_277M : Cond.methodLink RX8 277 yX2_hasSample ∈ lw_tbl := lw_of (i := 908) (by decide +kernel)
theorem kX8_281F : Cond.fieldLink RX8 281 "BitumenNeedle$Specimen" "readings" "I" ∈ lw_tbl := lw_of (i := 93) (by decide +kernel)
theorem kX8_284K : Cond.constantLong RX8 284 31 ∈ lw_tbl := lw_of (i := 438) (by decide +kernel)
theorem kX8_286K : Cond.constantLong RX8 286 1023 ∈ lw_tbl := lw_of (i := 574) (by decide +kernel)
theorem kX8_288K : Cond.constantDouble RX8 288 4611686018427387904 ∈ lw_tbl := lw_of (i := 575) (by decide +kernel)
theorem kX8_290K : Cond.constantDouble RX8 290 4841369599423283200 ∈ lw_tbl := lw_of (i := 576) (by decide +kernel)
theorem kX8_292M : Cond.methodLink RX8 292 yJ9_floorDiv_7cf53 ∈ lw_tbl := lw_of (i := 449) (by decide +kernel)
theorem kX0_3M : Cond.methodLink RX0 3 ⟨"java/lang/Object", "<init>", "()V"⟩ ∈ lw_tbl := lw_of (i := 59) (by decide +kernel)
theorem kX0_9F : Cond.fieldLink RX0 9 "BitumenNeedle$Drum" "grade" "I" ∈ lw_tbl := lw_of (i := 65) (by decide +kernel)
theorem kX0_15F : Cond.fieldLink RX0 15 "BitumenNeedle$Drum" "softness" "I" ∈ lw_tbl := lw_of (i := 60) (by decide +kernel)
theorem kX0_18F : Cond.fieldLink RX0 18 "BitumenNeedle$Drum" "days" "I" ∈ lw_tbl := lw_of (i := 62) (by decide +kernel)
theorem kX0_21M : Cond.methodLinkNest RX0 21 yX8_divided "BitumenNeedle" ∈ lw_tbl := lw_of (i := 446) (by decide +kernel)
theorem kX0_25M : Cond.methodLink RX0 25 yJ9_floorDiv_7cf53 ∈ lw_tbl := lw_of (i := 452) (by decide +kernel)
theorem kX1_3M : Cond.methodLink RX1 3 ⟨"java/lang/Object", "<init>", "()V"⟩ ∈ lw_tbl := lw_of (i := 180) (by decide +kernel)
theorem kX1_9C : Cond.classLink RX1 9 "BitumenNeedle$Lab" ∈ lw_tbl := lw_of (i := 181) (by decide +kernel)
theorem kX1_11F : Cond.fieldLink RX1 11 "BitumenNeedle$History" "saved" "[LBitumenNeedle$Lab;" ∈ lw_tbl := lw_of (i := 184) (by decide +kernel)
theorem kX1_17M : Cond.methodLink RX1 17 yX2_init ∈ lw_tbl := lw_of (i := 183) (by decide +kernel)
theorem kX1_18F : Cond.fieldLink RX1 18 "BitumenNeedle$History" "snapshot" "LBitumenNeedle$Lab;" ∈ lw_tbl := lw_of (i := 185) (by decide +kernel)
theorem kX1_22F : Cond.fieldLink RX1 22 "BitumenNeedle$History" "count" "I" ∈ lw_tbl := lw_of (i := 187) (by decide +kernel)
theorem kX1_26M : Cond.methodLink RX1 26 yX1_dropOldest ∈ lw_tbl := lw_of (i := 695) (by decide +kernel)
theorem kX1_29M : Cond.methodLink RX1 29 yX2_copyFrom ∈ lw_tbl := lw_of (i := 699) (by decide +kernel)
theorem kX2_3M : Cond.methodLink RX2 3 ⟨"java/lang/Object", "<init>", "()V"⟩ ∈ lw_tbl := lw_of (i := 37) (by decide +kernel)
theorem kX2_9C : Cond.classLink RX2 9 "BitumenNeedle$Drum" ∈ lw_tbl := lw_of (i := 38) (by decide +kernel)
theorem kX2_11F : Cond.fieldLink RX2 11 "BitumenNeedle$Lab" "drums" "[LBitumenNeedle$Drum;" ∈ lw_tbl := lw_of (i := 128) (by decide +kernel)
theorem kX2_17C : Cond.classLink RX2 17 "BitumenNeedle$Specimen" ∈ lw_tbl := lw_of (i := 40) (by decide +kernel)
theorem kX2_19F : Cond.fieldLink RX2 19 "BitumenNeedle$Lab" "samples" "[LBitumenNeedle$Specimen;" ∈ lw_tbl := lw_of (i := 130) (by decide +kernel)
theorem kX2_23C : Cond.classLink RX2 23 "BitumenNeedle$Needle" ∈ lw_tbl := lw_of (i := 42) (by decide +kernel)
theorem kX2_25F : Cond.fieldLink RX2 25 "BitumenNeedle$Lab" "needles" "[LBitumenNeedle$Needle;" ∈ lw_tbl := lw_of (i := 133) (by decide +kernel)
theorem kX2_29F : Cond.fieldLinkNest RX2 29 "BitumenNeedle" "FIRST_DEGREES" "[I" "BitumenNeedle" ∈ lw_tbl := lw_of (i := 44) (by decide +kernel)
theorem kX2_33M : Cond.methodLink RX2 33 ⟨"[I", "clone", "()Ljava/lang/Object;"⟩ ∈ lw_tbl := lw_of (i := 46) (by decide +kernel)
theorem kX2_34C : Cond.classLink RX2 34 "[I" ∈ lw_tbl := lw_of (i := 52) (by decide +kernel)
theorem kX2_38F : Cond.fieldLink RX2 38 "BitumenNeedle$Lab" "degrees" "[I" ∈ lw_tbl := lw_of (i := 135) (by decide +kernel)
theorem kX2_41F : Cond.fieldLinkNest RX2 41 "BitumenNeedle" "FIRST_SETTINGS" "[I" "BitumenNeedle" ∈ lw_tbl := lw_of (i := 53) (by decide +kernel)
theorem kX2_44F : Cond.fieldLink RX2 44 "BitumenNeedle$Lab" "settings" "[I" ∈ lw_tbl := lw_of (i := 137) (by decide +kernel)
theorem kX2_47F : Cond.fieldLink RX2 47 "BitumenNeedle$Lab" "stopPart" "I" ∈ lw_tbl := lw_of (i := 148) (by decide +kernel)
theorem kX2_51F : Cond.fieldLink RX2 51 "BitumenNeedle$Lab" "stopReason" "I" ∈ lw_tbl := lw_of (i := 150) (by decide +kernel)
theorem kX2_54M : Cond.methodLinkNest RX2 54 yX0_init "BitumenNeedle" ∈ lw_tbl := lw_of (i := 56) (by decide +kernel)
theorem kX2_55M : Cond.methodLinkNest RX2 55 yX6_init "BitumenNeedle" ∈ lw_tbl := lw_of (i := 77) (by decide +kernel)
theorem kX2_56M : Cond.methodLinkNest RX2 56 yX3_init "BitumenNeedle" ∈ lw_tbl := lw_of (i := 111) (by decide +kernel)
theorem kX2_57F : Cond.fieldLink RX2 57 "BitumenNeedle$Lab" "drumCount" "I" ∈ lw_tbl := lw_of (i := 140) (by decide +kernel)
theorem kX2_60M : Cond.methodLink RX2 60 yX0_copyFrom ∈ lw_tbl := lw_of (i := 379) (by decide +kernel)
theorem kX2_64F : Cond.fieldLink RX2 64 "BitumenNeedle$Lab" "sampleCount" "I" ∈ lw_tbl := lw_of (i := 143) (by decide +kernel)
theorem kX2_67M : Cond.methodLink RX2 67 yX6_copyFrom ∈ lw_tbl := lw_of (i := 383) (by decide +kernel)
theorem kX2_70M : Cond.methodLink RX2 70 yX3_copyFrom ∈ lw_tbl := lw_of (i := 390) (by decide +kernel)
theorem kX2_73M : Cond.methodLink RX2 73 ⟨"java/lang/System", "arraycopy", "(Ljava/lang/Object;ILjava/lang/Object;II)V"⟩ ∈ lw_tbl := lw_of (i := 394) (by decide +kernel)
theorem kX2_79F : Cond.fieldLink RX2 79 "BitumenNeedle$Lab" "minutes" "I" ∈ lw_tbl := lw_of (i := 145) (by decide +kernel)
theorem kX2_82F : Cond.fieldLink RX2 82 "BitumenNeedle$Lab" "renewed" "I" ∈ lw_tbl := lw_of (i := 146) (by decide +kernel)
theorem kX2_85M : Cond.methodLink RX2 85 yX0_fill ∈ lw_tbl := lw_of (i := 704) (by decide +kernel)
theorem kX2_89F : Cond.fieldLink RX2 89 "BitumenNeedle$Drum" "days" "I" ∈ lw_tbl := lw_of (i := 63) (by decide +kernel)
theorem kX2_92M : Cond.methodLink RX2 92 yJ9_min_7cf53 ∈ lw_tbl := lw_of (i := 719) (by decide +kernel)
theorem kX2_98M : Cond.methodLink RX2 98 yJ9_max_7cf53 ∈ lw_tbl := lw_of (i := 569) (by decide +kernel)
theorem kX2_101M : Cond.methodLink RX2 101 yX2_hasDrum ∈ lw_tbl := lw_of (i := 732) (by decide +kernel)
theorem kX2_105M : Cond.methodLink RX2 105 yX0_hardness ∈ lw_tbl := lw_of (i := 737) (by decide +kernel)
theorem kX2_109M : Cond.methodLink RX2 109 yX6_begin ∈ lw_tbl := lw_of (i := 738) (by decide +kernel)
theorem kX2_113F : Cond.fieldLink RX2 113 "BitumenNeedle$Specimen" "readings" "I" ∈ lw_tbl := lw_of (i := 92) (by decide +kernel)
theorem kX2_116F : Cond.fieldLink RX2 116 "BitumenNeedle$Specimen" "bath" "I" ∈ lw_tbl := lw_of (i := 87) (by decide +kernel)
theorem kX2_119M : Cond.methodLink RX2 119 yX2_samplesIn ∈ lw_tbl := lw_of (i := 545) (by decide +kernel)
theorem kX2_123M : Cond.methodLink RX2 123 yX2_hasSample ∈ lw_tbl := lw_of (i := 768) (by decide +kernel)
theorem kX2_126M : Cond.methodLink RX2 126 yX2_hasRoomFor ∈ lw_tbl := lw_of (i := 541) (by decide +kernel)
theorem kX2_130F : Cond.fieldLink RX2 130 "BitumenNeedle$Specimen" "degree" "I" ∈ lw_tbl := lw_of (i := 85) (by decide +kernel)
theorem kX2_133M : Cond.methodLink RX2 133 yX2_degreeAround ∈ lw_tbl := lw_of (i := 527) (by decide +kernel)
theorem kX2_136M : Cond.methodLinkNest RX2 136 yX8_degreeNext "BitumenNeedle" ∈ lw_tbl := lw_of (i := 534) (by decide +kernel)
theorem kX2_139F : Cond.fieldLink RX2 139 "BitumenNeedle$Needle" "wear" "I" ∈ lw_tbl := lw_of (i := 116) (by decide +kernel)
theorem kX2_142M : Cond.methodLink RX2 142 yX6_depthUnder ∈ lw_tbl := lw_of (i := 813) (by decide +kernel)
theorem kX2_146F : Cond.fieldLink RX2 146 "BitumenNeedle$Needle" "bent" "Z" ∈ lw_tbl := lw_of (i := 118) (by decide +kernel)
theorem kX2_150M : Cond.methodLink RX2 150 yJ9_abs_0f7a4 ∈ lw_tbl := lw_of (i := 531) (by decide +kernel)
theorem kX2_153M : Cond.methodLink RX2 153 yX2_depth ∈ lw_tbl := lw_of (i := 809) (by decide +kernel)
theorem kX2_157M : Cond.methodLink RX2 157 yX6_write ∈ lw_tbl := lw_of (i := 818) (by decide +kernel)
theorem kX2_161M : Cond.methodLink RX2 161 yX3_wearBy ∈ lw_tbl := lw_of (i := 822) (by decide +kernel)
theorem kX2_164M : Cond.methodLink RX2 164 yX2_minutesIn ∈ lw_tbl := lw_of (i := 523) (by decide +kernel)
theorem kX2_167M : Cond.methodLink RX2 167 yX2_greatestDifferenceIn ∈ lw_tbl := lw_of (i := 565) (by decide +kernel)
theorem kX2_170M : Cond.methodLink RX2 170 yX6_whyNoPenetration ∈ lw_tbl := lw_of (i := 403) (by decide +kernel)
theorem kX2_173F : Cond.fieldLink RX2 173 "BitumenNeedle$Needle" "readings" "I" ∈ lw_tbl := lw_of (i := 120) (by decide +kernel)
theorem kX2_174F : Cond.fieldLink RX2 174 "BitumenNeedle$Drum" "grade" "I" ∈ lw_tbl := lw_of (i := 67) (by decide +kernel)
theorem kX2_177M : Cond.methodLink RX2 177 yX2_readingsSoFar ∈ lw_tbl := lw_of (i := 422) (by decide +kernel)
theorem kX2_180M : Cond.methodLink RX2 180 yX2_bentNeedles ∈ lw_tbl := lw_of (i := 426) (by decide +kernel)
theorem kX2_183M : Cond.methodLink RX2 183 yX2_soldDrums ∈ lw_tbl := lw_of (i := 430) (by decide +kernel)
theorem kX2_186M : Cond.methodLink RX2 186 yX2_samplesWithPenetration ∈ lw_tbl := lw_of (i := 434) (by decide +kernel)
theorem kX3_3M : Cond.methodLink RX3 3 ⟨"java/lang/Object", "<init>", "()V"⟩ ∈ lw_tbl := lw_of (i := 114) (by decide +kernel)
theorem kX3_9F : Cond.fieldLink RX3 9 "BitumenNeedle$Needle" "wear" "I" ∈ lw_tbl := lw_of (i := 115) (by decide +kernel)
theorem kX3_15F : Cond.fieldLink RX3 15 "BitumenNeedle$Needle" "bent" "Z" ∈ lw_tbl := lw_of (i := 117) (by decide +kernel)
theorem kX3_19F : Cond.fieldLink RX3 19 "BitumenNeedle$Needle" "readings" "I" ∈ lw_tbl := lw_of (i := 119) (by decide +kernel)
theorem kX3_22M : Cond.methodLink RX3 22 yJ9_min_7cf53 ∈ lw_tbl := lw_of (i := 826) (by decide +kernel)
theorem kX4_3M : Cond.methodLink RX4 3 ⟨"java/lang/Object", "<init>", "()V"⟩ ∈ lw_tbl := lw_of (i := 204) (by decide +kernel)
theorem kX4_9F : Cond.fieldLink RX4 9 "BitumenNeedle$OrderText" "characters" "[C" ∈ lw_tbl := lw_of (i := 232) (by decide +kernel)
theorem kX4_15C : Cond.classLink RX4 15 "BitumenNeedle$Part" ∈ lw_tbl := lw_of (i := 205) (by decide +kernel)
theorem kX4_17M : Cond.methodLinkNest RX4 17 yX5_init "BitumenNeedle" ∈ lw_tbl := lw_of (i := 207) (by decide +kernel)
theorem kX4_18F : Cond.fieldLink RX4 18 "BitumenNeedle$OrderText" "part" "LBitumenNeedle$Part;" ∈ lw_tbl := lw_of (i := 234) (by decide +kernel)
theorem kX4_22F : Cond.fieldLink RX4 22 "BitumenNeedle$OrderText" "length" "I" ∈ lw_tbl := lw_of (i := 236) (by decide +kernel)
theorem kX4_26M : Cond.methodLink RX4 26 yX5_clear ∈ lw_tbl := lw_of (i := 274) (by decide +kernel)
theorem kX4_29M : Cond.methodLink RX4 29 yX5_isComplete ∈ lw_tbl := lw_of (i := 278) (by decide +kernel)
theorem kX4_33M : Cond.methodLink RX4 33 yX5_accept ∈ lw_tbl := lw_of (i := 348) (by decide +kernel)
theorem kX4_37M : Cond.methodLink RX4 37 yX4_errorPlace ∈ lw_tbl := lw_of (i := 894) (by decide +kernel)
theorem kX4_41F : Cond.fieldLink RX4 41 "BitumenNeedle$OrderText" "place" "I" ∈ lw_tbl := lw_of (i := 238) (by decide +kernel)
theorem kX5_3M : Cond.methodLink RX5 3 ⟨"java/lang/Object", "<init>", "()V"⟩ ∈ lw_tbl := lw_of (i := 210) (by decide +kernel)
theorem kX5_11F : Cond.fieldLink RX5 11 "BitumenNeedle$Part" "slots" "Ljava/lang/String;" ∈ lw_tbl := lw_of (i := 214) (by decide +kernel)
theorem kX5_17F : Cond.fieldLink RX5 17 "BitumenNeedle$Part" "values" "[I" ∈ lw_tbl := lw_of (i := 217) (by decide +kernel)
theorem kX5_21F : Cond.fieldLink RX5 21 "BitumenNeedle$Part" "letter" "I" ∈ lw_tbl := lw_of (i := 212) (by decide +kernel)
theorem kX5_25F : Cond.fieldLink RX5 25 "BitumenNeedle$Part" "slot" "I" ∈ lw_tbl := lw_of (i := 215) (by decide +kernel)
theorem kX5_28F : Cond.fieldLink RX5 28 "BitumenNeedle$Part" "taken" "I" ∈ lw_tbl := lw_of (i := 216) (by decide +kernel)
theorem kX5_31M : Cond.methodLink RX5 31 yJ0_isEmpty_aae02 ∈ lw_tbl := lw_of (i := 282) (by decide +kernel)
theorem kX5_37M : Cond.methodLink RX5 37 yX5_slotsBehind ∈ lw_tbl := lw_of (i := 352) (by decide +kernel)
theorem kX5_41M : Cond.methodLink RX5 41 yX5_fillSlot ∈ lw_tbl := lw_of (i := 360) (by decide +kernel)
theorem kX5_45M : Cond.methodLink RX5 45 yX5_isSlotFull ∈ lw_tbl := lw_of (i := 296) (by decide +kernel)
theorem kX5_48M : Cond.methodLink RX5 48 yJ0_length_8abf5 ∈ lw_tbl := lw_of (i := 286) (by decide +kernel)
theorem kX5_62M : Cond.methodLink RX5 62 yJ0_charAt_5068e ∈ lw_tbl := lw_of (i := 304) (by decide +kernel)
theorem kX5_66M : Cond.methodLink RX5 66 yX5_slotKind ∈ lw_tbl := lw_of (i := 300) (by decide +kernel)
theorem kX5_69M : Cond.methodLink RX5 69 yX5_fillWithSign ∈ lw_tbl := lw_of (i := 364) (by decide +kernel)
theorem kX5_73M : Cond.methodLink RX5 73 yX5_least ∈ lw_tbl := lw_of (i := 342) (by decide +kernel)
theorem kX5_77M : Cond.methodLink RX5 77 yX5_most ∈ lw_tbl := lw_of (i := 345) (by decide +kernel)
theorem kX5_80M : Cond.methodLink RX5 80 yX5_canBecome ∈ lw_tbl := lw_of (i := 368) (by decide +kernel)
theorem kX6_3M : Cond.methodLink RX6 3 ⟨"java/lang/Object", "<init>", "()V"⟩ ∈ lw_tbl := lw_of (i := 80) (by decide +kernel)
theorem kX6_9F : Cond.fieldLink RX6 9 "BitumenNeedle$Specimen" "bath" "I" ∈ lw_tbl := lw_of (i := 86) (by decide +kernel)
theorem kX6_15F : Cond.fieldLink RX6 15 "BitumenNeedle$Specimen" "softening" "I" ∈ lw_tbl := lw_of (i := 88) (by decide +kernel)
theorem kX6_18F : Cond.fieldLink RX6 18 "BitumenNeedle$Specimen" "marks" "[I" ∈ lw_tbl := lw_of (i := 94) (by decide +kernel)
theorem kX6_22F : Cond.fieldLink RX6 22 "BitumenNeedle$Specimen" "drum" "I" ∈ lw_tbl := lw_of (i := 81) (by decide +kernel)
theorem kX6_25F : Cond.fieldLink RX6 25 "BitumenNeedle$Specimen" "hardness" "I" ∈ lw_tbl := lw_of (i := 83) (by decide +kernel)
theorem kX6_28F : Cond.fieldLink RX6 28 "BitumenNeedle$Specimen" "degree" "I" ∈ lw_tbl := lw_of (i := 84) (by decide +kernel)
theorem kX6_31F : Cond.fieldLink RX6 31 "BitumenNeedle$Specimen" "readings" "I" ∈ lw_tbl := lw_of (i := 90) (by decide +kernel)
theorem kX6_34M : Cond.methodLink RX6 34 ⟨"java/lang/System", "arraycopy", "(Ljava/lang/Object;ILjava/lang/Object;II)V"⟩ ∈ lw_tbl := lw_of (i := 387) (by decide +kernel)
theorem kX6_40M : Cond.methodLinkNest RX6 40 yX8_divided "BitumenNeedle" ∈ lw_tbl := lw_of (i := 817) (by decide +kernel)
theorem kX6_44M : Cond.methodLink RX6 44 yJ9_floorDiv_7cf53 ∈ lw_tbl := lw_of (i := 468) (by decide +kernel)
theorem kX6_49M : Cond.methodLink RX6 49 yJ9_max_7cf53 ∈ lw_tbl := lw_of (i := 410) (by decide +kernel)
theorem kX6_52M : Cond.methodLink RX6 52 yJ9_min_7cf53 ∈ lw_tbl := lw_of (i := 407) (by decide +kernel)
theorem kX6_55M : Cond.methodLink RX6 55 yX6_whyNoPenetration ∈ lw_tbl := lw_of (i := 463) (by decide +kernel)
theorem kX6_59M : Cond.methodLink RX6 59 yX6_mark ∈ lw_tbl := lw_of (i := 464) (by decide +kernel)
theorem kX6_62M : Cond.methodLink RX6 62 yX6_penetration ∈ lw_tbl := lw_of (i := 516) (by decide +kernel)
theorem kX6_65M : Cond.methodLink RX6 65 yX6_latestNeedles ∈ lw_tbl := lw_of (i := 517) (by decide +kernel)
theorem kX7_9F : Cond.fieldLink RX7 9 "BitumenNeedle$Lab" "sampleCount" "I" ∈ lw_tbl := lw_of (i := 142) (by decide +kernel)
theorem kX7_15F : Cond.fieldLink RX7 15 "BitumenNeedle$Lab" "samples" "[LBitumenNeedle$Specimen;" ∈ lw_tbl := lw_of (i := 131) (by decide +kernel)
theorem kX7_19F : Cond.fieldLink RX7 19 "BitumenNeedle$Specimen" "drum" "I" ∈ lw_tbl := lw_of (i := 82) (by decide +kernel)
theorem kX7_24F : Cond.fieldLink RX7 24 "BitumenNeedle$Lab" "settings" "[I" ∈ lw_tbl := lw_of (i := 138) (by decide +kernel)
theorem kX7_28M : Cond.methodLink RX7 28 yX6_penetration ∈ lw_tbl := lw_of (i := 459) (by decide +kernel)
theorem kX7_32M : Cond.methodLinkNest RX7 32 yX8_divided "BitumenNeedle" ∈ lw_tbl := lw_of (i := 469) (by decide +kernel)
theorem kX7_36F : Cond.fieldLink RX7 36 "BitumenNeedle$Specimen" "softening" "I" ∈ lw_tbl := lw_of (i := 89) (by decide +kernel)
theorem kX7_39M : Cond.methodLink RX7 39 yX6_whyNoPenetration ∈ lw_tbl := lw_of (i := 483) (by decide +kernel)
theorem kX7_42F : Cond.fieldLink RX7 42 "BitumenNeedle$Specimen" "readings" "I" ∈ lw_tbl := lw_of (i := 91) (by decide +kernel)
theorem kX7_45M : Cond.methodLink RX7 45 yX6_mark ∈ lw_tbl := lw_of (i := 484) (by decide +kernel)
theorem kX7_48M : Cond.methodLink RX7 48 yJ9_floorDiv_7cf53 ∈ lw_tbl := lw_of (i := 479) (by decide +kernel)
theorem kX7_53M : Cond.methodLink RX7 53 yX7_meanSoftening ∈ lw_tbl := lw_of (i := 470) (by decide +kernel)
theorem kX7_59M : Cond.methodLink RX7 59 yX7_index ∈ lw_tbl := lw_of (i := 476) (by decide +kernel)
theorem kX7_63M : Cond.methodLink RX7 63 yX6_latestNeedles ∈ lw_tbl := lw_of (i := 498) (by decide +kernel)
theorem kX7_67M : Cond.methodLink RX7 67 yJ6_bitCount_0f7a4 ∈ lw_tbl := lw_of (i := 502) (by decide +kernel)
theorem kX7_72M : Cond.methodLink RX7 72 yX2_hasDrum ∈ lw_tbl := lw_of (i := 488) (by decide +kernel)
theorem kX7_76F : Cond.fieldLink RX7 76 "BitumenNeedle$Lab" "drums" "[LBitumenNeedle$Drum;" ∈ lw_tbl := lw_of (i := 129) (by decide +kernel)
theorem kX7_80F : Cond.fieldLink RX7 80 "BitumenNeedle$Drum" "grade" "I" ∈ lw_tbl := lw_of (i := 66) (by decide +kernel)
theorem kX7_85M : Cond.methodLink RX7 85 yX7_samplesWithPenetration ∈ lw_tbl := lw_of (i := 492) (by decide +kernel)
theorem kX7_88M : Cond.methodLink RX7 88 yX7_needlesRead ∈ lw_tbl := lw_of (i := 495) (by decide +kernel)
theorem kX7_91M : Cond.methodLink RX7 91 yX7_meanPenetration ∈ lw_tbl := lw_of (i := 456) (by decide +kernel)
theorem kX7_94F : Cond.fieldLink RX7 94 "BitumenNeedle$Drum" "softness" "I" ∈ lw_tbl := lw_of (i := 61) (by decide +kernel)
theorem kX7_97F : Cond.fieldLink RX7 97 "BitumenNeedle$Drum" "days" "I" ∈ lw_tbl := lw_of (i := 64) (by decide +kernel)
theorem kX7_100M : Cond.methodLink RX7 100 yX0_hardness ∈ lw_tbl := lw_of (i := 442) (by decide +kernel)
theorem kX7_103M : Cond.methodLink RX7 103 yX7_samplesOf ∈ lw_tbl := lw_of (i := 453) (by decide +kernel)
theorem kX7_106M : Cond.methodLink RX7 106 yX7_shownIndex ∈ lw_tbl := lw_of (i := 473) (by decide +kernel)
theorem kX7_110M : Cond.methodLink RX7 110 yX7_meanByReadings ∈ lw_tbl := lw_of (i := 480) (by decide +kernel)
theorem kX9_1M : Cond.methodLink RX9 1 ⟨"java/lang/Object", "<init>", "()V"⟩ ∈ lw_tbl := lw_of (i := 1027) (by decide +kernel)
theorem kX9_7F : Cond.fieldLink RX9 7 "BitumenNeedleModel" "s" "[I" ∈ lw_tbl := lw_of (i := 1029) (by decide +kernel)
theorem kX9_13F : Cond.fieldLink RX9 13 "BitumenNeedleModel" "text" "[I" ∈ lw_tbl := lw_of (i := 1032) (by decide +kernel)
theorem kX9_16F : Cond.fieldLink RX9 16 "BitumenNeedleModel" "numbers" "[I" ∈ lw_tbl := lw_of (i := 1036) (by decide +kernel)
theorem kX9_19F : Cond.fieldLink RX9 19 "BitumenNeedleModel" "thrown" "I" ∈ lw_tbl := lw_of (i := 1028) (by decide +kernel)
theorem kX9_23M : Cond.methodLink RX9 23 yX9_in ∈ lw_tbl := lw_of (i := 1067) (by decide +kernel)
theorem kX9_27M : Cond.methodLink RX9 27 yX9_div ∈ lw_tbl := lw_of (i := 1156) (by decide +kernel)
theorem kX9_31M : Cond.methodLink RX9 31 yX9_of ∈ lw_tbl := lw_of (i := 1118) (by decide +kernel)
theorem kX9_34M : Cond.methodLink RX9 34 yX9_inBath ∈ lw_tbl := lw_of (i := 1133) (by decide +kernel)
theorem kX9_38M : Cond.methodLink RX9 38 yX9_warmed ∈ lw_tbl := lw_of (i := 1153) (by decide +kernel)
theorem kX9_41M : Cond.methodLink RX9 41 yX9_lay ∈ lw_tbl := lw_of (i := 1102) (by decide +kernel)
theorem kX9_45M : Cond.methodLink RX9 45 yX9_size ∈ lw_tbl := lw_of (i := 1171) (by decide +kernel)
theorem kX9_48M : Cond.methodLink RX9 48 yX9_needleAt ∈ lw_tbl := lw_of (i := 1167) (by decide +kernel)
theorem kX9_51M : Cond.methodLink RX9 51 yX9_depth ∈ lw_tbl := lw_of (i := 1178) (by decide +kernel)
theorem kX9_55M : Cond.methodLink RX9 55 yX9_latest ∈ lw_tbl := lw_of (i := 1210) (by decide +kernel)
theorem kX9_59M : Cond.methodLink RX9 59 yX9_whyNone ∈ lw_tbl := lw_of (i := 1206) (by decide +kernel)
theorem kX9_62M : Cond.methodLink RX9 62 yX9_drumAt ∈ lw_tbl := lw_of (i := 1086) (by decide +kernel)
theorem kX9_65M : Cond.methodLink RX9 65 yX9_penetration ∈ lw_tbl := lw_of (i := 1202) (by decide +kernel)
theorem kX9_68M : Cond.methodLink RX9 68 yX9_told ∈ lw_tbl := lw_of (i := 1222) (by decide +kernel)
theorem kX9_72M : Cond.methodLink RX9 72 yX9_mean ∈ lw_tbl := lw_of (i := 1218) (by decide +kernel)
theorem kX9_75M : Cond.methodLink RX9 75 yX9_needles ∈ lw_tbl := lw_of (i := 1214) (by decide +kernel)
theorem kX9_78M : Cond.methodLink RX9 78 yX9_index ∈ lw_tbl := lw_of (i := 1226) (by decide +kernel)
theorem kX9_81M : Cond.methodLink RX9 81 yX9_hardness ∈ lw_tbl := lw_of (i := 1106) (by decide +kernel)
theorem kX9_84F : Cond.fieldLink RX9 84 "BitumenNeedleModel" "saved" "I" ∈ lw_tbl := lw_of (i := 1030) (by decide +kernel)
theorem kX9_87M : Cond.methodLink RX9 87 yX9_copies ∈ lw_tbl := lw_of (i := 1078) (by decide +kernel)
theorem kX9_91M : Cond.methodLink RX9 91 yX9_save ∈ lw_tbl := lw_of (i := 1074) (by decide +kernel)
theorem kX9_94M : Cond.methodLink RX9 94 yX9_holds ∈ lw_tbl := lw_of (i := 1070) (by decide +kernel)
theorem kX9_98M : Cond.methodLink RX9 98 yX9_isDrum ∈ lw_tbl := lw_of (i := 1094) (by decide +kernel)
theorem kX9_101M : Cond.methodLink RX9 101 yX9_takes ∈ lw_tbl := lw_of (i := 1098) (by decide +kernel)
theorem kX9_104M : Cond.methodLink RX9 104 yX9_isSample ∈ lw_tbl := lw_of (i := 1114) (by decide +kernel)
theorem kX9_107M : Cond.methodLink RX9 107 yX9_isOne ∈ lw_tbl := lw_of (i := 1126) (by decide +kernel)
theorem kX9_110M : Cond.methodLink RX9 110 yX9_hasRoom ∈ lw_tbl := lw_of (i := 1129) (by decide +kernel)
theorem kX9_114M : Cond.methodLink RX9 114 yX9_changed ∈ lw_tbl := lw_of (i := 1137) (by decide +kernel)
theorem kX9_117M : Cond.methodLink RX9 117 yX9_passes ∈ lw_tbl := lw_of (i := 1149) (by decide +kernel)
theorem kX9_120M : Cond.methodLink RX9 120 yX9_whyNot ∈ lw_tbl := lw_of (i := 1163) (by decide +kernel)
theorem kX9_123M : Cond.methodLink RX9 123 yX9_sinks ∈ lw_tbl := lw_of (i := 1174) (by decide +kernel)
theorem kX9_126M : Cond.methodLink RX9 126 yX9_rings ∈ lw_tbl := lw_of (i := 1190) (by decide +kernel)
theorem kX9_129M : Cond.methodLink RX9 129 yX9_whyNotSold ∈ lw_tbl := lw_of (i := 1198) (by decide +kernel)
theorem kX9_132M : Cond.methodLink RX9 132 yX9_sells ∈ lw_tbl := lw_of (i := 1230) (by decide +kernel)
theorem kX9_135F : Cond.fieldLink RX9 135 "BitumenNeedleModel" "length" "I" ∈ lw_tbl := lw_of (i := 1033) (by decide +kernel)
theorem kX9_138F : Cond.fieldLink RX9 138 "BitumenNeedleModel" "at" "I" ∈ lw_tbl := lw_of (i := 1034) (by decide +kernel)
theorem kX9_141M : Cond.methodLink RX9 141 yX9_sign ∈ lw_tbl := lw_of (i := 1258) (by decide +kernel)
theorem kX9_145M : Cond.methodLink RX9 145 yX9_begins ∈ lw_tbl := lw_of (i := 1274) (by decide +kernel)
theorem kX9_148F : Cond.fieldLink RX9 148 "BitumenNeedleModel" "part" "I" ∈ lw_tbl := lw_of (i := 1035) (by decide +kernel)
theorem kX9_151M : Cond.methodLink RX9 151 yX9_readsDigit ∈ lw_tbl := lw_of (i := 1262) (by decide +kernel)
theorem kX9_154M : Cond.methodLink RX9 154 yX9_takesSign ∈ lw_tbl := lw_of (i := 1266) (by decide +kernel)
theorem kX9_157M : Cond.methodLink RX9 157 yX9_readsNumber ∈ lw_tbl := lw_of (i := 1270) (by decide +kernel)
theorem kX9_160M : Cond.methodLink RX9 160 yX9_readsPart ∈ lw_tbl := lw_of (i := 1254) (by decide +kernel)
theorem kX9_164M : Cond.methodLink RX9 164 yX9_areOrders ∈ lw_tbl := lw_of (i := 1250) (by decide +kernel)
theorem kX9_167M : Cond.methodLink RX9 167 yX9_stops ∈ lw_tbl := lw_of (i := 1281) (by decide +kernel)
theorem kX9_170M : Cond.methodLink RX9 170 yX9_does ∈ lw_tbl := lw_of (i := 1285) (by decide +kernel)
theorem kX9_173F : Cond.fieldLink RX9 173 "BitumenNeedleModel" "isKept" "Z" ∈ lw_tbl := lw_of (i := 1031) (by decide +kernel)
theorem kX9_177M : Cond.methodLink RX9 177 yX9_samplesOf ∈ lw_tbl := lw_of (i := 1313) (by decide +kernel)
theorem kX9_180M : Cond.methodLink RX9 180 yX9_ofDrum ∈ lw_tbl := lw_of (i := 1309) (by decide +kernel)
theorem kX9_183M : Cond.methodLink RX9 183 yX9_ofSample ∈ lw_tbl := lw_of (i := 1321) (by decide +kernel)
theorem kX9_186M : Cond.methodLink RX9 186 yX9_farthest ∈ lw_tbl := lw_of (i := 1341) (by decide +kernel)
theorem kX9_189M : Cond.methodLink RX9 189 yX9_ofBath ∈ lw_tbl := lw_of (i := 1337) (by decide +kernel)
theorem kX9_192M : Cond.methodLink RX9 192 yX9_soldDrums ∈ lw_tbl := lw_of (i := 1353) (by decide +kernel)
theorem kX9_195M : Cond.methodLink RX9 195 yX9_penetrated ∈ lw_tbl := lw_of (i := 1357) (by decide +kernel)
theorem kX9_198M : Cond.methodLink RX9 198 yX9_counted ∈ lw_tbl := lw_of (i := 1349) (by decide +kernel)
theorem kX9_201M : Cond.methodLink RX9 201 yX9_ready ∈ lw_tbl := lw_of (i := 1385) (by decide +kernel)
theorem kX9_204M : Cond.methodLink RX9 204 yX9_readyNow ∈ lw_tbl := lw_of (i := 1381) (by decide +kernel)
theorem kX9_207M : Cond.methodLink RX9 207 yX9_best ∈ lw_tbl := lw_of (i := 1393) (by decide +kernel)
theorem kX9_210M : Cond.methodLink RX9 210 yX9_share ∈ lw_tbl := lw_of (i := 1401) (by decide +kernel)
theorem kX9_214K : Cond.constantLong RX9 214 31 ∈ lw_tbl := lw_of (i := 1414) (by decide +kernel)
theorem kX9_216F : Cond.fieldLink RX9 216 "BitumenNeedleModel" "hash" "J" ∈ lw_tbl := lw_of (i := 1037) (by decide +kernel)
theorem kX9_220K : Cond.constantLong RX9 220 1023 ∈ lw_tbl := lw_of (i := 1422) (by decide +kernel)
theorem kX9_222K : Cond.constantDouble RX9 222 4611686018427387904 ∈ lw_tbl := lw_of (i := 1423) (by decide +kernel)
theorem kX9_224K : Cond.constantLong RX9 224 4503599627370496 ∈ lw_tbl := lw_of (i := 1424) (by decide +kernel)
theorem kX9_226K : Cond.constantDouble RX9 226 4841369599423283200 ∈ lw_tbl := lw_of (i := 1425) (by decide +kernel)
theorem kX9_228M : Cond.methodLink RX9 228 yX9_mix ∈ lw_tbl := lw_of (i := 1410) (by decide +kernel)
theorem kX9_232K : Cond.constantLong RX9 232 3767 ∈ lw_tbl := lw_of (i := 1409) (by decide +kernel)
theorem kX9_234M : Cond.methodLink RX9 234 yX9_mixSample ∈ lw_tbl := lw_of (i := 1415) (by decide +kernel)
theorem kX9_238M : Cond.methodLink RX9 238 yX9_bits ∈ lw_tbl := lw_of (i := 1419) (by decide +kernel)
theorem kJ_objI : Cond.instanceMethod Lib.objectInit ∈ lw_tbl := lw_of (i := 30) (by decide +kernel)
theorem kJ_objC : Cond.code Lib.objectInit ⟨#[0xb1]⟩ 1 none ∈ lw_tbl := lw_of (i := 31) (by decide +kernel)
theorem kJ_maxS : Cond.static Lib.Math.max.name ∈ lw_tbl := lw_of (i := 411) (by decide +kernel)
theorem kJ_maxC : Cond.code Lib.Math.max.name Lib.Math.max.code 2 (some .int) ∈ lw_tbl := lw_of (i := 412) (by decide +kernel)
theorem kJ_minS : Cond.static Lib.Math.min.name ∈ lw_tbl := lw_of (i := 408) (by decide +kernel)
theorem kJ_minC : Cond.code Lib.Math.min.name Lib.Math.min.code 2 (some .int) ∈ lw_tbl := lw_of (i := 409) (by decide +kernel)
theorem kJ_absS : Cond.static Lib.Math.abs.name ∈ lw_tbl := lw_of (i := 532) (by decide +kernel)
theorem kJ_absC : Cond.code Lib.Math.abs.name Lib.Math.abs.code 1 (some .int) ∈ lw_tbl := lw_of (i := 533) (by decide +kernel)
theorem kJ_math : Cond.initialized "java/lang/Math" ∈ lw_tbl := lw_of (i := 17) (by decide +kernel)
theorem kJ_cpN : Cond.native arraycopyName ∈ lw_tbl := lw_of (i := 389) (by decide +kernel)
theorem kJ_cpS : Cond.static arraycopyName ∈ lw_tbl := lw_of (i := 388) (by decide +kernel)
theorem kJ_sys : Cond.initialized "java/lang/System" ∈ lw_tbl := lw_of (i := 16) (by decide +kernel)
end
