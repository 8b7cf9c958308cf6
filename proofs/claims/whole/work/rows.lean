section
-- ===== PART A: goes FIRST, ahead of the names: the tables' words, and 'selects' of the private methods out of them =====
/-- a private method of a class that the tables say can be made, by its rows of tables_1 -/
def lw_okq (q : MethodName × Nat) : Prop := (q.1.cls ≠ "java/lang/invoke/MethodHandle" ∧ q.1.cls ≠ "java/lang/invoke/VarHandle") ∧ Cond.instantiable q.1.cls q.2 ∈ tables_1 ∧ Cond.privateMethod q.1 ∈ tables_1 ∧ Cond.instanceMethod q.1 ∈ tables_1
theorem lw_p0 : lw_okq (⟨"ColdStore", "isMeterConsistent", "()Z"⟩, 8) := ⟨⟨by decide +kernel, by decide +kernel⟩, List.mem_of_getElem? (i := 31) (by decide +kernel), List.mem_of_getElem? (i := 190) (by decide +kernel), List.mem_of_getElem? (i := 191) (by decide +kernel)⟩
theorem lw_p1 : lw_okq (⟨"ColdStore", "areRoomsConsistent", "()Z"⟩, 8) := ⟨⟨by decide +kernel, by decide +kernel⟩, List.mem_of_getElem? (i := 31) (by decide +kernel), List.mem_of_getElem? (i := 196) (by decide +kernel), List.mem_of_getElem? (i := 197) (by decide +kernel)⟩
theorem lw_p2 : lw_okq (⟨"ColdStore", "spaceIn", "(LColdStore$Room;)I"⟩, 8) := ⟨⟨by decide +kernel, by decide +kernel⟩, List.mem_of_getElem? (i := 31) (by decide +kernel), List.mem_of_getElem? (i := 215) (by decide +kernel), List.mem_of_getElem? (i := 216) (by decide +kernel)⟩
theorem lw_p3 : lw_okq (⟨"ColdStore", "arePalletsConsistent", "()Z"⟩, 8) := ⟨⟨by decide +kernel, by decide +kernel⟩, List.mem_of_getElem? (i := 31) (by decide +kernel), List.mem_of_getElem? (i := 224) (by decide +kernel), List.mem_of_getElem? (i := 225) (by decide +kernel)⟩
theorem lw_p4 : lw_okq (⟨"ColdStore", "areOrdersConsistent", "()Z"⟩, 8) := ⟨⟨by decide +kernel, by decide +kernel⟩, List.mem_of_getElem? (i := 31) (by decide +kernel), List.mem_of_getElem? (i := 242) (by decide +kernel), List.mem_of_getElem? (i := 243) (by decide +kernel)⟩
theorem lw_p5 : lw_okq (⟨"java/lang/Throwable", "fillInStackTrace", "(I)Ljava/lang/Throwable;"⟩, 6) := ⟨⟨by decide +kernel, by decide +kernel⟩, List.mem_of_getElem? (i := 301) (by decide +kernel), List.mem_of_getElem? (i := 299) (by decide +kernel), List.mem_of_getElem? (i := 300) (by decide +kernel)⟩
theorem lw_p6 : lw_okq (⟨"ColdStore", "passOneTick", "()I"⟩, 8) := ⟨⟨by decide +kernel, by decide +kernel⟩, List.mem_of_getElem? (i := 31) (by decide +kernel), List.mem_of_getElem? (i := 347) (by decide +kernel), List.mem_of_getElem? (i := 348) (by decide +kernel)⟩
theorem lw_p7 : lw_okq (⟨"ColdStore", "givePower", "()I"⟩, 8) := ⟨⟨by decide +kernel, by decide +kernel⟩, List.mem_of_getElem? (i := 31) (by decide +kernel), List.mem_of_getElem? (i := 367) (by decide +kernel), List.mem_of_getElem? (i := 368) (by decide +kernel)⟩
theorem lw_p8 : lw_okq (⟨"ColdStore", "nextWaitingRoom", "()LColdStore$Room;"⟩, 8) := ⟨⟨by decide +kernel, by decide +kernel⟩, List.mem_of_getElem? (i := 31) (by decide +kernel), List.mem_of_getElem? (i := 371) (by decide +kernel), List.mem_of_getElem? (i := 372) (by decide +kernel)⟩
theorem lw_p9 : lw_okq (⟨"ColdStore", "settleDueOrders", "()I"⟩, 8) := ⟨⟨by decide +kernel, by decide +kernel⟩, List.mem_of_getElem? (i := 31) (by decide +kernel), List.mem_of_getElem? (i := 397) (by decide +kernel), List.mem_of_getElem? (i := 398) (by decide +kernel)⟩
theorem lw_p10 : lw_okq (⟨"ColdStore", "canBeShipped", "(LColdStore$Order;)Z"⟩, 8) := ⟨⟨by decide +kernel, by decide +kernel⟩, List.mem_of_getElem? (i := 31) (by decide +kernel), List.mem_of_getElem? (i := 401) (by decide +kernel), List.mem_of_getElem? (i := 402) (by decide +kernel)⟩
theorem lw_p11 : lw_okq (⟨"ColdStore", "countCandidates", "(LColdStore$Order;)I"⟩, 8) := ⟨⟨by decide +kernel, by decide +kernel⟩, List.mem_of_getElem? (i := 31) (by decide +kernel), List.mem_of_getElem? (i := 405) (by decide +kernel), List.mem_of_getElem? (i := 406) (by decide +kernel)⟩
theorem lw_p12 : lw_okq (⟨"ColdStore", "shipCandidates", "(LColdStore$Order;)I"⟩, 8) := ⟨⟨by decide +kernel, by decide +kernel⟩, List.mem_of_getElem? (i := 31) (by decide +kernel), List.mem_of_getElem? (i := 414) (by decide +kernel), List.mem_of_getElem? (i := 415) (by decide +kernel)⟩
theorem lw_p13 : lw_okq (⟨"ColdStore", "nextCandidate", "(LColdStore$Order;LColdStore$Pallet;)LColdStore$Pallet;"⟩, 8) := ⟨⟨by decide +kernel, by decide +kernel⟩, List.mem_of_getElem? (i := 31) (by decide +kernel), List.mem_of_getElem? (i := 418) (by decide +kernel), List.mem_of_getElem? (i := 419) (by decide +kernel)⟩
theorem lw_p14 : lw_okq (⟨"java/util/ArrayList", "add", "(Ljava/lang/Object;[Ljava/lang/Object;I)V"⟩, 3) := ⟨⟨by decide +kernel, by decide +kernel⟩, List.mem_of_getElem? (i := 39) (by decide +kernel), List.mem_of_getElem? (i := 521) (by decide +kernel), List.mem_of_getElem? (i := 522) (by decide +kernel)⟩
theorem lw_p15 : lw_okq (⟨"java/util/ArrayList", "grow", "()[Ljava/lang/Object;"⟩, 3) := ⟨⟨by decide +kernel, by decide +kernel⟩, List.mem_of_getElem? (i := 39) (by decide +kernel), List.mem_of_getElem? (i := 525) (by decide +kernel), List.mem_of_getElem? (i := 526) (by decide +kernel)⟩
def lw_privs_1 : List (MethodName × Nat) := [(⟨"ColdStore", "isMeterConsistent", "()Z"⟩, 8), (⟨"ColdStore", "areRoomsConsistent", "()Z"⟩, 8), (⟨"ColdStore", "spaceIn", "(LColdStore$Room;)I"⟩, 8), (⟨"ColdStore", "arePalletsConsistent", "()Z"⟩, 8), (⟨"ColdStore", "areOrdersConsistent", "()Z"⟩, 8), (⟨"java/lang/Throwable", "fillInStackTrace", "(I)Ljava/lang/Throwable;"⟩, 6), (⟨"ColdStore", "passOneTick", "()I"⟩, 8), (⟨"ColdStore", "givePower", "()I"⟩, 8), (⟨"ColdStore", "nextWaitingRoom", "()LColdStore$Room;"⟩, 8), (⟨"ColdStore", "settleDueOrders", "()I"⟩, 8), (⟨"ColdStore", "canBeShipped", "(LColdStore$Order;)Z"⟩, 8), (⟨"ColdStore", "countCandidates", "(LColdStore$Order;)I"⟩, 8), (⟨"ColdStore", "shipCandidates", "(LColdStore$Order;)I"⟩, 8), (⟨"ColdStore", "nextCandidate", "(LColdStore$Order;LColdStore$Pallet;)LColdStore$Pallet;"⟩, 8), (⟨"java/util/ArrayList", "add", "(Ljava/lang/Object;[Ljava/lang/Object;I)V"⟩, 3), (⟨"java/util/ArrayList", "grow", "()[Ljava/lang/Object;"⟩, 3)]
theorem lw_r1 : ∀ q ∈ lw_privs_1, lw_okq q := List.forall_mem_cons.mpr ⟨lw_p0, List.forall_mem_cons.mpr ⟨lw_p1, List.forall_mem_cons.mpr ⟨lw_p2, List.forall_mem_cons.mpr ⟨lw_p3, List.forall_mem_cons.mpr ⟨lw_p4, List.forall_mem_cons.mpr ⟨lw_p5, List.forall_mem_cons.mpr ⟨lw_p6, List.forall_mem_cons.mpr ⟨lw_p7, List.forall_mem_cons.mpr ⟨lw_p8, List.forall_mem_cons.mpr ⟨lw_p9, List.forall_mem_cons.mpr ⟨lw_p10, List.forall_mem_cons.mpr ⟨lw_p11, List.forall_mem_cons.mpr ⟨lw_p12, List.forall_mem_cons.mpr ⟨lw_p13, List.forall_mem_cons.mpr ⟨lw_p14, List.forall_mem_cons.mpr ⟨lw_p15, fun _ h => absurd h List.not_mem_nil⟩⟩⟩⟩⟩⟩⟩⟩⟩⟩⟩⟩⟩⟩⟩⟩
theorem lw_p16 : lw_okq (⟨"java/util/ArrayList", "grow", "(I)[Ljava/lang/Object;"⟩, 3) := ⟨⟨by decide +kernel, by decide +kernel⟩, List.mem_of_getElem? (i := 39) (by decide +kernel), List.mem_of_getElem? (i := 529) (by decide +kernel), List.mem_of_getElem? (i := 530) (by decide +kernel)⟩
theorem lw_p17 : lw_okq (⟨"ColdStore", "findRoom", "(I)LColdStore$Room;"⟩, 8) := ⟨⟨by decide +kernel, by decide +kernel⟩, List.mem_of_getElem? (i := 31) (by decide +kernel), List.mem_of_getElem? (i := 610) (by decide +kernel), List.mem_of_getElem? (i := 611) (by decide +kernel)⟩
theorem lw_p18 : lw_okq (⟨"ColdStore", "findKind", "(I)LColdStore$Kind;"⟩, 8) := ⟨⟨by decide +kernel, by decide +kernel⟩, List.mem_of_getElem? (i := 31) (by decide +kernel), List.mem_of_getElem? (i := 764) (by decide +kernel), List.mem_of_getElem? (i := 765) (by decide +kernel)⟩
theorem lw_p19 : lw_okq (⟨"ColdStore", "requireSpace", "(LColdStore$Room;)V"⟩, 8) := ⟨⟨by decide +kernel, by decide +kernel⟩, List.mem_of_getElem? (i := 31) (by decide +kernel), List.mem_of_getElem? (i := 770) (by decide +kernel), List.mem_of_getElem? (i := 771) (by decide +kernel)⟩
theorem lw_p20 : lw_okq (⟨"ColdStore", "findPallet", "(I)LColdStore$Pallet;"⟩, 8) := ⟨⟨by decide +kernel, by decide +kernel⟩, List.mem_of_getElem? (i := 31) (by decide +kernel), List.mem_of_getElem? (i := 833) (by decide +kernel), List.mem_of_getElem? (i := 834) (by decide +kernel)⟩
theorem lw_p21 : lw_okq (⟨"ColdStore", "findOrder", "(I)LColdStore$Order;"⟩, 8) := ⟨⟨by decide +kernel, by decide +kernel⟩, List.mem_of_getElem? (i := 31) (by decide +kernel), List.mem_of_getElem? (i := 953) (by decide +kernel), List.mem_of_getElem? (i := 954) (by decide +kernel)⟩
theorem lw_p22 : lw_okq (⟨"ColdStore", "countOpenOrders", "()I"⟩, 8) := ⟨⟨by decide +kernel, by decide +kernel⟩, List.mem_of_getElem? (i := 31) (by decide +kernel), List.mem_of_getElem? (i := 962) (by decide +kernel), List.mem_of_getElem? (i := 963) (by decide +kernel)⟩
theorem lw_p23 : lw_okq (⟨"ColdStore", "findCandidate", "(LColdStore$Order;I)LColdStore$Pallet;"⟩, 8) := ⟨⟨by decide +kernel, by decide +kernel⟩, List.mem_of_getElem? (i := 31) (by decide +kernel), List.mem_of_getElem? (i := 980) (by decide +kernel), List.mem_of_getElem? (i := 981) (by decide +kernel)⟩
theorem lw_p24 : lw_okq (⟨"ColdStoreModel", "tick", "()I"⟩, 44) := ⟨⟨by decide +kernel, by decide +kernel⟩, List.mem_of_getElem? (i := 1024) (by decide +kernel), List.mem_of_getElem? (i := 1181) (by decide +kernel), List.mem_of_getElem? (i := 1182) (by decide +kernel)⟩
theorem lw_p25 : lw_okq (⟨"ColdStoreModel", "wishes", "(I)V"⟩, 44) := ⟨⟨by decide +kernel, by decide +kernel⟩, List.mem_of_getElem? (i := 1024) (by decide +kernel), List.mem_of_getElem? (i := 1185) (by decide +kernel), List.mem_of_getElem? (i := 1186) (by decide +kernel)⟩
theorem lw_p26 : lw_okq (⟨"ColdStoreModel", "isPeak", "()Z"⟩, 44) := ⟨⟨by decide +kernel, by decide +kernel⟩, List.mem_of_getElem? (i := 1024) (by decide +kernel), List.mem_of_getElem? (i := 1189) (by decide +kernel), List.mem_of_getElem? (i := 1190) (by decide +kernel)⟩
theorem lw_p27 : lw_okq (⟨"ColdStoreModel", "powers", "()V"⟩, 44) := ⟨⟨by decide +kernel, by decide +kernel⟩, List.mem_of_getElem? (i := 1024) (by decide +kernel), List.mem_of_getElem? (i := 1193) (by decide +kernel), List.mem_of_getElem? (i := 1194) (by decide +kernel)⟩
theorem lw_p28 : lw_okq (⟨"ColdStoreModel", "next", "()I"⟩, 44) := ⟨⟨by decide +kernel, by decide +kernel⟩, List.mem_of_getElem? (i := 1024) (by decide +kernel), List.mem_of_getElem? (i := 1197) (by decide +kernel), List.mem_of_getElem? (i := 1198) (by decide +kernel)⟩
theorem lw_p29 : lw_okq (⟨"ColdStoreModel", "warms", "()V"⟩, 44) := ⟨⟨by decide +kernel, by decide +kernel⟩, List.mem_of_getElem? (i := 1024) (by decide +kernel), List.mem_of_getElem? (i := 1201) (by decide +kernel), List.mem_of_getElem? (i := 1202) (by decide +kernel)⟩
theorem lw_p30 : lw_okq (⟨"ColdStoreModel", "loss", "(II)I"⟩, 44) := ⟨⟨by decide +kernel, by decide +kernel⟩, List.mem_of_getElem? (i := 1024) (by decide +kernel), List.mem_of_getElem? (i := 1206) (by decide +kernel), List.mem_of_getElem? (i := 1207) (by decide +kernel)⟩
theorem lw_p31 : lw_okq (⟨"ColdStoreModel", "candidatesOf", "(I)I"⟩, 44) := ⟨⟨by decide +kernel, by decide +kernel⟩, List.mem_of_getElem? (i := 1024) (by decide +kernel), List.mem_of_getElem? (i := 1210) (by decide +kernel), List.mem_of_getElem? (i := 1211) (by decide +kernel)⟩
def lw_privs_2 : List (MethodName × Nat) := [(⟨"java/util/ArrayList", "grow", "(I)[Ljava/lang/Object;"⟩, 3), (⟨"ColdStore", "findRoom", "(I)LColdStore$Room;"⟩, 8), (⟨"ColdStore", "findKind", "(I)LColdStore$Kind;"⟩, 8), (⟨"ColdStore", "requireSpace", "(LColdStore$Room;)V"⟩, 8), (⟨"ColdStore", "findPallet", "(I)LColdStore$Pallet;"⟩, 8), (⟨"ColdStore", "findOrder", "(I)LColdStore$Order;"⟩, 8), (⟨"ColdStore", "countOpenOrders", "()I"⟩, 8), (⟨"ColdStore", "findCandidate", "(LColdStore$Order;I)LColdStore$Pallet;"⟩, 8), (⟨"ColdStoreModel", "tick", "()I"⟩, 44), (⟨"ColdStoreModel", "wishes", "(I)V"⟩, 44), (⟨"ColdStoreModel", "isPeak", "()Z"⟩, 44), (⟨"ColdStoreModel", "powers", "()V"⟩, 44), (⟨"ColdStoreModel", "next", "()I"⟩, 44), (⟨"ColdStoreModel", "warms", "()V"⟩, 44), (⟨"ColdStoreModel", "loss", "(II)I"⟩, 44), (⟨"ColdStoreModel", "candidatesOf", "(I)I"⟩, 44)]
theorem lw_r2 : ∀ q ∈ lw_privs_2, lw_okq q := List.forall_mem_cons.mpr ⟨lw_p16, List.forall_mem_cons.mpr ⟨lw_p17, List.forall_mem_cons.mpr ⟨lw_p18, List.forall_mem_cons.mpr ⟨lw_p19, List.forall_mem_cons.mpr ⟨lw_p20, List.forall_mem_cons.mpr ⟨lw_p21, List.forall_mem_cons.mpr ⟨lw_p22, List.forall_mem_cons.mpr ⟨lw_p23, List.forall_mem_cons.mpr ⟨lw_p24, List.forall_mem_cons.mpr ⟨lw_p25, List.forall_mem_cons.mpr ⟨lw_p26, List.forall_mem_cons.mpr ⟨lw_p27, List.forall_mem_cons.mpr ⟨lw_p28, List.forall_mem_cons.mpr ⟨lw_p29, List.forall_mem_cons.mpr ⟨lw_p30, List.forall_mem_cons.mpr ⟨lw_p31, fun _ h => absurd h List.not_mem_nil⟩⟩⟩⟩⟩⟩⟩⟩⟩⟩⟩⟩⟩⟩⟩⟩
theorem lw_p32 : lw_okq (⟨"ColdStoreModel", "isCandidate", "(II)Z"⟩, 44) := ⟨⟨by decide +kernel, by decide +kernel⟩, List.mem_of_getElem? (i := 1024) (by decide +kernel), List.mem_of_getElem? (i := 1214) (by decide +kernel), List.mem_of_getElem? (i := 1215) (by decide +kernel)⟩
theorem lw_p33 : lw_okq (⟨"ColdStoreModel", "ships", "(I)I"⟩, 44) := ⟨⟨by decide +kernel, by decide +kernel⟩, List.mem_of_getElem? (i := 1024) (by decide +kernel), List.mem_of_getElem? (i := 1218) (by decide +kernel), List.mem_of_getElem? (i := 1219) (by decide +kernel)⟩
theorem lw_p34 : lw_okq (⟨"ColdStoreModel", "candidate", "(II)I"⟩, 44) := ⟨⟨by decide +kernel, by decide +kernel⟩, List.mem_of_getElem? (i := 1024) (by decide +kernel), List.mem_of_getElem? (i := 1222) (by decide +kernel), List.mem_of_getElem? (i := 1223) (by decide +kernel)⟩
theorem lw_p35 : lw_okq (⟨"ColdStoreModel", "isRoom", "(I)Z"⟩, 44) := ⟨⟨by decide +kernel, by decide +kernel⟩, List.mem_of_getElem? (i := 1024) (by decide +kernel), List.mem_of_getElem? (i := 1238) (by decide +kernel), List.mem_of_getElem? (i := 1239) (by decide +kernel)⟩
theorem lw_p36 : lw_okq (⟨"ColdStoreModel", "filled", "(I)I"⟩, 44) := ⟨⟨by decide +kernel, by decide +kernel⟩, List.mem_of_getElem? (i := 1024) (by decide +kernel), List.mem_of_getElem? (i := 1270) (by decide +kernel), List.mem_of_getElem? (i := 1271) (by decide +kernel)⟩
theorem lw_p37 : lw_okq (⟨"ColdStoreModel", "isPallet", "(I)Z"⟩, 44) := ⟨⟨by decide +kernel, by decide +kernel⟩, List.mem_of_getElem? (i := 1024) (by decide +kernel), List.mem_of_getElem? (i := 1315) (by decide +kernel), List.mem_of_getElem? (i := 1316) (by decide +kernel)⟩
theorem lw_p38 : lw_okq (⟨"ColdStoreModel", "isOrder", "(I)Z"⟩, 44) := ⟨⟨by decide +kernel, by decide +kernel⟩, List.mem_of_getElem? (i := 1024) (by decide +kernel), List.mem_of_getElem? (i := 1364) (by decide +kernel), List.mem_of_getElem? (i := 1365) (by decide +kernel)⟩
theorem lw_p39 : lw_okq (⟨"ColdStoreModel", "raises", "(I)I"⟩, 44) := ⟨⟨by decide +kernel, by decide +kernel⟩, List.mem_of_getElem? (i := 1024) (by decide +kernel), List.mem_of_getElem? (i := 1376) (by decide +kernel), List.mem_of_getElem? (i := 1377) (by decide +kernel)⟩
def lw_privs_3 : List (MethodName × Nat) := [(⟨"ColdStoreModel", "isCandidate", "(II)Z"⟩, 44), (⟨"ColdStoreModel", "ships", "(I)I"⟩, 44), (⟨"ColdStoreModel", "candidate", "(II)I"⟩, 44), (⟨"ColdStoreModel", "isRoom", "(I)Z"⟩, 44), (⟨"ColdStoreModel", "filled", "(I)I"⟩, 44), (⟨"ColdStoreModel", "isPallet", "(I)Z"⟩, 44), (⟨"ColdStoreModel", "isOrder", "(I)Z"⟩, 44), (⟨"ColdStoreModel", "raises", "(I)I"⟩, 44)]
theorem lw_r3 : ∀ q ∈ lw_privs_3, lw_okq q := List.forall_mem_cons.mpr ⟨lw_p32, List.forall_mem_cons.mpr ⟨lw_p33, List.forall_mem_cons.mpr ⟨lw_p34, List.forall_mem_cons.mpr ⟨lw_p35, List.forall_mem_cons.mpr ⟨lw_p36, List.forall_mem_cons.mpr ⟨lw_p37, List.forall_mem_cons.mpr ⟨lw_p38, List.forall_mem_cons.mpr ⟨lw_p39, fun _ h => absurd h List.not_mem_nil⟩⟩⟩⟩⟩⟩⟩⟩
def lw_privs : List (MethodName × Nat) := lw_privs_1 ++ (lw_privs_2 ++ (lw_privs_3))
def lw_tbl : List Cond := k2_sels lw_privs ++ tables_1
theorem lw_privs_ok : ∀ q ∈ lw_privs, lw_okq q := by
  show ∀ q ∈ lw_privs_1 ++ (lw_privs_2 ++ (lw_privs_3)), lw_okq q
  exact List.forall_mem_append.mpr ⟨lw_r1, List.forall_mem_append.mpr ⟨lw_r2, lw_r3⟩⟩
/-- the streams that the claim lets the run draw from -/
abbrev lw_cs : List Choice := [Jvm.Choice.named "NaN.bits"]
theorem lw_bits : nanBits ∈ lw_cs := by first | decide | exact List.mem_cons_self | simp [lw_cs, nanBits]
-- ===== end of PART A; then your names; then what follows =====
end
section
/-! ===== BEGIN words of one list among another's, by their places ===== -/
theorem goodIn_r {big : List Cond} (ws : List Cond) (ps : List Nat) (hp : ws = ps.filterMap (fun i => big[i]?)) (h : ws.all goodWord = true) : GoodIn big ws := by
  intro w hw
  have h1 := List.all_eq_true.mp h w hw
  rw [hp] at hw
  obtain ⟨i, -, hi⟩ := List.mem_filterMap.mp hw
  have hm : w ∈ big := by first | exact List.mem_of_getElem? hi | exact List.getElem?_mem hi
  exact ⟨hm, good_of_word h1⟩
theorem goodIn_app {big a b : List Cond} (ha : GoodIn big a) (hb : GoodIn big b) : GoodIn big (a ++ b) := fun w h => (List.mem_append.mp h).elim (ha w) (hb w)
theorem goodIn_ca {big a b : List Cond} {c : Cond} (ha : GoodIn big (c :: a)) (hb : GoodIn big b) : GoodIn big (c :: (a ++ b)) := fun w h => (List.mem_cons.mp h).elim (fun e => ha w (List.mem_cons.mpr (Or.inl e))) (fun h => (List.mem_append.mp h).elim (fun h => ha w (List.mem_cons.mpr (Or.inr h))) (hb w))
theorem goodIn_sub {big ws : List Cond} (hm : ∀ w ∈ ws, w ∈ big) (h : ws.all goodWord = true) : GoodIn big ws := fun w hw => ⟨hm w hw, good_of_word (List.all_eq_true.mp h w hw)⟩
/-! ===== END ===== -/

/-! ===== BEGIN exceptions that leave a method, and their catching by the caller (launches without stack traces) ===== -/
section VXA
/-! The laws vx_back, vx_callV, vx_callS, vx_callSW, vx_throw0, vx_throwS follow proofs of the library, with one case more: JvmDerived/Free/Laws.lean (Back.of_free), Shelf42/LK1.lean (callV, callS), Shelf/KitTraced.lean (throwNew0V, throwNewS). -/
/-- where a method has thrown q: the class by its name, the cell, what was written, the world -/
def vx_T (XC : String → State → State → Prop) (st : State) (q : Addr) (t : State) (mc ms : Nat) (free : Addr → Prop) : Prop :=
  ∃ (E : String) (ce : Cell) (L : List Loc), XC E st t ∧ t.heap[q]? = some ce ∧ ce.vm = .none ∧ st.vm.findClass E = some ce.cls ∧ st.WarmedH t.vm ∧ st.sameButNew ({ t with vm := st.vm } : State) L mc ms ∧ ∀ z ∈ L, free z.base
def vx_Q (Qc : Array Value → State → Outcome → State → Prop) (XC : String → State → State → Prop) (mc ms : Nat) (free : Addr → Prop) : Array Value → State → Outcome → State → Prop := fun a st o t =>
  (Qc a st o t ∧ ∃ L, FrameEnd st o t L mc ms ∧ ∀ q ∈ L, free q.base) ∨ ∃ q, o = .threw q ∧ vx_T XC st q t mc ms free
/-- a callee that returns or throws -/
def vx_Met (l : Launch) (y : MethodName) (ws : List Cond) (rm : Room) (Pc : Array Value → State → Prop) (Qc : Array Value → State → Outcome → State → Prop) (XC : String → State → State → Prop) (mc ms : Nat) (free : Addr → Prop) : Prop :=
  MetFree l y (headSpec ws rm) Pc (fun _ _ _ _ _ => True) (vx_Q Qc XC mc ms free)
def vx_Post (XC : String → State → State → Prop) (mc ms : Nat) (free : Addr → Prop) : Pt → Array Value → Addr → Pt → Prop := fun A a q B =>
  ∃ (g : JFrame) (mk : MethodId) (t : State) (L : List Loc) (E : String) (ce : Cell), B.U.heap = t.heap ∧ B.U.vm = t.vm ∧ XC E (A.U.calling g mk a) t ∧ t.heap[q]? = some ce ∧ ce.vm = .none ∧ A.U.vm.findClass E = some ce.cls ∧ B.locs = A.locs ++ L ∧ (∀ z ∈ L, free z.base) ∧ B.cells = A.cells + mc ∧ B.slots = A.slots + ms
def vx_Back (l : Launch) (R : Room) (p : Program) (e : Env) (below : List Frame) (s : State) (sargs : Array Value) (y : MethodName) (len W9 : Nat)
    (Pre : Pt → Array Value → Prop) (Post : Pt → Array Value → Option Value → Pt → Prop) (PostX : Pt → Array Value → Addr → Pt → Prop) : Prop :=
  ∀ (m : MethodId) (meth : Method) (c : Code) (A : Pt) (g : JFrame) (ig : Instr) (mk : MethodId) (a : Array Value),
    Stand p l e R s m sargs below meth c A.U A.locs A.cells A.slots → g.method = m → g.locals.size = c.maxLocals → decode c.code g.pc = .ok (ig, len) →
    2 * g.monitorRoom + (g.stack.map fun v => v.category).sum ≤ W9 → A.U.methodNamed? y = some mk → Pre A a →
    (∃ (v : Option Value) (B : Pt), Stand p l e R s m sargs below meth c B.U B.locs B.cells B.slots ∧ Post A a v B ∧
      Steps p.tables e below (doInvoke e (A.U.setTop g) [] mk a).1 (B.U.setTop { g with pc := g.pc + len, stack := v.toList ++ g.stack })) ∨
    (∃ (q : Addr) (B : Pt), Stand p l e R s m sargs below meth c B.U B.locs B.cells B.slots ∧ PostX A a q B ∧
      Steps p.tables e below (doInvoke e (A.U.setTop g) [] mk a).1 ((B.U.setTop g).pushFrame (.throwing q)))
section Payer
variable {l : Launch} {R : Room} {p : Program} {e : Env} {below : List Frame} {s : State} {sargs : Array Value} {y : MethodName} {len W9 : Nat}
theorem vx_back {ws : List Cond} {rm : Room} {Pc : Array Value → State → Prop} {Qc : Array Value → State → Outcome → State → Prop} {XC : String → State → State → Prop} {mc ms : Nat} {free : Addr → Prop} {bytes : ByteArray} {maxL : Nat} {ret : Option FieldType}
    (hM : vx_Met l y ws rm Pc Qc XC mc ms free) (hblind : FrameBlind Pc) (hrc : rm.cells = mc) (hrs : rm.slots = ms)
    (hframes : rm.frames + 1 ≤ R.frames) (hlocals : W9 + (maxL + 11) + rm.locals ≤ R.locals)
    (hws : ∀ w ∈ ws, ∀ a' U, s.WarmedH U.vm → w.before a' U = true) (hcode : Cond.code y bytes maxL ret ∈ ws) (hinit : ∀ a' U, s.WarmedH U.vm → (Cond.initialized y.cls).before a' U = true) :
    vx_Back l R p e below s sargs y len W9 (PreOf R mc ms Pc) (PostOf Qc mc ms free) (vx_Post XC mc ms free) := by
  intro m meth c A g ig mk a X hg hsize hdg hW hn hp
  have h1 : (headSpec ws rm).pre.before a A.U = true := atoms_intro fun w hw => hws w hw _ _ X.warmed
  have h2 : (Cond.code y bytes maxL ret).before a A.U = true := hws _ hcode _ _ X.warmed
  have h3 : (Cond.initialized y.cls).before a A.U = true := hinit _ _ X.warmed
  have h4 : A.cells + (headSpec ws rm).room.cells ≤ R.cells := by rw [show (headSpec ws rm).room.cells = mc from hrc]; exact hp.1
  have h5 : A.slots + (headSpec ws rm).room.slots ≤ R.slots := by rw [show (headSpec ws rm).room.slots = ms from hrs]; exact hp.2.1
  have hPc : Pc a (A.U.calling g mk a) := hblind _ _ _ _ hp.2.2
  obtain ⟨U, Ls, c0, s0⟩ := A
  dsimp only [Pt.U, Pt.locs, Pt.cells, Pt.slots] at h1 h2 h3 h4 h5 X hn hPc ⊢
  obtain ⟨methY, cY, hmY, hcY, -, hlY, -, -, -, -⟩ := Cond.code_spec hn h2
  obtain ⟨kY, hkY, -⟩ := className_of_methodNamed hn
  have hinitY : kY.init = .initialized := Cond.initialized_spec (findClass_of_methodNamed hn) hkY h3
  have h : At U g.method c below := by rw [hg]; exact X.here
  have hlocals9 : W9 + (maxL + 11) + (headSpec ws rm).room.locals ≤ R.locals := hlocals
  have happ : (headSpec ws rm).appliesLoose y e.platform (U.calling g mk a) = true :=
    Spec.appliesLoose_calling (g := g) h hdg hn hkY hinitY
      (X.room_calling (g := g) (R' := (headSpec ws rm).room) hsize hmY hcY hframes (by rw [hlY]; omega) h4 h5) h1
  obtain ⟨mid, hmid⟩ := h.above
  have hfr : (U.setTop g).frames = (.java g :: mid) ++ below := by rw [State.frames_setTop' g h.top, hmid]; rfl
  obtain ⟨o, s₂, hsteps, -, hend, hq⟩ := Steps.callFree hM p X.admits X.cas X.clock (acts := []) hfr happ hPc trivial
  have hq' : vx_Q Qc XC mc ms free a (U.calling g mk a) o s₂ := hq
  rw [State.frames_setTop' g h.top] at hend
  obtain ⟨g₀, hg0⟩ := Option.isSome_iff_exists.mp h.top
  obtain ⟨r, hr⟩ := State.topJava?_eq_some.mp hg0
  have hr' : (({ U with heap := s₂.heap, slotsUsed := s₂.slotsUsed } : State).setVm s₂.vm).frames = .java g₀ :: r := hr
  rcases hq' with ⟨hqc, L, hfe, hL⟩ | ⟨q, rfl, E, ce, L, hx, hce, hcv, hcl, hW₂, hsm, hL⟩
  · obtain ⟨⟨v, rfl⟩, hW₂, e2, q2, q3, q4, q5, q6⟩ := id hfe
    have e3 : s₂ = ({ (U.calling g mk a).setFrames s₂.frames with heap := s₂.heap, slotsUsed := s₂.slotsUsed } : State).setVm s₂.vm := by
      have : s₂ = ({ s₂ with vm := (U.calling g mk a).vm } : State).setVm s₂.vm := rfl
      rw [e2] at this
      exact this
    obtain ⟨c₂, i₂, len₂, hc₂, hd₂, hf₂⟩ := hend
    have hW' : U.WarmedH s₂.vm := hW₂
    have hcc : c₂ = c := by
      have h1 : s₂.code? g.method = U.code? g.method := by
        rw [State.code?_eq, State.code?_eq, hW'.alike.method?]
      exact Option.some.inj (hc₂.symm.trans (h1.trans h.code))
    subst hcc
    have hlen : len₂ = len := by rw [hdg] at hd₂; cases hd₂; rfl
    subst hlen
    have hs₂ : s₂ = (({ U with heap := s₂.heap, slotsUsed := s₂.slotsUsed } : State).setVm s₂.vm).setTop { g with pc := g.pc + len₂, stack := v.toList ++ g.stack } := by
      refine e3.trans ?_
      rw [hf₂, State.calling_eq h.top, State.setFrames_setFrames, State.setTop_of_frames _ hr', hr]
      rfl
    have hsame : U.sameButNew ({ U with heap := s₂.heap, slotsUsed := s₂.slotsUsed } : State) L mc ms := by
      refine ⟨?_, q2, q3, q4, q5, q6⟩
      obtain ⟨t, ht, -⟩ := State.frames_cons hr
      show ({ U with heap := s₂.heap, slotsUsed := s₂.slotsUsed } : State) = { U.setFrames U.frames with heap := s₂.heap, slotsUsed := s₂.slotsUsed }
      rw [State.setFrames_self ht]
    subst hg
    refine Or.inl ⟨v, ⟨(({ U with heap := s₂.heap, slotsUsed := s₂.slotsUsed } : State).setVm s₂.vm), Ls ++ L, c0 + mc, s0 + ms⟩,
      ⟨X.admits, X.cas, X.clock, X.frames, X.room, X.hears, X.method, X.code, (X.here.setHeapUsed s₂.heap s₂.slotsUsed).setVm hW'.alike, X.tail, State.WarmedH.trans X.warmed hW', X.limits, X.bytes, X.same.trans (hsame.setVm s.vm)⟩,
      ⟨g, mk, s₂, L, rfl, rfl, hqc, rfl, hL, rfl, rfl⟩, ?_⟩
    show Steps p.tables e below _ ((({ U with heap := s₂.heap, slotsUsed := s₂.slotsUsed } : State).setVm s₂.vm).setTop { g with pc := g.pc + len₂, stack := v.toList ++ g.stack })
    rw [← hs₂]
    exact hsteps
  · obtain ⟨e2, q2, q3, q4, q5, q6⟩ := id hsm
    have e3 : s₂ = ({ (U.calling g mk a).setFrames s₂.frames with heap := s₂.heap, slotsUsed := s₂.slotsUsed } : State).setVm s₂.vm := by
      have : s₂ = ({ s₂ with vm := (U.calling g mk a).vm } : State).setVm s₂.vm := rfl
      rw [e2] at this
      exact this
    have hf₂ : s₂.frames = .throwing q :: .java g :: U.frames.tail := hend
    have hW' : U.WarmedH s₂.vm := hW₂
    have hs₂ : s₂ = ((({ U with heap := s₂.heap, slotsUsed := s₂.slotsUsed } : State).setVm s₂.vm).setTop g).pushFrame (.throwing q) := by
      refine e3.trans ?_
      rw [hf₂, State.calling_eq h.top, State.setFrames_setFrames, State.pushFrame, State.frames_setTop _ hr', State.setTop_of_frames _ hr', State.setFrames_setFrames, hr]
      rfl
    have hsame : U.sameButNew ({ U with heap := s₂.heap, slotsUsed := s₂.slotsUsed } : State) L mc ms := by
      refine ⟨?_, q2, q3, q4, q5, q6⟩
      obtain ⟨t, ht, -⟩ := State.frames_cons hr
      show ({ U with heap := s₂.heap, slotsUsed := s₂.slotsUsed } : State) = { U.setFrames U.frames with heap := s₂.heap, slotsUsed := s₂.slotsUsed }
      rw [State.setFrames_self ht]
    subst hg
    refine Or.inr ⟨q, ⟨(({ U with heap := s₂.heap, slotsUsed := s₂.slotsUsed } : State).setVm s₂.vm), Ls ++ L, c0 + mc, s0 + ms⟩,
      ⟨X.admits, X.cas, X.clock, X.frames, X.room, X.hears, X.method, X.code, (X.here.setHeapUsed s₂.heap s₂.slotsUsed).setVm hW'.alike, X.tail, State.WarmedH.trans X.warmed hW', X.limits, X.bytes, X.same.trans (hsame.setVm s.vm)⟩,
      ⟨g, mk, s₂, L, E, ce, rfl, rfl, hx, hce, hcv, hcl, rfl, hL, rfl, rfl⟩, ?_⟩
    show Steps p.tables e below _ (((({ U with heap := s₂.heap, slotsUsed := s₂.slotsUsed } : State).setVm s₂.vm).setTop g).pushFrame (.throwing q))
    rw [← hs₂]
    exact hsteps
end Payer
section Calls
variable {p : Program} {l : Launch} {e : Env} {R : Room} {s : State} {m : MethodId} {args : Array Value} {below : List Frame} {meth : Method} {c : Code} {T : State} {locs : List Loc} {cells slots : Nat}
theorem vx_callV (X : Stand p l e R s m args below meth c T locs cells slots) (hexec : p.tables.exec = Jvm.exec) {own C : String} {index : Nat} {y : MethodName} {bytes : ByteArray} {maxL : Nat} {ret : Option FieldType}
    (hown : s.vm.findClass own = some m.cls) (hlink : (Cond.methodLink own index y).before args s = true) (hinst : (Cond.instanceMethod y).before args s = true) (hsel : (Cond.selects C y y).before args s = true)
    (hcode : (Cond.code y bytes maxL ret).before args s = true) (hy : y.cls ≠ "java/lang/invoke/MethodHandle" ∧ y.cls ≠ "java/lang/invoke/VarHandle")
    {W9 : Nat} {Pre : Pt → Array Value → Prop} {Post : Pt → Array Value → Option Value → Pt → Prop} {PostX : Pt → Array Value → Addr → Pt → Prop} (hK : vx_Back l R p e below s args y 3 W9 Pre Post PostX)
    {b : Addr} {cellB : Cell} (hcell : T.heap[b]? = some cellB) (hobj : cellB.vm.isStatics = false) (hcls : s.vm.findClass C = some cellB.cls)
    {g : JFrame} (hg : g.method = m) (hsize : g.locals.size = c.maxLocals) {argsL rest : List Value} (hlen : ∀ sig, parseMethodDescriptor y.desc = some sig → argsL.length = sig.parameters.length)
    (hstack : g.stack = argsL.reverse ++ .ref b :: rest) (hW : 2 * g.monitorRoom + (rest.map fun v => v.category).sum ≤ W9) (hdg : decode c.code g.pc = .ok (.invokevirtual index, 3))
    (hpre : ∀ vm₁, s.WarmedH vm₁ → Pre ⟨T.setVm vm₁, locs, cells, slots⟩ (Value.ref b :: argsL).toArray) :
    (∃ (v : Option Value) (vm₁ : Vm) (B : Pt), s.WarmedH vm₁ ∧ Stand p l e R s m args below meth c B.U B.locs B.cells B.slots ∧ Post ⟨T.setVm vm₁, locs, cells, slots⟩ (Value.ref b :: argsL).toArray v B ∧
      ∀ target, Steps p.tables e below (B.U.setTop { g with pc := g.pc + 3, stack := v.toList ++ rest }) target → Steps p.tables e below (T.setTop g) target) ∨
    (∃ (q : Addr) (vm₁ : Vm) (B : Pt), s.WarmedH vm₁ ∧ Stand p l e R s m args below meth c B.U B.locs B.cells B.slots ∧ PostX ⟨T.setVm vm₁, locs, cells, slots⟩ (Value.ref b :: argsL).toArray q B ∧
      Steps p.tables e below (T.setTop g) ((B.U.setTop { g with stack := rest }).pushFrame (.throwing q))) := by
  obtain ⟨mk, methM, hnamed, hmethM, hstM, habM⟩ := Cond.instanceMethod_spec hinst
  obtain ⟨methM', cM, hmethM', -, -, -, -, -, -, hsigM⟩ := Cond.code_spec hnamed hcode
  cases hmethM.symm.trans hmethM'
  obtain ⟨c2, r2, m2, q1, q2, q3, q4, kP, hkP, hkPi⟩ := Cond.selects_spec hsel
  cases hcls.symm.trans q1
  cases (State.methodFound?_of_named hnamed hy).symm.trans q2
  cases hnamed.symm.trans q3
  have hselP : selectMethod e.platform s.vm cellB.cls mk = .method mk := by rw [Launch.admits_selectMethod X.admits]; exact q4
  obtain ⟨vm₁, X₁, hstep₁⟩ := X.invokevirtual hexec hown hlink hnamed hmethM hstM hkP hkPi hy (a := b) (cell := cellB) hcell
    (fun z h => by rw [h] at hobj; cases hobj) hselP hmethM habM hkP hkPi (g := g) hg (argsL := argsL) (rest := rest) (hlen _ hsigM) hstack hdg
  rcases hK m meth c ⟨T.setVm vm₁, locs, cells, slots⟩ { g with stack := rest } (.invokevirtual index) mk (Value.ref b :: argsL).toArray X₁ hg hsize hdg hW (X₁.named hnamed) (hpre vm₁ X₁.warmed) with ⟨v, B, X', hpost, hsteps⟩ | ⟨q, B, X', hpost, hsteps⟩
  · exact Or.inl ⟨v, vm₁, B, X₁.warmed, X', hpost, fun target h => hstep₁ _ fun acts => by rw [doInvoke_state]; exact hsteps.trans h⟩
  · exact Or.inr ⟨q, vm₁, B, X₁.warmed, X', hpost, hstep₁ _ fun acts => by rw [doInvoke_state]; exact hsteps⟩
theorem vx_callS (X : Stand p l e R s m args below meth c T locs cells slots) (hexec : p.tables.exec = Jvm.exec) {own : String} {index : Nat} {y : MethodName} {bytes : ByteArray} {maxL : Nat} {ret : Option FieldType}
    (hown : s.vm.findClass own = some m.cls) (hlink : (Cond.methodLink own index y).before args s = true) (hstat : (Cond.static y).before args s = true) (hinit : (Cond.initialized y.cls).before args s = true)
    (hcode : (Cond.code y bytes maxL ret).before args s = true) (hy : y.cls ≠ "java/lang/invoke/MethodHandle" ∧ y.cls ≠ "java/lang/invoke/VarHandle")
    {W9 : Nat} {Pre : Pt → Array Value → Prop} {Post : Pt → Array Value → Option Value → Pt → Prop} {PostX : Pt → Array Value → Addr → Pt → Prop} (hK : vx_Back l R p e below s args y 3 W9 Pre Post PostX)
    {g : JFrame} (hg : g.method = m) (hsize : g.locals.size = c.maxLocals) {argsL rest : List Value} (hlen : ∀ sig, parseMethodDescriptor y.desc = some sig → argsL.length = sig.parameters.length)
    (hstack : g.stack = argsL.reverse ++ rest) (hW : 2 * g.monitorRoom + (rest.map fun v => v.category).sum ≤ W9) (hdg : decode c.code g.pc = .ok (.invokestatic index, 3))
    (hpre : ∀ vm₁, s.WarmedH vm₁ → Pre ⟨T.setVm vm₁, locs, cells, slots⟩ argsL.toArray) :
    (∃ (v : Option Value) (vm₁ : Vm) (B : Pt), s.WarmedH vm₁ ∧ Stand p l e R s m args below meth c B.U B.locs B.cells B.slots ∧ Post ⟨T.setVm vm₁, locs, cells, slots⟩ argsL.toArray v B ∧
      ∀ target, Steps p.tables e below (B.U.setTop { g with pc := g.pc + 3, stack := v.toList ++ rest }) target → Steps p.tables e below (T.setTop g) target) ∨
    (∃ (q : Addr) (vm₁ : Vm) (B : Pt), s.WarmedH vm₁ ∧ Stand p l e R s m args below meth c B.U B.locs B.cells B.slots ∧ PostX ⟨T.setVm vm₁, locs, cells, slots⟩ argsL.toArray q B ∧
      Steps p.tables e below (T.setTop g) ((B.U.setTop { g with stack := rest }).pushFrame (.throwing q))) := by
  obtain ⟨mk, hnamed⟩ := Cond.code_named hcode
  obtain ⟨methM, cM, hmethM, -, -, -, -, -, -, hsigM⟩ := Cond.code_spec hnamed hcode
  have hstatic : methM.isStatic = true := Cond.static_spec hnamed hmethM hstat
  obtain ⟨kP, hkP, -⟩ := className_of_methodNamed hnamed
  have hinitP : kP.init = .initialized := Cond.initialized_spec (findClass_of_methodNamed hnamed) hkP hinit
  obtain ⟨vm₁, X₁, hstep₁⟩ := X.invokestatic hexec hown hlink hnamed hmethM hstatic hkP hinitP hy (g := g) hg (argsL := argsL) (rest := rest) (hlen _ hsigM) hstack hdg
  rcases hK m meth c ⟨T.setVm vm₁, locs, cells, slots⟩ { g with stack := rest } (.invokestatic index) mk argsL.toArray X₁ hg hsize hdg hW (X₁.named hnamed) (hpre vm₁ X₁.warmed) with ⟨v, B, X', hpost, hsteps⟩ | ⟨q, B, X', hpost, hsteps⟩
  · exact Or.inl ⟨v, vm₁, B, X₁.warmed, X', hpost, fun target h => hstep₁ _ fun acts => by rw [doInvoke_state]; exact hsteps.trans h⟩
  · exact Or.inr ⟨q, vm₁, B, X₁.warmed, X', hpost, hstep₁ _ fun acts => by rw [doInvoke_state]; exact hsteps⟩
end Calls
theorem vx_cls {s : State} {T : State} {vm₁ : Vm} {E : String} {k : ClassId} (hW : s.WarmedH vm₁) (h : (T.setVm vm₁).vm.findClass E = some k) : s.vm.findClass E = some k := by
  have h1 : vm₁.findClass E = some k := h
  rw [hW.alike.findClass] at h1
  exact h1
/-- the method's frame g, with q thrown over it -/
def vx_W (p : Program) (l : Launch) (e : Env) (R : Room) (s : State) (m : MethodId) (args : Array Value) (below : List Frame) (meth : Method) (c : Code) (H : Heap) (locs : List Loc) (cells slots : Nat) (Q : State → Prop) (g : JFrame) (q : Addr) : Prop :=
  ∀ T : State, T.heap = H → Stand p l e R s m args below meth c T locs cells slots → ∃ t, Steps p.tables e below ((T.setTop g).pushFrame (.throwing q)) t ∧ Q t
def vx_Run (p : Program) (l : Launch) (e : Env) (R : Room) (s : State) (m : MethodId) (args : Array Value) (below : List Frame) (meth : Method) (c : Code) (H : Heap) (locs : List Loc) (cells slots mc ms : Nat) (g : JFrame) (rest : List Value) (Qa : State → Outcome → State → Prop) (XC : String → State → State → Prop) (free : Addr → Prop) : Prop :=
  ∀ T : State, T.heap = H → Stand p l e R s m args below meth c T locs cells slots →
    (∃ (v : Option Value) (st₀ t T' : State) (L : List Loc), st₀.heap = H ∧ Stand p l e R s m args below meth c T' (locs ++ L) (cells + mc) (slots + ms) ∧ (∀ q ∈ L, free q.base) ∧ T'.heap = t.heap ∧ T'.vm = t.vm ∧ Qa st₀ (.returned v) t ∧
      Goes p e below T g T' { g with pc := g.pc + 3, stack := v.toList ++ rest }) ∨
    (∃ (q : Addr) (st₀ t T' : State) (L : List Loc) (E : String) (ce : Cell), st₀.heap = H ∧ Stand p l e R s m args below meth c T' (locs ++ L) (cells + mc) (slots + ms) ∧ (∀ z ∈ L, free z.base) ∧ T'.heap = t.heap ∧ T'.vm = t.vm ∧ XC E st₀ t ∧ t.heap[q]? = some ce ∧ ce.vm = .none ∧ s.vm.findClass E = some ce.cls ∧
      Steps p.tables e below (T.setTop g) ((T'.setTop { g with stack := rest }).pushFrame (.throwing q)))
def vx_X {S : Type} (px : S → Prop) (B : String → S → State → Prop) (A : Nat → Prop) : String → State → State → Prop := fun E st t => ∃ u : S, px u ∧ B E u t ∧ va_F A st t
section Runs
variable {p : Program} {l : Launch} {e : Env} {R : Room} {s : State} {m : MethodId} {args : Array Value} {below : List Frame} {meth : Method} {c : Code} {H : Heap} {locs : List Loc} {cells slots : Nat}
variable {y : MethodName} {bytes cc : ByteArray} {maxL nL mc ms n index : Nat} {ret : Option FieldType} {ws : List Cond} {rm : Room} {Pc : Array Value → State → Prop} {Qc : Array Value → State → Outcome → State → Prop} {XC : String → State → State → Prop} {free : Addr → Prop} {Ts : List Cond} {own C : String} {b : Addr} {As rest : List Value} {g : JFrame}
theorem vx_callBack (cb : CallB R s args own index y bytes maxL ret ws rm mc ms n) (hM : vx_Met l y ws rm Pc Qc XC mc ms free) (hbl : FrameBlind Pc) : vx_Back l R p e below s args y 3 8 (PreOf R mc ms Pc) (PostOf Qc mc ms free) (vx_Post XC mc ms free) := by
  obtain ⟨hrc, hrs, hfr, hlo, hws, hcw, -, hini, -⟩ := cb
  exact vx_back (bytes := bytes) (maxL := maxL) (ret := ret) hM hbl hrc hrs hfr hlo hws hcw (fun a' U hW => word_at hW (Or.inl (by first | rfl | simp [Cond.onTables, Cond.keeps, Cond.steady])) hini)
theorem vx_runV (S : CallFix p m c cc nL s args Ts own) (hM : vx_Met l y ws rm Pc Qc XC mc ms free) (cw : CallW R s args own C index y bytes maxL ret ws rm mc ms n) (hp : PreV s H C b Pc As)
    (hg : g.method = m) (hn : As.length = n) (hsize : g.locals.size = nL) (hstack : g.stack = As.reverse ++ .ref b :: rest) (hW : 2 * g.monitorRoom + (rest.map fun v => v.category).sum ≤ 8) (hdg : decode cc g.pc = .ok (.invokevirtual index, 3)) (hf : cells + mc ≤ R.cells ∧ slots + ms ≤ R.slots) :
    vx_Run p l e R s m args below meth c H locs cells slots mc ms g rest (Qc (Value.ref b :: As).toArray) XC free := by
  have hK : vx_Back l R p e below s args y 3 8 (PreOf R mc ms Pc) (PostOf Qc mc ms free) (vx_Post XC mc ms free) := vx_callBack cw.1 hM hp.1
  obtain ⟨⟨-, -, -, -, -, -, hcode, -, hy, hlen, hl⟩, hin, hse⟩ := cw
  obtain ⟨hx, hb, hml, ho, -⟩ := S
  obtain ⟨-, ⟨cellB, hcB, hoB, hclB⟩, hPc⟩ := hp
  intro T hT X
  rcases vx_callV X hx (C := C) (bytes := bytes) (maxL := maxL) (ret := ret) ho hl hin hse hcode hy hK (by rw [hT]; exact hcB) hoB hclB hg (hsize.trans hml.symm) (argsL := As) (rest := rest) (fun sig h => hn.trans (hlen sig h)) hstack hW (by rw [hb]; exact hdg)
    (fun vm₁ hW₁ => ⟨hf.1, hf.2, hPc (T.setVm vm₁) hT hW₁⟩) with ⟨v, vm₁, ⟨U', l2, c2, s2⟩, hW₁, X', ⟨g', mk, t, L, e1, e2, hq, h1, hL, h2, h3⟩, st⟩ | ⟨q, vm₁, ⟨U', l2, c2, s2⟩, hW₁, X', ⟨g', mk, t, L, E, ce, e1, e2, hq, hce, hcv, hcl, h1, hL, h2, h3⟩, st⟩
  · dsimp only [Pt.U, Pt.locs, Pt.cells, Pt.slots] at X' e1 e2 h1 h2 h3 st
    subst h1; subst h2; subst h3
    exact Or.inl ⟨v, (T.setVm vm₁).calling g' mk (Value.ref b :: As).toArray, t, U', L, hT, X', hL, e1, e2, hq, st⟩
  · dsimp only [Pt.U, Pt.locs, Pt.cells, Pt.slots] at X' e1 e2 h1 h2 h3 st hcl
    subst h1; subst h2; subst h3
    exact Or.inr ⟨q, (T.setVm vm₁).calling g' mk (Value.ref b :: As).toArray, t, U', L, E, ce, hT, X', hL, e1, e2, hq, hce, hcv, vx_cls hW₁ hcl, st⟩
theorem vx_runS (S : CallFix p m c cc nL s args Ts own) (hM : vx_Met l y ws rm Pc Qc XC mc ms free) (cw : CallB R s args own index y bytes maxL ret ws rm mc ms n ∧ (Cond.static y).before args s = true) (hp : PreS s H Pc As)
    (hg : g.method = m) (hn : As.length = n) (hsize : g.locals.size = nL) (hstack : g.stack = As.reverse ++ rest) (hW : 2 * g.monitorRoom + (rest.map fun v => v.category).sum ≤ 8) (hdg : decode cc g.pc = .ok (.invokestatic index, 3)) (hf : cells + mc ≤ R.cells ∧ slots + ms ≤ R.slots) :
    vx_Run p l e R s m args below meth c H locs cells slots mc ms g rest (Qc As.toArray) XC free := by
  have hK : vx_Back l R p e below s args y 3 8 (PreOf R mc ms Pc) (PostOf Qc mc ms free) (vx_Post XC mc ms free) := vx_callBack cw.1 hM hp.1
  obtain ⟨⟨-, -, -, -, -, -, hcode, hini, hy, hlen, hl⟩, hstt⟩ := cw
  obtain ⟨hx, hb, hml, ho, -⟩ := S
  intro T hT X
  rcases vx_callS X hx (bytes := bytes) (maxL := maxL) (ret := ret) ho hl hstt hini hcode hy hK hg (hsize.trans hml.symm) (argsL := As) (rest := rest) (fun sig h => hn.trans (hlen sig h)) hstack hW (by rw [hb]; exact hdg)
    (fun vm₁ hW₁ => ⟨hf.1, hf.2, hp.2 (T.setVm vm₁) hT hW₁⟩) with ⟨v, vm₁, ⟨U', l2, c2, s2⟩, hW₁, X', ⟨g', mk, t, L, e1, e2, hq, h1, hL, h2, h3⟩, st⟩ | ⟨q, vm₁, ⟨U', l2, c2, s2⟩, hW₁, X', ⟨g', mk, t, L, E, ce, e1, e2, hq, hce, hcv, hcl, h1, hL, h2, h3⟩, st⟩
  · dsimp only [Pt.U, Pt.locs, Pt.cells, Pt.slots] at X' e1 e2 h1 h2 h3 st
    subst h1; subst h2; subst h3
    exact Or.inl ⟨v, (T.setVm vm₁).calling g' mk As.toArray, t, U', L, hT, X', hL, e1, e2, hq, st⟩
  · dsimp only [Pt.U, Pt.locs, Pt.cells, Pt.slots] at X' e1 e2 h1 h2 h3 st hcl
    subst h1; subst h2; subst h3
    exact Or.inr ⟨q, (T.setVm vm₁).calling g' mk As.toArray, t, U', L, E, ce, hT, X', hL, e1, e2, hq, hce, hcv, vx_cls hW₁ hcl, st⟩
end Runs
section Rows
variable {p : Program} {l : Launch} {e : Env} {R : Room} {s : State} {m : MethodId} {args : Array Value} {below : List Frame} {meth : Method} {c : Code} {H : Heap} {locs : List Loc} {cells slots : Nat} {Q : State → Prop}
variable {mc ms : Nat} {free : Addr → Prop} {A0 A1 : Nat → Prop} {H0 : Heap} {a : Array Value} {pc : Nat} {ls : Array Slot} {st0 rest : List Value}
theorem vx_keep {st₀ t T' : State} {L : List Loc} (h0 : st₀.heap = H) (e1 : T'.heap = t.heap) (hS : va_S A0 H0 H locs) (hA : ∀ q, q < H.size → A1 q → A0 q) (hf : ∀ q, free q → A0 q) (hL : ∀ q ∈ L, free q.base) (hF : va_F A1 st₀ t) :
    H.size ≤ T'.heap.size ∧ (∀ q : Nat, q < H.size → ¬ A1 q → T'.heap[q]? = H[q]?) ∧ va_S A0 H0 T'.heap (locs ++ L) := by
  obtain ⟨hz, hk⟩ := hF
  rw [h0] at hz hk
  exact ⟨by rw [e1]; exact hz, fun q h1 h2 => by rw [e1]; exact hk q h1 h2,
    ⟨Nat.le_trans hS.1 (by rw [e1]; exact hz), fun q h1 h2 => by rw [e1, hk q (Nat.lt_of_lt_of_le h1 hS.1) (fun z => h2 (hA q (Nat.lt_of_lt_of_le h1 hS.1) z))]; exact hS.2.1 q h1 h2, fun q hq => by
      rcases List.mem_append.mp hq with h | h
      · exact hS.2.2 q h
      · exact hf _ (hL q h)⟩⟩
theorem vx_calli {S SX : Type} {post : Int32 → S → Prop} {px : SX → Prop} {B : S → State → Prop} {BX : String → SX → State → Prop} {AX : Nat → Prop} (hr : vx_Run p l e R s m args below meth c H locs cells slots mc ms (F0 m pc ls st0) rest (va_Qi post B A1 a) (vx_X px BX AX) free) (hS : va_S A0 H0 H locs) (hA : ∀ q, q < H.size → A1 q → A0 q) (hf : ∀ q, free q → A0 q) (hAX : ∀ q, q < H.size → AX q → A0 q)
    (kx : ∀ (E : String) (ce : Cell) (q9 : Addr) (u : SX) (t : State) (H1 : Heap) (locs1 : List Loc), t.heap = H1 → s.vm.Alike t.vm → px u → BX E u t → H.size ≤ H1.size → (∀ q : Nat, q < H.size → ¬ AX q → H1[q]? = H[q]?) → va_S A0 H0 H1 locs1 → H1[q9]? = some ce → ce.vm = .none → s.vm.findClass E = some ce.cls → vx_W p l e R s m args below meth c H1 locs1 (cells + mc) (slots + ms) Q (F0 m pc ls rest) q9)
    (kk : ∀ (r : Int32) (u : S) (t : State) (H1 : Heap) (locs1 : List Loc), t.heap = H1 → s.vm.Alike t.vm → post r u → B u t → H.size ≤ H1.size → (∀ q : Nat, q < H.size → ¬ A1 q → H1[q]? = H[q]?) → va_S A0 H0 H1 locs1 → W p l e R s m args below meth c H1 locs1 (cells + mc) (slots + ms) Q (F0 m (pc + 3) ls (.int r :: rest))) : W p l e R s m args below meth c H locs cells slots Q (F0 m pc ls st0) := by
  intro T hT X
  rcases hr T hT X with ⟨v, st₀, t, T', L, h0, X', hL, e1, e2, ⟨⟨r, u, hv, hp, hb⟩, hF⟩, st⟩ | ⟨q, st₀, t, T', L, E, ce, h0, X', hL, e1, e2, ⟨u, hp, hb, hF⟩, hce, hcv, hcl, st⟩
  · cases hv
    obtain ⟨k1, k2, k3⟩ := vx_keep h0 e1 hS hA hf hL hF
    obtain ⟨t2, a1, b1⟩ := kk r u t T'.heap (locs ++ L) e1.symm (by rw [← e2]; exact X'.warmed.alike) hp hb k1 k2 k3 T' rfl X'
    exact ⟨t2, st t2 a1, b1⟩
  · obtain ⟨k1, k2, k3⟩ := vx_keep h0 e1 hS hAX hf hL hF
    obtain ⟨t2, a1, b1⟩ := kx E ce q u t T'.heap (locs ++ L) e1.symm (by rw [← e2]; exact X'.warmed.alike) hp hb k1 k2 k3 (by rw [e1]; exact hce) hcv hcl T' rfl X'
    exact ⟨t2, st.trans a1, b1⟩
theorem vx_calll {S SX : Type} {post : Int64 → S → Prop} {px : SX → Prop} {B : S → State → Prop} {BX : String → SX → State → Prop} {AX : Nat → Prop} (hr : vx_Run p l e R s m args below meth c H locs cells slots mc ms (F0 m pc ls st0) rest (va_Ql post B A1 a) (vx_X px BX AX) free) (hS : va_S A0 H0 H locs) (hA : ∀ q, q < H.size → A1 q → A0 q) (hf : ∀ q, free q → A0 q) (hAX : ∀ q, q < H.size → AX q → A0 q)
    (kx : ∀ (E : String) (ce : Cell) (q9 : Addr) (u : SX) (t : State) (H1 : Heap) (locs1 : List Loc), t.heap = H1 → s.vm.Alike t.vm → px u → BX E u t → H.size ≤ H1.size → (∀ q : Nat, q < H.size → ¬ AX q → H1[q]? = H[q]?) → va_S A0 H0 H1 locs1 → H1[q9]? = some ce → ce.vm = .none → s.vm.findClass E = some ce.cls → vx_W p l e R s m args below meth c H1 locs1 (cells + mc) (slots + ms) Q (F0 m pc ls rest) q9)
    (kk : ∀ (r : Int64) (u : S) (t : State) (H1 : Heap) (locs1 : List Loc), t.heap = H1 → s.vm.Alike t.vm → post r u → B u t → H.size ≤ H1.size → (∀ q : Nat, q < H.size → ¬ A1 q → H1[q]? = H[q]?) → va_S A0 H0 H1 locs1 → W p l e R s m args below meth c H1 locs1 (cells + mc) (slots + ms) Q (F0 m (pc + 3) ls (.long r :: rest))) : W p l e R s m args below meth c H locs cells slots Q (F0 m pc ls st0) := by
  intro T hT X
  rcases hr T hT X with ⟨v, st₀, t, T', L, h0, X', hL, e1, e2, ⟨⟨r, u, hv, hp, hb⟩, hF⟩, st⟩ | ⟨q, st₀, t, T', L, E, ce, h0, X', hL, e1, e2, ⟨u, hp, hb, hF⟩, hce, hcv, hcl, st⟩
  · cases hv
    obtain ⟨k1, k2, k3⟩ := vx_keep h0 e1 hS hA hf hL hF
    obtain ⟨t2, a1, b1⟩ := kk r u t T'.heap (locs ++ L) e1.symm (by rw [← e2]; exact X'.warmed.alike) hp hb k1 k2 k3 T' rfl X'
    exact ⟨t2, st t2 a1, b1⟩
  · obtain ⟨k1, k2, k3⟩ := vx_keep h0 e1 hS hAX hf hL hF
    obtain ⟨t2, a1, b1⟩ := kx E ce q u t T'.heap (locs ++ L) e1.symm (by rw [← e2]; exact X'.warmed.alike) hp hb k1 k2 k3 (by rw [e1]; exact hce) hcv hcl T' rfl X'
    exact ⟨t2, st.trans a1, b1⟩
theorem vx_callf {S SX : Type} {post : UInt32 → S → Prop} {px : SX → Prop} {B : S → State → Prop} {BX : String → SX → State → Prop} {AX : Nat → Prop} (hr : vx_Run p l e R s m args below meth c H locs cells slots mc ms (F0 m pc ls st0) rest (va_Qf post B A1 a) (vx_X px BX AX) free) (hS : va_S A0 H0 H locs) (hA : ∀ q, q < H.size → A1 q → A0 q) (hf : ∀ q, free q → A0 q) (hAX : ∀ q, q < H.size → AX q → A0 q)
    (kx : ∀ (E : String) (ce : Cell) (q9 : Addr) (u : SX) (t : State) (H1 : Heap) (locs1 : List Loc), t.heap = H1 → s.vm.Alike t.vm → px u → BX E u t → H.size ≤ H1.size → (∀ q : Nat, q < H.size → ¬ AX q → H1[q]? = H[q]?) → va_S A0 H0 H1 locs1 → H1[q9]? = some ce → ce.vm = .none → s.vm.findClass E = some ce.cls → vx_W p l e R s m args below meth c H1 locs1 (cells + mc) (slots + ms) Q (F0 m pc ls rest) q9)
    (kk : ∀ (r : UInt32) (u : S) (t : State) (H1 : Heap) (locs1 : List Loc), t.heap = H1 → s.vm.Alike t.vm → post r u → B u t → H.size ≤ H1.size → (∀ q : Nat, q < H.size → ¬ A1 q → H1[q]? = H[q]?) → va_S A0 H0 H1 locs1 → W p l e R s m args below meth c H1 locs1 (cells + mc) (slots + ms) Q (F0 m (pc + 3) ls (.float r :: rest))) : W p l e R s m args below meth c H locs cells slots Q (F0 m pc ls st0) := by
  intro T hT X
  rcases hr T hT X with ⟨v, st₀, t, T', L, h0, X', hL, e1, e2, ⟨⟨r, u, hv, hp, hb⟩, hF⟩, st⟩ | ⟨q, st₀, t, T', L, E, ce, h0, X', hL, e1, e2, ⟨u, hp, hb, hF⟩, hce, hcv, hcl, st⟩
  · cases hv
    obtain ⟨k1, k2, k3⟩ := vx_keep h0 e1 hS hA hf hL hF
    obtain ⟨t2, a1, b1⟩ := kk r u t T'.heap (locs ++ L) e1.symm (by rw [← e2]; exact X'.warmed.alike) hp hb k1 k2 k3 T' rfl X'
    exact ⟨t2, st t2 a1, b1⟩
  · obtain ⟨k1, k2, k3⟩ := vx_keep h0 e1 hS hAX hf hL hF
    obtain ⟨t2, a1, b1⟩ := kx E ce q u t T'.heap (locs ++ L) e1.symm (by rw [← e2]; exact X'.warmed.alike) hp hb k1 k2 k3 (by rw [e1]; exact hce) hcv hcl T' rfl X'
    exact ⟨t2, st.trans a1, b1⟩
theorem vx_calld {S SX : Type} {post : UInt64 → S → Prop} {px : SX → Prop} {B : S → State → Prop} {BX : String → SX → State → Prop} {AX : Nat → Prop} (hr : vx_Run p l e R s m args below meth c H locs cells slots mc ms (F0 m pc ls st0) rest (va_Qd post B A1 a) (vx_X px BX AX) free) (hS : va_S A0 H0 H locs) (hA : ∀ q, q < H.size → A1 q → A0 q) (hf : ∀ q, free q → A0 q) (hAX : ∀ q, q < H.size → AX q → A0 q)
    (kx : ∀ (E : String) (ce : Cell) (q9 : Addr) (u : SX) (t : State) (H1 : Heap) (locs1 : List Loc), t.heap = H1 → s.vm.Alike t.vm → px u → BX E u t → H.size ≤ H1.size → (∀ q : Nat, q < H.size → ¬ AX q → H1[q]? = H[q]?) → va_S A0 H0 H1 locs1 → H1[q9]? = some ce → ce.vm = .none → s.vm.findClass E = some ce.cls → vx_W p l e R s m args below meth c H1 locs1 (cells + mc) (slots + ms) Q (F0 m pc ls rest) q9)
    (kk : ∀ (r : UInt64) (u : S) (t : State) (H1 : Heap) (locs1 : List Loc), t.heap = H1 → s.vm.Alike t.vm → post r u → B u t → H.size ≤ H1.size → (∀ q : Nat, q < H.size → ¬ A1 q → H1[q]? = H[q]?) → va_S A0 H0 H1 locs1 → W p l e R s m args below meth c H1 locs1 (cells + mc) (slots + ms) Q (F0 m (pc + 3) ls (.double r :: rest))) : W p l e R s m args below meth c H locs cells slots Q (F0 m pc ls st0) := by
  intro T hT X
  rcases hr T hT X with ⟨v, st₀, t, T', L, h0, X', hL, e1, e2, ⟨⟨r, u, hv, hp, hb⟩, hF⟩, st⟩ | ⟨q, st₀, t, T', L, E, ce, h0, X', hL, e1, e2, ⟨u, hp, hb, hF⟩, hce, hcv, hcl, st⟩
  · cases hv
    obtain ⟨k1, k2, k3⟩ := vx_keep h0 e1 hS hA hf hL hF
    obtain ⟨t2, a1, b1⟩ := kk r u t T'.heap (locs ++ L) e1.symm (by rw [← e2]; exact X'.warmed.alike) hp hb k1 k2 k3 T' rfl X'
    exact ⟨t2, st t2 a1, b1⟩
  · obtain ⟨k1, k2, k3⟩ := vx_keep h0 e1 hS hAX hf hL hF
    obtain ⟨t2, a1, b1⟩ := kx E ce q u t T'.heap (locs ++ L) e1.symm (by rw [← e2]; exact X'.warmed.alike) hp hb k1 k2 k3 (by rw [e1]; exact hce) hcv hcl T' rfl X'
    exact ⟨t2, st.trans a1, b1⟩
theorem vx_callv {S SX : Type} {post : S → Prop} {px : SX → Prop} {B : S → State → Prop} {BX : String → SX → State → Prop} {AX : Nat → Prop} (hr : vx_Run p l e R s m args below meth c H locs cells slots mc ms (F0 m pc ls st0) rest (va_Qv post B A1 a) (vx_X px BX AX) free) (hS : va_S A0 H0 H locs) (hA : ∀ q, q < H.size → A1 q → A0 q) (hf : ∀ q, free q → A0 q) (hAX : ∀ q, q < H.size → AX q → A0 q)
    (kx : ∀ (E : String) (ce : Cell) (q9 : Addr) (u : SX) (t : State) (H1 : Heap) (locs1 : List Loc), t.heap = H1 → s.vm.Alike t.vm → px u → BX E u t → H.size ≤ H1.size → (∀ q : Nat, q < H.size → ¬ AX q → H1[q]? = H[q]?) → va_S A0 H0 H1 locs1 → H1[q9]? = some ce → ce.vm = .none → s.vm.findClass E = some ce.cls → vx_W p l e R s m args below meth c H1 locs1 (cells + mc) (slots + ms) Q (F0 m pc ls rest) q9)
    (kk : ∀ (u : S) (t : State) (H1 : Heap) (locs1 : List Loc), t.heap = H1 → s.vm.Alike t.vm → post u → B u t → H.size ≤ H1.size → (∀ q : Nat, q < H.size → ¬ A1 q → H1[q]? = H[q]?) → va_S A0 H0 H1 locs1 → W p l e R s m args below meth c H1 locs1 (cells + mc) (slots + ms) Q (F0 m (pc + 3) ls (rest))) : W p l e R s m args below meth c H locs cells slots Q (F0 m pc ls st0) := by
  intro T hT X
  rcases hr T hT X with ⟨v, st₀, t, T', L, h0, X', hL, e1, e2, ⟨⟨u, hv, hp, hb⟩, hF⟩, st⟩ | ⟨q, st₀, t, T', L, E, ce, h0, X', hL, e1, e2, ⟨u, hp, hb, hF⟩, hce, hcv, hcl, st⟩
  · cases hv
    obtain ⟨k1, k2, k3⟩ := vx_keep h0 e1 hS hA hf hL hF
    obtain ⟨t2, a1, b1⟩ := kk u t T'.heap (locs ++ L) e1.symm (by rw [← e2]; exact X'.warmed.alike) hp hb k1 k2 k3 T' rfl X'
    exact ⟨t2, st t2 a1, b1⟩
  · obtain ⟨k1, k2, k3⟩ := vx_keep h0 e1 hS hAX hf hL hF
    obtain ⟨t2, a1, b1⟩ := kx E ce q u t T'.heap (locs ++ L) e1.symm (by rw [← e2]; exact X'.warmed.alike) hp hb k1 k2 k3 (by rw [e1]; exact hce) hcv hcl T' rfl X'
    exact ⟨t2, st.trans a1, b1⟩
/-- caught by the row x of this method's table; the rows ahead don't take it -/
theorem vx_catch {own name : String} {E : String} {ce : Cell} {q : Addr} (hown : s.vm.findClass own = some m.cls) (pre : List ExceptionTableEntry) (x : ExceptionTableEntry) (suf : List ExceptionTableEntry) (hsplit : c.exceptionTable.toList = pre ++ x :: suf)
    (hpass : ∀ z ∈ pre, covers z pc = false ∨ (z.catchType ≠ 0 ∧ ∃ nm : String, (Cond.classLink own z.catchType nm).before args s = true ∧ va_Nc E nm s)) (hx : covers x pc = true) (h0 : x.catchType ≠ 0)
    (hlink : (Cond.classLink own x.catchType name).before args s = true) (hcast : (Cond.castable E name).before args s = true) (hcell : H[q]? = some ce) (hv : ce.vm = .none) (hcl : s.vm.findClass E = some ce.cls)
    (kk : W p l e R s m args below meth c H locs cells slots Q (F0 m x.handlerPc ls [.ref q])) : vx_W p l e R s m args below meth c H locs cells slots Q (F0 m pc ls rest) q := by
  intro T hT X
  have hpl : e.platform.magicAccessors = ({} : Platform).magicAccessors := by rw [X.admits.platform]
  obtain ⟨c3, c4, hc3, hc4, hasg⟩ := Cond.castable_spec hcast
  cases Option.some.inj (hc3.symm.trans hcl)
  obtain ⟨c5, hc5, hcl5⟩ := Cond.classLink_spec hown hlink e.platform hpl
  cases Option.some.inj (hc4.symm.trans hc5)
  obtain ⟨vm', X', st⟩ := X.thenCaughtThrough q (g := F0 m pc ls rest) rfl (Steps.refl _) (by rw [hT]; exact hcell) (by rw [hv]; rfl) (by obtain ⟨k9, h9, -⟩ := Vm.findClass_spec hcl; exact ⟨k9, h9⟩) pre x suf hsplit
    (fun z hz => by
      rcases hpass z hz with h | ⟨hz0, nm, hl1, hn1⟩
      · exact Or.inl h
      · obtain ⟨c6, hc6, hcl6⟩ := Cond.classLink_spec hown hl1 e.platform hpl
        obtain ⟨a8, b8, h1, h2, h3⟩ := hn1
        cases Option.some.inj (h1.symm.trans hcl)
        cases Option.some.inj (h2.symm.trans hc6)
        exact Or.inr ⟨hz0, _, hcl6, h3⟩) hx (Or.inr ⟨h0, c4, hcl5, hasg⟩)
  obtain ⟨t, a1, b1⟩ := kk (T.setVm vm') hT X'
  exact ⟨t, st.trans a1, b1⟩
end Rows
section Ends
variable {p : Program} {l : Launch} {e : Env} {R : Room} {s : State} {m : MethodId} {args : Array Value} {below : List Frame} {meth : Method} {c : Code} {H : Heap} {locs : List Loc} {cells slots : Nat} {Q : State → Prop}
variable {mc ms : Nat} {free : Addr → Prop} {A0 A1 : Nat → Prop} {H0 : Heap} {a : Array Value} {ls : Array Slot} {st0 rest : List Value}
variable {Qc : Array Value → State → Outcome → State → Prop} {XC : String → State → State → Prop}
/-- what a body that may throw owes at its end -/
def vx_MQ (below : List Frame) (Qc : Array Value → State → Outcome → State → Prop) (XC : String → State → State → Prop) (a : Array Value) (s : State) (mc ms : Nat) (free : Addr → Prop) : State → Prop := fun t =>
  ∃ o, t.status = .running ∧ Ended t below o ∧ vx_Q Qc XC mc ms free a s o t
theorem vx_ret {g : JFrame} {mc ms : Nat} (k : W p l e R s m args below meth c H locs cells slots (MQ below Qc args s mc ms free) g) : W p l e R s m args below meth c H locs cells slots (vx_MQ below Qc XC args s mc ms free) g := by
  intro T hT X
  obtain ⟨t, a1, o, b1, b2, b3, b4⟩ := k T hT X
  exact ⟨t, a1, o, b1, b2, Or.inl ⟨b3, b4⟩⟩
/-- not caught here: it goes on to the caller -/
theorem vx_widen {g : JFrame} {q : Addr} {k n : Nat} (h1 : cells ≤ k) (h2 : slots ≤ n) (kk : vx_W p l e R s m args below meth c H locs k n Q g q) : vx_W p l e R s m args below meth c H locs cells slots Q g q := fun T hT X => kk T hT (stand_widen X h1 h2)
theorem vx_out {pc : Nat} {E : String} {ce : Cell} {q : Addr} {mc ms : Nat} (hout : ∀ x ∈ c.exceptionTable.toList, covers x pc = false) (hlocks : meth.locks = false) (hcell : H[q]? = some ce) (hv : ce.vm = .none) (hcl : s.vm.findClass E = some ce.cls)
    (hx : ∀ t : State, t.heap = H → s.vm.Alike t.vm → XC E s t) (hf : ∀ z ∈ locs, free z.base) (hc : cells ≤ mc) (hs : slots ≤ ms) :
    vx_W p l e R s m args below meth c H locs cells slots (vx_MQ below Qc XC args s mc ms free) (F0 m pc ls rest) q := by
  intro T hT X
  obtain ⟨st1, hrun, hend, hW, hsm⟩ := X.leaveThrown q (g := F0 m pc ls rest) rfl rfl rfl hout hlocks
  have hcell9 : (T.setFrames (.throwing q :: below)).heap[q]? = some ce := by
    show T.heap[q]? = some ce
    rw [hT]; exact hcell
  exact ⟨_, st1, .threw q, hrun, hend, Or.inr ⟨q, rfl, E, ce, locs, hx _ hT hW.alike, hcell9, hv, hcl, hW, hsm.mono hc hs, hf⟩⟩
theorem vx_frame {U : State} {k n : Nat} (h : s.sameButNew ({ U with vm := s.vm } : State) locs k n) : s.heap.size ≤ U.heap.size ∧ ∀ q : Nat, q < s.heap.size → (∀ z ∈ locs, z.base ≠ q) → U.heap[q]? = s.heap[q]? := by
  obtain ⟨-, h2, -, -, -, h6⟩ := h
  refine ⟨h2, fun q hq hz => ?_⟩
  obtain ⟨c9, e1, e2, e3, e4⟩ := h6 q _ (Array.getElem?_eq_getElem hq)
  have hs : c9.slots = (s.heap[q]).slots := Array.ext_getElem? fun i => e4 i fun hm => hz _ hm rfl
  have h9 : c9 = s.heap[q] := by
    rw [hs] at e2
    exact e2
  have e5 : U.heap[q]? = some c9 := e1
  rw [e5, h9, Array.getElem?_eq_getElem hq]
/-- the words of a throw but the four that speak of the heap -/
def vx_no (w : Cond) : Bool := decide (w ≠ .isRef (.static Bundle.tN "UNASSIGNED_STACK" Bundle.steD)) && decide (w ≠ .isRef (.static Bundle.tN "SUPPRESSED_SENTINEL" Bundle.listD)) && decide (w ≠ .laysStatic Bundle.tN "UNASSIGNED_STACK" Bundle.steD) && decide (w ≠ .laysStatic Bundle.tN "SUPPRESSED_SENTINEL" Bundle.listD)
def vx_at0 (own : String) (ic : Nat) (X : String) (names : List String) : List Cond := (Bundle.ownAtoms0 own ic X names).filter vx_no
def vx_atS (own : String) (ic : Nat) (X : String) (names : List String) : List Cond := (Bundle.ownAtoms own ic X names).filter vx_no
/-- a word that the tables alone decide, or a good one -/
def vx_ot (w : Cond) : Bool := w.onTables || goodWord w
theorem vx_ot_at {args a' : Array Value} {s U : State} {w : Cond} (hW : s.WarmedH U.vm) (hvm : s.vm = U.vm) (hg : vx_ot w = true) (h : w.before args s = true) : w.before a' U = true := by
  simp only [vx_ot, Bool.or_eq_true] at hg
  rcases hg with hg | hg
  · exact va_tabs hg hvm h
  · exact word_at hW (good_of_word hg) h
/-- a list's words: the good ones out of the method's own list, the others by premises of their own -/
theorem vx_hat {args : Array Value} {s : State} {L B : List Cond} (h1 : ∀ w ∈ L.filter goodWord, w.before args s = true) (h2 : ∀ w ∈ L.filter (fun w => !goodWord w), w ∈ B) (h3 : ∀ w ∈ B, w.before args s = true) : ∀ w ∈ L, w.before args s = true := by
  intro w hw
  by_cases g : goodWord w = true
  · exact h1 w (List.mem_filter.mpr ⟨hw, g⟩)
  · refine h3 w (h2 w (List.mem_filter.mpr ⟨hw, ?_⟩))
    show (!goodWord w) = true
    cases hgw : goodWord w
    · rfl
    · exact absurd hgw g
theorem vx_c {args : Array Value} {s : State} {w : Cond} {B : List Cond} (h : w.before args s = true) (t : ∀ w ∈ B, w.before args s = true) : ∀ w' ∈ w :: B, w'.before args s = true := fun w' h' => (List.mem_cons.mp h').elim (fun e => by rw [e]; exact h) (t w')
theorem vx_n {args : Array Value} {s : State} : ∀ w ∈ ([] : List Cond), w.before args s = true := fun _ h => nomatch h
theorem vx_own {args : Array Value} {s : State} {L : List Cond} (h1 : ∀ w ∈ L.filter vx_no, w.before args s = true)
    (hU : (Cond.isRef (.static Bundle.tN "UNASSIGNED_STACK" Bundle.steD)).before args s = true) (hN : (Cond.isRef (.static Bundle.tN "SUPPRESSED_SENTINEL" Bundle.listD)).before args s = true)
    (lU : (Cond.laysStatic Bundle.tN "UNASSIGNED_STACK" Bundle.steD).before args s = true) (lN : (Cond.laysStatic Bundle.tN "SUPPRESSED_SENTINEL" Bundle.listD).before args s = true) : ∀ w ∈ L, w.before args s = true := by
  intro w hw
  by_cases e1 : w = .isRef (.static Bundle.tN "UNASSIGNED_STACK" Bundle.steD)
  · rw [e1]; exact hU
  · by_cases e2 : w = .isRef (.static Bundle.tN "SUPPRESSED_SENTINEL" Bundle.listD)
    · rw [e2]; exact hN
    · by_cases e3 : w = .laysStatic Bundle.tN "UNASSIGNED_STACK" Bundle.steD
      · rw [e3]; exact lU
      · by_cases e4 : w = .laysStatic Bundle.tN "SUPPRESSED_SENTINEL" Bundle.listD
        · rw [e4]; exact lN
        · exact h1 w (List.mem_filter.mpr ⟨hw, by unfold vx_no; rw [decide_eq_true e1, decide_eq_true e2, decide_eq_true e3, decide_eq_true e4]; rfl⟩)
/-- where a static field lies, its class's statics cell in H -/
def vx_L (C n d : String) (A : Nat → Prop) (U : State) (H : Heap) : Prop := ∃ (c : ClassId) (k : Class) (i : Nat) (f : Field) (a : Nat) (cell : Cell), U.vm.findClass C = some c ∧ U.fieldFound? C n d = some (c, k, i, f) ∧ f.isStatic = true ∧ k.statics = some a ∧ H[a]? = some cell ∧ cell.vm.isStatics = true ∧ cell.cls = c ∧ f.slot < cell.slots.size ∧ k.staticTypes[f.slot]? = some f.type ∧ ¬ A a
theorem vx_L.moved {C n d : String} {A : Nat → Prop} {u U : State} {H : Heap} (hvm : u.vm.Alike U.vm) (h : vx_L C n d A u H) : vx_L C n d A U H := by
  obtain ⟨c, k, i, f, a, cell, h1, h2, h3, h4, h5, h6, h7, h8, h9, h10⟩ := h
  obtain ⟨k', hi', he⟩ := State.fieldFound?_setVm hvm h2
  exact ⟨c, k', i, f, a, cell, by rw [hvm.findClass]; exact h1, hi', h3, by rw [he]; exact h4, h5, h6, h7, h8, by rw [he]; exact h9, h10⟩
theorem vx_L.kept {C n d : String} {A : Nat → Prop} {U : State} {H H1 : Heap} (h : vx_L C n d A U H) (hq : ∀ a : Nat, a < H.size → ¬ A a → H1[a]? = H[a]?) : vx_L C n d A U H1 := by
  obtain ⟨c, k, i, f, a, cell, h1, h2, h3, h4, h5, h6, h7, h8, h9, h10⟩ := h
  exact ⟨c, k, i, f, a, cell, h1, h2, h3, h4, by rw [hq a (Array.getElem?_eq_some_iff.mp h5).1 h10]; exact h5, h6, h7, h8, h9, h10⟩
theorem vx_L.narrow {C n d : String} {A B : Nat → Prop} {U : State} {H : Heap} (h : vx_L C n d A U H) (hAB : ∀ q, B q → A q) : vx_L C n d B U H := by
  obtain ⟨c, k, i, f, a, cell, h1, h2, h3, h4, h5, h6, h7, h8, h9, h10⟩ := h
  exact ⟨c, k, i, f, a, cell, h1, h2, h3, h4, h5, h6, h7, h8, h9, fun z => h10 (hAB _ z)⟩
theorem vx_L.word {C n d : String} {A : Nat → Prop} {s : State} {args : Array Value} (h : vx_L C n d A s s.heap) : (Cond.laysStatic C n d).before args s = true := by
  obtain ⟨c, k, i, f, a, cell, h1, h2, h3, h4, h5, h6, h7, h8, h9, -⟩ := h
  show (Cond.laysStatic C n d).holds args s none s [] = true
  exact Cond.laysStatic_of h1 h2 h3 h4 h5 h6 h7 h8 h9
/-- .. and what it holds: null or some reference -/
def vx_Zq (C n d : String) (A : Nat → Prop) (U : State) (H : Heap) : Prop := va_Zq C n d A U H ∧ vx_L C n d A U H
theorem vx_Zq.moved {C n d : String} {A : Nat → Prop} {u U : State} {H : Heap} (hvm : u.vm.Alike U.vm) (h : vx_Zq C n d A u H) : vx_Zq C n d A U H := ⟨va_Zq.moved hvm h.1, vx_L.moved hvm h.2⟩
theorem vx_Zq.kept {C n d : String} {A : Nat → Prop} {U : State} {H H1 : Heap} (h : vx_Zq C n d A U H) (hq : ∀ a : Nat, a < H.size → ¬ A a → H1[a]? = H[a]?) : vx_Zq C n d A U H1 := ⟨va_Zq.kept h.1 hq, vx_L.kept h.2 hq⟩
theorem vx_Zq.narrow {C n d : String} {A B : Nat → Prop} {U : State} {H : Heap} (h : vx_Zq C n d A U H) (hAB : ∀ q, B q → A q) : vx_Zq C n d B U H := ⟨va_Zq.narrow h.1 hAB, vx_L.narrow h.2 hAB⟩
theorem vx_Zqof {args : Array Value} {s : State} {C n d : String} {A : Nat → Prop} (hl : (Cond.laysStatic C n d).before args s = true) (hini : (Cond.initialized C).before args s = true) (h : (Cond.isRef (.static C n d)).before args s = true) (hA : ∀ a : Nat, a < s.heap.size → ¬ A a) : vx_Zq C n d A s s.heap := by
  refine ⟨va_Zqof hl hini h hA, ?_⟩
  obtain ⟨c, k, i, f, a, cell, h1, h2, h3, h4, h5, h6, h7, h8, h9⟩ := Cond.laysStatic_spec hl
  exact ⟨c, k, i, f, a, cell, h1, h2, h3, h4, h5, h6, h7, h8, h9, hA a (Array.getElem?_eq_some_iff.mp h5).1⟩
theorem vx_isRef {C n d : String} {v : Value} {A : Nat → Prop} {s : State} {args : Array Value} (h : va_Z C n d v A s s.heap) (hv : v.isRef = true) : (Cond.isRef (.static C n d)).before args s = true := by
  obtain ⟨cf, kf, fi, f, a, cell, h1, h2, h3, h4, h5, h6, h7, -⟩ := h
  have he : (Term.static C n d).eval args s none [] s = some v := by
    simp [Term.eval, State.fieldNamed?, h1, h2, h4, h5, h6, h7]
  simp only [Cond.before, Cond.holds, Cond.value, he]
  cases v <;> simp_all [Value.isRef]
theorem vx_isRefq {C n d : String} {A : Nat → Prop} {s : State} {args : Array Value} (h : va_Zq C n d A s s.heap) : (Cond.isRef (.static C n d)).before args s = true := by
  rcases h with h | ⟨t, h⟩
  · exact vx_isRef h rfl
  · exact vx_isRef h rfl
/-- the same frame, seen from here: as if the method were called anew in this heap -/
theorem vx_rebase {T : State} (X : Stand p l e R s m args below meth c T locs cells slots) {R' : Room} (hf : R'.frames ≤ R.frames) (hl : R'.locals ≤ R.locals) (hc : cells + R'.cells ≤ R.cells) (hs : slots + R'.slots ≤ R.slots) :
    Stand p l e R' ((T.setVm s.vm).setFrames (.invoking m args :: below)) m args below meth c T [] 0 0 := by
  have htop : (T.setVm s.vm).topJava?.isSome := X.here.top
  have hF : ((T.setVm s.vm).setFrames (.invoking m args :: below)).frames = .invoking m args :: below := State.frames_setFrames _ (State.cur_lt_of_top htop)
  obtain ⟨g₀, hg0⟩ := Option.isSome_iff_exists.mp htop
  obtain ⟨r, hr⟩ := State.topJava?_eq_some.mp hg0
  have hl9 : e.platform.stackLimits (T.setVm s.vm).me = e.platform.stackLimits s.me := X.limits
  have hb9 : (T.setVm s.vm).me.stackBytes = s.me.stackBytes := X.bytes
  refine ⟨X.admits, X.cas, X.clock, hF, ?_, X.hears, X.method, X.code, X.here, X.tail, X.warmed, ?_, ?_, ?_⟩
  · have h := X.room
    have hU : ((T.setVm s.vm).setFrames (.invoking m args :: below)).localsInUse = s.localsInUse := by
      rw [State.localsInUse_invoking hF (meth := meth) (c := c) X.method X.code, State.localsInUse_invoking X.frames X.method X.code]
    simp only [State.hasRoom, Bool.and_eq_true, decide_eq_true_eq] at h ⊢
    obtain ⟨⟨⟨⟨h1, h2, h3, h4, h5, h6⟩, h7⟩, h8⟩, h9⟩ := h
    rw [X.frames, List.length_cons] at h2 h3
    have q1 := X.heapSize
    have q2 := X.used
    simp only [hF, hU, List.length_cons, State.stackLimits_setFrames, State.stackBytes_setFrames, hl9, hb9]
    refine ⟨⟨⟨⟨by omega, by omega, by omega, by omega, by omega, h6⟩, ?_⟩, ?_⟩, X.book⟩
    · show T.heap.size + R'.cells ≤ e.platform.maxCells
      omega
    · show T.slotsUsed + R'.slots ≤ e.platform.maxSlots
      omega
  · rw [State.stackLimits_setFrames]; rfl
  · rw [State.stackBytes_setFrames]; rfl
  · refine ⟨?_, Nat.le_refl _, Nat.le_refl _, ?_, ?_, fun a c9 h9 => ⟨c9, h9, rfl, rfl, fun _ _ => rfl⟩⟩
    · obtain ⟨t, ht, -⟩ := State.frames_cons hr
      show T.setVm s.vm = { ((T.setVm s.vm).setFrames (.invoking m args :: below)).setFrames (T.setVm s.vm).frames with heap := T.heap, slotsUsed := T.slotsUsed }
      rw [State.setFrames_setFrames, State.setFrames_self ht]
      rfl
    · show T.slotsUsed = T.slotsUsed + ((T.heap.toList.drop T.heap.size).map (·.slots.size)).sum
      rw [List.drop_eq_nil_of_le (Nat.le_of_eq Array.length_toList)]
      rfl
    · show ((T.heap.toList.drop T.heap.size).map (·.slots.size)).sum ≤ 0
      rw [List.drop_eq_nil_of_le (Nat.le_of_eq Array.length_toList)]
      exact Nat.le_refl _
/-- 'throw new E()': new; dup; invokespecial; athrow -/
theorem vx_throw0 {cc : ByteArray} {pc : Nat} (hexec : p.tables.exec = Jvm.exec) (hb : c.code = cc) (hl : l.stackTraces = false) {own cls : String} {names : List String} {ik ic mc ms : Nat} {A : Nat → Prop}
    (hown : s.vm.findClass own = some m.cls) (hcls : Bundle.fit cls = true) (hnames : ∀ n ∈ names, Bundle.fit n = true)
    (hk : (Cond.classLink own ik cls).before args s = true) (hini : (Cond.initialized cls).before args s = true) (hat : ∀ w ∈ vx_at0 own ic cls names, w.before args s = true)
    (hgood : ∀ w ∈ Cond.classLink own ik cls :: Cond.initialized cls :: vx_at0 own ic cls names, vx_ot w = true)
    (hU : vx_Zq Bundle.tN "UNASSIGNED_STACK" Bundle.steD A s s.heap) (hN : vx_Zq Bundle.tN "SUPPRESSED_SENTINEL" Bundle.listD A s s.heap) (hS : va_S A s.heap H locs) (hsize : ls.size = c.maxLocals)
    (d0 : decode cc pc = .ok (.new ik, 3)) (d3 : decode cc (pc + 3) = .ok (.dup, 1)) (d4 : decode cc (pc + 4) = .ok (.invokespecial ic, 3)) (d7 : decode cc (pc + 7) = .ok (.athrow, 1))
    (hout : ∀ x ∈ c.exceptionTable.toList, covers x (pc + 7) = false)
    (hRframes : names.length + 3 < R.frames) (hRlocals : (rest.map fun v => v.category).sum + (13 * (names.length + 1) + 42) ≤ R.locals) (hRcells : cells + 1 ≤ R.cells) (hRslots : slots + 6 ≤ R.slots) (hlocks : meth.locks = false)
    (hx : ∀ t : State, s.vm.Alike t.vm → H.size ≤ t.heap.size → (∀ q : Nat, q < H.size → t.heap[q]? = H[q]?) → XC cls s t)
    (hf : ∀ z ∈ locs, free z.base) (hc : cells + 1 ≤ mc) (hs : slots + 6 ≤ ms) :
    W p l e R s m args below meth c H locs cells slots (vx_MQ below Qc XC args s mc ms free) (F0 m pc ls rest) := by
  intro T hT X
  have htr : e.platform.stackTraces = false := (show e.platform.stackTraces = l.stackTraces by rw [X.admits.platform]).trans hl
  have Y := vx_rebase X (R' := { frames := R.frames, locals := R.locals, cells := 1, slots := 6 }) (Nat.le_refl _) (Nat.le_refl _) hRcells hRslots
  obtain ⟨s', hA⟩ : ∃ z, z = (T.setVm s.vm).setFrames (.invoking m args :: below) := ⟨_, rfl⟩
  rw [← hA] at Y
  have hvm : s'.vm = s.vm := by rw [hA]; rfl
  have hhp : s'.heap = H := by rw [hA]; exact hT
  have hW0 : s.WarmedH s'.vm := by rw [hvm]; exact State.WarmedH.refl s
  have hat' : ∀ w ∈ vx_at0 own ic cls names, w.before args s' = true := fun w hw => vx_ot_at hW0 hvm.symm (hgood w (List.mem_cons_of_mem _ (List.mem_cons_of_mem _ hw))) (hat w hw)
  have hk' : (Cond.classLink own ik cls).before args s' = true := vx_ot_at hW0 hvm.symm (hgood _ List.mem_cons_self) hk
  have hini' : (Cond.initialized cls).before args s' = true := vx_ot_at hW0 hvm.symm (hgood _ (List.mem_cons_of_mem _ List.mem_cons_self)) hini
  have hU' : vx_Zq Bundle.tN "UNASSIGNED_STACK" Bundle.steD A s' s'.heap := by rw [hhp]; exact vx_Zq.moved hW0.alike (hU.kept hS.2.1)
  have hN' : vx_Zq Bundle.tN "SUPPRESSED_SENTINEL" Bundle.listD A s' s'.heap := by rw [hhp]; exact vx_Zq.moved hW0.alike (hN.kept hS.2.1)
  have h : ∀ w ∈ Bundle.ownAtoms0 own ic cls names, w.before args s' = true := vx_own hat' (vx_isRefq hU'.1) (vx_isRefq hN'.1) hU'.2.word hN'.2.word
  have hown' : s'.vm.findClass own = some m.cls := by rw [hvm]; exact hown
  have hins : (Cond.instantiable cls 6).before args s' = true := h _ (by simp [Bundle.ownAtoms0])
  obtain ⟨vm₁, cX, kX, hfX, hkX, -, -, X₁, st1⟩ := Y.newCold hexec (own := own) (C := cls) (index := ik) (n := 6) hown' hk' hins hini'
    (g := F0 m pc ls rest) rfl (by rw [hb]; exact d0) (Nat.le_refl _) (Nat.le_refl _)
  generalize hT1 : (T.setVm vm₁).pushCell { cls := cX, slots := kX.instanceTypes.map defaultValue, vm := .none } = T1 at X₁ st1
  have hcat : (Value.ref T.heap.size).category = 1 := rfl
  have hcellA : T1.heap[T.heap.size]? = some (freshCell cX kX) := by rw [← hT1]; exact State.heap_pushCell_size _ _
  have d3' : decode c.code (pc + 3) = .ok (.dup, 1) := by rw [hb]; exact d3
  obtain ⟨U, hsteps, hrun, hend, hW, hsame, ce, hce, hO⟩ := X₁.ctorThrow0 hexec htr (own := own) (cls := cls) (names := names) (ic := ic) hown' hcls hnames h (fun x hx => nomatch hx) hfX hkX hcellA (by rw [hhp, hT]; exact Nat.le_refl _)
    (g := { method := m, pc := pc + 4, locals := ls, stack := .ref T.heap.size :: .ref T.heap.size :: rest, locked := none }) rfl hsize rfl rfl (rest := rest) rfl
    (by rw [hb]; exact d4) (by rw [hb]; exact d7) hout hRframes (by simp only [List.map_cons, List.sum_cons, hcat]; omega) hlocks
  obtain ⟨f1, f2⟩ := vx_frame hsame
  rw [hhp] at f1 f2
  have hWs : s.WarmedH U.vm := State.WarmedH.trans hW0 hW
  have hcl : s.vm.findClass cls = some ce.cls := by
    have h9 := hO.cls
    rw [hvm] at h9
    exact h9
  have hall : s.sameButNew ({ U with vm := s.vm } : State) locs mc ms := by
    subst hA
    obtain ⟨e1, e2⟩ := hsame
    rw [State.setFrames_setFrames] at e1
    have h2 : (T.setVm s.vm).sameButNew ({ U with vm := s.vm } : State) [] (0 + 1) (0 + 6) := ⟨e1, e2⟩
    have h3 := X.same.trans h2
    rw [List.append_nil] at h3
    exact h3.mono hc hs
  refine ⟨U, ?_, .threw T.heap.size, hrun, hend, Or.inr ⟨T.heap.size, rfl, cls, ce, locs, hx U hWs.alike f1 (fun q hq => f2 q hq (fun z hz => nomatch hz)), hce, hO.vm, hcl, hWs, hall, hf⟩⟩
  refine st1 _ ?_
  show Steps p.tables e below (T1.setTop { method := m, pc := pc + 3, locals := ls, stack := .ref T.heap.size :: rest, locked := none }) _
  jvm_step X₁.here [X₁.here.top, hexec, d3', Value.category]
  exact hsteps
/-- 'throw new E("text")': new; dup; ldc; invokespecial; athrow -/
theorem vx_throwS {cc : ByteArray} {pc : Nat} (hexec : p.tables.exec = Jvm.exec) (hb : c.code = cc) (hl : l.stackTraces = false) {own cls text : String} {names : List String} {ik is ic mc ms sa : Nat} {A : Nat → Prop}
    (hown : s.vm.findClass own = some m.cls) (hcls : Bundle.fit cls = true) (hnames : ∀ n ∈ names, Bundle.fit n = true)
    (hk : (Cond.classLink own ik cls).before args s = true) (hini : (Cond.initialized cls).before args s = true) (hstr : vk_R own is text sa s) (hat : ∀ w ∈ vx_atS own ic cls names, w.before args s = true)
    (hgood : ∀ w ∈ Cond.classLink own ik cls :: Cond.initialized cls :: vx_atS own ic cls names, vx_ot w = true)
    (hU : vx_Zq Bundle.tN "UNASSIGNED_STACK" Bundle.steD A s s.heap) (hN : vx_Zq Bundle.tN "SUPPRESSED_SENTINEL" Bundle.listD A s s.heap) (hS : va_S A s.heap H locs) (hsize : ls.size = c.maxLocals)
    (d0 : decode cc pc = .ok (.new ik, 3)) (d3 : decode cc (pc + 3) = .ok (.dup, 1)) (d4 : decode cc (pc + 4) = .ok (.ldc is, 2)) (d6 : decode cc (pc + 6) = .ok (.invokespecial ic, 3)) (d9 : decode cc (pc + 9) = .ok (.athrow, 1))
    (hout : ∀ x ∈ c.exceptionTable.toList, covers x (pc + 9) = false)
    (hRframes : names.length + 3 < R.frames) (hRlocals : (rest.map fun v => v.category).sum + (13 * (names.length + 1) + 43) ≤ R.locals) (hRcells : cells + 1 ≤ R.cells) (hRslots : slots + 6 ≤ R.slots) (hlocks : meth.locks = false)
    (hx : ∀ t : State, s.vm.Alike t.vm → H.size ≤ t.heap.size → (∀ q : Nat, q < H.size → t.heap[q]? = H[q]?) → XC cls s t)
    (hf : ∀ z ∈ locs, free z.base) (hc : cells + 1 ≤ mc) (hs : slots + 6 ≤ ms) :
    W p l e R s m args below meth c H locs cells slots (vx_MQ below Qc XC args s mc ms free) (F0 m pc ls rest) := by
  intro T hT X
  have htr : e.platform.stackTraces = false := (show e.platform.stackTraces = l.stackTraces by rw [X.admits.platform]).trans hl
  have Y := vx_rebase X (R' := { frames := R.frames, locals := R.locals, cells := 1, slots := 6 }) (Nat.le_refl _) (Nat.le_refl _) hRcells hRslots
  obtain ⟨s', hA⟩ : ∃ z, z = (T.setVm s.vm).setFrames (.invoking m args :: below) := ⟨_, rfl⟩
  rw [← hA] at Y
  have hvm : s'.vm = s.vm := by rw [hA]; rfl
  have hhp : s'.heap = H := by rw [hA]; exact hT
  have hW0 : s.WarmedH s'.vm := by rw [hvm]; exact State.WarmedH.refl s
  have hat' : ∀ w ∈ vx_atS own ic cls names, w.before args s' = true := fun w hw => vx_ot_at hW0 hvm.symm (hgood w (List.mem_cons_of_mem _ (List.mem_cons_of_mem _ hw))) (hat w hw)
  have hk' : (Cond.classLink own ik cls).before args s' = true := vx_ot_at hW0 hvm.symm (hgood _ List.mem_cons_self) hk
  have hini' : (Cond.initialized cls).before args s' = true := vx_ot_at hW0 hvm.symm (hgood _ (List.mem_cons_of_mem _ List.mem_cons_self)) hini
  have hU' : vx_Zq Bundle.tN "UNASSIGNED_STACK" Bundle.steD A s' s'.heap := by rw [hhp]; exact vx_Zq.moved hW0.alike (hU.kept hS.2.1)
  have hN' : vx_Zq Bundle.tN "SUPPRESSED_SENTINEL" Bundle.listD A s' s'.heap := by rw [hhp]; exact vx_Zq.moved hW0.alike (hN.kept hS.2.1)
  have h : ∀ w ∈ Bundle.ownAtoms own ic cls names, w.before args s' = true := vx_own hat' (vx_isRefq hU'.1) (vx_isRefq hN'.1) hU'.2.word hN'.2.word
  have hown' : s'.vm.findClass own = some m.cls := by rw [hvm]; exact hown
  have hins : (Cond.instantiable cls 6).before args s' = true := h _ (by simp [Bundle.ownAtoms])
  obtain ⟨vm₁, cX, kX, hfX, hkX, -, -, X₁, st1⟩ := Y.newCold hexec (own := own) (C := cls) (index := ik) (n := 6) hown' hk' hins hini'
    (g := F0 m pc ls rest) rfl (by rw [hb]; exact d0) (Nat.le_refl _) (Nat.le_refl _)
  generalize hT1 : (T.setVm vm₁).pushCell { cls := cX, slots := kX.instanceTypes.map defaultValue, vm := .none } = T1 at X₁ st1
  have hcat : (Value.ref T.heap.size).category = 1 := rfl
  have hcellA : T1.heap[T.heap.size]? = some (freshCell cX kX) := by rw [← hT1]; exact State.heap_pushCell_size _ _
  have d3' : decode c.code (pc + 3) = .ok (.dup, 1) := by rw [hb]; exact d3
  have d4' : decode c.code (pc + 4) = .ok (.ldc is, 2) := by rw [hb]; exact d4
  have hstr' : vk_R own is text sa s' := vk_R.warm hW0 hstr
  obtain ⟨U, hsteps, hrun, hend, hW, hsame, ce, hce, hO⟩ := X₁.ctorThrowS hexec htr (own := own) (cls := cls) (names := names) (ic := ic) hown' hcls hnames h (fun x hx => nomatch hx) hfX hkX hcellA (by rw [hhp, hT]; exact Nat.le_refl _) (msg := .ref sa) rfl
    (g := { method := m, pc := pc + 6, locals := ls, stack := .ref sa :: .ref T.heap.size :: .ref T.heap.size :: rest, locked := none }) rfl hsize rfl rfl (rest := rest) rfl
    (by rw [hb]; exact d6) (by rw [hb]; exact d9) hout hRframes (by simp only [List.map_cons, List.sum_cons, hcat]; omega) hlocks
  obtain ⟨f1, f2⟩ := vx_frame hsame
  rw [hhp] at f1 f2
  have hWs : s.WarmedH U.vm := State.WarmedH.trans hW0 hW
  have hcl : s.vm.findClass cls = some ce.cls := by
    have h9 := hO.cls
    rw [hvm] at h9
    exact h9
  have hall : s.sameButNew ({ U with vm := s.vm } : State) locs mc ms := by
    subst hA
    obtain ⟨e1, e2⟩ := hsame
    rw [State.setFrames_setFrames] at e1
    have h2 : (T.setVm s.vm).sameButNew ({ U with vm := s.vm } : State) [] (0 + 1) (0 + 6) := ⟨e1, e2⟩
    have h3 := X.same.trans h2
    rw [List.append_nil] at h3
    exact h3.mono hc hs
  refine ⟨U, ?_, .threw T.heap.size, hrun, hend, Or.inr ⟨T.heap.size, rfl, cls, ce, locs, hx U hWs.alike f1 (fun q hq => f2 q hq (fun z hz => nomatch hz)), hce, hO.vm, hcl, hWs, hall, hf⟩⟩
  refine st1 _ ?_
  show Steps p.tables e below (T1.setTop { method := m, pc := pc + 3, locals := ls, stack := .ref T.heap.size :: rest, locked := none }) _
  jvm_step X₁.here [X₁.here.top, hexec, d3', Value.category]
  exact X₁.ldcString hexec (own := own) (text := text) (index := is) (a := sa) hown' hstr'.1 hstr'.2
    (g := { method := m, pc := pc + 4, locals := ls, stack := .ref T.heap.size :: .ref T.heap.size :: rest, locked := none }) rfl d4' _ hsteps
/-- 'throw new E("text")', the text by a wide index -/
theorem vx_throwSW {cc : ByteArray} {pc : Nat} (hexec : p.tables.exec = Jvm.exec) (hb : c.code = cc) (hl : l.stackTraces = false) {own cls text : String} {names : List String} {ik is ic mc ms sa : Nat} {A : Nat → Prop}
    (hown : s.vm.findClass own = some m.cls) (hcls : Bundle.fit cls = true) (hnames : ∀ n ∈ names, Bundle.fit n = true)
    (hk : (Cond.classLink own ik cls).before args s = true) (hini : (Cond.initialized cls).before args s = true) (hstr : vk_R own is text sa s) (hat : ∀ w ∈ vx_atS own ic cls names, w.before args s = true)
    (hgood : ∀ w ∈ Cond.classLink own ik cls :: Cond.initialized cls :: vx_atS own ic cls names, vx_ot w = true)
    (hU : vx_Zq Bundle.tN "UNASSIGNED_STACK" Bundle.steD A s s.heap) (hN : vx_Zq Bundle.tN "SUPPRESSED_SENTINEL" Bundle.listD A s s.heap) (hS : va_S A s.heap H locs) (hsize : ls.size = c.maxLocals)
    (d0 : decode cc pc = .ok (.new ik, 3)) (d3 : decode cc (pc + 3) = .ok (.dup, 1)) (d4 : decode cc (pc + 4) = .ok (.ldc_w is, 3)) (d7 : decode cc (pc + 7) = .ok (.invokespecial ic, 3)) (d10 : decode cc (pc + 10) = .ok (.athrow, 1))
    (hout : ∀ x ∈ c.exceptionTable.toList, covers x (pc + 10) = false)
    (hRframes : names.length + 3 < R.frames) (hRlocals : (rest.map fun v => v.category).sum + (13 * (names.length + 1) + 43) ≤ R.locals) (hRcells : cells + 1 ≤ R.cells) (hRslots : slots + 6 ≤ R.slots) (hlocks : meth.locks = false)
    (hx : ∀ t : State, s.vm.Alike t.vm → H.size ≤ t.heap.size → (∀ q : Nat, q < H.size → t.heap[q]? = H[q]?) → XC cls s t)
    (hf : ∀ z ∈ locs, free z.base) (hc : cells + 1 ≤ mc) (hs : slots + 6 ≤ ms) :
    W p l e R s m args below meth c H locs cells slots (vx_MQ below Qc XC args s mc ms free) (F0 m pc ls rest) := by
  intro T hT X
  have htr : e.platform.stackTraces = false := (show e.platform.stackTraces = l.stackTraces by rw [X.admits.platform]).trans hl
  have Y := vx_rebase X (R' := { frames := R.frames, locals := R.locals, cells := 1, slots := 6 }) (Nat.le_refl _) (Nat.le_refl _) hRcells hRslots
  obtain ⟨s', hA⟩ : ∃ z, z = (T.setVm s.vm).setFrames (.invoking m args :: below) := ⟨_, rfl⟩
  rw [← hA] at Y
  have hvm : s'.vm = s.vm := by rw [hA]; rfl
  have hhp : s'.heap = H := by rw [hA]; exact hT
  have hW0 : s.WarmedH s'.vm := by rw [hvm]; exact State.WarmedH.refl s
  have hat' : ∀ w ∈ vx_atS own ic cls names, w.before args s' = true := fun w hw => vx_ot_at hW0 hvm.symm (hgood w (List.mem_cons_of_mem _ (List.mem_cons_of_mem _ hw))) (hat w hw)
  have hk' : (Cond.classLink own ik cls).before args s' = true := vx_ot_at hW0 hvm.symm (hgood _ List.mem_cons_self) hk
  have hini' : (Cond.initialized cls).before args s' = true := vx_ot_at hW0 hvm.symm (hgood _ (List.mem_cons_of_mem _ List.mem_cons_self)) hini
  have hU' : vx_Zq Bundle.tN "UNASSIGNED_STACK" Bundle.steD A s' s'.heap := by rw [hhp]; exact vx_Zq.moved hW0.alike (hU.kept hS.2.1)
  have hN' : vx_Zq Bundle.tN "SUPPRESSED_SENTINEL" Bundle.listD A s' s'.heap := by rw [hhp]; exact vx_Zq.moved hW0.alike (hN.kept hS.2.1)
  have h : ∀ w ∈ Bundle.ownAtoms own ic cls names, w.before args s' = true := vx_own hat' (vx_isRefq hU'.1) (vx_isRefq hN'.1) hU'.2.word hN'.2.word
  have hown' : s'.vm.findClass own = some m.cls := by rw [hvm]; exact hown
  have hins : (Cond.instantiable cls 6).before args s' = true := h _ (by simp [Bundle.ownAtoms])
  obtain ⟨vm₁, cX, kX, hfX, hkX, -, -, X₁, st1⟩ := Y.newCold hexec (own := own) (C := cls) (index := ik) (n := 6) hown' hk' hins hini'
    (g := F0 m pc ls rest) rfl (by rw [hb]; exact d0) (Nat.le_refl _) (Nat.le_refl _)
  generalize hT1 : (T.setVm vm₁).pushCell { cls := cX, slots := kX.instanceTypes.map defaultValue, vm := .none } = T1 at X₁ st1
  have hcat : (Value.ref T.heap.size).category = 1 := rfl
  have hcellA : T1.heap[T.heap.size]? = some (freshCell cX kX) := by rw [← hT1]; exact State.heap_pushCell_size _ _
  have d3' : decode c.code (pc + 3) = .ok (.dup, 1) := by rw [hb]; exact d3
  have d4' : decode c.code (pc + 4) = .ok (.ldc_w is, 3) := by rw [hb]; exact d4
  have hstr' : vk_R own is text sa s' := vk_R.warm hW0 hstr
  obtain ⟨U, hsteps, hrun, hend, hW, hsame, ce, hce, hO⟩ := X₁.ctorThrowS hexec htr (own := own) (cls := cls) (names := names) (ic := ic) hown' hcls hnames h (fun x hx => nomatch hx) hfX hkX hcellA (by rw [hhp, hT]; exact Nat.le_refl _) (msg := .ref sa) rfl
    (g := { method := m, pc := pc + 7, locals := ls, stack := .ref sa :: .ref T.heap.size :: .ref T.heap.size :: rest, locked := none }) rfl hsize rfl rfl (rest := rest) rfl
    (by rw [hb]; exact d7) (by rw [hb]; exact d10) hout hRframes (by simp only [List.map_cons, List.sum_cons, hcat]; omega) hlocks
  obtain ⟨f1, f2⟩ := vx_frame hsame
  rw [hhp] at f1 f2
  have hWs : s.WarmedH U.vm := State.WarmedH.trans hW0 hW
  have hcl : s.vm.findClass cls = some ce.cls := by
    have h9 := hO.cls
    rw [hvm] at h9
    exact h9
  have hall : s.sameButNew ({ U with vm := s.vm } : State) locs mc ms := by
    subst hA
    obtain ⟨e1, e2⟩ := hsame
    rw [State.setFrames_setFrames] at e1
    have h2 : (T.setVm s.vm).sameButNew ({ U with vm := s.vm } : State) [] (0 + 1) (0 + 6) := ⟨e1, e2⟩
    have h3 := X.same.trans h2
    rw [List.append_nil] at h3
    exact h3.mono hc hs
  refine ⟨U, ?_, .threw T.heap.size, hrun, hend, Or.inr ⟨T.heap.size, rfl, cls, ce, locs, hx U hWs.alike f1 (fun q hq => f2 q hq (fun z hz => nomatch hz)), hce, hO.vm, hcl, hWs, hall, hf⟩⟩
  refine st1 _ ?_
  show Steps p.tables e below (T1.setTop { method := m, pc := pc + 3, locals := ls, stack := .ref T.heap.size :: rest, locked := none }) _
  jvm_step X₁.here [X₁.here.top, hexec, d3', Value.category]
  exact X₁.ldcStringW hexec (own := own) (text := text) (index := is) (a := sa) hown' hstr'.1 hstr'.2
    (g := { method := m, pc := pc + 4, locals := ls, stack := .ref T.heap.size :: .ref T.heap.size :: rest, locked := none }) rfl d4' _ hsteps
end Ends
section Bodies
variable {l : Launch}
theorem vx_ofW {y : MethodName} {ws ws' : List Cond} {rm : Room} {Pc : Array Value → State → Prop} {Qc : Array Value → State → Outcome → State → Prop} {XC : String → State → State → Prop} {mc ms : Nat} {free : Addr → Prop} {cc : ByteArray} {maxL : Nat} {ret : Option FieldType}
    (hy : plainName y.cls = true) (hw : ws = Cond.code y cc maxL ret :: ws')
    (body : ∀ p e s m args below meth c s₁, BodyLoose p l y (headSpec ws rm) cc maxL ret e s m args below meth c s₁ → c.maxLocals = maxL → (∀ x ∈ c.exceptionTable.toList, False) → Pc args s →
      W p l e (headSpec ws rm).room s m args below meth c s.heap [] 0 0 (vx_MQ below Qc XC args s mc ms free) (entryFrame m args maxL)) : vx_Met l y ws rm Pc Qc XC mc ms free := by
  refine MetFree.of_bodyS (code := cc) (maxLocals := maxL) (ret := ret) hy ?_ ?_
  · intro args s m h hn
    obtain ⟨meth, c, h1, h2, h3, h4, h5, h6, -, -⟩ := Cond.code_spec hn (atoms_spec (ws := ws) h _ (by rw [hw]; exact List.mem_cons_self))
    exact ⟨meth, c, h1, h2, h3, h4, h5, h6⟩
  · intro p e s m args below meth c s₁ B hml hP _
    have hh0 : s₁.heap = s.heap := by rw [B.state]; rfl
    have ht : ∀ x ∈ c.exceptionTable.toList, False := by
      obtain ⟨meth9, c9, h1, h2, -, -, -, -, h7, -⟩ := Cond.code_spec B.named (atoms_spec (ws := ws) B.pre _ (by rw [hw]; exact List.mem_cons_self))
      cases Option.some.inj (h1.symm.trans B.method)
      cases Option.some.inj (h2.symm.trans (Stand.of_body B).code)
      intro x hx
      rw [Array.isEmpty_iff.mp h7] at hx
      cases hx
    obtain ⟨t, a1, o, b1, b2, b3⟩ := body p e s m args below meth c s₁ B hml ht hP s₁ hh0 (Stand.of_body B)
    exact ⟨t, o, a1, b1, b2, b3⟩
/-- the table of a body with handlers -/
theorem vx_table {p : Program} {x y : MethodName} {S : Spec} {cc bytes : ByteArray} {maxL maxL' : Nat} {ret ret' : Option FieldType} {e : Env} {s s₁ : State} {m : MethodId} {args : Array Value} {below : List Frame} {meth : Method} {c : Code} {hh : List (Nat × Nat × Nat × Nat)}
    (B : BodyLoose p l y S cc maxL ret e s m args below meth c s₁) (h : (Cond.codeWith y bytes maxL' ret' hh).before args s = true) : c.exceptionTable.toList = tableOf hh := by
  obtain ⟨m9, meth9, c9, hn9, h1, h2, -, -, h6, -⟩ := Cond.codeWith_spec h
  cases Option.some.inj (hn9.symm.trans B.named)
  cases Option.some.inj (h1.symm.trans B.method)
  cases Option.some.inj (h2.symm.trans (Stand.of_body B).code)
  rw [← h6, table_eq]
end Bodies
end VXA
/-! ===== END ===== -/
/-! ===== BEGIN a static call of a method with an exception table ===== -/
section VXS
variable {p : Program} {l : Launch} {e : Env} {R : Room} {s : State} {m : MethodId} {args : Array Value} {below : List Frame} {meth : Method} {c : Code} {T : State} {H : Heap} {locs : List Loc} {cells slots : Nat}
abbrev vx_CSW (R : Room) (s : State) (args : Array Value) (own : String) (index : Nat) (y : MethodName) (bytes : ByteArray) (maxL : Nat) (ret : Option FieldType) (hh : List (Nat × Nat × Nat × Nat)) (ws : List Cond) (rm : Room) (mc ms n : Nat) : Prop :=
  (rm.cells = mc ∧ rm.slots = ms ∧ rm.frames + 1 ≤ R.frames ∧ 8 + (maxL + 11) + rm.locals ≤ R.locals ∧ (∀ w ∈ ws, ∀ (a' : Array Value) (U : State), s.WarmedH U.vm → w.before a' U = true) ∧ Cond.codeWith y bytes maxL ret hh ∈ ws) ∧
  (Cond.codeWith y bytes maxL ret hh).before args s = true ∧ (Cond.initialized y.cls).before args s = true ∧ (y.cls ≠ "java/lang/invoke/MethodHandle" ∧ y.cls ≠ "java/lang/invoke/VarHandle") ∧
  (∀ sig, parseMethodDescriptor y.desc = some sig → n = sig.parameters.length) ∧ (Cond.methodLink own index y).before args s = true ∧ (Cond.static y).before args s = true
theorem vx_cwSW {own : String} {index maxL mc ms : Nat} {y : MethodName} {bytes : ByteArray} {ret : Option FieldType} {hh : List (Nat × Nat × Nat × Nat)} {Ts ws ws' : List Cond} {rm : Room} (n : Nat) (ht : ∀ w ∈ Ts, w.before args s = true) (hT : GoodIn Ts (va_wsS own index y ws)) (hw : ws = Cond.codeWith y bytes maxL ret hh :: ws') (hrc : rm.cells = mc) (hrs : rm.slots = ms)
    (hd : y.cls ≠ "java/lang/invoke/MethodHandle" ∧ y.cls ≠ "java/lang/invoke/VarHandle" ∧ (parseMethodDescriptor y.desc).map (fun d => d.parameters.length) = some n) (hR : rm.frames + 1 ≤ R.frames ∧ 8 + (maxL + 11) + rm.locals ≤ R.locals) :
    vx_CSW R s args own index y bytes maxL ret hh ws rm mc ms n := by
  have ok : ∀ w ∈ va_wsS own index y ws, w.before args s = true := fun w h => ht w (hT w h).1
  have hG : GoodIn Ts ws := fun w h => hT w (by unfold va_wsS; exact List.mem_append_right _ h)
  have hc : Cond.codeWith y bytes maxL ret hh ∈ ws := by rw [hw]; exact List.mem_cons_self
  refine ⟨⟨hrc, hrs, hR.1, hR.2, pay_in ht hG, hc⟩, ht _ (hG _ hc).1, ok _ (by simp [va_wsS]), ⟨hd.1, hd.2.1⟩, fun sig h => ?_, ok _ (by simp [va_wsS]), ok _ (by simp [va_wsS])⟩
  have h2 := hd.2.2
  rw [h] at h2
  exact (Option.some.inj h2).symm
theorem vx_callSW (X : Stand p l e R s m args below meth c T locs cells slots) (hexec : p.tables.exec = Jvm.exec) {own : String} {index : Nat} {y : MethodName} {bytes : ByteArray} {maxL : Nat} {ret : Option FieldType} {hh : List (Nat × Nat × Nat × Nat)}
    (hown : s.vm.findClass own = some m.cls) (hlink : (Cond.methodLink own index y).before args s = true) (hstat : (Cond.static y).before args s = true) (hinit : (Cond.initialized y.cls).before args s = true)
    (hcode : (Cond.codeWith y bytes maxL ret hh).before args s = true) (hy : y.cls ≠ "java/lang/invoke/MethodHandle" ∧ y.cls ≠ "java/lang/invoke/VarHandle")
    {W9 : Nat} {Pre : Pt → Array Value → Prop} {Post : Pt → Array Value → Option Value → Pt → Prop} (hK : Back l R p e below s args y 3 W9 Pre Post)
    {g : JFrame} (hg : g.method = m) (hsize : g.locals.size = c.maxLocals) {argsL rest : List Value} (hlen : ∀ sig, parseMethodDescriptor y.desc = some sig → argsL.length = sig.parameters.length)
    (hstack : g.stack = argsL.reverse ++ rest) (hW : 2 * g.monitorRoom + (rest.map fun v => v.category).sum ≤ W9) (hdg : decode c.code g.pc = .ok (.invokestatic index, 3))
    (hpre : ∀ vm₁, s.WarmedH vm₁ → Pre ⟨T.setVm vm₁, locs, cells, slots⟩ argsL.toArray) :
    ∃ (v : Option Value) (vm₁ : Vm) (B : Pt), s.WarmedH vm₁ ∧ Stand p l e R s m args below meth c B.U B.locs B.cells B.slots ∧ Post ⟨T.setVm vm₁, locs, cells, slots⟩ argsL.toArray v B ∧
      ∀ target, Steps p.tables e below (B.U.setTop { g with pc := g.pc + 3, stack := v.toList ++ rest }) target → Steps p.tables e below (T.setTop g) target := by
  obtain ⟨mk, methM, cM, hnamed, hmethM, -, -, -, -, -, -, hsigM⟩ := Cond.codeWith_spec hcode
  have hstatic : methM.isStatic = true := Cond.static_spec hnamed hmethM hstat
  obtain ⟨kP, hkP, -⟩ := className_of_methodNamed hnamed
  have hinitP : kP.init = .initialized := Cond.initialized_spec (findClass_of_methodNamed hnamed) hkP hinit
  obtain ⟨vm₁, X₁, hstep₁⟩ := X.invokestatic hexec hown hlink hnamed hmethM hstatic hkP hinitP hy (g := g) hg (argsL := argsL) (rest := rest) (hlen _ hsigM) hstack hdg
  obtain ⟨v, B, X', hpost, hsteps⟩ := hK m meth c ⟨T.setVm vm₁, locs, cells, slots⟩ { g with stack := rest } (.invokestatic index) mk argsL.toArray X₁ hg hsize hdg hW (X₁.named hnamed) (hpre vm₁ X₁.warmed)
  exact ⟨v, vm₁, B, X₁.warmed, X', hpost, fun target h => hstep₁ _ fun acts => by rw [doInvoke_state]; exact hsteps.trans h⟩
theorem vx_runSW {y : MethodName} {bytes cc : ByteArray} {maxL nL mc ms n index : Nat} {ret : Option FieldType} {hh : List (Nat × Nat × Nat × Nat)} {ws : List Cond} {rm : Room} {Pc : Array Value → State → Prop} {Qc : Array Value → State → Outcome → State → Prop} {free : Addr → Prop} {Ts : List Cond} {own : String} {As rest : List Value} {g : JFrame}
    (S : CallFix p m c cc nL s args Ts own) (hM : Met l y ws rm Pc Qc mc ms free) (cw : vx_CSW R s args own index y bytes maxL ret hh ws rm mc ms n) (hp : PreS s H Pc As)
    (hg : g.method = m) (hn : As.length = n) (hsize : g.locals.size = nL) (hstack : g.stack = As.reverse ++ rest) (hW : 2 * g.monitorRoom + (rest.map fun v => v.category).sum ≤ 8) (hdg : decode cc g.pc = .ok (.invokestatic index, 3)) (hf : cells + mc ≤ R.cells ∧ slots + ms ≤ R.slots) :
    va_Run p l e R s m args below meth c H locs cells slots mc ms g rest (Qc As.toArray) (free) := by
  obtain ⟨⟨hrc, hrs, hfr, hlo, hws, hcw⟩, hcode, hini, hy, hlen, hl, hstt⟩ := cw
  have hK : Back l R p e below s args y 3 8 (PreOf R mc ms Pc) (PostOf Qc mc ms free) := va_backW (hh := hh) (bytes := bytes) (maxL := maxL) (ret := ret) hM hp.1 hrc hrs hfr hlo hws hcw (fun a' U hW => word_at hW (Or.inl (by first | rfl | simp [Cond.onTables, Cond.keeps, Cond.steady])) hini)
  obtain ⟨hx, hb, hml, ho, -⟩ := S
  intro T hT X
  obtain ⟨v, vm₁, ⟨U', l2, c2, s2⟩, hW₁, X', ⟨g', mk, t, L, e1, e2, hq, h1, hL, h2, h3⟩, st⟩ := vx_callSW X hx (hh := hh) (bytes := bytes) (maxL := maxL) (ret := ret) ho hl hstt hini hcode hy hK hg (hsize.trans hml.symm) (argsL := As) (rest := rest) (fun sig h => hn.trans (hlen sig h)) hstack hW (by rw [hb]; exact hdg)
    (fun vm₁ hW₁ => ⟨hf.1, hf.2, hp.2 (T.setVm vm₁) hT hW₁⟩)
  dsimp only [Pt.U, Pt.locs, Pt.cells, Pt.slots] at X' e1 e2 h1 h2 h3 st
  subst h1; subst h2; subst h3
  exact ⟨v, (T.setVm vm₁).calling g' mk As.toArray, t, U', L, hT, X', hL, e1, e2, hq, st⟩
/-- not caught here, past rows that name other classes: it goes on to the caller -/
theorem vx_outP {p : Program} {l : Launch} {e : Env} {R : Room} {s : State} {m : MethodId} {args : Array Value} {below : List Frame} {meth : Method} {c : Code} {H : Heap} {locs : List Loc} {cells slots : Nat} {free : Addr → Prop} {ls : Array Slot} {rest : List Value} {Qc : Array Value → State → Outcome → State → Prop} {XC : String → State → State → Prop}
    {pc : Nat} {own E : String} {ce : Cell} {q : Addr} {mc ms : Nat} (hown : s.vm.findClass own = some m.cls) (hlocks : meth.locks = false)
    (hpass : ∀ z ∈ c.exceptionTable.toList, covers z pc = false ∨ (z.catchType ≠ 0 ∧ ∃ nm : String, (Cond.classLink own z.catchType nm).before args s = true ∧ va_Nc E nm s)) (hcell : H[q]? = some ce) (hv : ce.vm = .none) (hcl : s.vm.findClass E = some ce.cls)
    (hx : ∀ t : State, t.heap = H → s.vm.Alike t.vm → XC E s t) (hf : ∀ z ∈ locs, free z.base) (hc : cells ≤ mc) (hs : slots ≤ ms) :
    vx_W p l e R s m args below meth c H locs cells slots (vx_MQ below Qc XC args s mc ms free) (F0 m pc ls rest) q := by
  intro T hT X
  have hpl : e.platform.magicAccessors = ({} : Platform).magicAccessors := by rw [X.admits.platform]
  obtain ⟨vm', hW', X', st⟩ := X.outThrough hlocks q (g := F0 m pc ls rest) rfl rfl rfl (cell := ce) (by rw [hT]; exact hcell) (by rw [hv]; rfl)
    (by obtain ⟨k9, h9, -⟩ := Vm.findClass_spec hcl; exact ⟨k9, h9⟩) (fun z hz => by
      rcases hpass z hz with h | ⟨hz0, nm, hl1, hn1⟩
      · exact Or.inl h
      · obtain ⟨c6, hc6, hcl6⟩ := Cond.classLink_spec hown hl1 e.platform hpl
        obtain ⟨a8, b8, h1, h2, h3⟩ := hn1
        cases Option.some.inj (h1.symm.trans hcl)
        cases Option.some.inj (h2.symm.trans hc6)
        exact Or.inr ⟨hz0, _, hcl6, h3⟩)
  obtain ⟨g₀, hfr⟩ := X'.frames_eq
  have hcell9 : ((T.setVm vm').setFrames (.throwing q :: below)).heap[q]? = some ce := by
    show T.heap[q]? = some ce
    rw [hT]; exact hcell
  have hend : Ended ((T.setVm vm').setFrames (.throwing q :: below)) below (.threw q) := State.frames_setFrames _ (State.cur_lt_of_frames hfr)
  refine ⟨(T.setVm vm').setFrames (.throwing q :: below), ?_, .threw q, X'.here.running, hend, Or.inr ⟨q, rfl, E, ce, locs, hx _ hT (X'.ends _).1.alike, hcell9, hv, hcl, (X'.ends _).1, (X'.ends _).2.mono hc hs, hf⟩⟩
  rw [X.pushThrowing_eq]
  exact st
/-- a thing of a world lies in the heap -/
theorem vx_lt {D : va_G} {cl : List vw_C} {ws : va_W} {H1 : Heap} (h : va_P D cl ws H1) {k : Nat} {q : Nat × va_E} (hk : ws[k]? = some q) : q.1 < H1.size := (h k q hk).lt
end VXS
/-! ===== END ===== -/
/-! ===== BEGIN methods with a table of their own: called by a name, returning or throwing ===== -/
section VXH
/-! vx_backW, vx_callVX, vx_callSX, vx_callVW, vx_runVW, vx_runVX, vx_runSX, vx_ofWH follow the same proofs as their sisters above (Free/Laws.lean, Shelf42/LK1.lean); vx_outP calls Shelf42/NT130.lean (outThrough). -/
section
variable {l : Launch} {R : Room} {p : Program} {e : Env} {below : List Frame} {s : State} {sargs : Array Value} {y : MethodName} {len W9 : Nat}
theorem vx_backW {ws : List Cond} {rm : Room} {Pc : Array Value → State → Prop} {Qc : Array Value → State → Outcome → State → Prop} {XC : String → State → State → Prop} {mc ms : Nat} {free : Addr → Prop} {bytes : ByteArray} {maxL : Nat} {ret : Option FieldType} {hh : List (Nat × Nat × Nat × Nat)}
    (hM : vx_Met l y ws rm Pc Qc XC mc ms free) (hblind : FrameBlind Pc) (hrc : rm.cells = mc) (hrs : rm.slots = ms)
    (hframes : rm.frames + 1 ≤ R.frames) (hlocals : W9 + (maxL + 11) + rm.locals ≤ R.locals)
    (hws : ∀ w ∈ ws, ∀ a' U, s.WarmedH U.vm → w.before a' U = true) (hcode : Cond.codeWith y bytes maxL ret hh ∈ ws) (hinit : ∀ a' U, s.WarmedH U.vm → (Cond.initialized y.cls).before a' U = true) :
    vx_Back l R p e below s sargs y len W9 (PreOf R mc ms Pc) (PostOf Qc mc ms free) (vx_Post XC mc ms free) := by
  intro m meth c A g ig mk a X hg hsize hdg hW hn hp
  have h1 : (headSpec ws rm).pre.before a A.U = true := atoms_intro fun w hw => hws w hw _ _ X.warmed
  have h2 : (Cond.codeWith y bytes maxL ret hh).before a A.U = true := hws _ hcode _ _ X.warmed
  have h3 : (Cond.initialized y.cls).before a A.U = true := hinit _ _ X.warmed
  have h4 : A.cells + (headSpec ws rm).room.cells ≤ R.cells := by rw [show (headSpec ws rm).room.cells = mc from hrc]; exact hp.1
  have h5 : A.slots + (headSpec ws rm).room.slots ≤ R.slots := by rw [show (headSpec ws rm).room.slots = ms from hrs]; exact hp.2.1
  have hPc : Pc a (A.U.calling g mk a) := hblind _ _ _ _ hp.2.2
  obtain ⟨U, Ls, c0, s0⟩ := A
  dsimp only [Pt.U, Pt.locs, Pt.cells, Pt.slots] at h1 h2 h3 h4 h5 X hn hPc ⊢
  obtain ⟨m9, methY, cY, hn9, hmY, hcY, -, hlY, -⟩ := Cond.codeWith_spec h2
  cases Option.some.inj (hn9.symm.trans hn)
  obtain ⟨kY, hkY, -⟩ := className_of_methodNamed hn
  have hinitY : kY.init = .initialized := Cond.initialized_spec (findClass_of_methodNamed hn) hkY h3
  have h : At U g.method c below := by rw [hg]; exact X.here
  have hlocals9 : W9 + (maxL + 11) + (headSpec ws rm).room.locals ≤ R.locals := hlocals
  have happ : (headSpec ws rm).appliesLoose y e.platform (U.calling g mk a) = true :=
    Spec.appliesLoose_calling (g := g) h hdg hn hkY hinitY
      (X.room_calling (g := g) (R' := (headSpec ws rm).room) hsize hmY hcY hframes (by rw [hlY]; omega) h4 h5) h1
  obtain ⟨mid, hmid⟩ := h.above
  have hfr : (U.setTop g).frames = (.java g :: mid) ++ below := by rw [State.frames_setTop' g h.top, hmid]; rfl
  obtain ⟨o, s₂, hsteps, -, hend, hq⟩ := Steps.callFree hM p X.admits X.cas X.clock (acts := []) hfr happ hPc trivial
  have hq' : vx_Q Qc XC mc ms free a (U.calling g mk a) o s₂ := hq
  rw [State.frames_setTop' g h.top] at hend
  obtain ⟨g₀, hg0⟩ := Option.isSome_iff_exists.mp h.top
  obtain ⟨r, hr⟩ := State.topJava?_eq_some.mp hg0
  have hr' : (({ U with heap := s₂.heap, slotsUsed := s₂.slotsUsed } : State).setVm s₂.vm).frames = .java g₀ :: r := hr
  rcases hq' with ⟨hqc, L, hfe, hL⟩ | ⟨q, rfl, E, ce, L, hx, hce, hcv, hcl, hW₂, hsm, hL⟩
  · obtain ⟨⟨v, rfl⟩, hW₂, e2, q2, q3, q4, q5, q6⟩ := id hfe
    have e3 : s₂ = ({ (U.calling g mk a).setFrames s₂.frames with heap := s₂.heap, slotsUsed := s₂.slotsUsed } : State).setVm s₂.vm := by
      have : s₂ = ({ s₂ with vm := (U.calling g mk a).vm } : State).setVm s₂.vm := rfl
      rw [e2] at this
      exact this
    obtain ⟨c₂, i₂, len₂, hc₂, hd₂, hf₂⟩ := hend
    have hW' : U.WarmedH s₂.vm := hW₂
    have hcc : c₂ = c := by
      have h1 : s₂.code? g.method = U.code? g.method := by
        rw [State.code?_eq, State.code?_eq, hW'.alike.method?]
      exact Option.some.inj (hc₂.symm.trans (h1.trans h.code))
    subst hcc
    have hlen : len₂ = len := by rw [hdg] at hd₂; cases hd₂; rfl
    subst hlen
    have hs₂ : s₂ = (({ U with heap := s₂.heap, slotsUsed := s₂.slotsUsed } : State).setVm s₂.vm).setTop { g with pc := g.pc + len₂, stack := v.toList ++ g.stack } := by
      refine e3.trans ?_
      rw [hf₂, State.calling_eq h.top, State.setFrames_setFrames, State.setTop_of_frames _ hr', hr]
      rfl
    have hsame : U.sameButNew ({ U with heap := s₂.heap, slotsUsed := s₂.slotsUsed } : State) L mc ms := by
      refine ⟨?_, q2, q3, q4, q5, q6⟩
      obtain ⟨t, ht, -⟩ := State.frames_cons hr
      show ({ U with heap := s₂.heap, slotsUsed := s₂.slotsUsed } : State) = { U.setFrames U.frames with heap := s₂.heap, slotsUsed := s₂.slotsUsed }
      rw [State.setFrames_self ht]
    subst hg
    refine Or.inl ⟨v, ⟨(({ U with heap := s₂.heap, slotsUsed := s₂.slotsUsed } : State).setVm s₂.vm), Ls ++ L, c0 + mc, s0 + ms⟩,
      ⟨X.admits, X.cas, X.clock, X.frames, X.room, X.hears, X.method, X.code, (X.here.setHeapUsed s₂.heap s₂.slotsUsed).setVm hW'.alike, X.tail, State.WarmedH.trans X.warmed hW', X.limits, X.bytes, X.same.trans (hsame.setVm s.vm)⟩,
      ⟨g, mk, s₂, L, rfl, rfl, hqc, rfl, hL, rfl, rfl⟩, ?_⟩
    show Steps p.tables e below _ ((({ U with heap := s₂.heap, slotsUsed := s₂.slotsUsed } : State).setVm s₂.vm).setTop { g with pc := g.pc + len₂, stack := v.toList ++ g.stack })
    rw [← hs₂]
    exact hsteps
  · obtain ⟨e2, q2, q3, q4, q5, q6⟩ := id hsm
    have e3 : s₂ = ({ (U.calling g mk a).setFrames s₂.frames with heap := s₂.heap, slotsUsed := s₂.slotsUsed } : State).setVm s₂.vm := by
      have : s₂ = ({ s₂ with vm := (U.calling g mk a).vm } : State).setVm s₂.vm := rfl
      rw [e2] at this
      exact this
    have hf₂ : s₂.frames = .throwing q :: .java g :: U.frames.tail := hend
    have hW' : U.WarmedH s₂.vm := hW₂
    have hs₂ : s₂ = ((({ U with heap := s₂.heap, slotsUsed := s₂.slotsUsed } : State).setVm s₂.vm).setTop g).pushFrame (.throwing q) := by
      refine e3.trans ?_
      rw [hf₂, State.calling_eq h.top, State.setFrames_setFrames, State.pushFrame, State.frames_setTop _ hr', State.setTop_of_frames _ hr', State.setFrames_setFrames, hr]
      rfl
    have hsame : U.sameButNew ({ U with heap := s₂.heap, slotsUsed := s₂.slotsUsed } : State) L mc ms := by
      refine ⟨?_, q2, q3, q4, q5, q6⟩
      obtain ⟨t, ht, -⟩ := State.frames_cons hr
      show ({ U with heap := s₂.heap, slotsUsed := s₂.slotsUsed } : State) = { U.setFrames U.frames with heap := s₂.heap, slotsUsed := s₂.slotsUsed }
      rw [State.setFrames_self ht]
    subst hg
    refine Or.inr ⟨q, ⟨(({ U with heap := s₂.heap, slotsUsed := s₂.slotsUsed } : State).setVm s₂.vm), Ls ++ L, c0 + mc, s0 + ms⟩,
      ⟨X.admits, X.cas, X.clock, X.frames, X.room, X.hears, X.method, X.code, (X.here.setHeapUsed s₂.heap s₂.slotsUsed).setVm hW'.alike, X.tail, State.WarmedH.trans X.warmed hW', X.limits, X.bytes, X.same.trans (hsame.setVm s.vm)⟩,
      ⟨g, mk, s₂, L, E, ce, rfl, rfl, hx, hce, hcv, hcl, rfl, hL, rfl, rfl⟩, ?_⟩
    show Steps p.tables e below _ (((({ U with heap := s₂.heap, slotsUsed := s₂.slotsUsed } : State).setVm s₂.vm).setTop g).pushFrame (.throwing q))
    rw [← hs₂]
    exact hsteps
end
variable {p : Program} {l : Launch} {e : Env} {R : Room} {s : State} {m : MethodId} {args : Array Value} {below : List Frame} {meth : Method} {c : Code} {T : State} {H : Heap} {locs : List Loc} {cells slots : Nat}
theorem vx_callVX (X : Stand p l e R s m args below meth c T locs cells slots) (hexec : p.tables.exec = Jvm.exec) {own C : String} {index : Nat} {y : MethodName} {bytes : ByteArray} {maxL : Nat} {ret : Option FieldType} {hh : List (Nat × Nat × Nat × Nat)}
    (hown : s.vm.findClass own = some m.cls) (hlink : (Cond.methodLink own index y).before args s = true) (hinst : (Cond.instanceMethod y).before args s = true) (hsel : (Cond.selects C y y).before args s = true)
    (hcode : (Cond.codeWith y bytes maxL ret hh).before args s = true) (hy : y.cls ≠ "java/lang/invoke/MethodHandle" ∧ y.cls ≠ "java/lang/invoke/VarHandle")
    {W9 : Nat} {Pre : Pt → Array Value → Prop} {Post : Pt → Array Value → Option Value → Pt → Prop} {PostX : Pt → Array Value → Addr → Pt → Prop} (hK : vx_Back l R p e below s args y 3 W9 Pre Post PostX)
    {b : Addr} {cellB : Cell} (hcell : T.heap[b]? = some cellB) (hobj : cellB.vm.isStatics = false) (hcls : s.vm.findClass C = some cellB.cls)
    {g : JFrame} (hg : g.method = m) (hsize : g.locals.size = c.maxLocals) {argsL rest : List Value} (hlen : ∀ sig, parseMethodDescriptor y.desc = some sig → argsL.length = sig.parameters.length)
    (hstack : g.stack = argsL.reverse ++ .ref b :: rest) (hW : 2 * g.monitorRoom + (rest.map fun v => v.category).sum ≤ W9) (hdg : decode c.code g.pc = .ok (.invokevirtual index, 3))
    (hpre : ∀ vm₁, s.WarmedH vm₁ → Pre ⟨T.setVm vm₁, locs, cells, slots⟩ (Value.ref b :: argsL).toArray) :
    (∃ (v : Option Value) (vm₁ : Vm) (B : Pt), s.WarmedH vm₁ ∧ Stand p l e R s m args below meth c B.U B.locs B.cells B.slots ∧ Post ⟨T.setVm vm₁, locs, cells, slots⟩ (Value.ref b :: argsL).toArray v B ∧
      ∀ target, Steps p.tables e below (B.U.setTop { g with pc := g.pc + 3, stack := v.toList ++ rest }) target → Steps p.tables e below (T.setTop g) target) ∨
    (∃ (q : Addr) (vm₁ : Vm) (B : Pt), s.WarmedH vm₁ ∧ Stand p l e R s m args below meth c B.U B.locs B.cells B.slots ∧ PostX ⟨T.setVm vm₁, locs, cells, slots⟩ (Value.ref b :: argsL).toArray q B ∧
      Steps p.tables e below (T.setTop g) ((B.U.setTop { g with stack := rest }).pushFrame (.throwing q))) := by
  obtain ⟨mk, methM, hnamed, hmethM, hstM, habM⟩ := Cond.instanceMethod_spec hinst
  obtain ⟨m8, methM', cM, hn8, hmethM', -, -, -, -, -, -, hsigM⟩ := Cond.codeWith_spec hcode
  cases Option.some.inj (hn8.symm.trans hnamed)
  cases hmethM.symm.trans hmethM'
  obtain ⟨c2, r2, m2, q1, q2, q3, q4, kP, hkP, hkPi⟩ := Cond.selects_spec hsel
  cases hcls.symm.trans q1
  cases (State.methodFound?_of_named hnamed hy).symm.trans q2
  cases hnamed.symm.trans q3
  have hselP : selectMethod e.platform s.vm cellB.cls mk = .method mk := by rw [Launch.admits_selectMethod X.admits]; exact q4
  obtain ⟨vm₁, X₁, hstep₁⟩ := X.invokevirtual hexec hown hlink hnamed hmethM hstM hkP hkPi hy (a := b) (cell := cellB) hcell
    (fun z h => by rw [h] at hobj; cases hobj) hselP hmethM habM hkP hkPi (g := g) hg (argsL := argsL) (rest := rest) (hlen _ hsigM) hstack hdg
  rcases hK m meth c ⟨T.setVm vm₁, locs, cells, slots⟩ { g with stack := rest } (.invokevirtual index) mk (Value.ref b :: argsL).toArray X₁ hg hsize hdg hW (X₁.named hnamed) (hpre vm₁ X₁.warmed) with ⟨v, B, X', hpost, hsteps⟩ | ⟨q, B, X', hpost, hsteps⟩
  · exact Or.inl ⟨v, vm₁, B, X₁.warmed, X', hpost, fun target h => hstep₁ _ fun acts => by rw [doInvoke_state]; exact hsteps.trans h⟩
  · exact Or.inr ⟨q, vm₁, B, X₁.warmed, X', hpost, hstep₁ _ fun acts => by rw [doInvoke_state]; exact hsteps⟩
theorem vx_callSX (X : Stand p l e R s m args below meth c T locs cells slots) (hexec : p.tables.exec = Jvm.exec) {own : String} {index : Nat} {y : MethodName} {bytes : ByteArray} {maxL : Nat} {ret : Option FieldType} {hh : List (Nat × Nat × Nat × Nat)}
    (hown : s.vm.findClass own = some m.cls) (hlink : (Cond.methodLink own index y).before args s = true) (hstat : (Cond.static y).before args s = true) (hinit : (Cond.initialized y.cls).before args s = true)
    (hcode : (Cond.codeWith y bytes maxL ret hh).before args s = true) (hy : y.cls ≠ "java/lang/invoke/MethodHandle" ∧ y.cls ≠ "java/lang/invoke/VarHandle")
    {W9 : Nat} {Pre : Pt → Array Value → Prop} {Post : Pt → Array Value → Option Value → Pt → Prop} {PostX : Pt → Array Value → Addr → Pt → Prop} (hK : vx_Back l R p e below s args y 3 W9 Pre Post PostX)
    {g : JFrame} (hg : g.method = m) (hsize : g.locals.size = c.maxLocals) {argsL rest : List Value} (hlen : ∀ sig, parseMethodDescriptor y.desc = some sig → argsL.length = sig.parameters.length)
    (hstack : g.stack = argsL.reverse ++ rest) (hW : 2 * g.monitorRoom + (rest.map fun v => v.category).sum ≤ W9) (hdg : decode c.code g.pc = .ok (.invokestatic index, 3))
    (hpre : ∀ vm₁, s.WarmedH vm₁ → Pre ⟨T.setVm vm₁, locs, cells, slots⟩ argsL.toArray) :
    (∃ (v : Option Value) (vm₁ : Vm) (B : Pt), s.WarmedH vm₁ ∧ Stand p l e R s m args below meth c B.U B.locs B.cells B.slots ∧ Post ⟨T.setVm vm₁, locs, cells, slots⟩ argsL.toArray v B ∧
      ∀ target, Steps p.tables e below (B.U.setTop { g with pc := g.pc + 3, stack := v.toList ++ rest }) target → Steps p.tables e below (T.setTop g) target) ∨
    (∃ (q : Addr) (vm₁ : Vm) (B : Pt), s.WarmedH vm₁ ∧ Stand p l e R s m args below meth c B.U B.locs B.cells B.slots ∧ PostX ⟨T.setVm vm₁, locs, cells, slots⟩ argsL.toArray q B ∧
      Steps p.tables e below (T.setTop g) ((B.U.setTop { g with stack := rest }).pushFrame (.throwing q))) := by
  obtain ⟨mk, methM, cM, hnamed, hmethM, -, -, -, -, -, -, hsigM⟩ := Cond.codeWith_spec hcode
  have hstatic : methM.isStatic = true := Cond.static_spec hnamed hmethM hstat
  obtain ⟨kP, hkP, -⟩ := className_of_methodNamed hnamed
  have hinitP : kP.init = .initialized := Cond.initialized_spec (findClass_of_methodNamed hnamed) hkP hinit
  obtain ⟨vm₁, X₁, hstep₁⟩ := X.invokestatic hexec hown hlink hnamed hmethM hstatic hkP hinitP hy (g := g) hg (argsL := argsL) (rest := rest) (hlen _ hsigM) hstack hdg
  rcases hK m meth c ⟨T.setVm vm₁, locs, cells, slots⟩ { g with stack := rest } (.invokestatic index) mk argsL.toArray X₁ hg hsize hdg hW (X₁.named hnamed) (hpre vm₁ X₁.warmed) with ⟨v, B, X', hpost, hsteps⟩ | ⟨q, B, X', hpost, hsteps⟩
  · exact Or.inl ⟨v, vm₁, B, X₁.warmed, X', hpost, fun target h => hstep₁ _ fun acts => by rw [doInvoke_state]; exact hsteps.trans h⟩
  · exact Or.inr ⟨q, vm₁, B, X₁.warmed, X', hpost, hstep₁ _ fun acts => by rw [doInvoke_state]; exact hsteps⟩
theorem vx_callVW (X : Stand p l e R s m args below meth c T locs cells slots) (hexec : p.tables.exec = Jvm.exec) {own C : String} {index : Nat} {y : MethodName} {bytes : ByteArray} {maxL : Nat} {ret : Option FieldType} {hh : List (Nat × Nat × Nat × Nat)}
    (hown : s.vm.findClass own = some m.cls) (hlink : (Cond.methodLink own index y).before args s = true) (hinst : (Cond.instanceMethod y).before args s = true) (hsel : (Cond.selects C y y).before args s = true)
    (hcode : (Cond.codeWith y bytes maxL ret hh).before args s = true) (hy : y.cls ≠ "java/lang/invoke/MethodHandle" ∧ y.cls ≠ "java/lang/invoke/VarHandle")
    {W9 : Nat} {Pre : Pt → Array Value → Prop} {Post : Pt → Array Value → Option Value → Pt → Prop} (hK : Back l R p e below s args y 3 W9 Pre Post)
    {b : Addr} {cellB : Cell} (hcell : T.heap[b]? = some cellB) (hobj : cellB.vm.isStatics = false) (hcls : s.vm.findClass C = some cellB.cls)
    {g : JFrame} (hg : g.method = m) (hsize : g.locals.size = c.maxLocals) {argsL rest : List Value} (hlen : ∀ sig, parseMethodDescriptor y.desc = some sig → argsL.length = sig.parameters.length)
    (hstack : g.stack = argsL.reverse ++ .ref b :: rest) (hW : 2 * g.monitorRoom + (rest.map fun v => v.category).sum ≤ W9) (hdg : decode c.code g.pc = .ok (.invokevirtual index, 3))
    (hpre : ∀ vm₁, s.WarmedH vm₁ → Pre ⟨T.setVm vm₁, locs, cells, slots⟩ (Value.ref b :: argsL).toArray) :
    ∃ (v : Option Value) (vm₁ : Vm) (B : Pt), s.WarmedH vm₁ ∧ Stand p l e R s m args below meth c B.U B.locs B.cells B.slots ∧ Post ⟨T.setVm vm₁, locs, cells, slots⟩ (Value.ref b :: argsL).toArray v B ∧
      ∀ target, Steps p.tables e below (B.U.setTop { g with pc := g.pc + 3, stack := v.toList ++ rest }) target → Steps p.tables e below (T.setTop g) target := by
  obtain ⟨mk, methM, hnamed, hmethM, hstM, habM⟩ := Cond.instanceMethod_spec hinst
  obtain ⟨m8, methM', cM, hn8, hmethM', -, -, -, -, -, -, hsigM⟩ := Cond.codeWith_spec hcode
  cases Option.some.inj (hn8.symm.trans hnamed)
  cases hmethM.symm.trans hmethM'
  obtain ⟨c2, r2, m2, q1, q2, q3, q4, kP, hkP, hkPi⟩ := Cond.selects_spec hsel
  cases hcls.symm.trans q1
  cases (State.methodFound?_of_named hnamed hy).symm.trans q2
  cases hnamed.symm.trans q3
  have hselP : selectMethod e.platform s.vm cellB.cls mk = .method mk := by rw [Launch.admits_selectMethod X.admits]; exact q4
  obtain ⟨vm₁, X₁, hstep₁⟩ := X.invokevirtual hexec hown hlink hnamed hmethM hstM hkP hkPi hy (a := b) (cell := cellB) hcell
    (fun z h => by rw [h] at hobj; cases hobj) hselP hmethM habM hkP hkPi (g := g) hg (argsL := argsL) (rest := rest) (hlen _ hsigM) hstack hdg
  obtain ⟨v, B, X', hpost, hsteps⟩ := hK m meth c ⟨T.setVm vm₁, locs, cells, slots⟩ { g with stack := rest } (.invokevirtual index) mk (Value.ref b :: argsL).toArray X₁ hg hsize hdg hW (X₁.named hnamed) (hpre vm₁ X₁.warmed)
  exact ⟨v, vm₁, B, X₁.warmed, X', hpost, fun target h => hstep₁ _ fun acts => by rw [doInvoke_state]; exact hsteps.trans h⟩
abbrev vx_CVW (R : Room) (s : State) (args : Array Value) (own C : String) (index : Nat) (y : MethodName) (bytes : ByteArray) (maxL : Nat) (ret : Option FieldType) (hh : List (Nat × Nat × Nat × Nat)) (ws : List Cond) (rm : Room) (mc ms n : Nat) : Prop :=
  (rm.cells = mc ∧ rm.slots = ms ∧ rm.frames + 1 ≤ R.frames ∧ 8 + (maxL + 11) + rm.locals ≤ R.locals ∧ (∀ w ∈ ws, ∀ (a' : Array Value) (U : State), s.WarmedH U.vm → w.before a' U = true) ∧ Cond.codeWith y bytes maxL ret hh ∈ ws) ∧
  (Cond.codeWith y bytes maxL ret hh).before args s = true ∧ (Cond.initialized y.cls).before args s = true ∧ (y.cls ≠ "java/lang/invoke/MethodHandle" ∧ y.cls ≠ "java/lang/invoke/VarHandle") ∧
  (∀ sig, parseMethodDescriptor y.desc = some sig → n = sig.parameters.length) ∧ (Cond.methodLink own index y).before args s = true ∧ (Cond.instanceMethod y).before args s = true ∧ (Cond.selects C y y).before args s = true
theorem vx_cwVW {own C : String} {index maxL mc ms : Nat} {y : MethodName} {bytes : ByteArray} {ret : Option FieldType} {hh : List (Nat × Nat × Nat × Nat)} {Ts ws ws' : List Cond} {rm : Room} (n : Nat) (ht : ∀ w ∈ Ts, w.before args s = true) (hT : GoodIn Ts (wsV own index C y ws)) (hw : ws = Cond.codeWith y bytes maxL ret hh :: ws') (hrc : rm.cells = mc) (hrs : rm.slots = ms)
    (hd : y.cls = C ∧ y.cls ≠ "java/lang/invoke/MethodHandle" ∧ y.cls ≠ "java/lang/invoke/VarHandle" ∧ (parseMethodDescriptor y.desc).map (fun d => d.parameters.length) = some n) (hR : rm.frames + 1 ≤ R.frames ∧ 8 + (maxL + 11) + rm.locals ≤ R.locals) :
    vx_CVW R s args own C index y bytes maxL ret hh ws rm mc ms n := by
  obtain ⟨hC, hd⟩ := hd
  subst hC
  have ok : ∀ w ∈ wsV own index y.cls y ws, w.before args s = true := fun w h => ht w (hT w h).1
  have hG : GoodIn Ts ws := fun w h => hT w (by unfold wsV; exact List.mem_append_right _ h)
  have hc : Cond.codeWith y bytes maxL ret hh ∈ ws := by rw [hw]; exact List.mem_cons_self
  refine ⟨⟨hrc, hrs, hR.1, hR.2, pay_in ht hG, hc⟩, ht _ (hG _ hc).1, ok _ (by simp [wsV]), ⟨hd.1, hd.2.1⟩, fun sig h => ?_, ok _ (by simp [wsV]), ok _ (by simp [wsV]), ok _ (by simp [wsV])⟩
  have h2 := hd.2.2
  rw [h] at h2
  exact (Option.some.inj h2).symm
theorem vx_runVW {y : MethodName} {bytes cc : ByteArray} {maxL nL mc ms n index : Nat} {ret : Option FieldType} {hh : List (Nat × Nat × Nat × Nat)} {ws : List Cond} {rm : Room} {Pc : Array Value → State → Prop} {Qc : Array Value → State → Outcome → State → Prop} {free : Addr → Prop} {Ts : List Cond} {own C : String} {b : Addr} {As rest : List Value} {g : JFrame}
    (S : CallFix p m c cc nL s args Ts own) (hM : Met l y ws rm Pc Qc mc ms free) (cw : vx_CVW R s args own C index y bytes maxL ret hh ws rm mc ms n) (hp : PreV s H C b Pc As)
    (hg : g.method = m) (hn : As.length = n) (hsize : g.locals.size = nL) (hstack : g.stack = As.reverse ++ .ref b :: rest) (hW : 2 * g.monitorRoom + (rest.map fun v => v.category).sum ≤ 8) (hdg : decode cc g.pc = .ok (.invokevirtual index, 3)) (hf : cells + mc ≤ R.cells ∧ slots + ms ≤ R.slots) :
    va_Run p l e R s m args below meth c H locs cells slots mc ms g rest (Qc (Value.ref b :: As).toArray) free := by
  obtain ⟨⟨hrc, hrs, hfr, hlo, hws, hcw⟩, hcode, hini, hy, hlen, hl, hin, hse⟩ := cw
  have hK : Back l R p e below s args y 3 8 (PreOf R mc ms Pc) (PostOf Qc mc ms free) := va_backW (hh := hh) (bytes := bytes) (maxL := maxL) (ret := ret) hM hp.1 hrc hrs hfr hlo hws hcw (fun a' U hW => word_at hW (Or.inl (by first | rfl | simp [Cond.onTables, Cond.keeps, Cond.steady])) hini)
  obtain ⟨hx, hb, hml, ho, -⟩ := S
  obtain ⟨-, ⟨cellB, hcB, hoB, hclB⟩, hPc⟩ := hp
  intro T hT X
  obtain ⟨v, vm₁, ⟨U', l2, c2, s2⟩, hW₁, X', ⟨g', mk, t, L, e1, e2, hq, h1, hL, h2, h3⟩, st⟩ := vx_callVW X hx (C := C) (hh := hh) (bytes := bytes) (maxL := maxL) (ret := ret) ho hl hin hse hcode hy hK (by rw [hT]; exact hcB) hoB hclB hg (hsize.trans hml.symm) (argsL := As) (rest := rest) (fun sig h => hn.trans (hlen sig h)) hstack hW (by rw [hb]; exact hdg)
    (fun vm₁ hW₁ => ⟨hf.1, hf.2, hPc (T.setVm vm₁) hT hW₁⟩)
  dsimp only [Pt.U, Pt.locs, Pt.cells, Pt.slots] at X' e1 e2 h1 h2 h3 st
  subst h1; subst h2; subst h3
  exact ⟨v, (T.setVm vm₁).calling g' mk (Value.ref b :: As).toArray, t, U', L, hT, X', hL, e1, e2, hq, st⟩
section
variable {y : MethodName} {bytes cc : ByteArray} {maxL nL mc ms n index : Nat} {ret : Option FieldType} {ws : List Cond} {rm : Room} {Pc : Array Value → State → Prop} {Qc : Array Value → State → Outcome → State → Prop} {XC : String → State → State → Prop} {free : Addr → Prop} {Ts : List Cond} {own C : String} {b : Addr} {As rest : List Value} {g : JFrame}
theorem vx_runVX {hh : List (Nat × Nat × Nat × Nat)} (S : CallFix p m c cc nL s args Ts own) (hM : vx_Met l y ws rm Pc Qc XC mc ms free) (cw : vx_CVW R s args own C index y bytes maxL ret hh ws rm mc ms n) (hp : PreV s H C b Pc As)
    (hg : g.method = m) (hn : As.length = n) (hsize : g.locals.size = nL) (hstack : g.stack = As.reverse ++ .ref b :: rest) (hW : 2 * g.monitorRoom + (rest.map fun v => v.category).sum ≤ 8) (hdg : decode cc g.pc = .ok (.invokevirtual index, 3)) (hf : cells + mc ≤ R.cells ∧ slots + ms ≤ R.slots) :
    vx_Run p l e R s m args below meth c H locs cells slots mc ms g rest (Qc (Value.ref b :: As).toArray) XC free := by
  obtain ⟨⟨hrc, hrs, hfr, hlo, hws, hcw⟩, hcode, hini, hy, hlen, hl, hin, hse⟩ := cw
  have hK : vx_Back l R p e below s args y 3 8 (PreOf R mc ms Pc) (PostOf Qc mc ms free) (vx_Post XC mc ms free) := vx_backW (hh := hh) (bytes := bytes) (maxL := maxL) (ret := ret) hM hp.1 hrc hrs hfr hlo hws hcw (fun a' U hW => word_at hW (Or.inl (by first | rfl | simp [Cond.onTables, Cond.keeps, Cond.steady])) hini)
  obtain ⟨hx, hb, hml, ho, -⟩ := S
  obtain ⟨-, ⟨cellB, hcB, hoB, hclB⟩, hPc⟩ := hp
  intro T hT X
  rcases vx_callVX X hx (C := C) (hh := hh) (bytes := bytes) (maxL := maxL) (ret := ret) ho hl hin hse hcode hy hK (by rw [hT]; exact hcB) hoB hclB hg (hsize.trans hml.symm) (argsL := As) (rest := rest) (fun sig h => hn.trans (hlen sig h)) hstack hW (by rw [hb]; exact hdg)
    (fun vm₁ hW₁ => ⟨hf.1, hf.2, hPc (T.setVm vm₁) hT hW₁⟩) with ⟨v, vm₁, ⟨U', l2, c2, s2⟩, hW₁, X', ⟨g', mk, t, L, e1, e2, hq, h1, hL, h2, h3⟩, st⟩ | ⟨q, vm₁, ⟨U', l2, c2, s2⟩, hW₁, X', ⟨g', mk, t, L, E, ce, e1, e2, hq, hce, hcv, hcl, h1, hL, h2, h3⟩, st⟩
  · dsimp only [Pt.U, Pt.locs, Pt.cells, Pt.slots] at X' e1 e2 h1 h2 h3 st
    subst h1; subst h2; subst h3
    exact Or.inl ⟨v, (T.setVm vm₁).calling g' mk (Value.ref b :: As).toArray, t, U', L, hT, X', hL, e1, e2, hq, st⟩
  · dsimp only [Pt.U, Pt.locs, Pt.cells, Pt.slots] at X' e1 e2 h1 h2 h3 st hcl
    subst h1; subst h2; subst h3
    exact Or.inr ⟨q, (T.setVm vm₁).calling g' mk (Value.ref b :: As).toArray, t, U', L, E, ce, hT, X', hL, e1, e2, hq, hce, hcv, vx_cls hW₁ hcl, st⟩
theorem vx_runSX {hh : List (Nat × Nat × Nat × Nat)} (S : CallFix p m c cc nL s args Ts own) (hM : vx_Met l y ws rm Pc Qc XC mc ms free) (cw : vx_CSW R s args own index y bytes maxL ret hh ws rm mc ms n) (hp : PreS s H Pc As)
    (hg : g.method = m) (hn : As.length = n) (hsize : g.locals.size = nL) (hstack : g.stack = As.reverse ++ rest) (hW : 2 * g.monitorRoom + (rest.map fun v => v.category).sum ≤ 8) (hdg : decode cc g.pc = .ok (.invokestatic index, 3)) (hf : cells + mc ≤ R.cells ∧ slots + ms ≤ R.slots) :
    vx_Run p l e R s m args below meth c H locs cells slots mc ms g rest (Qc As.toArray) XC free := by
  obtain ⟨⟨hrc, hrs, hfr, hlo, hws, hcw⟩, hcode, hini, hy, hlen, hl, hstt⟩ := cw
  have hK : vx_Back l R p e below s args y 3 8 (PreOf R mc ms Pc) (PostOf Qc mc ms free) (vx_Post XC mc ms free) := vx_backW (hh := hh) (bytes := bytes) (maxL := maxL) (ret := ret) hM hp.1 hrc hrs hfr hlo hws hcw (fun a' U hW => word_at hW (Or.inl (by first | rfl | simp [Cond.onTables, Cond.keeps, Cond.steady])) hini)
  obtain ⟨hx, hb, hml, ho, -⟩ := S
  intro T hT X
  rcases vx_callSX X hx (hh := hh) (bytes := bytes) (maxL := maxL) (ret := ret) ho hl hstt hini hcode hy hK hg (hsize.trans hml.symm) (argsL := As) (rest := rest) (fun sig h => hn.trans (hlen sig h)) hstack hW (by rw [hb]; exact hdg)
    (fun vm₁ hW₁ => ⟨hf.1, hf.2, hp.2 (T.setVm vm₁) hT hW₁⟩) with ⟨v, vm₁, ⟨U', l2, c2, s2⟩, hW₁, X', ⟨g', mk, t, L, e1, e2, hq, h1, hL, h2, h3⟩, st⟩ | ⟨q, vm₁, ⟨U', l2, c2, s2⟩, hW₁, X', ⟨g', mk, t, L, E, ce, e1, e2, hq, hce, hcv, hcl, h1, hL, h2, h3⟩, st⟩
  · dsimp only [Pt.U, Pt.locs, Pt.cells, Pt.slots] at X' e1 e2 h1 h2 h3 st
    subst h1; subst h2; subst h3
    exact Or.inl ⟨v, (T.setVm vm₁).calling g' mk As.toArray, t, U', L, hT, X', hL, e1, e2, hq, st⟩
  · dsimp only [Pt.U, Pt.locs, Pt.cells, Pt.slots] at X' e1 e2 h1 h2 h3 st hcl
    subst h1; subst h2; subst h3
    exact Or.inr ⟨q, (T.setVm vm₁).calling g' mk As.toArray, t, U', L, E, ce, hT, X', hL, e1, e2, hq, hce, hcv, vx_cls hW₁ hcl, st⟩
end
end VXH
theorem vx_ofWH {l : Launch} {y : MethodName} {ws ws' : List Cond} {rm : Room} {Pc : Array Value → State → Prop} {Qc : Array Value → State → Outcome → State → Prop} {XC : String → State → State → Prop} {mc ms : Nat} {free : Addr → Prop} {cc : ByteArray} {maxL : Nat} {ret : Option FieldType} {hh : List (Nat × Nat × Nat × Nat)}
    (hy : plainName y.cls = true) (hw : ws = Cond.codeWith y cc maxL ret hh :: ws')
    (body : ∀ p e s m args below meth c s₁, BodyLoose p l y (headSpec ws rm) cc maxL ret e s m args below meth c s₁ → c.maxLocals = maxL → Pc args s →
      W p l e (headSpec ws rm).room s m args below meth c s.heap [] 0 0 (vx_MQ below Qc XC args s mc ms free) (entryFrame m args maxL)) : vx_Met l y ws rm Pc Qc XC mc ms free := by
  refine MetFree.of_bodyS (code := cc) (maxLocals := maxL) (ret := ret) hy ?_ ?_
  · intro args s m h hn
    obtain ⟨m9, meth, c, hn9, h1, h2, h3, h4, -, h5, h6, -⟩ := Cond.codeWith_spec (atoms_spec (ws := ws) h _ (by rw [hw]; exact List.mem_cons_self))
    cases hn.symm.trans hn9
    exact ⟨meth, c, h1, h2, h3, h4, h5, h6⟩
  · intro p e s m args below meth c s₁ B hml hP _
    have hh0 : s₁.heap = s.heap := by rw [B.state]; rfl
    obtain ⟨t, a1, o, b1, b2, b3⟩ := body p e s m args below meth c s₁ B hml hP s₁ hh0 (Stand.of_body B)
    exact ⟨t, o, a1, b1, b2, b3⟩
/-! ===== END ===== -/

/-! ===== BEGIN what the machine throws by itself, no traces kept ===== -/
section VXM
set_option maxHeartbeats 1000000 in
/-- the machine throws cls with the message text, no traces kept: from its note over the frame g to 'throwing' over the same frame (follows the proofs of Stand.vmThrowsMessage, Shelf/KitTracedVmS.lean, and Stand.throwsMessageColdBareV, StandMessageColdV.lean, without the step out of the frame) -/
theorem vx_vmAt {p : Program} {l : Launch} {e : Env} {R : Room} {s : State} {m₀ : MethodId} {args : Array Value} {below : List Frame} {meth : Method} {c : Code} {W : State} {locs : List Loc} {cells slots : Nat}
    (X : Stand p l e R s m₀ args below meth c W locs cells slots) (hexec : p.tables.exec = Jvm.exec) (htr : e.platform.stackTraces = false) {cls : String} {names : List String} {text : String}
    (hcls : Bundle.fit cls = true) (hnames : ∀ n ∈ names, Bundle.fit n = true) (hsoe : (cls == "java/lang/StackOverflowError") = false) (hoom : (cls == "java/lang/OutOfMemoryError") = false)
    (h : ∀ a ∈ Bundle.messageArmAtoms cls names, a.before args s = true)
    (hlocs : ∀ x ∈ locs, ∀ cell, s.heap[x.base]? = some cell → cell.vm.isStatics = false)
    (htext : (text == notModelled) = false) (hlimit : ¬ (stringBytes (stringToUtf16 text)).size > e.platform.arrayLengthLimit) (hheap : ¬ (stringBytes (stringToUtf16 text)).size * componentBytes .byte > e.platform.maxHeapBytes)
    {g : JFrame} (hg : g.method = m₀) (hsize : g.locals.size = c.maxLocals)
    (hRframes : names.length + 4 < R.frames) (hRlocals : 2 * g.monitorRoom + (g.stack.map fun v => v.category).sum + 10240 ≤ R.locals) (hshort : 13 * names.length + 55 ≤ 10240)
    (hRcells : cells + 3 ≤ R.cells) (hRslots : slots + ((stringBytes (stringToUtf16 text)).size + 4 + 6) ≤ R.slots) (hlocks : meth.locks = false) :
    ∃ (S : State) (q : Addr) (ce : Cell), (∀ target, Steps p.tables e below ((S.setTop g).pushFrame (.throwing q)) target → Steps p.tables e below ((W.setTop g).pushFrame (.throwNew cls (some text) none)) target) ∧
      Stand p l e R s m₀ args below meth c S locs (cells + 3) (slots + ((stringBytes (stringToUtf16 text)).size + 4 + 6)) ∧ S.heap[q]? = some ce ∧ s.vm.findClass cls = some ce.cls ∧ ce.vm = .none := by
  have howns : e.platform.frameOwnsMonitors = true := by rw [X.admits.platform]
  have hfin : e.platform.finalization = false := by rw [X.admits.platform]
  have hpl : e.platform.magicAccessors = ({} : Platform).magicAccessors := by rw [X.admits.platform]
  have a : ∀ x, x ∈ Bundle.messageArmAtoms cls names → x.holds args s none s [] = true := fun x hx => h x hx
  obtain ⟨T, Z0, L, -, Y⟩ := ThrowableC.of_atoms (args := args) howns hfin hpl (fun x hx => h x (by simp [Bundle.messageArmAtoms, hx]))
  obtain ⟨Z, M, LZ, LM, hnZ⟩ := Init0T.ofS_atoms (args := args) hpl L Y (fun x hx => h x (by simp [Bundle.messageArmAtoms, hx]))
  obtain ⟨P1, Ps, hlen, L1, hL, hP1m, hlink1, hlink⟩ := Bundle.chainS (args := args) hpl hnZ names cls hcls hnames (fun x hx => h x (by simp [Bundle.messageArmAtoms, hx]))
  obtain ⟨Zs, LZs, hn4, hfitv, hfitc⟩ := StringT.of_atoms (args := args) (fun x hx => h x (by simp [Bundle.messageArmAtoms, hx]))
  have hfound : s.vm.findClass cls = some P1.m.cls := findClass_of_methodNamed hP1m
  obtain ⟨c1, kX, hc1, hk, hord, -, -, hn6⟩ := Cond.instantiable_spec (a (.instantiable cls 6) (by simp [Bundle.messageArmAtoms]))
  cases Option.some.inj (hc1.symm.trans hfound)
  have hinit := Cond.initialized_spec hfound hk (a (.initialized cls) (by simp [Bundle.messageArmAtoms]))
  have hctor : kX.findMethod "<init>" "(Ljava/lang/String;)V" = some P1.m.idx := findMethod_of_methodNamed hP1m hk
  have hsel0 : selectMethod e.platform s.vm P1.m.cls T.fill0 = .method T.fill0 := by
    obtain ⟨c2, r2, m2, q1, q2, q3, q4, -⟩ := Cond.selects_spec (a (.selects cls Bundle.tFill0 Bundle.tFill0) (by simp [Bundle.messageArmAtoms]))
    cases Option.some.inj (q1.symm.trans hfound)
    cases Option.some.inj (q2.symm.trans (State.methodFound?_of_named Y.fill0 (by decide)))
    cases Option.some.inj (q3.symm.trans Y.fill0)
    rw [Launch.admits_selectMethod X.admits]; exact q4
  have hselF : selectMethod e.platform s.vm P1.m.cls T.fill = .method T.fill := by
    obtain ⟨c2, r2, m2, q1, q2, q3, q4, -⟩ := Cond.selects_spec (a (.selects cls Bundle.tFill Bundle.tFill) (by simp [Bundle.messageArmAtoms]))
    cases Option.some.inj (q1.symm.trans hfound)
    cases Option.some.inj (q2.symm.trans (State.methodFound?_of_named Y.fill (by decide)))
    cases Option.some.inj (q3.symm.trans Y.fill)
    rw [Launch.admits_selectMethod X.admits]; exact q4
  obtain ⟨cellS0, hcS0, hiss⟩ := Y.statics
  obtain ⟨u0, hu0⟩ := Cond.staticRefV Y.unassigned L.unassignedStatic L.statics hcS0 hiss (a (.isRef (.static Bundle.tN "UNASSIGNED_STACK" Bundle.steD)) (by simp [Bundle.messageArmAtoms]))
  obtain ⟨sen, hsen⟩ := Cond.staticRefV Y.sentinel L.sentinelStatic L.statics hcS0 hiss (a (.isRef (.static Bundle.tN "SUPPRESSED_SENTINEL" Bundle.listD)) (by simp [Bundle.messageArmAtoms]))
  obtain ⟨ci198, i198, fB, hk198, hg198, ha198, hsB, -, hnB, htB, hffB⟩ := Cond.ownField (t := .object "java/lang/Object") Y.found L.cls (by decide +kernel) (a (.fieldLink Bundle.tN 198 Bundle.tN "backtrace" "Ljava/lang/Object;") (by simp [Bundle.messageArmAtoms])) (a (.lays Bundle.tN Bundle.tN "backtrace" "Ljava/lang/Object;") (by simp [Bundle.messageArmAtoms])) e.platform hpl
  obtain ⟨cellS, hcS', heS, -, hkeep⟩ := X.same.2.2.2.2.2 T.aS cellS0 hcS0
  have hcellS : W.heap[T.aS]? = some cellS := hcS'
  have hout' : ∀ i, (⟨T.aS, i⟩ : Loc) ∉ locs := fun i hmem => by
    have := hlocs _ hmem cellS0 hcS0
    rw [hiss] at this; cases this
  have hknownS : cellS.vm ≠ .unknown := by
    rw [heS]; intro hu
    rw [show cellS0.vm = .unknown from hu] at hiss
    cases hiss
  have hvU : cellS.slots[T.fUnassigned.slot]? = some u0.v := by rw [hkeep _ (hout' _)]; exact hu0
  have hvSen : cellS.slots[T.fSentinel.slot]? = some sen.v := by rw [hkeep _ (hout' _)]; exact hsen
  obtain ⟨iM, hffM⟩ := Y.msg
  obtain ⟨tyC, dC, hdC, hdnC⟩ := Cond.laysAt hfound hk Y.cause (a (.lays cls Bundle.tN "cause" "Ljava/lang/Throwable;") (by simp [Bundle.messageArmAtoms]))
  obtain ⟨tyS, dS, hdS, hdnS⟩ := Cond.laysAt hfound hk Y.stack (a (.lays cls Bundle.tN "stackTrace" Bundle.steD) (by simp [Bundle.messageArmAtoms]))
  obtain ⟨tyP, dP, hdP, hdnP⟩ := Cond.laysAt hfound hk Y.supp (a (.lays cls Bundle.tN "suppressedExceptions" Bundle.listD) (by simp [Bundle.messageArmAtoms]))
  obtain ⟨tyM, dM, hdM, hdnM⟩ := Cond.laysAt hfound hk hffM (a (.lays cls Bundle.tN "detailMessage" "Ljava/lang/String;") (by simp [Bundle.messageArmAtoms]))
  obtain ⟨tyB, dB, hdB, hdnB⟩ := Cond.laysAt hfound hk hffB (a (.lays cls Bundle.tN "backtrace" "Ljava/lang/Object;") (by simp [Bundle.messageArmAtoms]))
  have bC := Cond.laysApart hdB hdC hdnB hdnC (by rw [hnB, Y.causeName]; decide)
  have bS := Cond.laysApart hdB hdS hdnB hdnS (by rw [hnB, Y.stackName]; decide)
  have bP := Cond.laysApart hdB hdP hdnB hdnP (by rw [hnB, Y.suppName]; decide)
  have hbk : ((preparedCellV T.toThrowableT (freshCell P1.m.cls kX) (W.heap.size + 2) u0 sen).withEntry W.cur).slots[fB.slot]? = some .null := by
    have := fresh_default (c := P1.m.cls) tyB
    rw [htB] at this
    simpa [preparedCellV, Cell.setSlot, Cell.withEntry, Array.getElem?_setIfInBounds, bC, bS, bP, bC.symm, bS.symm, bP.symm, defaultValue] using this
  have tkC := Takes.of_laid (v := .ref (W.heap.size + 2)) hk hord tyC (by rw [Y.causeType]; rfl)
  have tkS := Takes.of_laid (v := u0.v) hk hord tyS (by rw [Y.stackType]; exact fits_refV_array _ u0)
  have tkP := Takes.of_laid (v := sen.v) hk hord tyP (by rw [Y.suppType]; exact fits_refV_object _ sen)
  have tkM := Takes.of_laid (v := .ref (W.heap.size + 1)) hk hord tyM (by rw [Y.msgType]; rfl)
  have hskip : SkipFacts T e.platform s (fun u => u) u0 ((preparedCellV T.toThrowableT (freshCell P1.m.cls kX) (W.heap.size + 2) u0 sen).withEntry W.cur) := ⟨{ ci198 := ci198, i198 := i198, fBack := fB }, ⟨hk198, hg198, ha198, hsB⟩, hbk, fun _ _ => rfl⟩
  have h0 : At W g.method c below := by rw [hg]; exact X.here
  obtain ⟨hbeyond, hfreeW⟩ := X.vmMayThrow hsize (.throwNew cls (some text) none) (fun f hf => by cases hf) rfl hRlocals
  have hfr' : W.frames.length + Ps.length + 4 < (e.platform.stackLimits W.me).1 := by have := X.framesAbove hRframes; omega
  have hwd' : (stackUse (.java g :: W.frames.tail)).2 + 13 * Ps.length + 55 ≤ (e.platform.stackLimits W.me).2 := by have := X.stackAbove hsize (K := 13 * Ps.length + 55) (by omega); omega
  have hslots : W.slotsUsed + (stringBytes (stringToUtf16 text)).size + Zs.kS.instanceTypes.size + kX.instanceTypes.size ≤ e.platform.maxSlots := by
    have := X.slotsAbove hRslots
    rw [hn4, hn6]
    omega
  obtain ⟨vm', hW', st⟩ := Steps.vmThrowsMessageColdByV p (s₀ := s) (S := W) (g := g) h0 hexec T L Z LZ M LM X.warmed (t := W.cur) rfl Zs LZs P1 L1 Ps hL hlink1 hlink hsoe hoom hfound hk hinit hord hctor
    (Launch.admits_hotImplicitExceptions X.admits) hbeyond hfreeW htext hlimit hheap (X.cellsAbove hRcells) hslots (hfitv _) (hfitc _)
    (Nn := fun u => u) heapOnly_id (fun _ _ => rfl) (fun _ => rfl) (fun u x y => setCell_twice _ _ _ _) (fun _ => Nat.le_refl _) (cN := ((preparedCellV T.toThrowableT (freshCell P1.m.cls kX) (W.heap.size + 2) u0 sen).withEntry W.cur))
    hsel0 hcellS hknownS hvU tkS (fun _ hu => hu) (fun _ hu => hu) rfl rfl rfl (by simp [preparedCellV, Cell.setSlot, Cell.withEntry]) hskip (fun _ _ hA hW _ hroom _ hrest => L.nativeOff p htr hA hW hroom hrest) hselF hvSen tkC tkP tkM Y.objLocals rfl hfr' hwd'
  rw [plainBareV_eq T.toThrowableT (W.heap.size + 2) u0 sen (.ref (W.heap.size + 1)) W.cur rfl rfl] at st
  obtain ⟨-, -, w3, w4, -, -, -⟩ := withThrown_facts e.platform W Zs text P1.m.cls kX
  have X3 := ((X.pushed (bytesOf Zs.cB (stringToUtf16 text))).pushed (stringAt Zs.cS Zs.kS Zs.fv Zs.fc (stringToUtf16 text) W.heap.size)).pushed (freshCell P1.m.cls kX)
  rw [← withString_eq] at X3
  have X4 := X3.noted hW'
  have ha : (W.heap.size + 2) < ((withThrown W Zs text P1.m.cls kX).setVm vm').heap.size := by show _ < (withThrown W Zs text P1.m.cls kX).heap.size; rw [w3]; omega
  have hcell : ((withThrown W Zs text P1.m.cls kX).setVm vm').heap[(W.heap.size + 2)]? = some (freshCell P1.m.cls kX) := w4
  have X5 := ((((X4.stored hcell T.fCause.slot (.ref (W.heap.size + 2))).storedAgain ha T.fStack.slot u0.v).storedAgain ha T.fSupp.slot sen.v).storedAgain ha T.fStack.slot u0.v).storedAgain ha T.fMsg.slot (.ref (W.heap.size + 1))
  obtain ⟨g₁, hfrM⟩ := X5.frames_eq
  have hU : ((((withThrown W Zs text P1.m.cls kX).setVm vm').setCell (W.heap.size + 2) (plainBareV T.toThrowableT (freshCell P1.m.cls kX) (W.heap.size + 2) u0 sen (.ref (W.heap.size + 1)))).setTop g).pushFrame (.throwing (W.heap.size + 2)) = (((withThrown W Zs text P1.m.cls kX).setVm vm').setCell (W.heap.size + 2) (plainBareV T.toThrowableT (freshCell P1.m.cls kX) (W.heap.size + 2) u0 sen (.ref (W.heap.size + 1)))).setFrames (.throwing (W.heap.size + 2) :: .java g :: below) := by
    rw [State.pushFrame, State.frames_setTop _ hfrM, State.setTop_of_frames _ hfrM, State.setFrames_setFrames]
  have b1 : (bytesOf Zs.cB (stringToUtf16 text)).slots.size = (stringBytes (stringToUtf16 text)).size := by
    rw [(Cell.writeAll_facts _ _).2.2]; simp [bytes0]
  have b2 : (stringAt Zs.cS Zs.kS Zs.fv Zs.fc (stringToUtf16 text) W.heap.size).slots.size = 4 := by simp [string0, Cell.setSlot, hn4]
  have b3 : (freshCell P1.m.cls kX).slots.size = 6 := by simp [hn6]
  rw [b1, b2, b3] at X5
  have e9 : slots + (stringBytes (stringToUtf16 text)).size + 4 + 6 = slots + ((stringBytes (stringToUtf16 text)).size + 4 + 6) := by omega
  rw [e9] at X5
  simp only [List.append_assoc, List.cons_append, List.nil_append] at X5
  refine ⟨((withThrown W Zs text P1.m.cls kX).setVm vm').setCell (W.heap.size + 2) (plainBareV T.toThrowableT (freshCell P1.m.cls kX) (W.heap.size + 2) u0 sen (.ref (W.heap.size + 1))), W.heap.size + 2, _, fun target ht => st _ (by rw [X.tail, ← hU]; exact ht),
    X5.forget (fun y hy => ?_), heapAt_setCell_self _ ha, hfound, rfl⟩
  simp only [List.mem_cons, List.not_mem_nil, or_false] at hy
  have hge : s.heap.size ≤ W.heap.size := X.same.2.1
  rcases hy with rfl | rfl | rfl | rfl | rfl <;> exact Nat.le_trans hge (Nat.le_add_right _ 2)
set_option maxHeartbeats 1000000 in
/-- the machine throws NullPointerException, no traces kept: from its note over the frame g to 'throwing' over the same frame (follows the proof of Stand.vmThrowsNpe, Shelf42/KT2.lean; throwsNpeColdBareVAt, Shelf42/NT91.lean, called) -/
theorem vx_npeAt {p : Program} {l : Launch} {e : Env} {R : Room} {s : State} {m₀ : MethodId} {args : Array Value} {below : List Frame} {meth : Method} {c : Code} {W : State} {locs : List Loc} {cells slots : Nat}
    (X : Stand p l e R s m₀ args below meth c W locs cells slots) (hexec : p.tables.exec = Jvm.exec) (htr : e.platform.stackTraces = false) {n : Nat}
    (h : ∀ a ∈ Bundle.npeArmAtoms n, a.before args s = true)
    (hlocs : ∀ x ∈ locs, ∀ cell, s.heap[x.base]? = some cell → cell.vm.isStatics = false)
    {g : JFrame} (hg : g.method = m₀) (hsize : g.locals.size = c.maxLocals)
    (hRframes : 7 < R.frames) (hRlocals : 2 * g.monitorRoom + (g.stack.map fun v => v.category).sum + 10240 ≤ R.locals)
    (hRcells : cells + 1 ≤ R.cells) (hRslots : slots + n ≤ R.slots) (hlocks : meth.locks = false) :
    ∃ (S : State) (q : Addr) (ce : Cell), (∀ target, Steps p.tables e below ((S.setTop g).pushFrame (.throwing q)) target → Steps p.tables e below ((W.setTop g).pushFrame (.throwNew "java/lang/NullPointerException" none none)) target) ∧
      Stand p l e R s m₀ args below meth c S locs (cells + 1) (slots + n) ∧ S.heap[q]? = some ce ∧ s.vm.findClass "java/lang/NullPointerException" = some ce.cls ∧ ce.vm = .none := by
  have howns : e.platform.frameOwnsMonitors = true := by rw [X.admits.platform]
  have hfin : e.platform.finalization = false := by rw [X.admits.platform]
  have hpl : e.platform.magicAccessors = ({} : Platform).magicAccessors := by rw [X.admits.platform]
  have hpl2 : e.platform.arrayCloneIsPublic = true := by rw [X.admits.platform]
  have a' : ∀ x, x ∈ Bundle.npeArmAtoms n → x.holds args s none s [] = true := fun x hx => h x hx
  obtain ⟨T, Z, L, LZ, Y⟩ := ThrowableC.of_atoms (args := args) howns hfin hpl (fun x hx => h x (by simp [Bundle.npeArmAtoms, hx]))
  obtain ⟨N, LN, hcN, hnNF, hordN, hffS⟩ := NpeC.of_atoms (args := args) hpl hpl2 L Y (fun x hx => h x (by simp [Bundle.npeArmAtoms, hx]))
  obtain ⟨P1, L1, hP1m, hP1s⟩ := PassC.of_atoms (args := args) (s := s) hpl (X := Bundle.nN) (Y := Bundle.rN) (by decide) (by decide) LibCode.NullPointerException.Init0.at_0 LibCode.NullPointerException.Init0.at_1 LibCode.NullPointerException.Init0.at_4 (fun x hx => h x (by simp [Bundle.npeArmAtoms, hx]))
  obtain ⟨PR, LR, hPRm, hPRs⟩ := PassC.of_atoms (args := args) (s := s) hpl (X := Bundle.rN) (Y := Bundle.eN) (by decide) (by decide) LibCode.RuntimeException.Init0.at_0 LibCode.RuntimeException.Init0.at_1 LibCode.RuntimeException.Init0.at_4 (fun x hx => h x (by simp [Bundle.npeArmAtoms, hx]))
  obtain ⟨PE, LEx, hPEm, hPEs⟩ := PassC.of_atoms (args := args) (s := s) hpl (X := Bundle.eN) (Y := Bundle.tN) (by decide) (by decide) LibCode.Exception.Init0.at_0 LibCode.Exception.Init0.at_1 LibCode.Exception.Init0.at_4 (fun x hx => h x (by simp [Bundle.npeArmAtoms, hx]))
  have hfound : s.vm.findClass Bundle.nN = some P1.m.cls := findClass_of_methodNamed hP1m
  have ecls : N.cN = P1.m.cls := Option.some.inj (hcN.symm.trans hfound)
  have hk : s.vm.classes[P1.m.cls]? = some N.kN := by rw [← ecls]; exact LN.cls
  have hinit := Cond.initialized_spec hfound hk (a' (.initialized Bundle.nN) (by simp [Bundle.npeArmAtoms]))
  have hctor : N.kN.findMethod "<init>" "()V" = some P1.m.idx := findMethod_of_methodNamed hP1m hk
  obtain ⟨c1, k1, hc1, hk1, -, -, -, hn⟩ := Cond.instantiable_spec (a' (.instantiable Bundle.nN n) (by simp [Bundle.npeArmAtoms]))
  cases Option.some.inj (hc1.symm.trans hfound)
  cases Option.some.inj (hk1.symm.trans hk)
  have hfsz : (freshCell P1.m.cls N.kN).slots.size = n := by simp [hn]
  have hlink1 : P1.sup = PR.m := Option.some.inj (hP1s.symm.trans hPRm)
  have hlinkR : PR.sup = PE.m := Option.some.inj (hPRs.symm.trans hPEm)
  have hlinkE : PE.sup = Z.m T.toThrowableT := Option.some.inj (hPEs.symm.trans Y.init0)
  have hLs : ∀ P, P ∈ [PR, PE] → P.Links0 e.platform s := fun P hP => by
    simp only [List.mem_cons, List.not_mem_nil, or_false] at hP
    rcases hP with rfl | rfl
    · exact LR
    · exact LEx
  have hsel0 : selectMethod e.platform s.vm P1.m.cls T.fill0 = .method T.fill0 := by
    obtain ⟨c2, r2, m2, q1, q2, q3, q4, -⟩ := Cond.selects_spec (a' (.selects Bundle.nN Bundle.tFill0 Bundle.tFill0) (by simp [Bundle.npeArmAtoms]))
    cases Option.some.inj (q1.symm.trans hfound)
    cases Option.some.inj (q2.symm.trans (State.methodFound?_of_named Y.fill0 (by decide)))
    cases Option.some.inj (q3.symm.trans Y.fill0)
    rw [Launch.admits_selectMethod X.admits]; exact q4
  have hselF : selectMethod e.platform s.vm P1.m.cls T.fill = .method N.fill := by
    obtain ⟨c2, r2, m2, q1, q2, q3, q4, -⟩ := Cond.selects_spec (a' (.selects Bundle.nN Bundle.tFill Bundle.nFill) (by simp [Bundle.npeArmAtoms]))
    cases Option.some.inj (q1.symm.trans hfound)
    cases Option.some.inj (q2.symm.trans (State.methodFound?_of_named Y.fill (by decide)))
    cases Option.some.inj (q3.symm.trans hnNF)
    rw [Launch.admits_selectMethod X.admits]; exact q4
  obtain ⟨cellS0, hcS0, hiss⟩ := Y.statics
  obtain ⟨u0, hu0⟩ := Cond.staticRefV Y.unassigned L.unassignedStatic L.statics hcS0 hiss (a' (.isRef (.static Bundle.tN "UNASSIGNED_STACK" Bundle.steD)) (by simp [Bundle.npeArmAtoms]))
  obtain ⟨sen, hsen⟩ := Cond.staticRefV Y.sentinel L.sentinelStatic L.statics hcS0 hiss (a' (.isRef (.static Bundle.tN "SUPPRESSED_SENTINEL" Bundle.listD)) (by simp [Bundle.npeArmAtoms]))
  obtain ⟨ci198, i198, fB, hk198, hg198, ha198, hsB, -, hnB, htB, hffB⟩ := Cond.ownField (t := .object "java/lang/Object") Y.found L.cls (by decide +kernel) (a' (.fieldLink Bundle.tN 198 Bundle.tN "backtrace" Bundle.objD) (by simp [Bundle.npeArmAtoms])) (a' (.lays Bundle.tN Bundle.tN "backtrace" Bundle.objD) (by simp [Bundle.npeArmAtoms])) e.platform hpl
  obtain ⟨cellS, hcS', heS, -, hkeep⟩ := X.same.2.2.2.2.2 T.aS cellS0 hcS0
  have hcellS : W.heap[T.aS]? = some cellS := hcS'
  have hout' : ∀ i, (⟨T.aS, i⟩ : Loc) ∉ locs := fun i hmem => by
    have := hlocs _ hmem cellS0 hcS0
    rw [hiss] at this; cases this
  have hknownS : cellS.vm ≠ .unknown := by
    rw [heS]; intro hu
    rw [show cellS0.vm = .unknown from hu] at hiss
    cases hiss
  have hvU : cellS.slots[T.fUnassigned.slot]? = some u0.v := by rw [hkeep _ (hout' _)]; exact hu0
  have hvSen : cellS.slots[T.fSentinel.slot]? = some sen.v := by rw [hkeep _ (hout' _)]; exact hsen
  obtain ⟨tyC, dC, hdC, hdnC⟩ := Cond.laysAt hfound hk Y.cause (a' (.lays Bundle.nN Bundle.tN "cause" "Ljava/lang/Throwable;") (by simp [Bundle.npeArmAtoms]))
  obtain ⟨tyS, dS, hdS, hdnS⟩ := Cond.laysAt hfound hk Y.stack (a' (.lays Bundle.nN Bundle.tN "stackTrace" Bundle.steD) (by simp [Bundle.npeArmAtoms]))
  obtain ⟨tyP, dP, hdP, hdnP⟩ := Cond.laysAt hfound hk Y.supp (a' (.lays Bundle.nN Bundle.tN "suppressedExceptions" Bundle.listD) (by simp [Bundle.npeArmAtoms]))
  obtain ⟨tyX, dX, hdX, hdnX⟩ := Cond.laysAt hfound hk hffS (a' (.lays Bundle.nN Bundle.nN "extendedMessageState" "I") (by simp [Bundle.npeArmAtoms, Bundle.npeAtoms]))
  obtain ⟨hnX, htX⟩ := State.fieldFound?_type hffS (t := .int) (by decide +kernel)
  have xC := Cond.laysApart hdC hdX hdnC hdnX (by rw [hnX, Y.causeName]; decide)
  have xS := Cond.laysApart hdS hdX hdnS hdnX (by rw [hnX, Y.stackName]; decide)
  have xP := Cond.laysApart hdP hdX hdnP hdnX (by rw [hnX, Y.suppName]; decide)
  have hv0 : (freshCell P1.m.cls N.kN).slots[N.fState.slot]? = some (.int 0) := by
    have := fresh_default (c := P1.m.cls) tyX
    rw [htX] at this; exact this
  obtain ⟨tyB, dB, hdB, hdnB⟩ := Cond.laysAt hfound hk hffB (a' (.lays Bundle.nN Bundle.tN "backtrace" Bundle.objD) (by simp [Bundle.npeArmAtoms]))
  have bC := Cond.laysApart hdB hdC hdnB hdnC (by rw [hnB, Y.causeName]; decide)
  have bS := Cond.laysApart hdB hdS hdnB hdnS (by rw [hnB, Y.stackName]; decide)
  have bP := Cond.laysApart hdB hdP hdnB hdnP (by rw [hnB, Y.suppName]; decide)
  have bX := Cond.laysApart hdB hdX hdnB hdnX (by rw [hnB, hnX]; decide)
  have hbk : ((npeCell N.toNpeT (preparedCellV T.toThrowableT (freshCell P1.m.cls N.kN) W.heap.size u0 sen) W.cur).withEntry W.cur).slots[fB.slot]? = some .null := by
    have := fresh_default (c := P1.m.cls) tyB
    rw [htB] at this
    simpa [npeCell, preparedCellV, Cell.setSlot, Cell.withEntry, Array.getElem?_setIfInBounds, bC, bS, bP, bX, bC.symm, bS.symm, bP.symm, bX.symm, defaultValue] using this
  have tkC := Takes.of_laid (v := .ref W.heap.size) hk hordN tyC (by rw [Y.causeType]; rfl)
  have tkS := Takes.of_laid (v := u0.v) hk hordN tyS (by rw [Y.stackType]; exact fits_refV_array _ u0)
  have tkP := Takes.of_laid (v := sen.v) hk hordN tyP (by rw [Y.suppType]; exact fits_refV_object _ sen)
  have tkX := Takes.of_laid (v := .int 1) hk hordN tyX (by rw [htX]; rfl)
  have hskip : SkipFacts T e.platform s (fun u => u) u0 ((npeCell N.toNpeT (preparedCellV T.toThrowableT (freshCell P1.m.cls N.kN) W.heap.size u0 sen) W.cur).withEntry W.cur) := ⟨{ ci198 := ci198, i198 := i198, fBack := fB }, ⟨hk198, hg198, ha198, hsB⟩, hbk, fun _ _ => rfl⟩
  obtain ⟨vm', X3, st, -⟩ := X.throwsNpeColdBareVAt hexec hg hsize T L Z LZ N LN P1 L1 [PR, PE] hLs hlink1 ⟨hlinkR, hlinkE, trivial⟩ hfound hk hinit hordN hctor hsel0 hselF hcellS hknownS hvU hvSen
    hv0 xC xS xP tkC tkS tkP tkX Y.objLocals hskip (fun _ _ hA hW _ hroom _ hrest => L.nativeOff p htr hA hW hroom hrest) (by simpa using hRframes) hRlocals (by simp) hRcells (by rw [hn]; exact hRslots)
  have hlt : W.heap.size < ((W.pushCell (freshCell P1.m.cls N.kN)).setVm vm').heap.size := by
    show W.heap.size < (W.pushCell (freshCell P1.m.cls N.kN)).heap.size
    rw [State.heap_size_pushCell]; omega
  rw [hfsz] at X3
  obtain ⟨g₁, hfrM⟩ := X3.frames_eq
  have hU : ((((W.pushCell (freshCell P1.m.cls N.kN)).setVm vm').setCell W.heap.size (npeBareV T.toThrowableT N.toNpeT (freshCell P1.m.cls N.kN) W.heap.size u0 sen)).setTop g).pushFrame (.throwing W.heap.size) = (((W.pushCell (freshCell P1.m.cls N.kN)).setVm vm').setCell W.heap.size (npeBareV T.toThrowableT N.toNpeT (freshCell P1.m.cls N.kN) W.heap.size u0 sen)).setFrames (.throwing W.heap.size :: .java g :: below) := by
    rw [State.pushFrame, State.frames_setTop _ hfrM, State.setTop_of_frames _ hfrM, State.setFrames_setFrames]
  refine ⟨_, W.heap.size, _, fun target ht => st.trans (by rw [← hU]; exact ht), X3.forget (fun y hy => ?_), heapAt_setCell_self _ hlt, hfound, rfl⟩
  simp only [List.mem_cons, List.not_mem_nil, or_false] at hy
  have hge : s.heap.size ≤ W.heap.size := X.same.2.1
  rcases hy with rfl | rfl | rfl | rfl | rfl <;> exact hge
/-- the words of a machine's NullPointerException, but the four that speak of the heap -/
def vx_atN (n : Nat) : List Cond := (Bundle.npeArmAtoms n).filter vx_no
/-- the words of a machine's throw with a message, but the four that speak of the heap -/
def vx_atM (X : String) (names : List String) : List Cond := (Bundle.messageArmAtoms X names).filter vx_no
section
variable {p : Program} {l : Launch} {e : Env} {R : Room} {s : State} {m : MethodId} {args : Array Value} {below : List Frame} {meth : Method} {c : Code} {H : Heap} {locs : List Loc} {cells slots : Nat}
/-- a frame seen from a rebased start, seen from the first start again -/
theorem vx_back9 {T S : State} {R' : Room} {k n : Nat} (X : Stand p l e R s m args below meth c T locs cells slots) (Y : Stand p l e R' ((T.setVm s.vm).setFrames (.invoking m args :: below)) m args below meth c T [] 0 0) (Z : Stand p l e R' ((T.setVm s.vm).setFrames (.invoking m args :: below)) m args below meth c S [] k n) :
    Stand p l e R s m args below meth c S locs (cells + k) (slots + n) := by
  have hW0 : s.WarmedH ((T.setVm s.vm).setFrames (.invoking m args :: below)).vm := State.WarmedH.refl s
  refine { admits := X.admits, cas := X.cas, clock := X.clock, frames := X.frames, room := X.room, hears := X.hears, method := X.method, code := X.code, here := Z.here, tail := Z.tail, warmed := State.WarmedH.trans hW0 Z.warmed, limits := Z.limits.trans (Y.limits.symm.trans X.limits), bytes := Z.bytes.trans (Y.bytes.symm.trans X.bytes), same := ?_ }
  obtain ⟨e1, e2⟩ := Z.same
  rw [State.setFrames_setFrames] at e1
  have h2 : (T.setVm s.vm).sameButNew (S.setVm s.vm) [] k n := ⟨e1, e2⟩
  have h3 := X.same.trans h2
  rw [List.append_nil] at h3
  exact h3
/-- from the machine's note that E is thrown here with this text -/
def vx_Note (p : Program) (l : Launch) (e : Env) (R : Room) (s : State) (m : MethodId) (args : Array Value) (below : List Frame) (meth : Method) (c : Code) (H : Heap) (locs : List Loc) (cells slots : Nat) (Q : State → Prop) (g : JFrame) (E text : String) : Prop :=
  ∀ T : State, T.heap = H → Stand p l e R s m args below meth c T locs cells slots → ∃ t, Steps p.tables e below ((T.setTop g).pushFrame (.throwNew E (some text) none)) t ∧ Q t
theorem vx_vm {pc : Nat} {ls : Array Slot} {rest : List Value} {Q : State → Prop} (hexec : p.tables.exec = Jvm.exec) (hl : l.stackTraces = false) {cls text : String} {names : List String} {nb : Nat} {A : Nat → Prop}
    (hcls : Bundle.fit cls = true) (hnames : ∀ n ∈ names, Bundle.fit n = true) (hsoe : (cls == "java/lang/StackOverflowError") = false) (hoom : (cls == "java/lang/OutOfMemoryError") = false)
    (hat : ∀ w ∈ vx_atM cls names, w.before args s = true) (hgood : ∀ w ∈ vx_atM cls names, vx_ot w = true)
    (hU : vx_Zq Bundle.tN "UNASSIGNED_STACK" Bundle.steD A s s.heap) (hN : vx_Zq Bundle.tN "SUPPRESSED_SENTINEL" Bundle.listD A s s.heap) (hS : va_S A s.heap H locs) (hsize : ls.size = c.maxLocals)
    (htext : (text == notModelled) = false) (hnb : (stringBytes (stringToUtf16 text)).size ≤ nb) (hnb1 : nb ≤ 1000)
    (hRframes : names.length + 4 < R.frames) (hRlocals : (rest.map fun v => v.category).sum + 10240 ≤ R.locals) (hshort : 13 * names.length + 55 ≤ 10240) (hRcells : cells + 3 ≤ R.cells) (hRslots : slots + (nb + 10) ≤ R.slots) (hlocks : meth.locks = false)
    (k : ∀ (H1 : Heap) (q9 : Addr) (ce : Cell), H.size ≤ H1.size → (∀ q : Nat, q < H.size → H1[q]? = H[q]?) → va_S A s.heap H1 locs → H1[q9]? = some ce → ce.vm = .none → s.vm.findClass cls = some ce.cls → vx_W p l e R s m args below meth c H1 locs (cells + 3) (slots + (nb + 10)) Q (F0 m pc ls rest) q9) :
    vx_Note p l e R s m args below meth c H locs cells slots Q (F0 m pc ls rest) cls text := by
  intro T hT X
  have htr : e.platform.stackTraces = false := (show e.platform.stackTraces = l.stackTraces by rw [X.admits.platform]).trans hl
  have Y := vx_rebase X (R' := { frames := R.frames, locals := R.locals, cells := 3, slots := nb + 10 }) (Nat.le_refl _) (Nat.le_refl _) hRcells hRslots
  have hhp : ((T.setVm s.vm).setFrames (.invoking m args :: below)).heap = H := hT
  have hW0 : s.WarmedH ((T.setVm s.vm).setFrames (.invoking m args :: below)).vm := State.WarmedH.refl s
  have hat' : ∀ w ∈ vx_atM cls names, w.before args ((T.setVm s.vm).setFrames (.invoking m args :: below)) = true := fun w hw => vx_ot_at hW0 rfl (hgood w hw) (hat w hw)
  have hU' : vx_Zq Bundle.tN "UNASSIGNED_STACK" Bundle.steD A ((T.setVm s.vm).setFrames (.invoking m args :: below)) ((T.setVm s.vm).setFrames (.invoking m args :: below)).heap := by rw [hhp]; exact vx_Zq.moved hW0.alike (hU.kept hS.2.1)
  have hN' : vx_Zq Bundle.tN "SUPPRESSED_SENTINEL" Bundle.listD A ((T.setVm s.vm).setFrames (.invoking m args :: below)) ((T.setVm s.vm).setFrames (.invoking m args :: below)).heap := by rw [hhp]; exact vx_Zq.moved hW0.alike (hN.kept hS.2.1)
  obtain ⟨S, q, ce, st, Z, hce, hcl', hv⟩ := vx_vmAt Y hexec htr (cls := cls) (names := names) (text := text) hcls hnames hsoe hoom (vx_own hat' (vx_isRefq hU'.1) (vx_isRefq hN'.1) hU'.2.word hN'.2.word) (fun x hx => nomatch hx) htext
    (by rw [Launch.admits_arrayLengthLimit X.admits]; omega) (by rw [Launch.admits_maxHeapBytes X.admits]; simp only [componentBytes]; omega)
    (g := F0 m pc ls rest) rfl hsize hRframes (by show 2 * 0 + (rest.map fun v => v.category).sum + 10240 ≤ R.locals; omega) hshort (by show 0 + 3 ≤ 3; omega) (by show 0 + (_ + 4 + 6) ≤ nb + 10; omega) hlocks
  obtain ⟨f1, f2⟩ := vx_frame Z.same
  have f1' : H.size ≤ S.heap.size := by rw [← hT]; exact f1
  have f2' : ∀ q : Nat, q < H.size → S.heap[q]? = H[q]? := fun q hq => by
    rw [← hT]
    exact f2 q (by rw [← hT] at hq; exact hq) (fun z hz => nomatch hz)
  have X5 := vx_back9 X Y Z
  have X6 : Stand p l e R s m args below meth c S locs (cells + 3) (slots + (nb + 10)) := { X5 with same := X5.same.mono (by omega) (by omega) }
  obtain ⟨t, a1, b1⟩ := k S.heap q ce f1' f2' ⟨Nat.le_trans hS.1 f1', fun q h1 h2 => (f2' q (Nat.lt_of_lt_of_le h1 hS.1)).trans (hS.2.1 q h1 h2), hS.2.2⟩ hce hv hcl' S rfl X6
  exact ⟨t, st t a1, b1⟩
/-- from the machine's note that NullPointerException is thrown here -/
def vx_NoteN (p : Program) (l : Launch) (e : Env) (R : Room) (s : State) (m : MethodId) (args : Array Value) (below : List Frame) (meth : Method) (c : Code) (H : Heap) (locs : List Loc) (cells slots : Nat) (Q : State → Prop) (g : JFrame) : Prop :=
  ∀ T : State, T.heap = H → Stand p l e R s m args below meth c T locs cells slots → ∃ t, Steps p.tables e below ((T.setTop g).pushFrame (.throwNew "java/lang/NullPointerException" none none)) t ∧ Q t
theorem vx_npe {pc : Nat} {ls : Array Slot} {rest : List Value} {Q : State → Prop} (hexec : p.tables.exec = Jvm.exec) (hl : l.stackTraces = false) {nb : Nat} {A : Nat → Prop}
    (hat : ∀ w ∈ vx_atN nb, w.before args s = true) (hgood : ∀ w ∈ vx_atN nb, vx_ot w = true)
    (hU : vx_Zq Bundle.tN "UNASSIGNED_STACK" Bundle.steD A s s.heap) (hN : vx_Zq Bundle.tN "SUPPRESSED_SENTINEL" Bundle.listD A s s.heap) (hS : va_S A s.heap H locs) (hsize : ls.size = c.maxLocals)
    (hRframes : 7 < R.frames) (hRlocals : (rest.map fun v => v.category).sum + 10240 ≤ R.locals) (hRcells : cells + 1 ≤ R.cells) (hRslots : slots + nb ≤ R.slots) (hlocks : meth.locks = false)
    (k : ∀ (H1 : Heap) (q9 : Addr) (ce : Cell), H.size ≤ H1.size → (∀ q : Nat, q < H.size → H1[q]? = H[q]?) → va_S A s.heap H1 locs → H1[q9]? = some ce → ce.vm = .none → s.vm.findClass "java/lang/NullPointerException" = some ce.cls → vx_W p l e R s m args below meth c H1 locs (cells + 1) (slots + nb) Q (F0 m pc ls rest) q9) :
    vx_NoteN p l e R s m args below meth c H locs cells slots Q (F0 m pc ls rest) := by
  intro T hT X
  have htr : e.platform.stackTraces = false := (show e.platform.stackTraces = l.stackTraces by rw [X.admits.platform]).trans hl
  have Y := vx_rebase X (R' := { frames := R.frames, locals := R.locals, cells := 1, slots := nb }) (Nat.le_refl _) (Nat.le_refl _) hRcells hRslots
  have hhp : ((T.setVm s.vm).setFrames (.invoking m args :: below)).heap = H := hT
  have hW0 : s.WarmedH ((T.setVm s.vm).setFrames (.invoking m args :: below)).vm := State.WarmedH.refl s
  have hat' : ∀ w ∈ vx_atN nb, w.before args ((T.setVm s.vm).setFrames (.invoking m args :: below)) = true := fun w hw => vx_ot_at hW0 rfl (hgood w hw) (hat w hw)
  have hU' : vx_Zq Bundle.tN "UNASSIGNED_STACK" Bundle.steD A ((T.setVm s.vm).setFrames (.invoking m args :: below)) ((T.setVm s.vm).setFrames (.invoking m args :: below)).heap := by rw [hhp]; exact vx_Zq.moved hW0.alike (hU.kept hS.2.1)
  have hN' : vx_Zq Bundle.tN "SUPPRESSED_SENTINEL" Bundle.listD A ((T.setVm s.vm).setFrames (.invoking m args :: below)) ((T.setVm s.vm).setFrames (.invoking m args :: below)).heap := by rw [hhp]; exact vx_Zq.moved hW0.alike (hN.kept hS.2.1)
  obtain ⟨S, q, ce, st, Z, hce, hcl', hv⟩ := vx_npeAt Y hexec htr (n := nb) (vx_own hat' (vx_isRefq hU'.1) (vx_isRefq hN'.1) hU'.2.word hN'.2.word) (fun x hx => nomatch hx)
    (g := F0 m pc ls rest) rfl hsize hRframes (by show 2 * 0 + (rest.map fun v => v.category).sum + 10240 ≤ R.locals; omega) (by show 0 + 1 ≤ 1; omega) (by show 0 + nb ≤ nb; omega) hlocks
  obtain ⟨f1, f2⟩ := vx_frame Z.same
  have f1' : H.size ≤ S.heap.size := by rw [← hT]; exact f1
  have f2' : ∀ q : Nat, q < H.size → S.heap[q]? = H[q]? := fun q hq => by
    rw [← hT]
    exact f2 q (by rw [← hT] at hq; exact hq) (fun z hz => nomatch hz)
  have X5 := vx_back9 X Y Z
  have X6 : Stand p l e R s m args below meth c S locs (cells + 1) (slots + nb) := { X5 with same := X5.same.mono (by omega) (by omega) }
  obtain ⟨t, a1, b1⟩ := k S.heap q ce f1' f2' ⟨Nat.le_trans hS.1 f1', fun q h1 h2 => (f2' q (Nat.lt_of_lt_of_le h1 hS.1)).trans (hS.2.1 q h1 h2), hS.2.2⟩ hce hv hcl' S rfl X6
  exact ⟨t, st t a1, b1⟩
variable {Q : State → Prop} {cc : ByteArray} {pc : Nat} {ls : Array Slot} {rest : List Value}
theorem vx_idivZ (hexec : p.tables.exec = Jvm.exec) (hb : c.code = cc) {a b : Int32} (h0 : b = 0) (d : decode cc pc = .ok (.idiv, 1)) (k : vx_Note p l e R s m args below meth c H locs cells slots Q (F0 m pc ls rest) "java/lang/ArithmeticException" "/ by zero") :
    W p l e R s m args below meth c H locs cells slots Q (F0 m pc ls (.int b :: .int a :: rest)) := by
  intro T hT X
  obtain ⟨t, st, q⟩ := k T hT X
  exact ⟨t, X.idivZero hexec (g := F0 m pc ls (.int b :: .int a :: rest)) rfl (a := a) (rest := rest) (by rw [h0]) (by rw [hb]; exact d) t st, q⟩
theorem vx_iremZ (hexec : p.tables.exec = Jvm.exec) (hb : c.code = cc) {a b : Int32} (h0 : b = 0) (d : decode cc pc = .ok (.irem, 1)) (k : vx_Note p l e R s m args below meth c H locs cells slots Q (F0 m pc ls rest) "java/lang/ArithmeticException" "/ by zero") :
    W p l e R s m args below meth c H locs cells slots Q (F0 m pc ls (.int b :: .int a :: rest)) := by
  intro T hT X
  obtain ⟨t, st, q⟩ := k T hT X
  exact ⟨t, X.iremZero hexec (g := F0 m pc ls (.int b :: .int a :: rest)) rfl (a := a) (rest := rest) (by rw [h0]) (by rw [hb]; exact d) t st, q⟩
theorem vx_ldivZ (hexec : p.tables.exec = Jvm.exec) (hb : c.code = cc) {a b : Int64} (h0 : b = 0) (d : decode cc pc = .ok (.ldiv, 1)) (k : vx_Note p l e R s m args below meth c H locs cells slots Q (F0 m pc ls rest) "java/lang/ArithmeticException" "/ by zero") :
    W p l e R s m args below meth c H locs cells slots Q (F0 m pc ls (.long b :: .long a :: rest)) := by
  intro T hT X
  obtain ⟨t, st, q⟩ := k T hT X
  exact ⟨t, X.ldivZero hexec (g := F0 m pc ls (.long b :: .long a :: rest)) rfl (a := a) (rest := rest) (by rw [h0]) (by rw [hb]; exact d) t st, q⟩
theorem vx_lremZ (hexec : p.tables.exec = Jvm.exec) (hb : c.code = cc) {a b : Int64} (h0 : b = 0) (d : decode cc pc = .ok (.lrem, 1)) (k : vx_Note p l e R s m args below meth c H locs cells slots Q (F0 m pc ls rest) "java/lang/ArithmeticException" "/ by zero") :
    W p l e R s m args below meth c H locs cells slots Q (F0 m pc ls (.long b :: .long a :: rest)) := by
  intro T hT X
  obtain ⟨t, st, q⟩ := k T hT X
  exact ⟨t, X.lremZero hexec (g := F0 m pc ls (.long b :: .long a :: rest)) rfl (a := a) (rest := rest) (by rw [h0]) (by rw [hb]; exact d) t st, q⟩
theorem vx_ialdZ {D : va_G} {cl : List vw_C} {ws : va_W} {tys : List (ClassId × FieldType)} {a : Nat} (hexec : p.tables.exec = Jvm.exec) (hb : c.code = cc) (hK : va_K D cl tys s) (hP : va_P D cl ws H) (q0 t0 : Nat) {cA : ClassId} {n : Nat} {f : Nat → Int32} (ha : ws[q0]? = some (a, .inl (cA, n, .inl f))) (ht : tys[t0]? = some (cA, .int)) {i : Int32} (hout : ¬ vp_in i n) (hdg : decode cc pc = .ok (.iaload, 1))
    (k : ∀ tx : String, tx = (toString "Index " ++ toString i ++ toString " out of bounds for length " ++ toString n : String) → vx_Note p l e R s m args below meth c H locs cells slots Q (F0 m pc ls rest) "java/lang/ArrayIndexOutOfBoundsException" tx) : W p l e R s m args below meth c H locs cells slots Q (F0 m pc ls (.int i :: .ref a :: rest)) := by
  intro T hT X
  obtain ⟨t, st, q⟩ := k _ rfl T hT X
  refine ⟨t, ?_, q⟩
  have h1 := X.ialoadOut hexec (by rw [hT]; exact hP q0 _ ha) ((hK.2 t0 _ ht).1 n (fun j => .int (f j))) (j := i) (by show (i < 0 ∨ (arrV _ _ _).slots.size ≤ _); rw [arrV_size]; exact Classical.byContradiction hout) (g := F0 m pc ls (.int i :: .ref a :: rest)) rfl (rest := rest) rfl (by rw [hb]; exact hdg) t
  simp only [arrV_size] at h1
  exact h1 st
theorem vx_iastZ {D : va_G} {cl : List vw_C} {ws : va_W} {tys : List (ClassId × FieldType)} {a : Nat} (hexec : p.tables.exec = Jvm.exec) (hb : c.code = cc) (hK : va_K D cl tys s) (hP : va_P D cl ws H) (q0 t0 : Nat) {cA : ClassId} {n : Nat} {f : Nat → Int32} (ha : ws[q0]? = some (a, .inl (cA, n, .inl f))) (ht : tys[t0]? = some (cA, .int)) {i : Int32} {x : Int32} (hout : ¬ vp_in i n) (hdg : decode cc pc = .ok (.iastore, 1))
    (k : ∀ tx : String, tx = (toString "Index " ++ toString i ++ toString " out of bounds for length " ++ toString n : String) → vx_Note p l e R s m args below meth c H locs cells slots Q (F0 m pc ls rest) "java/lang/ArrayIndexOutOfBoundsException" tx) : W p l e R s m args below meth c H locs cells slots Q (F0 m pc ls (.int x :: .int i :: .ref a :: rest)) := by
  intro T hT X
  obtain ⟨t, st, q⟩ := k _ rfl T hT X
  refine ⟨t, ?_, q⟩
  have h1 := X.iastoreOut hexec (by rw [hT]; exact hP q0 _ ha) ((hK.2 t0 _ ht).1 n (fun j => .int (f j))) (j := i) (by show (i < 0 ∨ (arrV _ _ _).slots.size ≤ _); rw [arrV_size]; exact Classical.byContradiction hout) (g := F0 m pc ls (.int x :: .int i :: .ref a :: rest)) rfl (rest := rest) rfl (by rw [hb]; exact hdg) t
  simp only [arrV_size] at h1
  exact h1 st
theorem vx_baldZ {D : va_G} {cl : List vw_C} {ws : va_W} {tys : List (ClassId × FieldType)} {a : Nat} (hexec : p.tables.exec = Jvm.exec) (hb : c.code = cc) (hK : va_K D cl tys s) (hP : va_P D cl ws H) (q0 t0 : Nat) {cA : ClassId} {n : Nat} {f : Nat → Int32} (ha : ws[q0]? = some (a, .inl (cA, n, .inl f))) (ht : tys[t0]? = some (cA, .byte)) {i : Int32} (hout : ¬ vp_in i n) (hdg : decode cc pc = .ok (.baload, 1))
    (k : ∀ tx : String, tx = (toString "Index " ++ toString i ++ toString " out of bounds for length " ++ toString n : String) → vx_Note p l e R s m args below meth c H locs cells slots Q (F0 m pc ls rest) "java/lang/ArrayIndexOutOfBoundsException" tx) : W p l e R s m args below meth c H locs cells slots Q (F0 m pc ls (.int i :: .ref a :: rest)) := by
  intro T hT X
  obtain ⟨t, st, q⟩ := k _ rfl T hT X
  refine ⟨t, ?_, q⟩
  have h1 := X.baloadOut hexec (by rw [hT]; exact hP q0 _ ha) ((hK.2 t0 _ ht).1 n (fun j => .int (f j))) (j := i) (by show (i < 0 ∨ (arrV _ _ _).slots.size ≤ _); rw [arrV_size]; exact Classical.byContradiction hout) (g := F0 m pc ls (.int i :: .ref a :: rest)) rfl (rest := rest) rfl (by rw [hb]; exact hdg) t
  simp only [arrV_size] at h1
  exact h1 st
theorem vx_bastZ {D : va_G} {cl : List vw_C} {ws : va_W} {tys : List (ClassId × FieldType)} {a : Nat} (hexec : p.tables.exec = Jvm.exec) (hb : c.code = cc) (hK : va_K D cl tys s) (hP : va_P D cl ws H) (q0 t0 : Nat) {cA : ClassId} {n : Nat} {f : Nat → Int32} (ha : ws[q0]? = some (a, .inl (cA, n, .inl f))) (ht : tys[t0]? = some (cA, .byte)) {i : Int32} {x : Int32} (hout : ¬ vp_in i n) (hdg : decode cc pc = .ok (.bastore, 1))
    (k : ∀ tx : String, tx = (toString "Index " ++ toString i ++ toString " out of bounds for length " ++ toString n : String) → vx_Note p l e R s m args below meth c H locs cells slots Q (F0 m pc ls rest) "java/lang/ArrayIndexOutOfBoundsException" tx) : W p l e R s m args below meth c H locs cells slots Q (F0 m pc ls (.int x :: .int i :: .ref a :: rest)) := by
  intro T hT X
  obtain ⟨t, st, q⟩ := k _ rfl T hT X
  refine ⟨t, ?_, q⟩
  have h1 := X.bastoreOut hexec (by rw [hT]; exact hP q0 _ ha) ((hK.2 t0 _ ht).1 n (fun j => .int (f j))) (j := i) (by show (i < 0 ∨ (arrV _ _ _).slots.size ≤ _); rw [arrV_size]; exact Classical.byContradiction hout) (g := F0 m pc ls (.int x :: .int i :: .ref a :: rest)) rfl (rest := rest) rfl (by rw [hb]; exact hdg) t
  simp only [arrV_size] at h1
  exact h1 st
theorem vx_zaldZ {D : va_G} {cl : List vw_C} {ws : va_W} {tys : List (ClassId × FieldType)} {a : Nat} (hexec : p.tables.exec = Jvm.exec) (hb : c.code = cc) (hK : va_K D cl tys s) (hP : va_P D cl ws H) (q0 t0 : Nat) {cA : ClassId} {n : Nat} {f : Nat → Int32} (ha : ws[q0]? = some (a, .inl (cA, n, .inl f))) (ht : tys[t0]? = some (cA, .boolean)) {i : Int32} (hout : ¬ vp_in i n) (hdg : decode cc pc = .ok (.baload, 1))
    (k : ∀ tx : String, tx = (toString "Index " ++ toString i ++ toString " out of bounds for length " ++ toString n : String) → vx_Note p l e R s m args below meth c H locs cells slots Q (F0 m pc ls rest) "java/lang/ArrayIndexOutOfBoundsException" tx) : W p l e R s m args below meth c H locs cells slots Q (F0 m pc ls (.int i :: .ref a :: rest)) := by
  intro T hT X
  obtain ⟨t, st, q⟩ := k _ rfl T hT X
  refine ⟨t, ?_, q⟩
  have h1 := X.baloadOut hexec (by rw [hT]; exact hP q0 _ ha) ((hK.2 t0 _ ht).1 n (fun j => .int (f j))) (j := i) (by show (i < 0 ∨ (arrV _ _ _).slots.size ≤ _); rw [arrV_size]; exact Classical.byContradiction hout) (g := F0 m pc ls (.int i :: .ref a :: rest)) rfl (rest := rest) rfl (by rw [hb]; exact hdg) t
  simp only [arrV_size] at h1
  exact h1 st
theorem vx_zastZ {D : va_G} {cl : List vw_C} {ws : va_W} {tys : List (ClassId × FieldType)} {a : Nat} (hexec : p.tables.exec = Jvm.exec) (hb : c.code = cc) (hK : va_K D cl tys s) (hP : va_P D cl ws H) (q0 t0 : Nat) {cA : ClassId} {n : Nat} {f : Nat → Int32} (ha : ws[q0]? = some (a, .inl (cA, n, .inl f))) (ht : tys[t0]? = some (cA, .boolean)) {i : Int32} {x : Int32} (hout : ¬ vp_in i n) (hdg : decode cc pc = .ok (.bastore, 1))
    (k : ∀ tx : String, tx = (toString "Index " ++ toString i ++ toString " out of bounds for length " ++ toString n : String) → vx_Note p l e R s m args below meth c H locs cells slots Q (F0 m pc ls rest) "java/lang/ArrayIndexOutOfBoundsException" tx) : W p l e R s m args below meth c H locs cells slots Q (F0 m pc ls (.int x :: .int i :: .ref a :: rest)) := by
  intro T hT X
  obtain ⟨t, st, q⟩ := k _ rfl T hT X
  refine ⟨t, ?_, q⟩
  have h1 := X.bastoreOut hexec (by rw [hT]; exact hP q0 _ ha) ((hK.2 t0 _ ht).1 n (fun j => .int (f j))) (j := i) (by show (i < 0 ∨ (arrV _ _ _).slots.size ≤ _); rw [arrV_size]; exact Classical.byContradiction hout) (g := F0 m pc ls (.int x :: .int i :: .ref a :: rest)) rfl (rest := rest) rfl (by rw [hb]; exact hdg) t
  simp only [arrV_size] at h1
  exact h1 st
theorem vx_caldZ {D : va_G} {cl : List vw_C} {ws : va_W} {tys : List (ClassId × FieldType)} {a : Nat} (hexec : p.tables.exec = Jvm.exec) (hb : c.code = cc) (hK : va_K D cl tys s) (hP : va_P D cl ws H) (q0 t0 : Nat) {cA : ClassId} {n : Nat} {f : Nat → Int32} (ha : ws[q0]? = some (a, .inl (cA, n, .inl f))) (ht : tys[t0]? = some (cA, .char)) {i : Int32} (hout : ¬ vp_in i n) (hdg : decode cc pc = .ok (.caload, 1))
    (k : ∀ tx : String, tx = (toString "Index " ++ toString i ++ toString " out of bounds for length " ++ toString n : String) → vx_Note p l e R s m args below meth c H locs cells slots Q (F0 m pc ls rest) "java/lang/ArrayIndexOutOfBoundsException" tx) : W p l e R s m args below meth c H locs cells slots Q (F0 m pc ls (.int i :: .ref a :: rest)) := by
  intro T hT X
  obtain ⟨t, st, q⟩ := k _ rfl T hT X
  refine ⟨t, ?_, q⟩
  have h1 := X.caloadOut hexec (by rw [hT]; exact hP q0 _ ha) ((hK.2 t0 _ ht).1 n (fun j => .int (f j))) (j := i) (by show (i < 0 ∨ (arrV _ _ _).slots.size ≤ _); rw [arrV_size]; exact Classical.byContradiction hout) (g := F0 m pc ls (.int i :: .ref a :: rest)) rfl (rest := rest) rfl (by rw [hb]; exact hdg) t
  simp only [arrV_size] at h1
  exact h1 st
theorem vx_castZ {D : va_G} {cl : List vw_C} {ws : va_W} {tys : List (ClassId × FieldType)} {a : Nat} (hexec : p.tables.exec = Jvm.exec) (hb : c.code = cc) (hK : va_K D cl tys s) (hP : va_P D cl ws H) (q0 t0 : Nat) {cA : ClassId} {n : Nat} {f : Nat → Int32} (ha : ws[q0]? = some (a, .inl (cA, n, .inl f))) (ht : tys[t0]? = some (cA, .char)) {i : Int32} {x : Int32} (hout : ¬ vp_in i n) (hdg : decode cc pc = .ok (.castore, 1))
    (k : ∀ tx : String, tx = (toString "Index " ++ toString i ++ toString " out of bounds for length " ++ toString n : String) → vx_Note p l e R s m args below meth c H locs cells slots Q (F0 m pc ls rest) "java/lang/ArrayIndexOutOfBoundsException" tx) : W p l e R s m args below meth c H locs cells slots Q (F0 m pc ls (.int x :: .int i :: .ref a :: rest)) := by
  intro T hT X
  obtain ⟨t, st, q⟩ := k _ rfl T hT X
  refine ⟨t, ?_, q⟩
  have h1 := X.castoreOut hexec (by rw [hT]; exact hP q0 _ ha) ((hK.2 t0 _ ht).1 n (fun j => .int (f j))) (j := i) (by show (i < 0 ∨ (arrV _ _ _).slots.size ≤ _); rw [arrV_size]; exact Classical.byContradiction hout) (g := F0 m pc ls (.int x :: .int i :: .ref a :: rest)) rfl (rest := rest) rfl (by rw [hb]; exact hdg) t
  simp only [arrV_size] at h1
  exact h1 st
theorem vx_saldZ {D : va_G} {cl : List vw_C} {ws : va_W} {tys : List (ClassId × FieldType)} {a : Nat} (hexec : p.tables.exec = Jvm.exec) (hb : c.code = cc) (hK : va_K D cl tys s) (hP : va_P D cl ws H) (q0 t0 : Nat) {cA : ClassId} {n : Nat} {f : Nat → Int32} (ha : ws[q0]? = some (a, .inl (cA, n, .inl f))) (ht : tys[t0]? = some (cA, .short)) {i : Int32} (hout : ¬ vp_in i n) (hdg : decode cc pc = .ok (.saload, 1))
    (k : ∀ tx : String, tx = (toString "Index " ++ toString i ++ toString " out of bounds for length " ++ toString n : String) → vx_Note p l e R s m args below meth c H locs cells slots Q (F0 m pc ls rest) "java/lang/ArrayIndexOutOfBoundsException" tx) : W p l e R s m args below meth c H locs cells slots Q (F0 m pc ls (.int i :: .ref a :: rest)) := by
  intro T hT X
  obtain ⟨t, st, q⟩ := k _ rfl T hT X
  refine ⟨t, ?_, q⟩
  have h1 := X.saloadOut hexec (by rw [hT]; exact hP q0 _ ha) ((hK.2 t0 _ ht).1 n (fun j => .int (f j))) (j := i) (by show (i < 0 ∨ (arrV _ _ _).slots.size ≤ _); rw [arrV_size]; exact Classical.byContradiction hout) (g := F0 m pc ls (.int i :: .ref a :: rest)) rfl (rest := rest) rfl (by rw [hb]; exact hdg) t
  simp only [arrV_size] at h1
  exact h1 st
theorem vx_sastZ {D : va_G} {cl : List vw_C} {ws : va_W} {tys : List (ClassId × FieldType)} {a : Nat} (hexec : p.tables.exec = Jvm.exec) (hb : c.code = cc) (hK : va_K D cl tys s) (hP : va_P D cl ws H) (q0 t0 : Nat) {cA : ClassId} {n : Nat} {f : Nat → Int32} (ha : ws[q0]? = some (a, .inl (cA, n, .inl f))) (ht : tys[t0]? = some (cA, .short)) {i : Int32} {x : Int32} (hout : ¬ vp_in i n) (hdg : decode cc pc = .ok (.sastore, 1))
    (k : ∀ tx : String, tx = (toString "Index " ++ toString i ++ toString " out of bounds for length " ++ toString n : String) → vx_Note p l e R s m args below meth c H locs cells slots Q (F0 m pc ls rest) "java/lang/ArrayIndexOutOfBoundsException" tx) : W p l e R s m args below meth c H locs cells slots Q (F0 m pc ls (.int x :: .int i :: .ref a :: rest)) := by
  intro T hT X
  obtain ⟨t, st, q⟩ := k _ rfl T hT X
  refine ⟨t, ?_, q⟩
  have h1 := X.sastoreOut hexec (by rw [hT]; exact hP q0 _ ha) ((hK.2 t0 _ ht).1 n (fun j => .int (f j))) (j := i) (by show (i < 0 ∨ (arrV _ _ _).slots.size ≤ _); rw [arrV_size]; exact Classical.byContradiction hout) (g := F0 m pc ls (.int x :: .int i :: .ref a :: rest)) rfl (rest := rest) rfl (by rw [hb]; exact hdg) t
  simp only [arrV_size] at h1
  exact h1 st
theorem vx_laldZ {D : va_G} {cl : List vw_C} {ws : va_W} {tys : List (ClassId × FieldType)} {a : Nat} (hexec : p.tables.exec = Jvm.exec) (hb : c.code = cc) (hK : va_K D cl tys s) (hP : va_P D cl ws H) (q0 t0 : Nat) {cA : ClassId} {n : Nat} {f : Nat → Int64} (ha : ws[q0]? = some (a, .inl (cA, n, .inr (.inl f)))) (ht : tys[t0]? = some (cA, .long)) {i : Int32} (hout : ¬ vp_in i n) (hdg : decode cc pc = .ok (.laload, 1))
    (k : ∀ tx : String, tx = (toString "Index " ++ toString i ++ toString " out of bounds for length " ++ toString n : String) → vx_Note p l e R s m args below meth c H locs cells slots Q (F0 m pc ls rest) "java/lang/ArrayIndexOutOfBoundsException" tx) : W p l e R s m args below meth c H locs cells slots Q (F0 m pc ls (.int i :: .ref a :: rest)) := by
  intro T hT X
  obtain ⟨t, st, q⟩ := k _ rfl T hT X
  refine ⟨t, ?_, q⟩
  have h1 := X.laloadOut hexec (by rw [hT]; exact hP q0 _ ha) ((hK.2 t0 _ ht).1 n (fun j => .long (f j))) (j := i) (by show (i < 0 ∨ (arrV _ _ _).slots.size ≤ _); rw [arrV_size]; exact Classical.byContradiction hout) (g := F0 m pc ls (.int i :: .ref a :: rest)) rfl (rest := rest) rfl (by rw [hb]; exact hdg) t
  simp only [arrV_size] at h1
  exact h1 st
theorem vx_lastZ {D : va_G} {cl : List vw_C} {ws : va_W} {tys : List (ClassId × FieldType)} {a : Nat} (hexec : p.tables.exec = Jvm.exec) (hb : c.code = cc) (hK : va_K D cl tys s) (hP : va_P D cl ws H) (q0 t0 : Nat) {cA : ClassId} {n : Nat} {f : Nat → Int64} (ha : ws[q0]? = some (a, .inl (cA, n, .inr (.inl f)))) (ht : tys[t0]? = some (cA, .long)) {i : Int32} {x : Int64} (hout : ¬ vp_in i n) (hdg : decode cc pc = .ok (.lastore, 1))
    (k : ∀ tx : String, tx = (toString "Index " ++ toString i ++ toString " out of bounds for length " ++ toString n : String) → vx_Note p l e R s m args below meth c H locs cells slots Q (F0 m pc ls rest) "java/lang/ArrayIndexOutOfBoundsException" tx) : W p l e R s m args below meth c H locs cells slots Q (F0 m pc ls (.long x :: .int i :: .ref a :: rest)) := by
  intro T hT X
  obtain ⟨t, st, q⟩ := k _ rfl T hT X
  refine ⟨t, ?_, q⟩
  have h1 := X.lastoreOut hexec (by rw [hT]; exact hP q0 _ ha) ((hK.2 t0 _ ht).1 n (fun j => .long (f j))) (j := i) (by show (i < 0 ∨ (arrV _ _ _).slots.size ≤ _); rw [arrV_size]; exact Classical.byContradiction hout) (g := F0 m pc ls (.long x :: .int i :: .ref a :: rest)) rfl (rest := rest) rfl (by rw [hb]; exact hdg) t
  simp only [arrV_size] at h1
  exact h1 st
theorem vx_faldZ {D : va_G} {cl : List vw_C} {ws : va_W} {tys : List (ClassId × FieldType)} {a : Nat} (hexec : p.tables.exec = Jvm.exec) (hb : c.code = cc) (hK : va_K D cl tys s) (hP : va_P D cl ws H) (q0 t0 : Nat) {cA : ClassId} {n : Nat} {f : Nat → UInt32} (ha : ws[q0]? = some (a, .inl (cA, n, .inr (.inr (.inl f))))) (ht : tys[t0]? = some (cA, .float)) {i : Int32} (hout : ¬ vp_in i n) (hdg : decode cc pc = .ok (.faload, 1))
    (k : ∀ tx : String, tx = (toString "Index " ++ toString i ++ toString " out of bounds for length " ++ toString n : String) → vx_Note p l e R s m args below meth c H locs cells slots Q (F0 m pc ls rest) "java/lang/ArrayIndexOutOfBoundsException" tx) : W p l e R s m args below meth c H locs cells slots Q (F0 m pc ls (.int i :: .ref a :: rest)) := by
  intro T hT X
  obtain ⟨t, st, q⟩ := k _ rfl T hT X
  refine ⟨t, ?_, q⟩
  have h1 := X.faloadOut hexec (by rw [hT]; exact hP q0 _ ha) ((hK.2 t0 _ ht).1 n (fun j => .float (f j))) (j := i) (by show (i < 0 ∨ (arrV _ _ _).slots.size ≤ _); rw [arrV_size]; exact Classical.byContradiction hout) (g := F0 m pc ls (.int i :: .ref a :: rest)) rfl (rest := rest) rfl (by rw [hb]; exact hdg) t
  simp only [arrV_size] at h1
  exact h1 st
theorem vx_fastZ {D : va_G} {cl : List vw_C} {ws : va_W} {tys : List (ClassId × FieldType)} {a : Nat} (hexec : p.tables.exec = Jvm.exec) (hb : c.code = cc) (hK : va_K D cl tys s) (hP : va_P D cl ws H) (q0 t0 : Nat) {cA : ClassId} {n : Nat} {f : Nat → UInt32} (ha : ws[q0]? = some (a, .inl (cA, n, .inr (.inr (.inl f))))) (ht : tys[t0]? = some (cA, .float)) {i : Int32} {x : UInt32} (hout : ¬ vp_in i n) (hdg : decode cc pc = .ok (.fastore, 1))
    (k : ∀ tx : String, tx = (toString "Index " ++ toString i ++ toString " out of bounds for length " ++ toString n : String) → vx_Note p l e R s m args below meth c H locs cells slots Q (F0 m pc ls rest) "java/lang/ArrayIndexOutOfBoundsException" tx) : W p l e R s m args below meth c H locs cells slots Q (F0 m pc ls (.float x :: .int i :: .ref a :: rest)) := by
  intro T hT X
  obtain ⟨t, st, q⟩ := k _ rfl T hT X
  refine ⟨t, ?_, q⟩
  have h1 := X.fastoreOut hexec (by rw [hT]; exact hP q0 _ ha) ((hK.2 t0 _ ht).1 n (fun j => .float (f j))) (j := i) (by show (i < 0 ∨ (arrV _ _ _).slots.size ≤ _); rw [arrV_size]; exact Classical.byContradiction hout) (g := F0 m pc ls (.float x :: .int i :: .ref a :: rest)) rfl (rest := rest) rfl (by rw [hb]; exact hdg) t
  simp only [arrV_size] at h1
  exact h1 st
theorem vx_daldZ {D : va_G} {cl : List vw_C} {ws : va_W} {tys : List (ClassId × FieldType)} {a : Nat} (hexec : p.tables.exec = Jvm.exec) (hb : c.code = cc) (hK : va_K D cl tys s) (hP : va_P D cl ws H) (q0 t0 : Nat) {cA : ClassId} {n : Nat} {f : Nat → UInt64} (ha : ws[q0]? = some (a, .inl (cA, n, .inr (.inr (.inr (.inl f)))))) (ht : tys[t0]? = some (cA, .double)) {i : Int32} (hout : ¬ vp_in i n) (hdg : decode cc pc = .ok (.daload, 1))
    (k : ∀ tx : String, tx = (toString "Index " ++ toString i ++ toString " out of bounds for length " ++ toString n : String) → vx_Note p l e R s m args below meth c H locs cells slots Q (F0 m pc ls rest) "java/lang/ArrayIndexOutOfBoundsException" tx) : W p l e R s m args below meth c H locs cells slots Q (F0 m pc ls (.int i :: .ref a :: rest)) := by
  intro T hT X
  obtain ⟨t, st, q⟩ := k _ rfl T hT X
  refine ⟨t, ?_, q⟩
  have h1 := X.daloadOut hexec (by rw [hT]; exact hP q0 _ ha) ((hK.2 t0 _ ht).1 n (fun j => .double (f j))) (j := i) (by show (i < 0 ∨ (arrV _ _ _).slots.size ≤ _); rw [arrV_size]; exact Classical.byContradiction hout) (g := F0 m pc ls (.int i :: .ref a :: rest)) rfl (rest := rest) rfl (by rw [hb]; exact hdg) t
  simp only [arrV_size] at h1
  exact h1 st
theorem vx_dastZ {D : va_G} {cl : List vw_C} {ws : va_W} {tys : List (ClassId × FieldType)} {a : Nat} (hexec : p.tables.exec = Jvm.exec) (hb : c.code = cc) (hK : va_K D cl tys s) (hP : va_P D cl ws H) (q0 t0 : Nat) {cA : ClassId} {n : Nat} {f : Nat → UInt64} (ha : ws[q0]? = some (a, .inl (cA, n, .inr (.inr (.inr (.inl f)))))) (ht : tys[t0]? = some (cA, .double)) {i : Int32} {x : UInt64} (hout : ¬ vp_in i n) (hdg : decode cc pc = .ok (.dastore, 1))
    (k : ∀ tx : String, tx = (toString "Index " ++ toString i ++ toString " out of bounds for length " ++ toString n : String) → vx_Note p l e R s m args below meth c H locs cells slots Q (F0 m pc ls rest) "java/lang/ArrayIndexOutOfBoundsException" tx) : W p l e R s m args below meth c H locs cells slots Q (F0 m pc ls (.double x :: .int i :: .ref a :: rest)) := by
  intro T hT X
  obtain ⟨t, st, q⟩ := k _ rfl T hT X
  refine ⟨t, ?_, q⟩
  have h1 := X.dastoreOut hexec (by rw [hT]; exact hP q0 _ ha) ((hK.2 t0 _ ht).1 n (fun j => .double (f j))) (j := i) (by show (i < 0 ∨ (arrV _ _ _).slots.size ≤ _); rw [arrV_size]; exact Classical.byContradiction hout) (g := F0 m pc ls (.double x :: .int i :: .ref a :: rest)) rfl (rest := rest) rfl (by rw [hb]; exact hdg) t
  simp only [arrV_size] at h1
  exact h1 st
theorem vx_arraylengthN (hexec : p.tables.exec = Jvm.exec) (hb : c.code = cc) (hdg : decode cc pc = .ok (.arraylength, 1)) (k : vx_NoteN p l e R s m args below meth c H locs cells slots Q (F0 m pc ls rest)) : W p l e R s m args below meth c H locs cells slots Q (F0 m pc ls (.null :: rest)) := by
  intro T hT X
  obtain ⟨t, st, q⟩ := k T hT X
  exact ⟨t, X.arraylengthNull hexec (g := F0 m pc ls (.null :: rest)) rfl (rest := rest) rfl (by rw [hb]; exact hdg) t st, q⟩
theorem vx_ialoadN (hexec : p.tables.exec = Jvm.exec) (hb : c.code = cc) {i : Int32} (hdg : decode cc pc = .ok (.iaload, 1)) (k : vx_NoteN p l e R s m args below meth c H locs cells slots Q (F0 m pc ls rest)) : W p l e R s m args below meth c H locs cells slots Q (F0 m pc ls (.int i :: .null :: rest)) := by
  intro T hT X
  obtain ⟨t, st, q⟩ := k T hT X
  exact ⟨t, X.ialoadNull hexec (g := F0 m pc ls (.int i :: .null :: rest)) rfl (rest := rest) rfl (by rw [hb]; exact hdg) t st, q⟩
theorem vx_laloadN (hexec : p.tables.exec = Jvm.exec) (hb : c.code = cc) {i : Int32} (hdg : decode cc pc = .ok (.laload, 1)) (k : vx_NoteN p l e R s m args below meth c H locs cells slots Q (F0 m pc ls rest)) : W p l e R s m args below meth c H locs cells slots Q (F0 m pc ls (.int i :: .null :: rest)) := by
  intro T hT X
  obtain ⟨t, st, q⟩ := k T hT X
  exact ⟨t, X.laloadNull hexec (g := F0 m pc ls (.int i :: .null :: rest)) rfl (rest := rest) rfl (by rw [hb]; exact hdg) t st, q⟩
theorem vx_faloadN (hexec : p.tables.exec = Jvm.exec) (hb : c.code = cc) {i : Int32} (hdg : decode cc pc = .ok (.faload, 1)) (k : vx_NoteN p l e R s m args below meth c H locs cells slots Q (F0 m pc ls rest)) : W p l e R s m args below meth c H locs cells slots Q (F0 m pc ls (.int i :: .null :: rest)) := by
  intro T hT X
  obtain ⟨t, st, q⟩ := k T hT X
  exact ⟨t, X.faloadNull hexec (g := F0 m pc ls (.int i :: .null :: rest)) rfl (rest := rest) rfl (by rw [hb]; exact hdg) t st, q⟩
theorem vx_daloadN (hexec : p.tables.exec = Jvm.exec) (hb : c.code = cc) {i : Int32} (hdg : decode cc pc = .ok (.daload, 1)) (k : vx_NoteN p l e R s m args below meth c H locs cells slots Q (F0 m pc ls rest)) : W p l e R s m args below meth c H locs cells slots Q (F0 m pc ls (.int i :: .null :: rest)) := by
  intro T hT X
  obtain ⟨t, st, q⟩ := k T hT X
  exact ⟨t, X.daloadNull hexec (g := F0 m pc ls (.int i :: .null :: rest)) rfl (rest := rest) rfl (by rw [hb]; exact hdg) t st, q⟩
theorem vx_aaloadN (hexec : p.tables.exec = Jvm.exec) (hb : c.code = cc) {i : Int32} (hdg : decode cc pc = .ok (.aaload, 1)) (k : vx_NoteN p l e R s m args below meth c H locs cells slots Q (F0 m pc ls rest)) : W p l e R s m args below meth c H locs cells slots Q (F0 m pc ls (.int i :: .null :: rest)) := by
  intro T hT X
  obtain ⟨t, st, q⟩ := k T hT X
  exact ⟨t, X.aaloadNull hexec (g := F0 m pc ls (.int i :: .null :: rest)) rfl (rest := rest) rfl (by rw [hb]; exact hdg) t st, q⟩
theorem vx_baloadN (hexec : p.tables.exec = Jvm.exec) (hb : c.code = cc) {i : Int32} (hdg : decode cc pc = .ok (.baload, 1)) (k : vx_NoteN p l e R s m args below meth c H locs cells slots Q (F0 m pc ls rest)) : W p l e R s m args below meth c H locs cells slots Q (F0 m pc ls (.int i :: .null :: rest)) := by
  intro T hT X
  obtain ⟨t, st, q⟩ := k T hT X
  exact ⟨t, X.baloadNull hexec (g := F0 m pc ls (.int i :: .null :: rest)) rfl (rest := rest) rfl (by rw [hb]; exact hdg) t st, q⟩
theorem vx_caloadN (hexec : p.tables.exec = Jvm.exec) (hb : c.code = cc) {i : Int32} (hdg : decode cc pc = .ok (.caload, 1)) (k : vx_NoteN p l e R s m args below meth c H locs cells slots Q (F0 m pc ls rest)) : W p l e R s m args below meth c H locs cells slots Q (F0 m pc ls (.int i :: .null :: rest)) := by
  intro T hT X
  obtain ⟨t, st, q⟩ := k T hT X
  exact ⟨t, X.caloadNull hexec (g := F0 m pc ls (.int i :: .null :: rest)) rfl (rest := rest) rfl (by rw [hb]; exact hdg) t st, q⟩
theorem vx_saloadN (hexec : p.tables.exec = Jvm.exec) (hb : c.code = cc) {i : Int32} (hdg : decode cc pc = .ok (.saload, 1)) (k : vx_NoteN p l e R s m args below meth c H locs cells slots Q (F0 m pc ls rest)) : W p l e R s m args below meth c H locs cells slots Q (F0 m pc ls (.int i :: .null :: rest)) := by
  intro T hT X
  obtain ⟨t, st, q⟩ := k T hT X
  exact ⟨t, X.saloadNull hexec (g := F0 m pc ls (.int i :: .null :: rest)) rfl (rest := rest) rfl (by rw [hb]; exact hdg) t st, q⟩
theorem vx_iastoreN (hexec : p.tables.exec = Jvm.exec) (hb : c.code = cc) {x : Int32} {i : Int32} (hdg : decode cc pc = .ok (.iastore, 1)) (k : vx_NoteN p l e R s m args below meth c H locs cells slots Q (F0 m pc ls rest)) : W p l e R s m args below meth c H locs cells slots Q (F0 m pc ls (.int x :: .int i :: .null :: rest)) := by
  intro T hT X
  obtain ⟨t, st, q⟩ := k T hT X
  exact ⟨t, X.iastoreNull hexec (g := F0 m pc ls (.int x :: .int i :: .null :: rest)) rfl (rest := rest) rfl (by rw [hb]; exact hdg) t st, q⟩
theorem vx_lastoreN (hexec : p.tables.exec = Jvm.exec) (hb : c.code = cc) {x : Int64} {i : Int32} (hdg : decode cc pc = .ok (.lastore, 1)) (k : vx_NoteN p l e R s m args below meth c H locs cells slots Q (F0 m pc ls rest)) : W p l e R s m args below meth c H locs cells slots Q (F0 m pc ls (.long x :: .int i :: .null :: rest)) := by
  intro T hT X
  obtain ⟨t, st, q⟩ := k T hT X
  exact ⟨t, X.lastoreNull hexec (g := F0 m pc ls (.long x :: .int i :: .null :: rest)) rfl (rest := rest) rfl (by rw [hb]; exact hdg) t st, q⟩
theorem vx_fastoreN (hexec : p.tables.exec = Jvm.exec) (hb : c.code = cc) {x : UInt32} {i : Int32} (hdg : decode cc pc = .ok (.fastore, 1)) (k : vx_NoteN p l e R s m args below meth c H locs cells slots Q (F0 m pc ls rest)) : W p l e R s m args below meth c H locs cells slots Q (F0 m pc ls (.float x :: .int i :: .null :: rest)) := by
  intro T hT X
  obtain ⟨t, st, q⟩ := k T hT X
  exact ⟨t, X.fastoreNull hexec (g := F0 m pc ls (.float x :: .int i :: .null :: rest)) rfl (rest := rest) rfl (by rw [hb]; exact hdg) t st, q⟩
theorem vx_dastoreN (hexec : p.tables.exec = Jvm.exec) (hb : c.code = cc) {x : UInt64} {i : Int32} (hdg : decode cc pc = .ok (.dastore, 1)) (k : vx_NoteN p l e R s m args below meth c H locs cells slots Q (F0 m pc ls rest)) : W p l e R s m args below meth c H locs cells slots Q (F0 m pc ls (.double x :: .int i :: .null :: rest)) := by
  intro T hT X
  obtain ⟨t, st, q⟩ := k T hT X
  exact ⟨t, X.dastoreNull hexec (g := F0 m pc ls (.double x :: .int i :: .null :: rest)) rfl (rest := rest) rfl (by rw [hb]; exact hdg) t st, q⟩
theorem vx_bastoreN (hexec : p.tables.exec = Jvm.exec) (hb : c.code = cc) {x : Int32} {i : Int32} (hdg : decode cc pc = .ok (.bastore, 1)) (k : vx_NoteN p l e R s m args below meth c H locs cells slots Q (F0 m pc ls rest)) : W p l e R s m args below meth c H locs cells slots Q (F0 m pc ls (.int x :: .int i :: .null :: rest)) := by
  intro T hT X
  obtain ⟨t, st, q⟩ := k T hT X
  exact ⟨t, X.bastoreNull hexec (g := F0 m pc ls (.int x :: .int i :: .null :: rest)) rfl (rest := rest) rfl (by rw [hb]; exact hdg) t st, q⟩
theorem vx_castoreN (hexec : p.tables.exec = Jvm.exec) (hb : c.code = cc) {x : Int32} {i : Int32} (hdg : decode cc pc = .ok (.castore, 1)) (k : vx_NoteN p l e R s m args below meth c H locs cells slots Q (F0 m pc ls rest)) : W p l e R s m args below meth c H locs cells slots Q (F0 m pc ls (.int x :: .int i :: .null :: rest)) := by
  intro T hT X
  obtain ⟨t, st, q⟩ := k T hT X
  exact ⟨t, X.castoreNull hexec (g := F0 m pc ls (.int x :: .int i :: .null :: rest)) rfl (rest := rest) rfl (by rw [hb]; exact hdg) t st, q⟩
theorem vx_sastoreN (hexec : p.tables.exec = Jvm.exec) (hb : c.code = cc) {x : Int32} {i : Int32} (hdg : decode cc pc = .ok (.sastore, 1)) (k : vx_NoteN p l e R s m args below meth c H locs cells slots Q (F0 m pc ls rest)) : W p l e R s m args below meth c H locs cells slots Q (F0 m pc ls (.int x :: .int i :: .null :: rest)) := by
  intro T hT X
  obtain ⟨t, st, q⟩ := k T hT X
  exact ⟨t, X.sastoreNull hexec (g := F0 m pc ls (.int x :: .int i :: .null :: rest)) rfl (rest := rest) rfl (by rw [hb]; exact hdg) t st, q⟩
theorem vx_invokeN {own C : String} {index maxL : Nat} {y : MethodName} {bytes : ByteArray} {ret : Option FieldType} (hexec : p.tables.exec = Jvm.exec) (hb : c.code = cc) (hown : s.vm.findClass own = some m.cls) (hlink : (Cond.methodLink own index y).before args s = true) (hinst : (Cond.instanceMethod y).before args s = true) (hcode : (Cond.code y bytes maxL ret).before args s = true) (hsel : (Cond.selects C y y).before args s = true)
    (hx : y.cls ≠ "java/lang/invoke/MethodHandle" ∧ y.cls ≠ "java/lang/invoke/VarHandle") {As : List Value} (hlen : (parseMethodDescriptor y.desc).map (fun d => d.parameters.length) = some As.length) (hdg : decode cc pc = .ok (.invokevirtual index, 3))
    (k : vx_NoteN p l e R s m args below meth c H locs cells slots Q (F0 m pc ls rest)) {st0 : List Value} (hst : st0 = As.reverse ++ .null :: rest) : W p l e R s m args below meth c H locs cells slots Q (F0 m pc ls st0) := by
  intro T hT X
  obtain ⟨r0, r, hn, hrm, hstR, hsigR⟩ := va_Decl.of hinst hcode
  obtain ⟨c2, r2, m2, q1, q2, q3, q4, kP, hkP, hkPi⟩ := Cond.selects_spec hsel
  cases hn.symm.trans q3
  have hl9 : As.length = r.sig.parameters.length := by
    rw [hsigR] at hlen
    exact (Option.some.inj hlen).symm
  obtain ⟨vm', X1, st1⟩ := X.invokevirtualNull hexec hown hlink hn hrm hstR hkP hkPi hx (g := F0 m pc ls st0) rfl (argsL := As) (rest := rest) hl9 hst (by rw [hb]; exact hdg)
  obtain ⟨t, st, q⟩ := k (T.setVm vm') hT X1
  exact ⟨t, st1 t st, q⟩
theorem vx_newarrayZ {atype : ArrayType} (hexec : p.tables.exec = Jvm.exec) (hb : c.code = cc) {n : Int32} (h0 : n < 0) (hdg : decode cc pc = .ok (.newarray atype, 2)) (k : ∀ tx : String, tx = toString n → vx_Note p l e R s m args below meth c H locs cells slots Q (F0 m pc ls rest) "java/lang/NegativeArraySizeException" tx) : W p l e R s m args below meth c H locs cells slots Q (F0 m pc ls (.int n :: rest)) := by
  intro T hT X
  obtain ⟨t, st, q⟩ := k _ rfl T hT X
  exact ⟨t, X.newarrayNegative hexec (g := F0 m pc ls (.int n :: rest)) rfl h0 (rest := rest) rfl (by rw [hb]; exact hdg) t st, q⟩
end
end VXM
/-! ===== END ===== -/
end
section
/-! ===== BEGIN printed: names, fields, word lists, decode rows ===== -/
def RX0 : String := "ColdStore$Contract"
def TX0 : u_T := fun k => match k with
  | 0 => ("ColdStore$Contract", "normalPrice", "I", false)
  | 1 => ("ColdStore$Contract", "peakPrice", "I", false)
  | 2 => ("ColdStore$Contract", "firstPeak", "I", false)
  | 3 => ("ColdStore$Contract", "lastPeak", "I", false)
  | 4 => ("ColdStore$Contract", "charge", "I", false)
  | _ => ("ColdStore$Contract", "limit", "I", false)
def tyX0 : Nat → FieldType := fun k => match k with
  | 0 => .int
  | 1 => .int
  | 2 => .int
  | 3 => .int
  | 4 => .int
  | _ => .int
abbrev wsX00 : List Cond := u_ws RX0 TX0 6
theorem nmX0 : ∀ a, a < 6 → ∀ b, b < 6 → a ≠ b → (TX0 a).2.1 ≠ (TX0 b).2.1 := by decide +kernel
theorem tyX0_ok : ∀ k, k < 6 → parseFieldDescriptor (TX0 k).2.2.1 = some (tyX0 k) := by decide +kernel
abbrev cX0_init : ByteArray := prog_2_method_1_code
def yX0_init : MethodName := ⟨RX0, "<init>", "()V"⟩
abbrev cX0_isPeak : ByteArray := prog_2_method_2_code
def yX0_isPeak : MethodName := ⟨RX0, "isPeak", "(I)Z"⟩
abbrev cX0_isAheadOfPeak : ByteArray := prog_2_method_3_code
def yX0_isAheadOfPeak : MethodName := ⟨RX0, "isAheadOfPeak", "(II)Z"⟩
abbrev cX0_priceIn : ByteArray := prog_2_method_4_code
def yX0_priceIn : MethodName := ⟨RX0, "priceIn", "(I)I"⟩
def RX1 : String := "ColdStore$Kind"
def TX1 : u_T := fun k => match k with
  | 0 => ("ColdStore$Kind", "fullLife", "I", true)
  | 1 => ("ColdStore$Kind", "best", "I", true)
  | _ => ("ColdStore$Kind", "lowest", "I", true)
def tyX1 : Nat → FieldType := fun k => match k with
  | 0 => .int
  | 1 => .int
  | _ => .int
abbrev wsX10 : List Cond := u_ws RX1 TX1 3
theorem nmX1 : ∀ a, a < 3 → ∀ b, b < 3 → a ≠ b → (TX1 a).2.1 ≠ (TX1 b).2.1 := by decide +kernel
theorem tyX1_ok : ∀ k, k < 3 → parseFieldDescriptor (TX1 k).2.2.1 = some (tyX1 k) := by decide +kernel
abbrev cX1_init : ByteArray := prog_3_method_1_code
def yX1_init : MethodName := ⟨RX1, "<init>", "(III)V"⟩
abbrev cX1_lossAt : ByteArray := prog_3_method_2_code
def yX1_lossAt : MethodName := ⟨RX1, "lossAt", "(I)I"⟩
def RX2 : String := "ColdStore$Meter"
def TX2 : u_T := fun k => match k with
  | 0 => ("ColdStore$Meter", "powers", "[I", true)
  | 1 => ("ColdStore$Meter", "prices", "[I", true)
  | 2 => ("ColdStore$Meter", "latest", "I", false)
  | 3 => ("ColdStore$Meter", "greatest", "I", false)
  | _ => ("ColdStore$Meter", "costs", "J", false)
def tyX2 : Nat → FieldType := fun k => match k with
  | 0 => .array .int
  | 1 => .array .int
  | 2 => .int
  | 3 => .int
  | _ => .long
abbrev wsX20 : List Cond := u_ws RX2 TX2 5
theorem nmX2 : ∀ a, a < 5 → ∀ b, b < 5 → a ≠ b → (TX2 a).2.1 ≠ (TX2 b).2.1 := by decide +kernel
theorem tyX2_ok : ∀ k, k < 5 → parseFieldDescriptor (TX2 k).2.2.1 = some (tyX2 k) := by decide +kernel
abbrev cX2_init : ByteArray := prog_4_method_1_code
def yX2_init : MethodName := ⟨RX2, "<init>", "()V"⟩
abbrev cX2_record : ByteArray := prog_4_method_2_code
def yX2_record : MethodName := ⟨RX2, "record", "(III)V"⟩
abbrev cX2_recordedCosts : ByteArray := prog_4_method_3_code
def yX2_recordedCosts : MethodName := ⟨RX2, "recordedCosts", "(I)J"⟩
abbrev cX2_recordedGreatest : ByteArray := prog_4_method_4_code
def yX2_recordedGreatest : MethodName := ⟨RX2, "recordedGreatest", "(I)I"⟩
def RX3 : String := "ColdStore$Order"
def TX3 : u_T := fun k => match k with
  | 0 => ("ColdStore$Order", "kind", "LColdStore$Kind;", true)
  | 1 => ("ColdStore$Order", "count", "I", true)
  | 2 => ("ColdStore$Order", "promise", "I", true)
  | 3 => ("ColdStore$Order", "due", "I", true)
  | 4 => ("ColdStore$Order", "status", "C", false)
  | _ => ("ColdStore$Order", "leastLife", "I", false)
def tyX3 : Nat → FieldType := fun k => match k with
  | 0 => .object "ColdStore$Kind"
  | 1 => .int
  | 2 => .int
  | 3 => .int
  | 4 => .char
  | _ => .int
abbrev wsX30 : List Cond := u_ws RX3 TX3 6
theorem nmX3 : ∀ a, a < 6 → ∀ b, b < 6 → a ≠ b → (TX3 a).2.1 ≠ (TX3 b).2.1 := by decide +kernel
theorem tyX3_ok : ∀ k, k < 6 → parseFieldDescriptor (TX3 k).2.2.1 = some (tyX3 k) := by decide +kernel
abbrev cX3_init : ByteArray := prog_5_method_1_code
def yX3_init : MethodName := ⟨RX3, "<init>", "(LColdStore$Kind;III)V"⟩
abbrev cX3_accepts : ByteArray := prog_5_method_2_code
def yX3_accepts : MethodName := ⟨RX3, "accepts", "(LColdStore$Pallet;)Z"⟩
def RX4 : String := "ColdStore$Pallet"
def TX4 : u_T := fun k => match k with
  | 0 => ("ColdStore$Pallet", "number", "I", true)
  | 1 => ("ColdStore$Pallet", "kind", "LColdStore$Kind;", true)
  | 2 => ("ColdStore$Pallet", "stay", "LColdStore$Stay;", false)
  | 3 => ("ColdStore$Pallet", "status", "C", false)
  | 4 => ("ColdStore$Pallet", "leftAt", "I", false)
  | _ => ("ColdStore$Pallet", "lifeLeft", "I", false)
def tyX4 : Nat → FieldType := fun k => match k with
  | 0 => .int
  | 1 => .object "ColdStore$Kind"
  | 2 => .object "ColdStore$Stay"
  | 3 => .char
  | 4 => .int
  | _ => .int
abbrev wsX40 : List Cond := u_ws RX4 TX4 6
theorem nmX4 : ∀ a, a < 6 → ∀ b, b < 6 → a ≠ b → (TX4 a).2.1 ≠ (TX4 b).2.1 := by decide +kernel
theorem tyX4_ok : ∀ k, k < 6 → parseFieldDescriptor (TX4 k).2.2.1 = some (tyX4 k) := by decide +kernel
abbrev cX4_init : ByteArray := prog_6_method_1_code
def yX4_init : MethodName := ⟨RX4, "<init>", "(ILColdStore$Kind;LColdStore$Room;I)V"⟩
abbrev cX4_isInRoom : ByteArray := prog_6_method_2_code
def yX4_isInRoom : MethodName := ⟨RX4, "isInRoom", "()Z"⟩
abbrev cX4_isAheadOf : ByteArray := prog_6_method_3_code
def yX4_isAheadOf : MethodName := ⟨RX4, "isAheadOf", "(LColdStore$Pallet;)Z"⟩
abbrev cX4_enter : ByteArray := prog_6_method_4_code
def yX4_enter : MethodName := ⟨RX4, "enter", "(LColdStore$Room;I)V"⟩
abbrev cX4_leave : ByteArray := prog_6_method_5_code
def yX4_leave : MethodName := ⟨RX4, "leave", "(CI)V"⟩
abbrev cX4_loseLife : ByteArray := prog_6_method_6_code
def yX4_loseLife : MethodName := ⟨RX4, "loseLife", "()V"⟩
abbrev cX4_recordedLife : ByteArray := prog_6_method_7_code
def yX4_recordedLife : MethodName := ⟨RX4, "recordedLife", "(I)I"⟩
def RX5 : String := "ColdStore$Room"
def TX5 : u_T := fun k => match k with
  | 0 => ("ColdStore$Room", "number", "I", true)
  | 1 => ("ColdStore$Room", "leak", "I", true)
  | 2 => ("ColdStore$Room", "strength", "I", true)
  | 3 => ("ColdStore$Room", "kilowatts", "I", true)
  | 4 => ("ColdStore$Room", "records", "[I", true)
  | 5 => ("ColdStore$Room", "lower", "I", false)
  | 6 => ("ColdStore$Room", "upper", "I", false)
  | 7 => ("ColdStore$Room", "mode", "C", false)
  | 8 => ("ColdStore$Room", "leadTicks", "I", false)
  | 9 => ("ColdStore$Room", "leadDepth", "I", false)
  | 10 => ("ColdStore$Room", "degrees", "I", false)
  | 11 => ("ColdStore$Room", "wanting", "Z", false)
  | 12 => ("ColdStore$Room", "waiting", "Z", false)
  | 13 => ("ColdStore$Room", "cooled", "Z", false)
  | 14 => ("ColdStore$Room", "ticks", "I", false)
  | 15 => ("ColdStore$Room", "sum", "I", false)
  | _ => ("ColdStore$Room", "greatest", "I", false)
def tyX5 : Nat → FieldType := fun k => match k with
  | 0 => .int
  | 1 => .int
  | 2 => .int
  | 3 => .int
  | 4 => .array .int
  | 5 => .int
  | 6 => .int
  | 7 => .char
  | 8 => .int
  | 9 => .int
  | 10 => .int
  | 11 => .boolean
  | 12 => .boolean
  | 13 => .boolean
  | 14 => .int
  | 15 => .int
  | _ => .int
abbrev wsX50 : List Cond := u_ws RX5 TX5 17
theorem nmX5 : ∀ a, a < 17 → ∀ b, b < 17 → a ≠ b → (TX5 a).2.1 ≠ (TX5 b).2.1 := by decide +kernel
theorem tyX5_ok : ∀ k, k < 17 → parseFieldDescriptor (TX5 k).2.2.1 = some (tyX5 k) := by decide +kernel
abbrev cX5_init : ByteArray := prog_7_method_1_code
def yX5_init : MethodName := ⟨RX5, "<init>", "(IIIII)V"⟩
abbrev cX5_decide : ByteArray := prog_7_method_2_code
def yX5_decide : MethodName := ⟨RX5, "decide", "(LColdStore$Contract;I)V"⟩
abbrev cX5_shiftIn : ByteArray := prog_7_method_3_code
def yX5_shiftIn : MethodName := ⟨RX5, "shiftIn", "(LColdStore$Contract;I)I"⟩
abbrev cX5_excess : ByteArray := prog_7_method_4_code
def yX5_excess : MethodName := ⟨RX5, "excess", "()I"⟩
abbrev cX5_changeTemperature : ByteArray := prog_7_method_5_code
def yX5_changeTemperature : MethodName := ⟨RX5, "changeTemperature", "(II)V"⟩
abbrev cX5_recordedAt : ByteArray := prog_7_method_6_code
def yX5_recordedAt : MethodName := ⟨RX5, "recordedAt", "(I)I"⟩
def RX6 : String := "ColdStore$Stay"
def TX6 : u_T := fun k => match k with
  | 0 => ("ColdStore$Stay", "room", "LColdStore$Room;", true)
  | 1 => ("ColdStore$Stay", "since", "I", true)
  | _ => ("ColdStore$Stay", "earlier", "LColdStore$Stay;", true)
def tyX6 : Nat → FieldType := fun k => match k with
  | 0 => .object "ColdStore$Room"
  | 1 => .int
  | _ => .object "ColdStore$Stay"
abbrev wsX60 : List Cond := u_ws RX6 TX6 3
theorem nmX6 : ∀ a, a < 3 → ∀ b, b < 3 → a ≠ b → (TX6 a).2.1 ≠ (TX6 b).2.1 := by decide +kernel
theorem tyX6_ok : ∀ k, k < 3 → parseFieldDescriptor (TX6 k).2.2.1 = some (tyX6 k) := by decide +kernel
abbrev cX6_init : ByteArray := prog_8_method_1_code
def yX6_init : MethodName := ⟨RX6, "<init>", "(LColdStore$Room;ILColdStore$Stay;)V"⟩
def RX7 : String := "ColdStore"
def TX7 : u_T := fun k => match k with
  | 0 => ("ColdStore", "rooms", "Ljava/util/ArrayList;", true)
  | 1 => ("ColdStore", "kinds", "Ljava/util/ArrayList;", true)
  | 2 => ("ColdStore", "pallets", "Ljava/util/ArrayList;", true)
  | 3 => ("ColdStore", "orders", "Ljava/util/ArrayList;", true)
  | 4 => ("ColdStore", "contract", "LColdStore$Contract;", true)
  | 5 => ("ColdStore", "meter", "LColdStore$Meter;", true)
  | 6 => ("ColdStore", "time", "I", false)
  | _ => ("ColdStore", "outside", "I", false)
def tyX7 : Nat → FieldType := fun k => match k with
  | 0 => .object "java/util/ArrayList"
  | 1 => .object "java/util/ArrayList"
  | 2 => .object "java/util/ArrayList"
  | 3 => .object "java/util/ArrayList"
  | 4 => .object "ColdStore$Contract"
  | 5 => .object "ColdStore$Meter"
  | 6 => .int
  | _ => .int
abbrev wsX70 : List Cond := u_ws RX7 TX7 8
theorem nmX7 : ∀ a, a < 8 → ∀ b, b < 8 → a ≠ b → (TX7 a).2.1 ≠ (TX7 b).2.1 := by decide +kernel
theorem tyX7_ok : ∀ k, k < 8 → parseFieldDescriptor (TX7 k).2.2.1 = some (tyX7 k) := by decide +kernel
abbrev cX7_init : ByteArray := prog_1_method_1_code
def yX7_init : MethodName := ⟨RX7, "<init>", "()V"⟩
abbrev cX7_now : ByteArray := prog_1_method_2_code
def yX7_now : MethodName := ⟨RX7, "now", "()I"⟩
abbrev cX7_pass : ByteArray := prog_1_method_3_code
def yX7_pass : MethodName := ⟨RX7, "pass", "(I)I"⟩
abbrev cX7_setOutside : ByteArray := prog_1_method_4_code
def yX7_setOutside : MethodName := ⟨RX7, "setOutside", "(I)I"⟩
abbrev cX7_addRoom : ByteArray := prog_1_method_5_code
def yX7_addRoom : MethodName := ⟨RX7, "addRoom", "(III)I"⟩
abbrev cX7_setLimits : ByteArray := prog_1_method_6_code
def yX7_setLimits : MethodName := ⟨RX7, "setLimits", "(III)I"⟩
abbrev cX7_setMode : ByteArray := prog_1_method_7_code
def yX7_setMode : MethodName := ⟨RX7, "setMode", "(IC)C"⟩
abbrev cX7_setLead : ByteArray := prog_1_method_8_code
def yX7_setLead : MethodName := ⟨RX7, "setLead", "(III)I"⟩
abbrev cX7_temperature : ByteArray := prog_1_method_9_code
def yX7_temperature : MethodName := ⟨RX7, "temperature", "(I)I"⟩
abbrev cX7_isCooled : ByteArray := prog_1_method_10_code
def yX7_isCooled : MethodName := ⟨RX7, "isCooled", "(I)Z"⟩
abbrev cX7_warmest : ByteArray := prog_1_method_11_code
def yX7_warmest : MethodName := ⟨RX7, "warmest", "(I)I"⟩
abbrev cX7_meanTemperature : ByteArray := prog_1_method_12_code
def yX7_meanTemperature : MethodName := ⟨RX7, "meanTemperature", "(I)D"⟩
abbrev cX7_freeSpace : ByteArray := prog_1_method_13_code
def yX7_freeSpace : MethodName := ⟨RX7, "freeSpace", "(I)I"⟩
abbrev cX7_setPrices : ByteArray := prog_1_method_14_code
def yX7_setPrices : MethodName := ⟨RX7, "setPrices", "(IIII)I"⟩
abbrev cX7_setCharge : ByteArray := prog_1_method_15_code
def yX7_setCharge : MethodName := ⟨RX7, "setCharge", "(I)I"⟩
abbrev cX7_setPowerLimit : ByteArray := prog_1_method_16_code
def yX7_setPowerLimit : MethodName := ⟨RX7, "setPowerLimit", "(I)I"⟩
abbrev cX7_power : ByteArray := prog_1_method_17_code
def yX7_power : MethodName := ⟨RX7, "power", "()I"⟩
abbrev cX7_greatestPower : ByteArray := prog_1_method_18_code
def yX7_greatestPower : MethodName := ⟨RX7, "greatestPower", "()I"⟩
abbrev cX7_bill : ByteArray := prog_1_method_19_code
def yX7_bill : MethodName := ⟨RX7, "bill", "()J"⟩
abbrev cX7_billByRecords : ByteArray := prog_1_method_20_code
def yX7_billByRecords : MethodName := ⟨RX7, "billByRecords", "()J"⟩
abbrev cX7_addKind : ByteArray := prog_1_method_21_code
def yX7_addKind : MethodName := ⟨RX7, "addKind", "(III)I"⟩
abbrev cX7_addPallet : ByteArray := prog_1_method_22_code
def yX7_addPallet : MethodName := ⟨RX7, "addPallet", "(II)I"⟩
abbrev cX7_movePallet : ByteArray := prog_1_method_23_code
def yX7_movePallet : MethodName := ⟨RX7, "movePallet", "(II)I"⟩
abbrev cX7_scrap : ByteArray := prog_1_method_24_code
def yX7_scrap : MethodName := ⟨RX7, "scrap", "(I)I"⟩
abbrev cX7_pallets : ByteArray := prog_1_method_25_code
def yX7_pallets : MethodName := ⟨RX7, "pallets", "()I"⟩
abbrev cX7_state : ByteArray := prog_1_method_26_code
def yX7_state : MethodName := ⟨RX7, "state", "(I)C"⟩
abbrev cX7_roomOf : ByteArray := prog_1_method_27_code
def yX7_roomOf : MethodName := ⟨RX7, "roomOf", "(I)I"⟩
abbrev cX7_life : ByteArray := prog_1_method_28_code
def yX7_life : MethodName := ⟨RX7, "life", "(I)I"⟩
abbrev cX7_lifeByRecords : ByteArray := prog_1_method_29_code
def yX7_lifeByRecords : MethodName := ⟨RX7, "lifeByRecords", "(I)I"⟩
abbrev cX7_forecast : ByteArray := prog_1_method_30_code
def yX7_forecast : MethodName := ⟨RX7, "forecast", "(II)I"⟩
abbrev cX7_soonest : ByteArray := prog_1_method_31_code
def yX7_soonest : MethodName := ⟨RX7, "soonest", "()I"⟩
abbrev cX7_lostShare : ByteArray := prog_1_method_32_code
def yX7_lostShare : MethodName := ⟨RX7, "lostShare", "()F"⟩
abbrev cX7_order : ByteArray := prog_1_method_33_code
def yX7_order : MethodName := ⟨RX7, "order", "(IIII)I"⟩
abbrev cX7_cancel : ByteArray := prog_1_method_34_code
def yX7_cancel : MethodName := ⟨RX7, "cancel", "(I)I"⟩
abbrev cX7_candidates : ByteArray := prog_1_method_35_code
def yX7_candidates : MethodName := ⟨RX7, "candidates", "(I)I"⟩
abbrev cX7_candidateAt : ByteArray := prog_1_method_36_code
def yX7_candidateAt : MethodName := ⟨RX7, "candidateAt", "(II)I"⟩
abbrev cX7_ship : ByteArray := prog_1_method_37_code
def yX7_ship : MethodName := ⟨RX7, "ship", "(I)I"⟩
abbrev cX7_orderState : ByteArray := prog_1_method_38_code
def yX7_orderState : MethodName := ⟨RX7, "orderState", "(I)C"⟩
abbrev cX7_leastShipped : ByteArray := prog_1_method_39_code
def yX7_leastShipped : MethodName := ⟨RX7, "leastShipped", "(I)I"⟩
abbrev cX7_isConsistent : ByteArray := prog_1_method_40_code
def yX7_isConsistent : MethodName := ⟨RX7, "isConsistent", "()Z"⟩
abbrev cX7_requireRange : ByteArray := prog_1_method_41_code
def yX7_requireRange : MethodName := ⟨RX7, "requireRange", "(III)V"⟩
abbrev cX7_findRoom : ByteArray := prog_1_method_42_code
def yX7_findRoom : MethodName := ⟨RX7, "findRoom", "(I)LColdStore$Room;"⟩
abbrev cX7_findKind : ByteArray := prog_1_method_43_code
def yX7_findKind : MethodName := ⟨RX7, "findKind", "(I)LColdStore$Kind;"⟩
abbrev cX7_findPallet : ByteArray := prog_1_method_44_code
def yX7_findPallet : MethodName := ⟨RX7, "findPallet", "(I)LColdStore$Pallet;"⟩
abbrev cX7_findOrder : ByteArray := prog_1_method_45_code
def yX7_findOrder : MethodName := ⟨RX7, "findOrder", "(I)LColdStore$Order;"⟩
abbrev cX7_requireSpace : ByteArray := prog_1_method_46_code
def yX7_requireSpace : MethodName := ⟨RX7, "requireSpace", "(LColdStore$Room;)V"⟩
abbrev cX7_requireInRoom : ByteArray := prog_1_method_47_code
def yX7_requireInRoom : MethodName := ⟨RX7, "requireInRoom", "(LColdStore$Pallet;)V"⟩
abbrev cX7_requireOpen : ByteArray := prog_1_method_48_code
def yX7_requireOpen : MethodName := ⟨RX7, "requireOpen", "(LColdStore$Order;)V"⟩
abbrev cX7_passOneTick : ByteArray := prog_1_method_49_code
def yX7_passOneTick : MethodName := ⟨RX7, "passOneTick", "()I"⟩
abbrev cX7_givePower : ByteArray := prog_1_method_50_code
def yX7_givePower : MethodName := ⟨RX7, "givePower", "()I"⟩
abbrev cX7_nextWaitingRoom : ByteArray := prog_1_method_51_code
def yX7_nextWaitingRoom : MethodName := ⟨RX7, "nextWaitingRoom", "()LColdStore$Room;"⟩
abbrev cX7_settleDueOrders : ByteArray := prog_1_method_52_code
def yX7_settleDueOrders : MethodName := ⟨RX7, "settleDueOrders", "()I"⟩
abbrev cX7_spaceIn : ByteArray := prog_1_method_53_code
def yX7_spaceIn : MethodName := ⟨RX7, "spaceIn", "(LColdStore$Room;)I"⟩
abbrev cX7_countOpenOrders : ByteArray := prog_1_method_54_code
def yX7_countOpenOrders : MethodName := ⟨RX7, "countOpenOrders", "()I"⟩
abbrev cX7_countCandidates : ByteArray := prog_1_method_55_code
def yX7_countCandidates : MethodName := ⟨RX7, "countCandidates", "(LColdStore$Order;)I"⟩
abbrev cX7_canBeShipped : ByteArray := prog_1_method_56_code
def yX7_canBeShipped : MethodName := ⟨RX7, "canBeShipped", "(LColdStore$Order;)Z"⟩
abbrev cX7_findCandidate : ByteArray := prog_1_method_57_code
def yX7_findCandidate : MethodName := ⟨RX7, "findCandidate", "(LColdStore$Order;I)LColdStore$Pallet;"⟩
abbrev cX7_nextCandidate : ByteArray := prog_1_method_58_code
def yX7_nextCandidate : MethodName := ⟨RX7, "nextCandidate", "(LColdStore$Order;LColdStore$Pallet;)LColdStore$Pallet;"⟩
abbrev cX7_shipCandidates : ByteArray := prog_1_method_59_code
def yX7_shipCandidates : MethodName := ⟨RX7, "shipCandidates", "(LColdStore$Order;)I"⟩
abbrev cX7_isMeterConsistent : ByteArray := prog_1_method_60_code
def yX7_isMeterConsistent : MethodName := ⟨RX7, "isMeterConsistent", "()Z"⟩
abbrev cX7_areRoomsConsistent : ByteArray := prog_1_method_61_code
def yX7_areRoomsConsistent : MethodName := ⟨RX7, "areRoomsConsistent", "()Z"⟩
abbrev cX7_arePalletsConsistent : ByteArray := prog_1_method_62_code
def yX7_arePalletsConsistent : MethodName := ⟨RX7, "arePalletsConsistent", "()Z"⟩
abbrev cX7_areOrdersConsistent : ByteArray := prog_1_method_63_code
def yX7_areOrdersConsistent : MethodName := ⟨RX7, "areOrdersConsistent", "()Z"⟩
def RX8 : String := "ColdStoreModel"
def TX8 : u_T := fun k => match k with
  | 0 => ("ColdStoreModel", "time", "I", false)
  | 1 => ("ColdStoreModel", "outside", "I", false)
  | 2 => ("ColdStoreModel", "leaks", "[I", true)
  | 3 => ("ColdStoreModel", "strengths", "[I", true)
  | 4 => ("ColdStoreModel", "powers", "[I", true)
  | 5 => ("ColdStoreModel", "lowers", "[I", true)
  | 6 => ("ColdStoreModel", "uppers", "[I", true)
  | 7 => ("ColdStoreModel", "leads", "[I", true)
  | 8 => ("ColdStoreModel", "depths", "[I", true)
  | 9 => ("ColdStoreModel", "modes", "[C", true)
  | 10 => ("ColdStoreModel", "temps", "[I", true)
  | 11 => ("ColdStoreModel", "wants", "[Z", true)
  | 12 => ("ColdStoreModel", "cooled", "[Z", true)
  | 13 => ("ColdStoreModel", "isGiven", "[Z", true)
  | 14 => ("ColdStoreModel", "warmests", "[I", true)
  | 15 => ("ColdStoreModel", "tempSums", "[J", true)
  | 16 => ("ColdStoreModel", "ticks", "[I", true)
  | 17 => ("ColdStoreModel", "rooms", "I", false)
  | 18 => ("ColdStoreModel", "normal", "I", false)
  | 19 => ("ColdStoreModel", "peak", "I", false)
  | 20 => ("ColdStoreModel", "first", "I", false)
  | 21 => ("ColdStoreModel", "last", "I", false)
  | 22 => ("ColdStoreModel", "charge", "I", false)
  | 23 => ("ColdStoreModel", "limit", "I", false)
  | 24 => ("ColdStoreModel", "powerNow", "I", false)
  | 25 => ("ColdStoreModel", "powerMost", "I", false)
  | 26 => ("ColdStoreModel", "costs", "J", false)
  | 27 => ("ColdStoreModel", "lives", "[I", true)
  | 28 => ("ColdStoreModel", "bests", "[I", true)
  | 29 => ("ColdStoreModel", "lowests", "[I", true)
  | 30 => ("ColdStoreModel", "kinds", "I", false)
  | 31 => ("ColdStoreModel", "kindOf", "[I", true)
  | 32 => ("ColdStoreModel", "roomOf", "[I", true)
  | 33 => ("ColdStoreModel", "lifeOf", "[I", true)
  | 34 => ("ColdStoreModel", "states", "[C", true)
  | 35 => ("ColdStoreModel", "pallets", "I", false)
  | 36 => ("ColdStoreModel", "orderKinds", "[I", true)
  | 37 => ("ColdStoreModel", "counts", "[I", true)
  | 38 => ("ColdStoreModel", "promises", "[I", true)
  | 39 => ("ColdStoreModel", "dues", "[I", true)
  | 40 => ("ColdStoreModel", "orderStates", "[C", true)
  | 41 => ("ColdStoreModel", "leasts", "[I", true)
  | 42 => ("ColdStoreModel", "orders", "I", false)
  | _ => ("ColdStoreModel", "thrown", "I", false)
def tyX8 : Nat → FieldType := fun k => match k with
  | 0 => .int
  | 1 => .int
  | 2 => .array .int
  | 3 => .array .int
  | 4 => .array .int
  | 5 => .array .int
  | 6 => .array .int
  | 7 => .array .int
  | 8 => .array .int
  | 9 => .array .char
  | 10 => .array .int
  | 11 => .array .boolean
  | 12 => .array .boolean
  | 13 => .array .boolean
  | 14 => .array .int
  | 15 => .array .long
  | 16 => .array .int
  | 17 => .int
  | 18 => .int
  | 19 => .int
  | 20 => .int
  | 21 => .int
  | 22 => .int
  | 23 => .int
  | 24 => .int
  | 25 => .int
  | 26 => .long
  | 27 => .array .int
  | 28 => .array .int
  | 29 => .array .int
  | 30 => .int
  | 31 => .array .int
  | 32 => .array .int
  | 33 => .array .int
  | 34 => .array .char
  | 35 => .int
  | 36 => .array .int
  | 37 => .array .int
  | 38 => .array .int
  | 39 => .array .int
  | 40 => .array .char
  | 41 => .array .int
  | 42 => .int
  | _ => .int
abbrev wsX80 : List Cond := u_ws RX8 TX8 44
theorem nmX8 : ∀ a, a < 44 → ∀ b, b < 44 → a ≠ b → (TX8 a).2.1 ≠ (TX8 b).2.1 := by decide +kernel
theorem tyX8_ok : ∀ k, k < 44 → parseFieldDescriptor (TX8 k).2.2.1 = some (tyX8 k) := by decide +kernel
abbrev cX8_init : ByteArray := prog_10_method_1_code
def yX8_init : MethodName := ⟨RX8, "<init>", "()V"⟩
abbrev cX8_thrown : ByteArray := prog_10_method_2_code
def yX8_thrown : MethodName := ⟨RX8, "thrown", "()I"⟩
abbrev cX8_raises : ByteArray := prog_10_method_3_code
def yX8_raises : MethodName := ⟨RX8, "raises", "(I)I"⟩
abbrev cX8_in : ByteArray := prog_10_method_4_code
def yX8_in : MethodName := ⟨RX8, "in", "(III)Z"⟩
abbrev cX8_isRoom : ByteArray := prog_10_method_5_code
def yX8_isRoom : MethodName := ⟨RX8, "isRoom", "(I)Z"⟩
abbrev cX8_isPallet : ByteArray := prog_10_method_6_code
def yX8_isPallet : MethodName := ⟨RX8, "isPallet", "(I)Z"⟩
abbrev cX8_isOrder : ByteArray := prog_10_method_7_code
def yX8_isOrder : MethodName := ⟨RX8, "isOrder", "(I)Z"⟩
abbrev cX8_now : ByteArray := prog_10_method_8_code
def yX8_now : MethodName := ⟨RX8, "now", "()I"⟩
abbrev cX8_isPeak : ByteArray := prog_10_method_9_code
def yX8_isPeak : MethodName := ⟨RX8, "isPeak", "()Z"⟩
abbrev cX8_wishes : ByteArray := prog_10_method_10_code
def yX8_wishes : MethodName := ⟨RX8, "wishes", "(I)V"⟩
abbrev cX8_next : ByteArray := prog_10_method_11_code
def yX8_next : MethodName := ⟨RX8, "next", "()I"⟩
abbrev cX8_powers : ByteArray := prog_10_method_12_code
def yX8_powers : MethodName := ⟨RX8, "powers", "()V"⟩
abbrev cX8_warms : ByteArray := prog_10_method_13_code
def yX8_warms : MethodName := ⟨RX8, "warms", "()V"⟩
abbrev cX8_loss : ByteArray := prog_10_method_14_code
def yX8_loss : MethodName := ⟨RX8, "loss", "(II)I"⟩
abbrev cX8_tick : ByteArray := prog_10_method_15_code
def yX8_tick : MethodName := ⟨RX8, "tick", "()I"⟩
abbrev cX8_pass : ByteArray := prog_10_method_16_code
def yX8_pass : MethodName := ⟨RX8, "pass", "(I)I"⟩
abbrev cX8_setOutside : ByteArray := prog_10_method_17_code
def yX8_setOutside : MethodName := ⟨RX8, "setOutside", "(I)I"⟩
abbrev cX8_addRoom : ByteArray := prog_10_method_18_code
def yX8_addRoom : MethodName := ⟨RX8, "addRoom", "(III)I"⟩
abbrev cX8_setLimits : ByteArray := prog_10_method_19_code
def yX8_setLimits : MethodName := ⟨RX8, "setLimits", "(III)I"⟩
abbrev cX8_setMode : ByteArray := prog_10_method_20_code
def yX8_setMode : MethodName := ⟨RX8, "setMode", "(IC)C"⟩
abbrev cX8_setLead : ByteArray := prog_10_method_21_code
def yX8_setLead : MethodName := ⟨RX8, "setLead", "(III)I"⟩
abbrev cX8_temperature : ByteArray := prog_10_method_22_code
def yX8_temperature : MethodName := ⟨RX8, "temperature", "(I)I"⟩
abbrev cX8_isCooled : ByteArray := prog_10_method_23_code
def yX8_isCooled : MethodName := ⟨RX8, "isCooled", "(I)Z"⟩
abbrev cX8_warmest : ByteArray := prog_10_method_24_code
def yX8_warmest : MethodName := ⟨RX8, "warmest", "(I)I"⟩
abbrev cX8_meanTemperature : ByteArray := prog_10_method_25_code
def yX8_meanTemperature : MethodName := ⟨RX8, "meanTemperature", "(I)D"⟩
abbrev cX8_filled : ByteArray := prog_10_method_26_code
def yX8_filled : MethodName := ⟨RX8, "filled", "(I)I"⟩
abbrev cX8_freeSpace : ByteArray := prog_10_method_27_code
def yX8_freeSpace : MethodName := ⟨RX8, "freeSpace", "(I)I"⟩
abbrev cX8_setPrices : ByteArray := prog_10_method_28_code
def yX8_setPrices : MethodName := ⟨RX8, "setPrices", "(IIII)I"⟩
abbrev cX8_setCharge : ByteArray := prog_10_method_29_code
def yX8_setCharge : MethodName := ⟨RX8, "setCharge", "(I)I"⟩
abbrev cX8_setPowerLimit : ByteArray := prog_10_method_30_code
def yX8_setPowerLimit : MethodName := ⟨RX8, "setPowerLimit", "(I)I"⟩
abbrev cX8_power : ByteArray := prog_10_method_31_code
def yX8_power : MethodName := ⟨RX8, "power", "()I"⟩
abbrev cX8_greatestPower : ByteArray := prog_10_method_32_code
def yX8_greatestPower : MethodName := ⟨RX8, "greatestPower", "()I"⟩
abbrev cX8_bill : ByteArray := prog_10_method_33_code
def yX8_bill : MethodName := ⟨RX8, "bill", "()J"⟩
abbrev cX8_billByRecords : ByteArray := prog_10_method_34_code
def yX8_billByRecords : MethodName := ⟨RX8, "billByRecords", "()J"⟩
abbrev cX8_addKind : ByteArray := prog_10_method_35_code
def yX8_addKind : MethodName := ⟨RX8, "addKind", "(III)I"⟩
abbrev cX8_addPallet : ByteArray := prog_10_method_36_code
def yX8_addPallet : MethodName := ⟨RX8, "addPallet", "(II)I"⟩
abbrev cX8_movePallet : ByteArray := prog_10_method_37_code
def yX8_movePallet : MethodName := ⟨RX8, "movePallet", "(II)I"⟩
abbrev cX8_scrap : ByteArray := prog_10_method_38_code
def yX8_scrap : MethodName := ⟨RX8, "scrap", "(I)I"⟩
abbrev cX8_pallets : ByteArray := prog_10_method_39_code
def yX8_pallets : MethodName := ⟨RX8, "pallets", "()I"⟩
abbrev cX8_state : ByteArray := prog_10_method_40_code
def yX8_state : MethodName := ⟨RX8, "state", "(I)C"⟩
abbrev cX8_roomOf : ByteArray := prog_10_method_41_code
def yX8_roomOf : MethodName := ⟨RX8, "roomOf", "(I)I"⟩
abbrev cX8_life : ByteArray := prog_10_method_42_code
def yX8_life : MethodName := ⟨RX8, "life", "(I)I"⟩
abbrev cX8_lifeByRecords : ByteArray := prog_10_method_43_code
def yX8_lifeByRecords : MethodName := ⟨RX8, "lifeByRecords", "(I)I"⟩
abbrev cX8_forecast : ByteArray := prog_10_method_44_code
def yX8_forecast : MethodName := ⟨RX8, "forecast", "(II)I"⟩
abbrev cX8_soonest : ByteArray := prog_10_method_45_code
def yX8_soonest : MethodName := ⟨RX8, "soonest", "()I"⟩
abbrev cX8_lostShare : ByteArray := prog_10_method_46_code
def yX8_lostShare : MethodName := ⟨RX8, "lostShare", "()F"⟩
abbrev cX8_order : ByteArray := prog_10_method_47_code
def yX8_order : MethodName := ⟨RX8, "order", "(IIII)I"⟩
abbrev cX8_cancel : ByteArray := prog_10_method_48_code
def yX8_cancel : MethodName := ⟨RX8, "cancel", "(I)I"⟩
abbrev cX8_isCandidate : ByteArray := prog_10_method_49_code
def yX8_isCandidate : MethodName := ⟨RX8, "isCandidate", "(II)Z"⟩
abbrev cX8_candidatesOf : ByteArray := prog_10_method_50_code
def yX8_candidatesOf : MethodName := ⟨RX8, "candidatesOf", "(I)I"⟩
abbrev cX8_candidate : ByteArray := prog_10_method_51_code
def yX8_candidate : MethodName := ⟨RX8, "candidate", "(II)I"⟩
abbrev cX8_ships : ByteArray := prog_10_method_52_code
def yX8_ships : MethodName := ⟨RX8, "ships", "(I)I"⟩
abbrev cX8_candidates : ByteArray := prog_10_method_53_code
def yX8_candidates : MethodName := ⟨RX8, "candidates", "(I)I"⟩
abbrev cX8_candidateAt : ByteArray := prog_10_method_54_code
def yX8_candidateAt : MethodName := ⟨RX8, "candidateAt", "(II)I"⟩
abbrev cX8_ship : ByteArray := prog_10_method_55_code
def yX8_ship : MethodName := ⟨RX8, "ship", "(I)I"⟩
abbrev cX8_orderState : ByteArray := prog_10_method_56_code
def yX8_orderState : MethodName := ⟨RX8, "orderState", "(I)C"⟩
abbrev cX8_leastShipped : ByteArray := prog_10_method_57_code
def yX8_leastShipped : MethodName := ⟨RX8, "leastShipped", "(I)I"⟩
abbrev cX8_isConsistent : ByteArray := prog_10_method_58_code
def yX8_isConsistent : MethodName := ⟨RX8, "isConsistent", "()Z"⟩
def RJx145de : String := "java/io/Serializable"
def TJx145de : u_T := fun k => match k with
  | _ => ("", "", "", false)
def tyJx145de : Nat → FieldType := fun k => match k with
  | _ => .int
abbrev wsJx145de0 : List Cond := u_ws RJx145de TJx145de 0
theorem nmJx145de : ∀ a, a < 0 → ∀ b, b < 0 → a ≠ b → (TJx145de a).2.1 ≠ (TJx145de b).2.1 := by decide +kernel
theorem tyJx145de_ok : ∀ k, k < 0 → parseFieldDescriptor (TJx145de k).2.2.1 = some (tyJx145de k) := by decide +kernel
def RJx00060 : String := "java/lang/ArrayIndexOutOfBoundsException"
def TJx00060 : u_T := fun k => match k with
  | 0 => ("java/lang/Throwable", "backtrace", "Ljava/lang/Object;", false)
  | 1 => ("java/lang/Throwable", "detailMessage", "Ljava/lang/String;", false)
  | 2 => ("java/lang/Throwable", "cause", "Ljava/lang/Throwable;", false)
  | 3 => ("java/lang/Throwable", "stackTrace", "[Ljava/lang/StackTraceElement;", false)
  | 4 => ("java/lang/Throwable", "depth", "I", false)
  | _ => ("java/lang/Throwable", "suppressedExceptions", "Ljava/util/List;", false)
def tyJx00060 : Nat → FieldType := fun k => match k with
  | 0 => .object "java/lang/Object"
  | 1 => .object "java/lang/String"
  | 2 => .object "java/lang/Throwable"
  | 3 => .array (.object "java/lang/StackTraceElement")
  | 4 => .int
  | _ => .object "java/util/List"
abbrev wsJx000600 : List Cond := u_ws RJx00060 TJx00060 6
theorem nmJx00060 : ∀ a, a < 6 → ∀ b, b < 6 → a ≠ b → (TJx00060 a).2.1 ≠ (TJx00060 b).2.1 := by decide +kernel
theorem tyJx00060_ok : ∀ k, k < 6 → parseFieldDescriptor (TJx00060 k).2.2.1 = some (tyJx00060 k) := by decide +kernel
abbrev cJx00060_init_a7421 : ByteArray := prog_13_method_2_code
def yJx00060_init_a7421 : MethodName := ⟨RJx00060, "<init>", "(Ljava/lang/String;)V"⟩
def RJx8e188 : String := "java/lang/Cloneable"
def TJx8e188 : u_T := fun k => match k with
  | _ => ("", "", "", false)
def tyJx8e188 : Nat → FieldType := fun k => match k with
  | _ => .int
abbrev wsJx8e1880 : List Cond := u_ws RJx8e188 TJx8e188 0
theorem nmJx8e188 : ∀ a, a < 0 → ∀ b, b < 0 → a ≠ b → (TJx8e188 a).2.1 ≠ (TJx8e188 b).2.1 := by decide +kernel
theorem tyJx8e188_ok : ∀ k, k < 0 → parseFieldDescriptor (TJx8e188 k).2.2.1 = some (tyJx8e188 k) := by decide +kernel
def RJxab1ab : String := "java/lang/Iterable"
def TJxab1ab : u_T := fun k => match k with
  | _ => ("", "", "", false)
def tyJxab1ab : Nat → FieldType := fun k => match k with
  | _ => .int
abbrev wsJxab1ab0 : List Cond := u_ws RJxab1ab TJxab1ab 0
theorem nmJxab1ab : ∀ a, a < 0 → ∀ b, b < 0 → a ≠ b → (TJxab1ab a).2.1 ≠ (TJxab1ab b).2.1 := by decide +kernel
theorem tyJxab1ab_ok : ∀ k, k < 0 → parseFieldDescriptor (TJxab1ab k).2.2.1 = some (tyJxab1ab k) := by decide +kernel
def RJ9 : String := "java/lang/Math"
def TJ9 : u_T := fun k => match k with
  | _ => ("", "", "", false)
def tyJ9 : Nat → FieldType := fun k => match k with
  | _ => .int
abbrev wsJ90 : List Cond := u_ws RJ9 TJ9 0
theorem nmJ9 : ∀ a, a < 0 → ∀ b, b < 0 → a ≠ b → (TJ9 a).2.1 ≠ (TJ9 b).2.1 := by decide +kernel
theorem tyJ9_ok : ∀ k, k < 0 → parseFieldDescriptor (TJ9 k).2.2.1 = some (tyJ9 k) := by decide +kernel
abbrev cJ9_max_7cf53 : ByteArray := prog_20_method_65_code
def yJ9_max_7cf53 : MethodName := ⟨RJ9, "max", "(II)I"⟩
abbrev cJ9_min_7cf53 : ByteArray := prog_20_method_69_code
def yJ9_min_7cf53 : MethodName := ⟨RJ9, "min", "(II)I"⟩
def RJ0 : String := "java/lang/String"
def TJ0 : u_T := fun k => match k with
  | 0 => ("java/lang/String", "value", "[B", true)
  | _ => ("java/lang/String", "coder", "B", true)
def tyJ0 : Nat → FieldType := fun k => match k with
  | 0 => .array .byte
  | _ => .byte
abbrev wsJ00 : List Cond := u_ws RJ0 TJ0 2
theorem nmJ0 : ∀ a, a < 2 → ∀ b, b < 2 → a ≠ b → (TJ0 a).2.1 ≠ (TJ0 b).2.1 := by decide +kernel
theorem tyJ0_ok : ∀ k, k < 2 → parseFieldDescriptor (TJ0 k).2.2.1 = some (tyJ0 k) := by decide +kernel
def RJ10 : String := "java/lang/System"
def TJ10 : u_T := fun k => match k with
  | _ => ("", "", "", false)
def tyJ10 : Nat → FieldType := fun k => match k with
  | _ => .int
abbrev wsJ100 : List Cond := u_ws RJ10 TJ10 0
theorem nmJ10 : ∀ a, a < 0 → ∀ b, b < 0 → a ≠ b → (TJ10 a).2.1 ≠ (TJ10 b).2.1 := by decide +kernel
theorem tyJ10_ok : ∀ k, k < 0 → parseFieldDescriptor (TJ10 k).2.2.1 = some (tyJ10 k) := by decide +kernel
def RJxa1e45 : String := "java/util/AbstractCollection"
def TJxa1e45 : u_T := fun k => match k with
  | _ => ("", "", "", false)
def tyJxa1e45 : Nat → FieldType := fun k => match k with
  | _ => .int
abbrev wsJxa1e450 : List Cond := u_ws RJxa1e45 TJxa1e45 0
theorem nmJxa1e45 : ∀ a, a < 0 → ∀ b, b < 0 → a ≠ b → (TJxa1e45 a).2.1 ≠ (TJxa1e45 b).2.1 := by decide +kernel
theorem tyJxa1e45_ok : ∀ k, k < 0 → parseFieldDescriptor (TJxa1e45 k).2.2.1 = some (tyJxa1e45 k) := by decide +kernel
abbrev cJxa1e45_init_da8c8 : ByteArray := prog_26_method_1_code
def yJxa1e45_init_da8c8 : MethodName := ⟨RJxa1e45, "<init>", "()V"⟩
def RJxc12de : String := "java/util/AbstractList"
def TJxc12de : u_T := fun k => match k with
  | _ => ("", "", "", false)
def tyJxc12de : Nat → FieldType := fun k => match k with
  | _ => .int
abbrev wsJxc12de0 : List Cond := u_ws RJxc12de TJxc12de 0
theorem nmJxc12de : ∀ a, a < 0 → ∀ b, b < 0 → a ≠ b → (TJxc12de a).2.1 ≠ (TJxc12de b).2.1 := by decide +kernel
theorem tyJxc12de_ok : ∀ k, k < 0 → parseFieldDescriptor (TJxc12de k).2.2.1 = some (tyJxc12de k) := by decide +kernel
abbrev cJxc12de_init_da8c8 : ByteArray := prog_27_method_1_code
def yJxc12de_init_da8c8 : MethodName := ⟨RJxc12de, "<init>", "()V"⟩
def RJx4a65c : String := "java/util/ArrayList"
def TJx4a65c : u_T := fun k => match k with
  | 0 => ("java/util/AbstractList", "modCount", "I", false)
  | 1 => ("java/util/ArrayList", "elementData", "[Ljava/lang/Object;", false)
  | _ => ("java/util/ArrayList", "size", "I", false)
def tyJx4a65c : Nat → FieldType := fun k => match k with
  | 0 => .int
  | 1 => .array (.object "java/lang/Object")
  | _ => .int
abbrev wsJx4a65c0 : List Cond := u_ws RJx4a65c TJx4a65c 3
theorem nmJx4a65c : ∀ a, a < 3 → ∀ b, b < 3 → a ≠ b → (TJx4a65c a).2.1 ≠ (TJx4a65c b).2.1 := by decide +kernel
theorem tyJx4a65c_ok : ∀ k, k < 3 → parseFieldDescriptor (TJx4a65c k).2.2.1 = some (tyJx4a65c k) := by decide +kernel
abbrev cJx4a65c_init_da8c8 : ByteArray := prog_28_method_2_code
def yJx4a65c_init_da8c8 : MethodName := ⟨RJx4a65c, "<init>", "()V"⟩
abbrev cJx4a65c_grow_92f84 : ByteArray := prog_28_method_6_code
def yJx4a65c_grow_92f84 : MethodName := ⟨RJx4a65c, "grow", "(I)[Ljava/lang/Object;"⟩
abbrev cJx4a65c_grow_d5877 : ByteArray := prog_28_method_7_code
def yJx4a65c_grow_d5877 : MethodName := ⟨RJx4a65c, "grow", "()[Ljava/lang/Object;"⟩
abbrev cJx4a65c_size_8abf5 : ByteArray := prog_28_method_8_code
def yJx4a65c_size_8abf5 : MethodName := ⟨RJx4a65c, "size", "()I"⟩
abbrev cJx4a65c_isEmpty_aae02 : ByteArray := prog_28_method_9_code
def yJx4a65c_isEmpty_aae02 : MethodName := ⟨RJx4a65c, "isEmpty", "()Z"⟩
abbrev cJx4a65c_elementData_915e3 : ByteArray := prog_28_method_18_code
def yJx4a65c_elementData_915e3 : MethodName := ⟨RJx4a65c, "elementData", "(I)Ljava/lang/Object;"⟩
abbrev cJx4a65c_get_915e3 : ByteArray := prog_28_method_20_code
def yJx4a65c_get_915e3 : MethodName := ⟨RJx4a65c, "get", "(I)Ljava/lang/Object;"⟩
abbrev cJx4a65c_add_72be8 : ByteArray := prog_28_method_24_code
def yJx4a65c_add_72be8 : MethodName := ⟨RJx4a65c, "add", "(Ljava/lang/Object;[Ljava/lang/Object;I)V"⟩
abbrev cJx4a65c_add_9ea2d : ByteArray := prog_28_method_25_code
def yJx4a65c_add_9ea2d : MethodName := ⟨RJx4a65c, "add", "(Ljava/lang/Object;)Z"⟩
def RJ7 : String := "java/util/Arrays"
def TJ7 : u_T := fun k => match k with
  | _ => ("", "", "", false)
def tyJ7 : Nat → FieldType := fun k => match k with
  | _ => .int
abbrev wsJ70 : List Cond := u_ws RJ7 TJ7 0
theorem nmJ7 : ∀ a, a < 0 → ∀ b, b < 0 → a ≠ b → (TJ7 a).2.1 ≠ (TJ7 b).2.1 := by decide +kernel
theorem tyJ7_ok : ∀ k, k < 0 → parseFieldDescriptor (TJ7 k).2.2.1 = some (tyJ7 k) := by decide +kernel
abbrev cJ7_copyOf_1904c : ByteArray := prog_29_method_119_code
def yJ7_copyOf_1904c : MethodName := ⟨RJ7, "copyOf", "([Ljava/lang/Object;I)[Ljava/lang/Object;"⟩
abbrev cJ7_copyOf_6403c : ByteArray := prog_29_method_120_code
def yJ7_copyOf_6403c : MethodName := ⟨RJ7, "copyOf", "([Ljava/lang/Object;ILjava/lang/Class;)[Ljava/lang/Object;"⟩
def RJx5ef63 : String := "java/util/Collection"
def TJx5ef63 : u_T := fun k => match k with
  | _ => ("", "", "", false)
def tyJx5ef63 : Nat → FieldType := fun k => match k with
  | _ => .int
abbrev wsJx5ef630 : List Cond := u_ws RJx5ef63 TJx5ef63 0
theorem nmJx5ef63 : ∀ a, a < 0 → ∀ b, b < 0 → a ≠ b → (TJx5ef63 a).2.1 ≠ (TJx5ef63 b).2.1 := by decide +kernel
theorem tyJx5ef63_ok : ∀ k, k < 0 → parseFieldDescriptor (TJx5ef63 k).2.2.1 = some (tyJx5ef63 k) := by decide +kernel
def RJxbd725 : String := "java/util/List"
def TJxbd725 : u_T := fun k => match k with
  | _ => ("", "", "", false)
def tyJxbd725 : Nat → FieldType := fun k => match k with
  | _ => .int
abbrev wsJxbd7250 : List Cond := u_ws RJxbd725 TJxbd725 0
theorem nmJxbd725 : ∀ a, a < 0 → ∀ b, b < 0 → a ≠ b → (TJxbd725 a).2.1 ≠ (TJxbd725 b).2.1 := by decide +kernel
theorem tyJxbd725_ok : ∀ k, k < 0 → parseFieldDescriptor (TJxbd725 k).2.2.1 = some (tyJxbd725 k) := by decide +kernel
def RJ15 : String := "java/util/Objects"
def TJ15 : u_T := fun k => match k with
  | _ => ("", "", "", false)
def tyJ15 : Nat → FieldType := fun k => match k with
  | _ => .int
abbrev wsJ150 : List Cond := u_ws RJ15 TJ15 0
theorem nmJ15 : ∀ a, a < 0 → ∀ b, b < 0 → a ≠ b → (TJ15 a).2.1 ≠ (TJ15 b).2.1 := by decide +kernel
theorem tyJ15_ok : ∀ k, k < 0 → parseFieldDescriptor (TJ15 k).2.2.1 = some (tyJ15 k) := by decide +kernel
abbrev cJ15_checkIndex_7cf53 : ByteArray := prog_33_method_17_code
def yJ15_checkIndex_7cf53 : MethodName := ⟨RJ15, "checkIndex", "(II)I"⟩
def RJxf0a74 : String := "java/util/RandomAccess"
def TJxf0a74 : u_T := fun k => match k with
  | _ => ("", "", "", false)
def tyJxf0a74 : Nat → FieldType := fun k => match k with
  | _ => .int
abbrev wsJxf0a740 : List Cond := u_ws RJxf0a74 TJxf0a74 0
theorem nmJxf0a74 : ∀ a, a < 0 → ∀ b, b < 0 → a ≠ b → (TJxf0a74 a).2.1 ≠ (TJxf0a74 b).2.1 := by decide +kernel
theorem tyJxf0a74_ok : ∀ k, k < 0 → parseFieldDescriptor (TJxf0a74 k).2.2.1 = some (tyJxf0a74 k) := by decide +kernel
def RJxa66e6 : String := "java/util/SequencedCollection"
def TJxa66e6 : u_T := fun k => match k with
  | _ => ("", "", "", false)
def tyJxa66e6 : Nat → FieldType := fun k => match k with
  | _ => .int
abbrev wsJxa66e60 : List Cond := u_ws RJxa66e6 TJxa66e6 0
theorem nmJxa66e6 : ∀ a, a < 0 → ∀ b, b < 0 → a ≠ b → (TJxa66e6 a).2.1 ≠ (TJxa66e6 b).2.1 := by decide +kernel
theorem tyJxa66e6_ok : ∀ k, k < 0 → parseFieldDescriptor (TJxa66e6 k).2.2.1 = some (tyJxa66e6 k) := by decide +kernel
def RJ8 : String := "jdk/internal/util/ArraysSupport"
def TJ8 : u_T := fun k => match k with
  | _ => ("", "", "", false)
def tyJ8 : Nat → FieldType := fun k => match k with
  | _ => .int
abbrev wsJ80 : List Cond := u_ws RJ8 TJ8 0
theorem nmJ8 : ∀ a, a < 0 → ∀ b, b < 0 → a ≠ b → (TJ8 a).2.1 ≠ (TJ8 b).2.1 := by decide +kernel
theorem tyJ8_ok : ∀ k, k < 0 → parseFieldDescriptor (TJ8 k).2.2.1 = some (tyJ8 k) := by decide +kernel
abbrev cJ8_newLength_cabcc : ByteArray := prog_36_method_27_code
def yJ8_newLength_cabcc : MethodName := ⟨RJ8, "newLength", "(III)I"⟩
abbrev cJ8_hugeLength_7cf53 : ByteArray := prog_36_method_28_code
def yJ8_hugeLength_7cf53 : MethodName := ⟨RJ8, "hugeLength", "(II)I"⟩
def RJ3 : String := "jdk/internal/util/Preconditions"
def TJ3 : u_T := fun k => match k with
  | _ => ("", "", "", false)
def tyJ3 : Nat → FieldType := fun k => match k with
  | _ => .int
abbrev wsJ30 : List Cond := u_ws RJ3 TJ3 0
theorem nmJ3 : ∀ a, a < 0 → ∀ b, b < 0 → a ≠ b → (TJ3 a).2.1 ≠ (TJ3 b).2.1 := by decide +kernel
theorem tyJ3_ok : ∀ k, k < 0 → parseFieldDescriptor (TJ3 k).2.2.1 = some (tyJ3 k) := by decide +kernel
abbrev cJ3_checkIndex_8e157 : ByteArray := prog_37_method_11_code
def yJ3_checkIndex_8e157 : MethodName := ⟨RJ3, "checkIndex", "(IILjava/util/function/BiFunction;)I"⟩
def RL : String := "ColdStoreLaw"
abbrev cL_pass : ByteArray := method_3_code
def yL_pass : MethodName := ⟨RL, "pass", "(LColdStore;I[J)I"⟩
abbrev cL_setOutside : ByteArray := method_4_code
def yL_setOutside : MethodName := ⟨RL, "setOutside", "(LColdStore;I[J)I"⟩
abbrev cL_addRoom : ByteArray := method_5_code
def yL_addRoom : MethodName := ⟨RL, "addRoom", "(LColdStore;III[J)I"⟩
abbrev cL_setLimits : ByteArray := method_6_code
def yL_setLimits : MethodName := ⟨RL, "setLimits", "(LColdStore;III[J)I"⟩
abbrev cL_setMode : ByteArray := method_7_code
def yL_setMode : MethodName := ⟨RL, "setMode", "(LColdStore;IC[J)I"⟩
abbrev cL_setLead : ByteArray := method_8_code
def yL_setLead : MethodName := ⟨RL, "setLead", "(LColdStore;III[J)I"⟩
abbrev cL_temperature : ByteArray := method_9_code
def yL_temperature : MethodName := ⟨RL, "temperature", "(LColdStore;I[J)I"⟩
abbrev cL_isCooled : ByteArray := method_10_code
def yL_isCooled : MethodName := ⟨RL, "isCooled", "(LColdStore;I[J)I"⟩
abbrev cL_warmest : ByteArray := method_11_code
def yL_warmest : MethodName := ⟨RL, "warmest", "(LColdStore;I[J)I"⟩
abbrev cL_meanTemperature : ByteArray := method_12_code
def yL_meanTemperature : MethodName := ⟨RL, "meanTemperature", "(LColdStore;I[D)I"⟩
abbrev cL_freeSpace : ByteArray := method_13_code
def yL_freeSpace : MethodName := ⟨RL, "freeSpace", "(LColdStore;I[J)I"⟩
abbrev cL_setPrices : ByteArray := method_14_code
def yL_setPrices : MethodName := ⟨RL, "setPrices", "(LColdStore;IIII[J)I"⟩
abbrev cL_setCharge : ByteArray := method_15_code
def yL_setCharge : MethodName := ⟨RL, "setCharge", "(LColdStore;I[J)I"⟩
abbrev cL_setPowerLimit : ByteArray := method_16_code
def yL_setPowerLimit : MethodName := ⟨RL, "setPowerLimit", "(LColdStore;I[J)I"⟩
abbrev cL_addKind : ByteArray := method_17_code
def yL_addKind : MethodName := ⟨RL, "addKind", "(LColdStore;III[J)I"⟩
abbrev cL_addPallet : ByteArray := method_18_code
def yL_addPallet : MethodName := ⟨RL, "addPallet", "(LColdStore;II[J)I"⟩
abbrev cL_movePallet : ByteArray := method_19_code
def yL_movePallet : MethodName := ⟨RL, "movePallet", "(LColdStore;II[J)I"⟩
abbrev cL_scrap : ByteArray := method_20_code
def yL_scrap : MethodName := ⟨RL, "scrap", "(LColdStore;I[J)I"⟩
abbrev cL_state : ByteArray := method_21_code
def yL_state : MethodName := ⟨RL, "state", "(LColdStore;I[J)I"⟩
abbrev cL_roomOf : ByteArray := method_22_code
def yL_roomOf : MethodName := ⟨RL, "roomOf", "(LColdStore;I[J)I"⟩
abbrev cL_life : ByteArray := method_23_code
def yL_life : MethodName := ⟨RL, "life", "(LColdStore;I[J)I"⟩
abbrev cL_lifeByRecords : ByteArray := method_24_code
def yL_lifeByRecords : MethodName := ⟨RL, "lifeByRecords", "(LColdStore;I[J)I"⟩
abbrev cL_forecast : ByteArray := method_25_code
def yL_forecast : MethodName := ⟨RL, "forecast", "(LColdStore;II[J)I"⟩
abbrev cL_soonest : ByteArray := method_26_code
def yL_soonest : MethodName := ⟨RL, "soonest", "(LColdStore;[J)I"⟩
abbrev cL_lostShare : ByteArray := method_27_code
def yL_lostShare : MethodName := ⟨RL, "lostShare", "(LColdStore;[D)I"⟩
abbrev cL_order : ByteArray := method_28_code
def yL_order : MethodName := ⟨RL, "order", "(LColdStore;IIII[J)I"⟩
abbrev cL_cancel : ByteArray := method_29_code
def yL_cancel : MethodName := ⟨RL, "cancel", "(LColdStore;I[J)I"⟩
abbrev cL_candidates : ByteArray := method_30_code
def yL_candidates : MethodName := ⟨RL, "candidates", "(LColdStore;I[J)I"⟩
abbrev cL_candidateAt : ByteArray := method_31_code
def yL_candidateAt : MethodName := ⟨RL, "candidateAt", "(LColdStore;II[J)I"⟩
abbrev cL_ship : ByteArray := method_32_code
def yL_ship : MethodName := ⟨RL, "ship", "(LColdStore;I[J)I"⟩
abbrev cL_orderState : ByteArray := method_33_code
def yL_orderState : MethodName := ⟨RL, "orderState", "(LColdStore;I[J)I"⟩
abbrev cL_leastShipped : ByteArray := method_34_code
def yL_leastShipped : MethodName := ⟨RL, "leastShipped", "(LColdStore;I[J)I"⟩
abbrev cL_law : ByteArray := code
def yL_law : MethodName := ⟨RL, "law", "([I)Z"⟩
def wsX0_init : List Cond := .code yX0_init cX0_init 1 none :: ([.methodLink RX0 3 objectInit, .instanceMethod objectInit, .code objectInit ⟨#[0xb1]⟩ 1 none, .fieldLink RX0 9 "ColdStore$Contract" "normalPrice" "I", .fieldLink RX0 15 "ColdStore$Contract" "peakPrice" "I", .fieldLink RX0 18 "ColdStore$Contract" "firstPeak" "I", .fieldLink RX0 21 "ColdStore$Contract" "lastPeak" "I", .fieldLink RX0 24 "ColdStore$Contract" "charge" "I", .fieldLink RX0 27 "ColdStore$Contract" "limit" "I"] ++ wsX00)
def wsX0_isPeak : List Cond := .code yX0_isPeak cX0_isPeak 2 (some .boolean) :: ([.fieldLink RX0 18 "ColdStore$Contract" "firstPeak" "I", .fieldLink RX0 21 "ColdStore$Contract" "lastPeak" "I"] ++ wsX00)
def wsX0_isAheadOfPeak : List Cond := .code yX0_isAheadOfPeak cX0_isAheadOfPeak 3 (some .boolean) :: ([.fieldLink RX0 18 "ColdStore$Contract" "firstPeak" "I"] ++ wsX00)
def wsX0_priceIn : List Cond := .code yX0_priceIn cX0_priceIn 2 (some .int) :: ([.fieldLink RX0 15 "ColdStore$Contract" "peakPrice" "I", .fieldLink RX0 9 "ColdStore$Contract" "normalPrice" "I", .methodLink RX0 30 yX0_isPeak, .instanceMethod yX0_isPeak, .selects RX0 yX0_isPeak yX0_isPeak, .initialized RX0, .code yX0_isPeak cX0_isPeak 2 (some .boolean), .fieldLink RX0 18 "ColdStore$Contract" "firstPeak" "I", .fieldLink RX0 21 "ColdStore$Contract" "lastPeak" "I"] ++ wsX00)
def wsX1_init : List Cond := .code yX1_init cX1_init 4 none :: ([.methodLink RX1 1 objectInit, .instanceMethod objectInit, .code objectInit ⟨#[0xb1]⟩ 1 none, .fieldLink RX1 7 "ColdStore$Kind" "fullLife" "I", .fieldLink RX1 13 "ColdStore$Kind" "best" "I", .fieldLink RX1 16 "ColdStore$Kind" "lowest" "I"] ++ wsX10)
def wsX1_lossAt : List Cond := .code yX1_lossAt cX1_lossAt 2 (some .int) :: ([.fieldLink RX1 16 "ColdStore$Kind" "lowest" "I", .fieldLink RX1 13 "ColdStore$Kind" "best" "I"] ++ wsX10)
def wsX2_init : List Cond := .code yX2_init cX2_init 1 none :: ([.methodLink RX2 3 objectInit, .instanceMethod objectInit, .code objectInit ⟨#[0xb1]⟩ 1 none, .arrayClass .int, .fieldLink RX2 9 "ColdStore$Meter" "powers" "[I", .fieldLink RX2 15 "ColdStore$Meter" "prices" "[I", .fieldLink RX2 18 "ColdStore$Meter" "latest" "I", .fieldLink RX2 22 "ColdStore$Meter" "greatest" "I", .fieldLink RX2 25 "ColdStore$Meter" "costs" "J"] ++ wsX20)
def wsX2_record : List Cond := .code yX2_record cX2_record 4 none :: ([.fieldLink RX2 9 "ColdStore$Meter" "powers" "[I", .fieldLink RX2 15 "ColdStore$Meter" "prices" "[I", .fieldLink RX2 18 "ColdStore$Meter" "latest" "I", .fieldLink RX2 22 "ColdStore$Meter" "greatest" "I", .methodLink RX2 29 Lib.Math.max.name, .static Lib.Math.max.name, .initialized "java/lang/Math", .code Lib.Math.max.name Lib.Math.max.code 2 (some .int), .fieldLink RX2 25 "ColdStore$Meter" "costs" "J"] ++ wsX20 ++ (vx_atM "java/lang/ArrayIndexOutOfBoundsException" ["java/lang/IndexOutOfBoundsException", "java/lang/RuntimeException", "java/lang/Exception"]).filter goodWord)
def wsX2_recordedCosts : List Cond := .code yX2_recordedCosts cX2_recordedCosts 5 (some .long) :: ([.fieldLink RX2 9 "ColdStore$Meter" "powers" "[I", .fieldLink RX2 15 "ColdStore$Meter" "prices" "[I"] ++ wsX20 ++ (vx_atM "java/lang/ArrayIndexOutOfBoundsException" ["java/lang/IndexOutOfBoundsException", "java/lang/RuntimeException", "java/lang/Exception"]).filter goodWord)
def wsX2_recordedGreatest : List Cond := .code yX2_recordedGreatest cX2_recordedGreatest 4 (some .int) :: ([.fieldLink RX2 9 "ColdStore$Meter" "powers" "[I", .methodLink RX2 29 Lib.Math.max.name, .static Lib.Math.max.name, .initialized "java/lang/Math", .code Lib.Math.max.name Lib.Math.max.code 2 (some .int)] ++ wsX20 ++ (vx_atM "java/lang/ArrayIndexOutOfBoundsException" ["java/lang/IndexOutOfBoundsException", "java/lang/RuntimeException", "java/lang/Exception"]).filter goodWord)
def wsX3_init : List Cond := .code yX3_init cX3_init 5 none :: ([.methodLink RX3 3 objectInit, .instanceMethod objectInit, .code objectInit ⟨#[0xb1]⟩ 1 none, .fieldLink RX3 9 "ColdStore$Order" "status" "C", .fieldLink RX3 15 "ColdStore$Order" "leastLife" "I", .fieldLink RX3 19 "ColdStore$Order" "kind" "LColdStore$Kind;", .fieldLink RX3 23 "ColdStore$Order" "count" "I", .fieldLink RX3 26 "ColdStore$Order" "promise" "I", .fieldLink RX3 29 "ColdStore$Order" "due" "I"] ++ wsX30)
def wsX4_isInRoom : List Cond := .code yX4_isInRoom cX4_isInRoom 1 (some .boolean) :: ([.fieldLink RX4 9 "ColdStore$Pallet" "status" "C"] ++ wsX40)
def wsX3_accepts : List Cond := .code yX3_accepts cX3_accepts 2 (some .boolean) :: ([.fieldLink RX3 38 "ColdStore$Pallet" "kind" "LColdStore$Kind;", .fieldLink RX3 19 "ColdStore$Order" "kind" "LColdStore$Kind;", .fieldLink RX3 39 "ColdStore$Pallet" "lifeLeft" "I", .fieldLink RX3 26 "ColdStore$Order" "promise" "I", .methodLink RX3 32 yX4_isInRoom, .instanceMethod yX4_isInRoom, .selects RX4 yX4_isInRoom yX4_isInRoom, .initialized RX4, .code yX4_isInRoom cX4_isInRoom 1 (some .boolean), .fieldLink RX4 9 "ColdStore$Pallet" "status" "C"] ++ wsX40 ++ wsX30)
def wsX6_init : List Cond := .code yX6_init cX6_init 4 none :: ([.methodLink RX6 1 objectInit, .instanceMethod objectInit, .code objectInit ⟨#[0xb1]⟩ 1 none, .fieldLink RX6 7 "ColdStore$Stay" "room" "LColdStore$Room;", .fieldLink RX6 13 "ColdStore$Stay" "since" "I", .fieldLink RX6 17 "ColdStore$Stay" "earlier" "LColdStore$Stay;"] ++ wsX60)
def wsX4_init : List Cond := .code yX4_init cX4_init 5 none :: ([.methodLink RX4 3 objectInit, .instanceMethod objectInit, .code objectInit ⟨#[0xb1]⟩ 1 none, .fieldLink RX4 9 "ColdStore$Pallet" "status" "C", .fieldLink RX4 15 "ColdStore$Pallet" "leftAt" "I", .fieldLink RX4 19 "ColdStore$Pallet" "number" "I", .fieldLink RX4 22 "ColdStore$Pallet" "kind" "LColdStore$Kind;", .classLink RX4 26 RX6, .instantiable RX6 3, .initialized RX6, .fieldLink RX4 31 "ColdStore$Pallet" "stay" "LColdStore$Stay;", .fieldLink RX4 35 "ColdStore$Kind" "fullLife" "I", .fieldLink RX4 40 "ColdStore$Pallet" "lifeLeft" "I", .methodLink RX4 28 yX6_init, .instanceMethod yX6_init, .code yX6_init cX6_init 4 none, .methodLink RX6 1 objectInit, .fieldLink RX6 7 "ColdStore$Stay" "room" "LColdStore$Room;", .fieldLink RX6 13 "ColdStore$Stay" "since" "I", .fieldLink RX6 17 "ColdStore$Stay" "earlier" "LColdStore$Stay;"] ++ wsX40 ++ wsX60 ++ wsX10)
def wsX4_isAheadOf : List Cond := .code yX4_isAheadOf cX4_isAheadOf 2 (some .boolean) :: ([.fieldLink RX4 40 "ColdStore$Pallet" "lifeLeft" "I", .fieldLink RX4 19 "ColdStore$Pallet" "number" "I"] ++ wsX40)
def wsX4_enter : List Cond := .code yX4_enter cX4_enter 4 none :: ([.fieldLink RX4 31 "ColdStore$Pallet" "stay" "LColdStore$Stay;", .fieldLink RX4 43 "ColdStore$Stay" "since" "I", .fieldLink RX4 46 "ColdStore$Stay" "earlier" "LColdStore$Stay;", .classLink RX4 26 RX6, .instantiable RX6 3, .initialized RX6, .methodLink RX4 28 yX6_init, .instanceMethod yX6_init, .code yX6_init cX6_init 4 none, .methodLink RX6 1 objectInit, .instanceMethod objectInit, .code objectInit ⟨#[0xb1]⟩ 1 none, .fieldLink RX6 7 "ColdStore$Stay" "room" "LColdStore$Room;", .fieldLink RX6 13 "ColdStore$Stay" "since" "I", .fieldLink RX6 17 "ColdStore$Stay" "earlier" "LColdStore$Stay;"] ++ wsX40 ++ wsX60)
def wsX4_leave : List Cond := .code yX4_leave cX4_leave 3 none :: ([.fieldLink RX4 9 "ColdStore$Pallet" "status" "C", .fieldLink RX4 15 "ColdStore$Pallet" "leftAt" "I"] ++ wsX40)
def wsX4_loseLife : List Cond := .code yX4_loseLife cX4_loseLife 1 none :: ([.fieldLink RX4 40 "ColdStore$Pallet" "lifeLeft" "I", .fieldLink RX4 22 "ColdStore$Pallet" "kind" "LColdStore$Kind;", .fieldLink RX4 31 "ColdStore$Pallet" "stay" "LColdStore$Stay;", .fieldLink RX4 53 "ColdStore$Stay" "room" "LColdStore$Room;", .fieldLink RX4 57 "ColdStore$Room" "degrees" "I", .methodLink RX4 66 Lib.Math.max.name, .static Lib.Math.max.name, .initialized "java/lang/Math", .code Lib.Math.max.name Lib.Math.max.code 2 (some .int), .methodLink RX4 49 yX4_isInRoom, .instanceMethod yX4_isInRoom, .selects RX4 yX4_isInRoom yX4_isInRoom, .initialized RX4, .code yX4_isInRoom cX4_isInRoom 1 (some .boolean), .fieldLink RX4 9 "ColdStore$Pallet" "status" "C", .methodLink RX4 62 yX1_lossAt, .instanceMethod yX1_lossAt, .selects RX1 yX1_lossAt yX1_lossAt, .initialized RX1, .code yX1_lossAt cX1_lossAt 2 (some .int), .fieldLink RX1 16 "ColdStore$Kind" "lowest" "I", .fieldLink RX1 13 "ColdStore$Kind" "best" "I"] ++ wsX40 ++ wsX60 ++ wsX50 ++ wsX10)
def wsX5_recordedAt : List Cond := .code yX5_recordedAt cX5_recordedAt 2 (some .int) :: ([.fieldLink RX5 9 "ColdStore$Room" "records" "[I", .fieldLink RX5 63 "ColdStore$Room" "degrees" "I"] ++ wsX50 ++ (vx_atM "java/lang/ArrayIndexOutOfBoundsException" ["java/lang/IndexOutOfBoundsException", "java/lang/RuntimeException", "java/lang/Exception"]).filter goodWord)
def wsX4_recordedLife_r1 : List Cond := [Cond.fieldLink RX4 15 "ColdStore$Pallet" "leftAt" "I", Cond.fieldLink RX4 31 "ColdStore$Pallet" "stay" "LColdStore$Stay;", Cond.fieldLink RX4 43 "ColdStore$Stay" "since" "I", Cond.fieldLink RX4 22 "ColdStore$Pallet" "kind" "LColdStore$Kind;", Cond.fieldLink RX4 53 "ColdStore$Stay" "room" "LColdStore$Room;", Cond.fieldLink RX4 46 "ColdStore$Stay" "earlier" "LColdStore$Stay;", Cond.fieldLink RX4 35 "ColdStore$Kind" "fullLife" "I", Cond.methodLink RX4 66 Lib.Math.max.name, Cond.static Lib.Math.max.name, Cond.initialized "java/lang/Math", Cond.code Lib.Math.max.name Lib.Math.max.code 2 (some .int), Cond.methodLink RX4 49 yX4_isInRoom, Cond.instanceMethod yX4_isInRoom, Cond.selects RX4 yX4_isInRoom yX4_isInRoom, Cond.initialized RX4, Cond.code yX4_isInRoom cX4_isInRoom 1 (some .boolean), Cond.fieldLink RX4 9 "ColdStore$Pallet" "status" "C", Cond.methodLink RX4 72 yX5_recordedAt, Cond.instanceMethod yX5_recordedAt, Cond.selects RX5 yX5_recordedAt yX5_recordedAt, Cond.initialized RX5, Cond.code yX5_recordedAt cX5_recordedAt 2 (some .int), Cond.fieldLink RX5 9 "ColdStore$Room" "records" "[I", Cond.fieldLink RX5 63 "ColdStore$Room" "degrees" "I"]
def wsX4_recordedLife_r2 : List Cond := [Cond.methodLink RX4 62 yX1_lossAt, Cond.instanceMethod yX1_lossAt, Cond.selects RX1 yX1_lossAt yX1_lossAt, Cond.initialized RX1, Cond.code yX1_lossAt cX1_lossAt 2 (some .int), Cond.fieldLink RX1 16 "ColdStore$Kind" "lowest" "I", Cond.fieldLink RX1 13 "ColdStore$Kind" "best" "I"]
def wsX4_recordedLife : List Cond := .code yX4_recordedLife cX4_recordedLife 6 (some .int) :: ((wsX4_recordedLife_r1 ++ wsX4_recordedLife_r2) ++ wsX40 ++ wsX60 ++ wsX10 ++ wsX50 ++ (vx_atM "java/lang/ArrayIndexOutOfBoundsException" ["java/lang/IndexOutOfBoundsException", "java/lang/RuntimeException", "java/lang/Exception"]).filter goodWord)
def wsX5_init : List Cond := .code yX5_init cX5_init 6 none :: ([.methodLink RX5 3 objectInit, .instanceMethod objectInit, .code objectInit ⟨#[0xb1]⟩ 1 none, .arrayClass .int, .fieldLink RX5 9 "ColdStore$Room" "records" "[I", .fieldLink RX5 15 "ColdStore$Room" "lower" "I", .fieldLink RX5 19 "ColdStore$Room" "upper" "I", .fieldLink RX5 22 "ColdStore$Room" "mode" "C", .fieldLink RX5 26 "ColdStore$Room" "leadTicks" "I", .fieldLink RX5 29 "ColdStore$Room" "leadDepth" "I", .fieldLink RX5 32 "ColdStore$Room" "wanting" "Z", .fieldLink RX5 36 "ColdStore$Room" "waiting" "Z", .fieldLink RX5 39 "ColdStore$Room" "cooled" "Z", .fieldLink RX5 42 "ColdStore$Room" "ticks" "I", .fieldLink RX5 45 "ColdStore$Room" "sum" "I", .fieldLink RX5 48 "ColdStore$Room" "greatest" "I", .fieldLink RX5 51 "ColdStore$Room" "number" "I", .fieldLink RX5 54 "ColdStore$Room" "leak" "I", .fieldLink RX5 57 "ColdStore$Room" "strength" "I", .fieldLink RX5 60 "ColdStore$Room" "kilowatts" "I", .fieldLink RX5 63 "ColdStore$Room" "degrees" "I"] ++ wsX50)
def wsX5_shiftIn : List Cond := .code yX5_shiftIn cX5_shiftIn 3 (some .int) :: ([.fieldLink RX5 29 "ColdStore$Room" "leadDepth" "I", .fieldLink RX5 26 "ColdStore$Room" "leadTicks" "I", .methodLink RX5 70 yX0_isPeak, .instanceMethod yX0_isPeak, .selects RX0 yX0_isPeak yX0_isPeak, .initialized RX0, .code yX0_isPeak cX0_isPeak 2 (some .boolean), .fieldLink RX0 18 "ColdStore$Contract" "firstPeak" "I", .fieldLink RX0 21 "ColdStore$Contract" "lastPeak" "I", .methodLink RX5 76 yX0_isAheadOfPeak, .instanceMethod yX0_isAheadOfPeak, .selects RX0 yX0_isAheadOfPeak yX0_isAheadOfPeak, .code yX0_isAheadOfPeak cX0_isAheadOfPeak 3 (some .boolean)] ++ wsX50 ++ wsX00)
def wsX5_decide : List Cond := .code yX5_decide cX5_decide 4 none :: ([.fieldLink RX5 22 "ColdStore$Room" "mode" "C", .fieldLink RX5 32 "ColdStore$Room" "wanting" "Z", .fieldLink RX5 63 "ColdStore$Room" "degrees" "I", .fieldLink RX5 19 "ColdStore$Room" "upper" "I", .fieldLink RX5 15 "ColdStore$Room" "lower" "I", .methodLink RX5 66 yX5_shiftIn, .instanceMethod yX5_shiftIn, .selects RX5 yX5_shiftIn yX5_shiftIn, .initialized RX5, .code yX5_shiftIn cX5_shiftIn 3 (some .int), .fieldLink RX5 29 "ColdStore$Room" "leadDepth" "I", .fieldLink RX5 26 "ColdStore$Room" "leadTicks" "I", .methodLink RX5 70 yX0_isPeak, .instanceMethod yX0_isPeak, .selects RX0 yX0_isPeak yX0_isPeak, .initialized RX0, .code yX0_isPeak cX0_isPeak 2 (some .boolean), .fieldLink RX0 18 "ColdStore$Contract" "firstPeak" "I", .fieldLink RX0 21 "ColdStore$Contract" "lastPeak" "I", .methodLink RX5 76 yX0_isAheadOfPeak, .instanceMethod yX0_isAheadOfPeak, .selects RX0 yX0_isAheadOfPeak yX0_isAheadOfPeak, .code yX0_isAheadOfPeak cX0_isAheadOfPeak 3 (some .boolean)] ++ wsX50 ++ wsX00)
def wsX5_excess : List Cond := .code yX5_excess cX5_excess 1 (some .int) :: ([.fieldLink RX5 63 "ColdStore$Room" "degrees" "I", .fieldLink RX5 19 "ColdStore$Room" "upper" "I"] ++ wsX50)
def wsX5_changeTemperature : List Cond := .code yX5_changeTemperature cX5_changeTemperature 4 none :: ([.fieldLink RX5 63 "ColdStore$Room" "degrees" "I", .fieldLink RX5 54 "ColdStore$Room" "leak" "I", .fieldLink RX5 39 "ColdStore$Room" "cooled" "Z", .fieldLink RX5 57 "ColdStore$Room" "strength" "I", .methodLink RX5 80 Lib.Math.max.name, .static Lib.Math.max.name, .initialized "java/lang/Math", .code Lib.Math.max.name Lib.Math.max.code 2 (some .int), .fieldLink RX5 9 "ColdStore$Room" "records" "[I", .fieldLink RX5 42 "ColdStore$Room" "ticks" "I", .fieldLink RX5 45 "ColdStore$Room" "sum" "I", .fieldLink RX5 48 "ColdStore$Room" "greatest" "I"] ++ wsX50 ++ (vx_atM "java/lang/ArrayIndexOutOfBoundsException" ["java/lang/IndexOutOfBoundsException", "java/lang/RuntimeException", "java/lang/Exception"]).filter goodWord)
def wsJxa1e45_init_da8c8 : List Cond := .code yJxa1e45_init_da8c8 cJxa1e45_init_da8c8 1 none :: ([.methodLink RJxa1e45 1 objectInit, .instanceMethod objectInit, .code objectInit ⟨#[0xb1]⟩ 1 none])
def wsJxc12de_init_da8c8 : List Cond := .code yJxc12de_init_da8c8 cJxc12de_init_da8c8 1 none :: ([.fieldLink RJxc12de 7 "java/util/AbstractList" "modCount" "I", .methodLink RJxc12de 1 yJxa1e45_init_da8c8, .instanceMethod yJxa1e45_init_da8c8, .initialized RJxa1e45, .code yJxa1e45_init_da8c8 cJxa1e45_init_da8c8 1 none, .methodLink RJxa1e45 1 objectInit, .instanceMethod objectInit, .code objectInit ⟨#[0xb1]⟩ 1 none] ++ wsJx4a65c0)
def wsJx4a65c_init_da8c8 : List Cond := .code yJx4a65c_init_da8c8 cJx4a65c_init_da8c8 1 none :: ([.fieldLink RJx4a65c 39 "java/util/ArrayList" "DEFAULTCAPACITY_EMPTY_ELEMENTDATA" "[Ljava/lang/Object;", .fieldLink RJx4a65c 9 "java/util/ArrayList" "elementData" "[Ljava/lang/Object;", .methodLink RJx4a65c 1 yJxc12de_init_da8c8, .instanceMethod yJxc12de_init_da8c8, .initialized RJxc12de, .code yJxc12de_init_da8c8 cJxc12de_init_da8c8 1 none, .fieldLink RJxc12de 7 "java/util/AbstractList" "modCount" "I", .methodLink RJxc12de 1 yJxa1e45_init_da8c8, .instanceMethod yJxa1e45_init_da8c8, .initialized RJxa1e45, .code yJxa1e45_init_da8c8 cJxa1e45_init_da8c8 1 none, .methodLink RJxa1e45 1 objectInit, .instanceMethod objectInit, .code objectInit ⟨#[0xb1]⟩ 1 none] ++ wsJx4a65c0)
def wsX7_init_r1 : List Cond := [Cond.methodLink RX7 1 objectInit, Cond.instanceMethod objectInit, Cond.code objectInit ⟨#[0xb1]⟩ 1 none, Cond.classLink RX7 7 RJx4a65c, Cond.instantiable RJx4a65c 3, Cond.initialized RJx4a65c, Cond.fieldLink RX7 10 "ColdStore" "rooms" "Ljava/util/ArrayList;", Cond.fieldLink RX7 16 "ColdStore" "kinds" "Ljava/util/ArrayList;", Cond.fieldLink RX7 19 "ColdStore" "pallets" "Ljava/util/ArrayList;", Cond.fieldLink RX7 22 "ColdStore" "orders" "Ljava/util/ArrayList;", Cond.classLink RX7 25 RX0, Cond.instantiable RX0 6, Cond.initialized RX0, Cond.fieldLink RX7 28 "ColdStore" "contract" "LColdStore$Contract;", Cond.classLink RX7 32 RX2, Cond.instantiable RX2 5, Cond.initialized RX2, Cond.fieldLink RX7 35 "ColdStore" "meter" "LColdStore$Meter;", Cond.fieldLink RX7 39 "ColdStore" "time" "I", Cond.fieldLink RX7 43 "ColdStore" "outside" "I", Cond.methodLink RX7 9 yJx4a65c_init_da8c8, Cond.instanceMethod yJx4a65c_init_da8c8, Cond.code yJx4a65c_init_da8c8 cJx4a65c_init_da8c8 1 none, Cond.fieldLink RJx4a65c 39 "java/util/ArrayList" "DEFAULTCAPACITY_EMPTY_ELEMENTDATA" "[Ljava/lang/Object;"]
def wsX7_init_r2 : List Cond := [Cond.fieldLink RJx4a65c 9 "java/util/ArrayList" "elementData" "[Ljava/lang/Object;", Cond.methodLink RJx4a65c 1 yJxc12de_init_da8c8, Cond.instanceMethod yJxc12de_init_da8c8, Cond.initialized RJxc12de, Cond.code yJxc12de_init_da8c8 cJxc12de_init_da8c8 1 none, Cond.fieldLink RJxc12de 7 "java/util/AbstractList" "modCount" "I", Cond.methodLink RJxc12de 1 yJxa1e45_init_da8c8, Cond.instanceMethod yJxa1e45_init_da8c8, Cond.initialized RJxa1e45, Cond.code yJxa1e45_init_da8c8 cJxa1e45_init_da8c8 1 none, Cond.methodLink RJxa1e45 1 objectInit, Cond.instanceMethod yX0_init, Cond.code yX0_init cX0_init 1 none, Cond.methodLink RX0 3 objectInit, Cond.fieldLink RX0 9 "ColdStore$Contract" "normalPrice" "I", Cond.fieldLink RX0 15 "ColdStore$Contract" "peakPrice" "I", Cond.fieldLink RX0 18 "ColdStore$Contract" "firstPeak" "I", Cond.fieldLink RX0 21 "ColdStore$Contract" "lastPeak" "I", Cond.fieldLink RX0 24 "ColdStore$Contract" "charge" "I", Cond.fieldLink RX0 27 "ColdStore$Contract" "limit" "I", Cond.instanceMethod yX2_init, Cond.code yX2_init cX2_init 1 none, Cond.methodLink RX2 3 objectInit, Cond.arrayClass .int]
def wsX7_init_r3 : List Cond := [Cond.fieldLink RX2 9 "ColdStore$Meter" "powers" "[I", Cond.fieldLink RX2 15 "ColdStore$Meter" "prices" "[I", Cond.fieldLink RX2 18 "ColdStore$Meter" "latest" "I", Cond.fieldLink RX2 22 "ColdStore$Meter" "greatest" "I", Cond.fieldLink RX2 25 "ColdStore$Meter" "costs" "J"]
def wsX7_init : List Cond := .code yX7_init cX7_init 1 none :: ((wsX7_init_r1 ++ (wsX7_init_r2 ++ wsX7_init_r3)) ++ wsJx4a65c0 ++ wsX70 ++ wsX00 ++ wsX20)
def wsX7_now : List Cond := .code yX7_now cX7_now 1 (some .int) :: ([.fieldLink RX7 39 "ColdStore" "time" "I"] ++ wsX70)
def wsX7_requireRange : List Cond := .code yX7_requireRange cX7_requireRange 3 none :: ([.classLink RX7 85 "java/lang/IllegalArgumentException", .initialized "java/lang/IllegalArgumentException"] ++ (vx_atS RX7 89 "java/lang/IllegalArgumentException" ["java/lang/RuntimeException", "java/lang/Exception"]).filter goodWord)
def wsJx4a65c_size_8abf5 : List Cond := .code yJx4a65c_size_8abf5 cJx4a65c_size_8abf5 1 (some .int) :: ([.fieldLink RJx4a65c 48 "java/util/ArrayList" "size" "I"] ++ wsJx4a65c0)
def wsJ3_checkIndex_8e157 : List Cond := .code yJ3_checkIndex_8e157 cJ3_checkIndex_8e157 3 (some .int) :: ([])
def wsJ15_checkIndex_7cf53 : List Cond := .code yJ15_checkIndex_7cf53 cJ15_checkIndex_7cf53 2 (some .int) :: ([.methodLink RJ15 105 yJ3_checkIndex_8e157, .static yJ3_checkIndex_8e157, .initialized RJ3, .code yJ3_checkIndex_8e157 cJ3_checkIndex_8e157 3 (some .int)])
def wsJx4a65c_elementData_915e3 : List Cond := .code yJx4a65c_elementData_915e3 cJx4a65c_elementData_915e3 2 (some (.object "java/lang/Object")) :: ([.fieldLink RJx4a65c 9 "java/util/ArrayList" "elementData" "[Ljava/lang/Object;"] ++ wsJx4a65c0)
def wsJx4a65c_get_915e3 : List Cond := .code yJx4a65c_get_915e3 cJx4a65c_get_915e3 2 (some (.object "java/lang/Object")) :: ([.fieldLink RJx4a65c 48 "java/util/ArrayList" "size" "I", .methodLink RJx4a65c 118 yJ15_checkIndex_7cf53, .static yJ15_checkIndex_7cf53, .initialized RJ15, .code yJ15_checkIndex_7cf53 cJ15_checkIndex_7cf53 2 (some .int), .methodLink RJ15 105 yJ3_checkIndex_8e157, .static yJ3_checkIndex_8e157, .initialized RJ3, .code yJ3_checkIndex_8e157 cJ3_checkIndex_8e157 3 (some .int), .methodLink RJx4a65c 123 yJx4a65c_elementData_915e3, .instanceMethod yJx4a65c_elementData_915e3, .selects RJx4a65c yJx4a65c_elementData_915e3 yJx4a65c_elementData_915e3, .initialized RJx4a65c, .code yJx4a65c_elementData_915e3 cJx4a65c_elementData_915e3 2 (some (.object "java/lang/Object")), .fieldLink RJx4a65c 9 "java/util/ArrayList" "elementData" "[Ljava/lang/Object;"] ++ wsJx4a65c0)
def wsX7_nextWaitingRoom_r1 : List Cond := [Cond.fieldLink RX7 10 "ColdStore" "rooms" "Ljava/util/ArrayList;", Cond.classLink RX7 66 "ColdStore$Room", Cond.fieldLink RX7 357 "ColdStore$Room" "waiting" "Z", Cond.methodLink RX7 61 yJx4a65c_size_8abf5, Cond.instanceMethod yJx4a65c_size_8abf5, Cond.selects RJx4a65c yJx4a65c_size_8abf5 yJx4a65c_size_8abf5, Cond.initialized RJx4a65c, Cond.code yJx4a65c_size_8abf5 cJx4a65c_size_8abf5 1 (some .int), Cond.fieldLink RJx4a65c 48 "java/util/ArrayList" "size" "I", Cond.methodLink RX7 234 yJx4a65c_get_915e3, Cond.instanceMethod yJx4a65c_get_915e3, Cond.selects RJx4a65c yJx4a65c_get_915e3 yJx4a65c_get_915e3, Cond.code yJx4a65c_get_915e3 cJx4a65c_get_915e3 2 (some (.object "java/lang/Object")), Cond.methodLink RJx4a65c 118 yJ15_checkIndex_7cf53, Cond.static yJ15_checkIndex_7cf53, Cond.initialized RJ15, Cond.code yJ15_checkIndex_7cf53 cJ15_checkIndex_7cf53 2 (some .int), Cond.methodLink RJ15 105 yJ3_checkIndex_8e157, Cond.static yJ3_checkIndex_8e157, Cond.initialized RJ3, Cond.code yJ3_checkIndex_8e157 cJ3_checkIndex_8e157 3 (some .int), Cond.methodLink RJx4a65c 123 yJx4a65c_elementData_915e3, Cond.instanceMethod yJx4a65c_elementData_915e3, Cond.selects RJx4a65c yJx4a65c_elementData_915e3 yJx4a65c_elementData_915e3]
def wsX7_nextWaitingRoom_r2 : List Cond := [Cond.code yJx4a65c_elementData_915e3 cJx4a65c_elementData_915e3 2 (some (.object "java/lang/Object")), Cond.fieldLink RJx4a65c 9 "java/util/ArrayList" "elementData" "[Ljava/lang/Object;", Cond.methodLink RX7 367 yX5_excess, Cond.instanceMethod yX5_excess, Cond.selects RX5 yX5_excess yX5_excess, Cond.initialized RX5, Cond.code yX5_excess cX5_excess 1 (some .int), Cond.fieldLink RX5 63 "ColdStore$Room" "degrees" "I", Cond.fieldLink RX5 19 "ColdStore$Room" "upper" "I"]
def wsX7_nextWaitingRoom : List Cond := .code yX7_nextWaitingRoom cX7_nextWaitingRoom 4 (some (.object "ColdStore$Room")) :: ((wsX7_nextWaitingRoom_r1 ++ wsX7_nextWaitingRoom_r2) ++ wsX70 ++ wsX50 ++ wsJx4a65c0)
def wsX7_givePower_r1 : List Cond := [Cond.fieldLink RX7 10 "ColdStore" "rooms" "Ljava/util/ArrayList;", Cond.classLink RX7 66 "ColdStore$Room", Cond.fieldLink RX7 103 "ColdStore$Room" "cooled" "Z", Cond.fieldLink RX7 354 "ColdStore$Room" "wanting" "Z", Cond.fieldLink RX7 357 "ColdStore$Room" "waiting" "Z", Cond.fieldLink RX7 364 "ColdStore$Room" "kilowatts" "I", Cond.fieldLink RX7 28 "ColdStore" "contract" "LColdStore$Contract;", Cond.fieldLink RX7 143 "ColdStore$Contract" "limit" "I", Cond.methodLink RX7 61 yJx4a65c_size_8abf5, Cond.instanceMethod yJx4a65c_size_8abf5, Cond.selects RJx4a65c yJx4a65c_size_8abf5 yJx4a65c_size_8abf5, Cond.initialized RJx4a65c, Cond.code yJx4a65c_size_8abf5 cJx4a65c_size_8abf5 1 (some .int), Cond.fieldLink RJx4a65c 48 "java/util/ArrayList" "size" "I", Cond.methodLink RX7 234 yJx4a65c_get_915e3, Cond.instanceMethod yJx4a65c_get_915e3, Cond.selects RJx4a65c yJx4a65c_get_915e3 yJx4a65c_get_915e3, Cond.code yJx4a65c_get_915e3 cJx4a65c_get_915e3 2 (some (.object "java/lang/Object")), Cond.methodLink RJx4a65c 118 yJ15_checkIndex_7cf53, Cond.static yJ15_checkIndex_7cf53, Cond.initialized RJ15, Cond.code yJ15_checkIndex_7cf53 cJ15_checkIndex_7cf53 2 (some .int), Cond.methodLink RJ15 105 yJ3_checkIndex_8e157, Cond.static yJ3_checkIndex_8e157]
def wsX7_givePower_r2 : List Cond := [Cond.initialized RJ3, Cond.code yJ3_checkIndex_8e157 cJ3_checkIndex_8e157 3 (some .int), Cond.methodLink RJx4a65c 123 yJx4a65c_elementData_915e3, Cond.instanceMethod yJx4a65c_elementData_915e3, Cond.selects RJx4a65c yJx4a65c_elementData_915e3 yJx4a65c_elementData_915e3, Cond.code yJx4a65c_elementData_915e3 cJx4a65c_elementData_915e3 2 (some (.object "java/lang/Object")), Cond.fieldLink RJx4a65c 9 "java/util/ArrayList" "elementData" "[Ljava/lang/Object;", Cond.methodLink RX7 360 yX7_nextWaitingRoom, Cond.instanceMethod yX7_nextWaitingRoom, Cond.selects RX7 yX7_nextWaitingRoom yX7_nextWaitingRoom, Cond.initialized RX7, Cond.code yX7_nextWaitingRoom cX7_nextWaitingRoom 4 (some (.object "ColdStore$Room")), Cond.methodLink RX7 367 yX5_excess, Cond.instanceMethod yX5_excess, Cond.selects RX5 yX5_excess yX5_excess, Cond.initialized RX5, Cond.code yX5_excess cX5_excess 1 (some .int), Cond.fieldLink RX5 63 "ColdStore$Room" "degrees" "I", Cond.fieldLink RX5 19 "ColdStore$Room" "upper" "I"]
def wsX7_givePower : List Cond := .code yX7_givePower cX7_givePower 4 (some .int) :: ((wsX7_givePower_r1 ++ wsX7_givePower_r2) ++ wsX70 ++ wsX50 ++ wsX00 ++ wsJx4a65c0)
def wsX7_countCandidates_r1 : List Cond := [Cond.fieldLink RX7 19 "ColdStore" "pallets" "Ljava/util/ArrayList;", Cond.classLink RX7 178 "ColdStore$Pallet", Cond.methodLink RX7 61 yJx4a65c_size_8abf5, Cond.instanceMethod yJx4a65c_size_8abf5, Cond.selects RJx4a65c yJx4a65c_size_8abf5 yJx4a65c_size_8abf5, Cond.initialized RJx4a65c, Cond.code yJx4a65c_size_8abf5 cJx4a65c_size_8abf5 1 (some .int), Cond.fieldLink RJx4a65c 48 "java/util/ArrayList" "size" "I", Cond.methodLink RX7 234 yJx4a65c_get_915e3, Cond.instanceMethod yJx4a65c_get_915e3, Cond.selects RJx4a65c yJx4a65c_get_915e3 yJx4a65c_get_915e3, Cond.code yJx4a65c_get_915e3 cJx4a65c_get_915e3 2 (some (.object "java/lang/Object")), Cond.methodLink RJx4a65c 118 yJ15_checkIndex_7cf53, Cond.static yJ15_checkIndex_7cf53, Cond.initialized RJ15, Cond.code yJ15_checkIndex_7cf53 cJ15_checkIndex_7cf53 2 (some .int), Cond.methodLink RJ15 105 yJ3_checkIndex_8e157, Cond.static yJ3_checkIndex_8e157, Cond.initialized RJ3, Cond.code yJ3_checkIndex_8e157 cJ3_checkIndex_8e157 3 (some .int), Cond.methodLink RJx4a65c 123 yJx4a65c_elementData_915e3, Cond.instanceMethod yJx4a65c_elementData_915e3, Cond.selects RJx4a65c yJx4a65c_elementData_915e3 yJx4a65c_elementData_915e3, Cond.code yJx4a65c_elementData_915e3 cJx4a65c_elementData_915e3 2 (some (.object "java/lang/Object"))]
def wsX7_countCandidates_r2 : List Cond := [Cond.fieldLink RJx4a65c 9 "java/util/ArrayList" "elementData" "[Ljava/lang/Object;", Cond.methodLink RX7 373 yX3_accepts, Cond.instanceMethod yX3_accepts, Cond.selects RX3 yX3_accepts yX3_accepts, Cond.initialized RX3, Cond.code yX3_accepts cX3_accepts 2 (some .boolean), Cond.fieldLink RX3 38 "ColdStore$Pallet" "kind" "LColdStore$Kind;", Cond.fieldLink RX3 19 "ColdStore$Order" "kind" "LColdStore$Kind;", Cond.fieldLink RX3 39 "ColdStore$Pallet" "lifeLeft" "I", Cond.fieldLink RX3 26 "ColdStore$Order" "promise" "I", Cond.methodLink RX3 32 yX4_isInRoom, Cond.instanceMethod yX4_isInRoom, Cond.selects RX4 yX4_isInRoom yX4_isInRoom, Cond.initialized RX4, Cond.code yX4_isInRoom cX4_isInRoom 1 (some .boolean), Cond.fieldLink RX4 9 "ColdStore$Pallet" "status" "C"]
def wsX7_countCandidates : List Cond := .code yX7_countCandidates cX7_countCandidates 4 (some .int) :: ((wsX7_countCandidates_r1 ++ wsX7_countCandidates_r2) ++ wsX70 ++ wsJx4a65c0 ++ wsX40 ++ wsX30)
def wsX7_canBeShipped_r1 : List Cond := [Cond.fieldLink RX7 376 "ColdStore$Order" "count" "I", Cond.methodLink RX7 273 yX7_countCandidates, Cond.instanceMethod yX7_countCandidates, Cond.selects RX7 yX7_countCandidates yX7_countCandidates, Cond.initialized RX7, Cond.code yX7_countCandidates cX7_countCandidates 4 (some .int), Cond.fieldLink RX7 19 "ColdStore" "pallets" "Ljava/util/ArrayList;", Cond.classLink RX7 178 "ColdStore$Pallet", Cond.methodLink RX7 61 yJx4a65c_size_8abf5, Cond.instanceMethod yJx4a65c_size_8abf5, Cond.selects RJx4a65c yJx4a65c_size_8abf5 yJx4a65c_size_8abf5, Cond.initialized RJx4a65c, Cond.code yJx4a65c_size_8abf5 cJx4a65c_size_8abf5 1 (some .int), Cond.fieldLink RJx4a65c 48 "java/util/ArrayList" "size" "I", Cond.methodLink RX7 234 yJx4a65c_get_915e3, Cond.instanceMethod yJx4a65c_get_915e3, Cond.selects RJx4a65c yJx4a65c_get_915e3 yJx4a65c_get_915e3, Cond.code yJx4a65c_get_915e3 cJx4a65c_get_915e3 2 (some (.object "java/lang/Object")), Cond.methodLink RJx4a65c 118 yJ15_checkIndex_7cf53, Cond.static yJ15_checkIndex_7cf53, Cond.initialized RJ15, Cond.code yJ15_checkIndex_7cf53 cJ15_checkIndex_7cf53 2 (some .int), Cond.methodLink RJ15 105 yJ3_checkIndex_8e157, Cond.static yJ3_checkIndex_8e157]
def wsX7_canBeShipped_r2 : List Cond := [Cond.initialized RJ3, Cond.code yJ3_checkIndex_8e157 cJ3_checkIndex_8e157 3 (some .int), Cond.methodLink RJx4a65c 123 yJx4a65c_elementData_915e3, Cond.instanceMethod yJx4a65c_elementData_915e3, Cond.selects RJx4a65c yJx4a65c_elementData_915e3 yJx4a65c_elementData_915e3, Cond.code yJx4a65c_elementData_915e3 cJx4a65c_elementData_915e3 2 (some (.object "java/lang/Object")), Cond.fieldLink RJx4a65c 9 "java/util/ArrayList" "elementData" "[Ljava/lang/Object;", Cond.methodLink RX7 373 yX3_accepts, Cond.instanceMethod yX3_accepts, Cond.selects RX3 yX3_accepts yX3_accepts, Cond.initialized RX3, Cond.code yX3_accepts cX3_accepts 2 (some .boolean), Cond.fieldLink RX3 38 "ColdStore$Pallet" "kind" "LColdStore$Kind;", Cond.fieldLink RX3 19 "ColdStore$Order" "kind" "LColdStore$Kind;", Cond.fieldLink RX3 39 "ColdStore$Pallet" "lifeLeft" "I", Cond.fieldLink RX3 26 "ColdStore$Order" "promise" "I", Cond.methodLink RX3 32 yX4_isInRoom, Cond.instanceMethod yX4_isInRoom, Cond.selects RX4 yX4_isInRoom yX4_isInRoom, Cond.initialized RX4, Cond.code yX4_isInRoom cX4_isInRoom 1 (some .boolean), Cond.fieldLink RX4 9 "ColdStore$Pallet" "status" "C"]
def wsX7_canBeShipped : List Cond := .code yX7_canBeShipped cX7_canBeShipped 2 (some .boolean) :: ((wsX7_canBeShipped_r1 ++ wsX7_canBeShipped_r2) ++ wsX30 ++ wsX70 ++ wsJx4a65c0 ++ wsX40)
def wsX7_nextCandidate_r1 : List Cond := [Cond.fieldLink RX7 19 "ColdStore" "pallets" "Ljava/util/ArrayList;", Cond.classLink RX7 178 "ColdStore$Pallet", Cond.methodLink RX7 61 yJx4a65c_size_8abf5, Cond.instanceMethod yJx4a65c_size_8abf5, Cond.selects RJx4a65c yJx4a65c_size_8abf5 yJx4a65c_size_8abf5, Cond.initialized RJx4a65c, Cond.code yJx4a65c_size_8abf5 cJx4a65c_size_8abf5 1 (some .int), Cond.fieldLink RJx4a65c 48 "java/util/ArrayList" "size" "I", Cond.methodLink RX7 234 yJx4a65c_get_915e3, Cond.instanceMethod yJx4a65c_get_915e3, Cond.selects RJx4a65c yJx4a65c_get_915e3 yJx4a65c_get_915e3, Cond.code yJx4a65c_get_915e3 cJx4a65c_get_915e3 2 (some (.object "java/lang/Object")), Cond.methodLink RJx4a65c 118 yJ15_checkIndex_7cf53, Cond.static yJ15_checkIndex_7cf53, Cond.initialized RJ15, Cond.code yJ15_checkIndex_7cf53 cJ15_checkIndex_7cf53 2 (some .int), Cond.methodLink RJ15 105 yJ3_checkIndex_8e157, Cond.static yJ3_checkIndex_8e157, Cond.initialized RJ3, Cond.code yJ3_checkIndex_8e157 cJ3_checkIndex_8e157 3 (some .int), Cond.methodLink RJx4a65c 123 yJx4a65c_elementData_915e3, Cond.instanceMethod yJx4a65c_elementData_915e3, Cond.selects RJx4a65c yJx4a65c_elementData_915e3 yJx4a65c_elementData_915e3, Cond.code yJx4a65c_elementData_915e3 cJx4a65c_elementData_915e3 2 (some (.object "java/lang/Object"))]
def wsX7_nextCandidate_r2 : List Cond := [Cond.fieldLink RJx4a65c 9 "java/util/ArrayList" "elementData" "[Ljava/lang/Object;", Cond.methodLink RX7 242 yX4_isAheadOf, Cond.instanceMethod yX4_isAheadOf, Cond.selects RX4 yX4_isAheadOf yX4_isAheadOf, Cond.initialized RX4, Cond.code yX4_isAheadOf cX4_isAheadOf 2 (some .boolean), Cond.fieldLink RX4 40 "ColdStore$Pallet" "lifeLeft" "I", Cond.fieldLink RX4 19 "ColdStore$Pallet" "number" "I", Cond.methodLink RX7 373 yX3_accepts, Cond.instanceMethod yX3_accepts, Cond.selects RX3 yX3_accepts yX3_accepts, Cond.initialized RX3, Cond.code yX3_accepts cX3_accepts 2 (some .boolean), Cond.fieldLink RX3 38 "ColdStore$Pallet" "kind" "LColdStore$Kind;", Cond.fieldLink RX3 19 "ColdStore$Order" "kind" "LColdStore$Kind;", Cond.fieldLink RX3 39 "ColdStore$Pallet" "lifeLeft" "I", Cond.fieldLink RX3 26 "ColdStore$Order" "promise" "I", Cond.methodLink RX3 32 yX4_isInRoom, Cond.instanceMethod yX4_isInRoom, Cond.selects RX4 yX4_isInRoom yX4_isInRoom, Cond.code yX4_isInRoom cX4_isInRoom 1 (some .boolean), Cond.fieldLink RX4 9 "ColdStore$Pallet" "status" "C"]
def wsX7_nextCandidate : List Cond := .code yX7_nextCandidate cX7_nextCandidate 7 (some (.object "ColdStore$Pallet")) :: ((wsX7_nextCandidate_r1 ++ wsX7_nextCandidate_r2) ++ wsX70 ++ wsJx4a65c0 ++ wsX40 ++ wsX30)
def wsX7_shipCandidates_r1 : List Cond := [Cond.fieldLink RX7 376 "ColdStore$Order" "count" "I", Cond.fieldLink RX7 212 "ColdStore$Pallet" "lifeLeft" "I", Cond.fieldLink RX7 297 "ColdStore$Order" "leastLife" "I", Cond.fieldLink RX7 39 "ColdStore" "time" "I", Cond.fieldLink RX7 269 "ColdStore$Order" "status" "C", Cond.methodLink RX7 379 yX7_nextCandidate, Cond.instanceMethod yX7_nextCandidate, Cond.selects RX7 yX7_nextCandidate yX7_nextCandidate, Cond.initialized RX7, Cond.code yX7_nextCandidate cX7_nextCandidate 7 (some (.object "ColdStore$Pallet")), Cond.fieldLink RX7 19 "ColdStore" "pallets" "Ljava/util/ArrayList;", Cond.classLink RX7 178 "ColdStore$Pallet", Cond.methodLink RX7 61 yJx4a65c_size_8abf5, Cond.instanceMethod yJx4a65c_size_8abf5, Cond.selects RJx4a65c yJx4a65c_size_8abf5 yJx4a65c_size_8abf5, Cond.initialized RJx4a65c, Cond.code yJx4a65c_size_8abf5 cJx4a65c_size_8abf5 1 (some .int), Cond.fieldLink RJx4a65c 48 "java/util/ArrayList" "size" "I", Cond.methodLink RX7 234 yJx4a65c_get_915e3, Cond.instanceMethod yJx4a65c_get_915e3, Cond.selects RJx4a65c yJx4a65c_get_915e3 yJx4a65c_get_915e3, Cond.code yJx4a65c_get_915e3 cJx4a65c_get_915e3 2 (some (.object "java/lang/Object")), Cond.methodLink RJx4a65c 118 yJ15_checkIndex_7cf53, Cond.static yJ15_checkIndex_7cf53]
def wsX7_shipCandidates_r2 : List Cond := [Cond.initialized RJ15, Cond.code yJ15_checkIndex_7cf53 cJ15_checkIndex_7cf53 2 (some .int), Cond.methodLink RJ15 105 yJ3_checkIndex_8e157, Cond.static yJ3_checkIndex_8e157, Cond.initialized RJ3, Cond.code yJ3_checkIndex_8e157 cJ3_checkIndex_8e157 3 (some .int), Cond.methodLink RJx4a65c 123 yJx4a65c_elementData_915e3, Cond.instanceMethod yJx4a65c_elementData_915e3, Cond.selects RJx4a65c yJx4a65c_elementData_915e3 yJx4a65c_elementData_915e3, Cond.code yJx4a65c_elementData_915e3 cJx4a65c_elementData_915e3 2 (some (.object "java/lang/Object")), Cond.fieldLink RJx4a65c 9 "java/util/ArrayList" "elementData" "[Ljava/lang/Object;", Cond.methodLink RX7 242 yX4_isAheadOf, Cond.instanceMethod yX4_isAheadOf, Cond.selects RX4 yX4_isAheadOf yX4_isAheadOf, Cond.initialized RX4, Cond.code yX4_isAheadOf cX4_isAheadOf 2 (some .boolean), Cond.fieldLink RX4 40 "ColdStore$Pallet" "lifeLeft" "I", Cond.fieldLink RX4 19 "ColdStore$Pallet" "number" "I", Cond.methodLink RX7 373 yX3_accepts, Cond.instanceMethod yX3_accepts, Cond.selects RX3 yX3_accepts yX3_accepts, Cond.initialized RX3, Cond.code yX3_accepts cX3_accepts 2 (some .boolean), Cond.fieldLink RX3 38 "ColdStore$Pallet" "kind" "LColdStore$Kind;"]
def wsX7_shipCandidates_r3 : List Cond := [Cond.fieldLink RX3 19 "ColdStore$Order" "kind" "LColdStore$Kind;", Cond.fieldLink RX3 39 "ColdStore$Pallet" "lifeLeft" "I", Cond.fieldLink RX3 26 "ColdStore$Order" "promise" "I", Cond.methodLink RX3 32 yX4_isInRoom, Cond.instanceMethod yX4_isInRoom, Cond.selects RX4 yX4_isInRoom yX4_isInRoom, Cond.code yX4_isInRoom cX4_isInRoom 1 (some .boolean), Cond.fieldLink RX4 9 "ColdStore$Pallet" "status" "C", Cond.methodLink RX7 208 yX4_leave, Cond.instanceMethod yX4_leave, Cond.selects RX4 yX4_leave yX4_leave, Cond.code yX4_leave cX4_leave 3 none, Cond.fieldLink RX4 15 "ColdStore$Pallet" "leftAt" "I"]
def wsX7_shipCandidates : List Cond := .code yX7_shipCandidates cX7_shipCandidates 5 (some .int) :: ((wsX7_shipCandidates_r1 ++ (wsX7_shipCandidates_r2 ++ wsX7_shipCandidates_r3)) ++ wsX30 ++ wsX40 ++ wsX70 ++ wsJx4a65c0)
def wsX7_settleDueOrders_r1 : List Cond := [Cond.fieldLink RX7 22 "ColdStore" "orders" "Ljava/util/ArrayList;", Cond.classLink RX7 256 "ColdStore$Order", Cond.fieldLink RX7 269 "ColdStore$Order" "status" "C", Cond.fieldLink RX7 370 "ColdStore$Order" "due" "I", Cond.fieldLink RX7 39 "ColdStore" "time" "I", Cond.methodLink RX7 61 yJx4a65c_size_8abf5, Cond.instanceMethod yJx4a65c_size_8abf5, Cond.selects RJx4a65c yJx4a65c_size_8abf5 yJx4a65c_size_8abf5, Cond.initialized RJx4a65c, Cond.code yJx4a65c_size_8abf5 cJx4a65c_size_8abf5 1 (some .int), Cond.fieldLink RJx4a65c 48 "java/util/ArrayList" "size" "I", Cond.methodLink RX7 234 yJx4a65c_get_915e3, Cond.instanceMethod yJx4a65c_get_915e3, Cond.selects RJx4a65c yJx4a65c_get_915e3 yJx4a65c_get_915e3, Cond.code yJx4a65c_get_915e3 cJx4a65c_get_915e3 2 (some (.object "java/lang/Object")), Cond.methodLink RJx4a65c 118 yJ15_checkIndex_7cf53, Cond.static yJ15_checkIndex_7cf53, Cond.initialized RJ15, Cond.code yJ15_checkIndex_7cf53 cJ15_checkIndex_7cf53 2 (some .int), Cond.methodLink RJ15 105 yJ3_checkIndex_8e157, Cond.static yJ3_checkIndex_8e157, Cond.initialized RJ3, Cond.code yJ3_checkIndex_8e157 cJ3_checkIndex_8e157 3 (some .int), Cond.methodLink RJx4a65c 123 yJx4a65c_elementData_915e3]
def wsX7_settleDueOrders_r2 : List Cond := [Cond.instanceMethod yJx4a65c_elementData_915e3, Cond.selects RJx4a65c yJx4a65c_elementData_915e3 yJx4a65c_elementData_915e3, Cond.code yJx4a65c_elementData_915e3 cJx4a65c_elementData_915e3 2 (some (.object "java/lang/Object")), Cond.fieldLink RJx4a65c 9 "java/util/ArrayList" "elementData" "[Ljava/lang/Object;", Cond.methodLink RX7 283 yX7_canBeShipped, Cond.instanceMethod yX7_canBeShipped, Cond.selects RX7 yX7_canBeShipped yX7_canBeShipped, Cond.initialized RX7, Cond.code yX7_canBeShipped cX7_canBeShipped 2 (some .boolean), Cond.fieldLink RX7 376 "ColdStore$Order" "count" "I", Cond.methodLink RX7 273 yX7_countCandidates, Cond.instanceMethod yX7_countCandidates, Cond.selects RX7 yX7_countCandidates yX7_countCandidates, Cond.code yX7_countCandidates cX7_countCandidates 4 (some .int), Cond.fieldLink RX7 19 "ColdStore" "pallets" "Ljava/util/ArrayList;", Cond.classLink RX7 178 "ColdStore$Pallet", Cond.methodLink RX7 373 yX3_accepts, Cond.instanceMethod yX3_accepts, Cond.selects RX3 yX3_accepts yX3_accepts, Cond.initialized RX3, Cond.code yX3_accepts cX3_accepts 2 (some .boolean), Cond.fieldLink RX3 38 "ColdStore$Pallet" "kind" "LColdStore$Kind;", Cond.fieldLink RX3 19 "ColdStore$Order" "kind" "LColdStore$Kind;", Cond.fieldLink RX3 39 "ColdStore$Pallet" "lifeLeft" "I"]
def wsX7_settleDueOrders_r3 : List Cond := [Cond.fieldLink RX3 26 "ColdStore$Order" "promise" "I", Cond.methodLink RX3 32 yX4_isInRoom, Cond.instanceMethod yX4_isInRoom, Cond.selects RX4 yX4_isInRoom yX4_isInRoom, Cond.initialized RX4, Cond.code yX4_isInRoom cX4_isInRoom 1 (some .boolean), Cond.fieldLink RX4 9 "ColdStore$Pallet" "status" "C", Cond.methodLink RX7 292 yX7_shipCandidates, Cond.instanceMethod yX7_shipCandidates, Cond.selects RX7 yX7_shipCandidates yX7_shipCandidates, Cond.code yX7_shipCandidates cX7_shipCandidates 5 (some .int), Cond.fieldLink RX7 212 "ColdStore$Pallet" "lifeLeft" "I", Cond.fieldLink RX7 297 "ColdStore$Order" "leastLife" "I", Cond.methodLink RX7 379 yX7_nextCandidate, Cond.instanceMethod yX7_nextCandidate, Cond.selects RX7 yX7_nextCandidate yX7_nextCandidate, Cond.code yX7_nextCandidate cX7_nextCandidate 7 (some (.object "ColdStore$Pallet")), Cond.methodLink RX7 242 yX4_isAheadOf, Cond.instanceMethod yX4_isAheadOf, Cond.selects RX4 yX4_isAheadOf yX4_isAheadOf, Cond.code yX4_isAheadOf cX4_isAheadOf 2 (some .boolean), Cond.fieldLink RX4 40 "ColdStore$Pallet" "lifeLeft" "I", Cond.fieldLink RX4 19 "ColdStore$Pallet" "number" "I", Cond.methodLink RX7 208 yX4_leave]
def wsX7_settleDueOrders_r4 : List Cond := [Cond.instanceMethod yX4_leave, Cond.selects RX4 yX4_leave yX4_leave, Cond.code yX4_leave cX4_leave 3 none, Cond.fieldLink RX4 15 "ColdStore$Pallet" "leftAt" "I"]
def wsX7_settleDueOrders : List Cond := .code yX7_settleDueOrders cX7_settleDueOrders 4 (some .int) :: ((wsX7_settleDueOrders_r1 ++ (wsX7_settleDueOrders_r2 ++ (wsX7_settleDueOrders_r3 ++ wsX7_settleDueOrders_r4))) ++ wsX70 ++ wsX30 ++ wsJx4a65c0 ++ wsX40)
def wsX7_passOneTick_r1 : List Cond := [Cond.fieldLink RX7 39 "ColdStore" "time" "I", Cond.fieldLink RX7 10 "ColdStore" "rooms" "Ljava/util/ArrayList;", Cond.classLink RX7 66 "ColdStore$Room", Cond.fieldLink RX7 28 "ColdStore" "contract" "LColdStore$Contract;", Cond.fieldLink RX7 43 "ColdStore" "outside" "I", Cond.fieldLink RX7 35 "ColdStore" "meter" "LColdStore$Meter;", Cond.fieldLink RX7 19 "ColdStore" "pallets" "Ljava/util/ArrayList;", Cond.classLink RX7 178 "ColdStore$Pallet", Cond.methodLink RX7 61 yJx4a65c_size_8abf5, Cond.instanceMethod yJx4a65c_size_8abf5, Cond.selects RJx4a65c yJx4a65c_size_8abf5 yJx4a65c_size_8abf5, Cond.initialized RJx4a65c, Cond.code yJx4a65c_size_8abf5 cJx4a65c_size_8abf5 1 (some .int), Cond.fieldLink RJx4a65c 48 "java/util/ArrayList" "size" "I", Cond.methodLink RX7 234 yJx4a65c_get_915e3, Cond.instanceMethod yJx4a65c_get_915e3, Cond.selects RJx4a65c yJx4a65c_get_915e3 yJx4a65c_get_915e3, Cond.code yJx4a65c_get_915e3 cJx4a65c_get_915e3 2 (some (.object "java/lang/Object")), Cond.methodLink RJx4a65c 118 yJ15_checkIndex_7cf53, Cond.static yJ15_checkIndex_7cf53, Cond.initialized RJ15, Cond.code yJ15_checkIndex_7cf53 cJ15_checkIndex_7cf53 2 (some .int), Cond.methodLink RJ15 105 yJ3_checkIndex_8e157, Cond.static yJ3_checkIndex_8e157]
def wsX7_passOneTick_r2 : List Cond := [Cond.initialized RJ3, Cond.code yJ3_checkIndex_8e157 cJ3_checkIndex_8e157 3 (some .int), Cond.methodLink RJx4a65c 123 yJx4a65c_elementData_915e3, Cond.instanceMethod yJx4a65c_elementData_915e3, Cond.selects RJx4a65c yJx4a65c_elementData_915e3 yJx4a65c_elementData_915e3, Cond.code yJx4a65c_elementData_915e3 cJx4a65c_elementData_915e3 2 (some (.object "java/lang/Object")), Cond.fieldLink RJx4a65c 9 "java/util/ArrayList" "elementData" "[Ljava/lang/Object;", Cond.methodLink RX7 331 yX5_decide, Cond.instanceMethod yX5_decide, Cond.selects RX5 yX5_decide yX5_decide, Cond.initialized RX5, Cond.code yX5_decide cX5_decide 4 none, Cond.fieldLink RX5 22 "ColdStore$Room" "mode" "C", Cond.fieldLink RX5 32 "ColdStore$Room" "wanting" "Z", Cond.fieldLink RX5 63 "ColdStore$Room" "degrees" "I", Cond.fieldLink RX5 19 "ColdStore$Room" "upper" "I", Cond.fieldLink RX5 15 "ColdStore$Room" "lower" "I", Cond.methodLink RX5 66 yX5_shiftIn, Cond.instanceMethod yX5_shiftIn, Cond.selects RX5 yX5_shiftIn yX5_shiftIn, Cond.code yX5_shiftIn cX5_shiftIn 3 (some .int), Cond.fieldLink RX5 29 "ColdStore$Room" "leadDepth" "I", Cond.fieldLink RX5 26 "ColdStore$Room" "leadTicks" "I", Cond.methodLink RX5 70 yX0_isPeak]
def wsX7_passOneTick_r3 : List Cond := [Cond.instanceMethod yX0_isPeak, Cond.selects RX0 yX0_isPeak yX0_isPeak, Cond.initialized RX0, Cond.code yX0_isPeak cX0_isPeak 2 (some .boolean), Cond.fieldLink RX0 18 "ColdStore$Contract" "firstPeak" "I", Cond.fieldLink RX0 21 "ColdStore$Contract" "lastPeak" "I", Cond.methodLink RX5 76 yX0_isAheadOfPeak, Cond.instanceMethod yX0_isAheadOfPeak, Cond.selects RX0 yX0_isAheadOfPeak yX0_isAheadOfPeak, Cond.code yX0_isAheadOfPeak cX0_isAheadOfPeak 3 (some .boolean), Cond.methodLink RX7 335 yX7_givePower, Cond.instanceMethod yX7_givePower, Cond.selects RX7 yX7_givePower yX7_givePower, Cond.initialized RX7, Cond.code yX7_givePower cX7_givePower 4 (some .int), Cond.fieldLink RX7 103 "ColdStore$Room" "cooled" "Z", Cond.fieldLink RX7 354 "ColdStore$Room" "wanting" "Z", Cond.fieldLink RX7 357 "ColdStore$Room" "waiting" "Z", Cond.fieldLink RX7 364 "ColdStore$Room" "kilowatts" "I", Cond.fieldLink RX7 143 "ColdStore$Contract" "limit" "I", Cond.methodLink RX7 360 yX7_nextWaitingRoom, Cond.instanceMethod yX7_nextWaitingRoom, Cond.selects RX7 yX7_nextWaitingRoom yX7_nextWaitingRoom, Cond.code yX7_nextWaitingRoom cX7_nextWaitingRoom 4 (some (.object "ColdStore$Room"))]
def wsX7_passOneTick_r4 : List Cond := [Cond.methodLink RX7 367 yX5_excess, Cond.instanceMethod yX5_excess, Cond.selects RX5 yX5_excess yX5_excess, Cond.code yX5_excess cX5_excess 1 (some .int), Cond.methodLink RX7 338 yX5_changeTemperature, Cond.instanceMethod yX5_changeTemperature, Cond.selects RX5 yX5_changeTemperature yX5_changeTemperature, Cond.code yX5_changeTemperature cX5_changeTemperature 4 none, Cond.fieldLink RX5 54 "ColdStore$Room" "leak" "I", Cond.fieldLink RX5 39 "ColdStore$Room" "cooled" "Z", Cond.fieldLink RX5 57 "ColdStore$Room" "strength" "I", Cond.methodLink RX5 80 Lib.Math.max.name, Cond.static Lib.Math.max.name, Cond.initialized "java/lang/Math", Cond.code Lib.Math.max.name Lib.Math.max.code 2 (some .int), Cond.fieldLink RX5 9 "ColdStore$Room" "records" "[I", Cond.fieldLink RX5 42 "ColdStore$Room" "ticks" "I", Cond.fieldLink RX5 45 "ColdStore$Room" "sum" "I", Cond.fieldLink RX5 48 "ColdStore$Room" "greatest" "I", Cond.methodLink RX7 342 yX0_priceIn, Cond.instanceMethod yX0_priceIn, Cond.selects RX0 yX0_priceIn yX0_priceIn, Cond.code yX0_priceIn cX0_priceIn 2 (some .int), Cond.fieldLink RX0 15 "ColdStore$Contract" "peakPrice" "I"]
def wsX7_passOneTick_r5 : List Cond := [Cond.fieldLink RX0 9 "ColdStore$Contract" "normalPrice" "I", Cond.methodLink RX0 30 yX0_isPeak, Cond.methodLink RX7 345 yX2_record, Cond.instanceMethod yX2_record, Cond.selects RX2 yX2_record yX2_record, Cond.initialized RX2, Cond.code yX2_record cX2_record 4 none, Cond.fieldLink RX2 9 "ColdStore$Meter" "powers" "[I", Cond.fieldLink RX2 15 "ColdStore$Meter" "prices" "[I", Cond.fieldLink RX2 18 "ColdStore$Meter" "latest" "I", Cond.fieldLink RX2 22 "ColdStore$Meter" "greatest" "I", Cond.methodLink RX2 29 Lib.Math.max.name, Cond.fieldLink RX2 25 "ColdStore$Meter" "costs" "J", Cond.methodLink RX7 348 yX4_loseLife, Cond.instanceMethod yX4_loseLife, Cond.selects RX4 yX4_loseLife yX4_loseLife, Cond.initialized RX4, Cond.code yX4_loseLife cX4_loseLife 1 none, Cond.fieldLink RX4 40 "ColdStore$Pallet" "lifeLeft" "I", Cond.fieldLink RX4 22 "ColdStore$Pallet" "kind" "LColdStore$Kind;", Cond.fieldLink RX4 31 "ColdStore$Pallet" "stay" "LColdStore$Stay;", Cond.fieldLink RX4 53 "ColdStore$Stay" "room" "LColdStore$Room;", Cond.fieldLink RX4 57 "ColdStore$Room" "degrees" "I", Cond.methodLink RX4 66 Lib.Math.max.name]
def wsX7_passOneTick_r6 : List Cond := [Cond.methodLink RX4 49 yX4_isInRoom, Cond.instanceMethod yX4_isInRoom, Cond.selects RX4 yX4_isInRoom yX4_isInRoom, Cond.code yX4_isInRoom cX4_isInRoom 1 (some .boolean), Cond.fieldLink RX4 9 "ColdStore$Pallet" "status" "C", Cond.methodLink RX4 62 yX1_lossAt, Cond.instanceMethod yX1_lossAt, Cond.selects RX1 yX1_lossAt yX1_lossAt, Cond.initialized RX1, Cond.code yX1_lossAt cX1_lossAt 2 (some .int), Cond.fieldLink RX1 16 "ColdStore$Kind" "lowest" "I", Cond.fieldLink RX1 13 "ColdStore$Kind" "best" "I", Cond.methodLink RX7 351 yX7_settleDueOrders, Cond.instanceMethod yX7_settleDueOrders, Cond.selects RX7 yX7_settleDueOrders yX7_settleDueOrders, Cond.code yX7_settleDueOrders cX7_settleDueOrders 4 (some .int), Cond.fieldLink RX7 22 "ColdStore" "orders" "Ljava/util/ArrayList;", Cond.classLink RX7 256 "ColdStore$Order", Cond.fieldLink RX7 269 "ColdStore$Order" "status" "C", Cond.fieldLink RX7 370 "ColdStore$Order" "due" "I", Cond.methodLink RX7 283 yX7_canBeShipped, Cond.instanceMethod yX7_canBeShipped, Cond.selects RX7 yX7_canBeShipped yX7_canBeShipped, Cond.code yX7_canBeShipped cX7_canBeShipped 2 (some .boolean)]
def wsX7_passOneTick_r7 : List Cond := [Cond.fieldLink RX7 376 "ColdStore$Order" "count" "I", Cond.methodLink RX7 273 yX7_countCandidates, Cond.instanceMethod yX7_countCandidates, Cond.selects RX7 yX7_countCandidates yX7_countCandidates, Cond.code yX7_countCandidates cX7_countCandidates 4 (some .int), Cond.methodLink RX7 373 yX3_accepts, Cond.instanceMethod yX3_accepts, Cond.selects RX3 yX3_accepts yX3_accepts, Cond.initialized RX3, Cond.code yX3_accepts cX3_accepts 2 (some .boolean), Cond.fieldLink RX3 38 "ColdStore$Pallet" "kind" "LColdStore$Kind;", Cond.fieldLink RX3 19 "ColdStore$Order" "kind" "LColdStore$Kind;", Cond.fieldLink RX3 39 "ColdStore$Pallet" "lifeLeft" "I", Cond.fieldLink RX3 26 "ColdStore$Order" "promise" "I", Cond.methodLink RX3 32 yX4_isInRoom, Cond.methodLink RX7 292 yX7_shipCandidates, Cond.instanceMethod yX7_shipCandidates, Cond.selects RX7 yX7_shipCandidates yX7_shipCandidates, Cond.code yX7_shipCandidates cX7_shipCandidates 5 (some .int), Cond.fieldLink RX7 212 "ColdStore$Pallet" "lifeLeft" "I", Cond.fieldLink RX7 297 "ColdStore$Order" "leastLife" "I", Cond.methodLink RX7 379 yX7_nextCandidate, Cond.instanceMethod yX7_nextCandidate, Cond.selects RX7 yX7_nextCandidate yX7_nextCandidate]
def wsX7_passOneTick_r8 : List Cond := [Cond.code yX7_nextCandidate cX7_nextCandidate 7 (some (.object "ColdStore$Pallet")), Cond.methodLink RX7 242 yX4_isAheadOf, Cond.instanceMethod yX4_isAheadOf, Cond.selects RX4 yX4_isAheadOf yX4_isAheadOf, Cond.code yX4_isAheadOf cX4_isAheadOf 2 (some .boolean), Cond.fieldLink RX4 19 "ColdStore$Pallet" "number" "I", Cond.methodLink RX7 208 yX4_leave, Cond.instanceMethod yX4_leave, Cond.selects RX4 yX4_leave yX4_leave, Cond.code yX4_leave cX4_leave 3 none, Cond.fieldLink RX4 15 "ColdStore$Pallet" "leftAt" "I"]
def wsX7_passOneTick : List Cond := .code yX7_passOneTick cX7_passOneTick 4 (some .int) :: ((wsX7_passOneTick_r1 ++ (wsX7_passOneTick_r2 ++ (wsX7_passOneTick_r3 ++ (wsX7_passOneTick_r4 ++ (wsX7_passOneTick_r5 ++ (wsX7_passOneTick_r6 ++ (wsX7_passOneTick_r7 ++ wsX7_passOneTick_r8))))))) ++ wsX70 ++ wsJx4a65c0 ++ wsX50 ++ wsX00 ++ wsX20 ++ wsX40 ++ wsX60 ++ wsX10 ++ wsX30 ++ (vx_atM "java/lang/ArrayIndexOutOfBoundsException" ["java/lang/IndexOutOfBoundsException", "java/lang/RuntimeException", "java/lang/Exception"]).filter goodWord)
def wsX7_pass_r1 : List Cond := [Cond.classLink RX7 50 "java/lang/IllegalStateException", Cond.initialized "java/lang/IllegalStateException", Cond.fieldLink RX7 39 "ColdStore" "time" "I", Cond.methodLink RX7 46 yX7_requireRange, Cond.static yX7_requireRange, Cond.initialized RX7, Cond.code yX7_requireRange cX7_requireRange 3 none, Cond.classLink RX7 85 "java/lang/IllegalArgumentException", Cond.initialized "java/lang/IllegalArgumentException", Cond.methodLink RX7 57 yX7_passOneTick, Cond.instanceMethod yX7_passOneTick, Cond.selects RX7 yX7_passOneTick yX7_passOneTick, Cond.code yX7_passOneTick cX7_passOneTick 4 (some .int), Cond.fieldLink RX7 10 "ColdStore" "rooms" "Ljava/util/ArrayList;", Cond.classLink RX7 66 "ColdStore$Room", Cond.fieldLink RX7 28 "ColdStore" "contract" "LColdStore$Contract;", Cond.fieldLink RX7 43 "ColdStore" "outside" "I", Cond.fieldLink RX7 35 "ColdStore" "meter" "LColdStore$Meter;", Cond.fieldLink RX7 19 "ColdStore" "pallets" "Ljava/util/ArrayList;", Cond.classLink RX7 178 "ColdStore$Pallet", Cond.methodLink RX7 61 yJx4a65c_size_8abf5, Cond.instanceMethod yJx4a65c_size_8abf5, Cond.selects RJx4a65c yJx4a65c_size_8abf5 yJx4a65c_size_8abf5, Cond.initialized RJx4a65c]
def wsX7_pass_r2 : List Cond := [Cond.code yJx4a65c_size_8abf5 cJx4a65c_size_8abf5 1 (some .int), Cond.fieldLink RJx4a65c 48 "java/util/ArrayList" "size" "I", Cond.methodLink RX7 234 yJx4a65c_get_915e3, Cond.instanceMethod yJx4a65c_get_915e3, Cond.selects RJx4a65c yJx4a65c_get_915e3 yJx4a65c_get_915e3, Cond.code yJx4a65c_get_915e3 cJx4a65c_get_915e3 2 (some (.object "java/lang/Object")), Cond.methodLink RJx4a65c 118 yJ15_checkIndex_7cf53, Cond.static yJ15_checkIndex_7cf53, Cond.initialized RJ15, Cond.code yJ15_checkIndex_7cf53 cJ15_checkIndex_7cf53 2 (some .int), Cond.methodLink RJ15 105 yJ3_checkIndex_8e157, Cond.static yJ3_checkIndex_8e157, Cond.initialized RJ3, Cond.code yJ3_checkIndex_8e157 cJ3_checkIndex_8e157 3 (some .int), Cond.methodLink RJx4a65c 123 yJx4a65c_elementData_915e3, Cond.instanceMethod yJx4a65c_elementData_915e3, Cond.selects RJx4a65c yJx4a65c_elementData_915e3 yJx4a65c_elementData_915e3, Cond.code yJx4a65c_elementData_915e3 cJx4a65c_elementData_915e3 2 (some (.object "java/lang/Object")), Cond.fieldLink RJx4a65c 9 "java/util/ArrayList" "elementData" "[Ljava/lang/Object;", Cond.methodLink RX7 331 yX5_decide, Cond.instanceMethod yX5_decide, Cond.selects RX5 yX5_decide yX5_decide, Cond.initialized RX5, Cond.code yX5_decide cX5_decide 4 none]
def wsX7_pass_r3 : List Cond := [Cond.fieldLink RX5 22 "ColdStore$Room" "mode" "C", Cond.fieldLink RX5 32 "ColdStore$Room" "wanting" "Z", Cond.fieldLink RX5 63 "ColdStore$Room" "degrees" "I", Cond.fieldLink RX5 19 "ColdStore$Room" "upper" "I", Cond.fieldLink RX5 15 "ColdStore$Room" "lower" "I", Cond.methodLink RX5 66 yX5_shiftIn, Cond.instanceMethod yX5_shiftIn, Cond.selects RX5 yX5_shiftIn yX5_shiftIn, Cond.code yX5_shiftIn cX5_shiftIn 3 (some .int), Cond.fieldLink RX5 29 "ColdStore$Room" "leadDepth" "I", Cond.fieldLink RX5 26 "ColdStore$Room" "leadTicks" "I", Cond.methodLink RX5 70 yX0_isPeak, Cond.instanceMethod yX0_isPeak, Cond.selects RX0 yX0_isPeak yX0_isPeak, Cond.initialized RX0, Cond.code yX0_isPeak cX0_isPeak 2 (some .boolean), Cond.fieldLink RX0 18 "ColdStore$Contract" "firstPeak" "I", Cond.fieldLink RX0 21 "ColdStore$Contract" "lastPeak" "I", Cond.methodLink RX5 76 yX0_isAheadOfPeak, Cond.instanceMethod yX0_isAheadOfPeak, Cond.selects RX0 yX0_isAheadOfPeak yX0_isAheadOfPeak, Cond.code yX0_isAheadOfPeak cX0_isAheadOfPeak 3 (some .boolean), Cond.methodLink RX7 335 yX7_givePower, Cond.instanceMethod yX7_givePower]
def wsX7_pass_r4 : List Cond := [Cond.selects RX7 yX7_givePower yX7_givePower, Cond.code yX7_givePower cX7_givePower 4 (some .int), Cond.fieldLink RX7 103 "ColdStore$Room" "cooled" "Z", Cond.fieldLink RX7 354 "ColdStore$Room" "wanting" "Z", Cond.fieldLink RX7 357 "ColdStore$Room" "waiting" "Z", Cond.fieldLink RX7 364 "ColdStore$Room" "kilowatts" "I", Cond.fieldLink RX7 143 "ColdStore$Contract" "limit" "I", Cond.methodLink RX7 360 yX7_nextWaitingRoom, Cond.instanceMethod yX7_nextWaitingRoom, Cond.selects RX7 yX7_nextWaitingRoom yX7_nextWaitingRoom, Cond.code yX7_nextWaitingRoom cX7_nextWaitingRoom 4 (some (.object "ColdStore$Room")), Cond.methodLink RX7 367 yX5_excess, Cond.instanceMethod yX5_excess, Cond.selects RX5 yX5_excess yX5_excess, Cond.code yX5_excess cX5_excess 1 (some .int), Cond.methodLink RX7 338 yX5_changeTemperature, Cond.instanceMethod yX5_changeTemperature, Cond.selects RX5 yX5_changeTemperature yX5_changeTemperature, Cond.code yX5_changeTemperature cX5_changeTemperature 4 none, Cond.fieldLink RX5 54 "ColdStore$Room" "leak" "I", Cond.fieldLink RX5 39 "ColdStore$Room" "cooled" "Z", Cond.fieldLink RX5 57 "ColdStore$Room" "strength" "I", Cond.methodLink RX5 80 Lib.Math.max.name, Cond.static Lib.Math.max.name]
def wsX7_pass_r5 : List Cond := [Cond.initialized "java/lang/Math", Cond.code Lib.Math.max.name Lib.Math.max.code 2 (some .int), Cond.fieldLink RX5 9 "ColdStore$Room" "records" "[I", Cond.fieldLink RX5 42 "ColdStore$Room" "ticks" "I", Cond.fieldLink RX5 45 "ColdStore$Room" "sum" "I", Cond.fieldLink RX5 48 "ColdStore$Room" "greatest" "I", Cond.methodLink RX7 342 yX0_priceIn, Cond.instanceMethod yX0_priceIn, Cond.selects RX0 yX0_priceIn yX0_priceIn, Cond.code yX0_priceIn cX0_priceIn 2 (some .int), Cond.fieldLink RX0 15 "ColdStore$Contract" "peakPrice" "I", Cond.fieldLink RX0 9 "ColdStore$Contract" "normalPrice" "I", Cond.methodLink RX0 30 yX0_isPeak, Cond.methodLink RX7 345 yX2_record, Cond.instanceMethod yX2_record, Cond.selects RX2 yX2_record yX2_record, Cond.initialized RX2, Cond.code yX2_record cX2_record 4 none, Cond.fieldLink RX2 9 "ColdStore$Meter" "powers" "[I", Cond.fieldLink RX2 15 "ColdStore$Meter" "prices" "[I", Cond.fieldLink RX2 18 "ColdStore$Meter" "latest" "I", Cond.fieldLink RX2 22 "ColdStore$Meter" "greatest" "I", Cond.methodLink RX2 29 Lib.Math.max.name, Cond.fieldLink RX2 25 "ColdStore$Meter" "costs" "J"]
def wsX7_pass_r6 : List Cond := [Cond.methodLink RX7 348 yX4_loseLife, Cond.instanceMethod yX4_loseLife, Cond.selects RX4 yX4_loseLife yX4_loseLife, Cond.initialized RX4, Cond.code yX4_loseLife cX4_loseLife 1 none, Cond.fieldLink RX4 40 "ColdStore$Pallet" "lifeLeft" "I", Cond.fieldLink RX4 22 "ColdStore$Pallet" "kind" "LColdStore$Kind;", Cond.fieldLink RX4 31 "ColdStore$Pallet" "stay" "LColdStore$Stay;", Cond.fieldLink RX4 53 "ColdStore$Stay" "room" "LColdStore$Room;", Cond.fieldLink RX4 57 "ColdStore$Room" "degrees" "I", Cond.methodLink RX4 66 Lib.Math.max.name, Cond.methodLink RX4 49 yX4_isInRoom, Cond.instanceMethod yX4_isInRoom, Cond.selects RX4 yX4_isInRoom yX4_isInRoom, Cond.code yX4_isInRoom cX4_isInRoom 1 (some .boolean), Cond.fieldLink RX4 9 "ColdStore$Pallet" "status" "C", Cond.methodLink RX4 62 yX1_lossAt, Cond.instanceMethod yX1_lossAt, Cond.selects RX1 yX1_lossAt yX1_lossAt, Cond.initialized RX1, Cond.code yX1_lossAt cX1_lossAt 2 (some .int), Cond.fieldLink RX1 16 "ColdStore$Kind" "lowest" "I", Cond.fieldLink RX1 13 "ColdStore$Kind" "best" "I", Cond.methodLink RX7 351 yX7_settleDueOrders]
def wsX7_pass_r7 : List Cond := [Cond.instanceMethod yX7_settleDueOrders, Cond.selects RX7 yX7_settleDueOrders yX7_settleDueOrders, Cond.code yX7_settleDueOrders cX7_settleDueOrders 4 (some .int), Cond.fieldLink RX7 22 "ColdStore" "orders" "Ljava/util/ArrayList;", Cond.classLink RX7 256 "ColdStore$Order", Cond.fieldLink RX7 269 "ColdStore$Order" "status" "C", Cond.fieldLink RX7 370 "ColdStore$Order" "due" "I", Cond.methodLink RX7 283 yX7_canBeShipped, Cond.instanceMethod yX7_canBeShipped, Cond.selects RX7 yX7_canBeShipped yX7_canBeShipped, Cond.code yX7_canBeShipped cX7_canBeShipped 2 (some .boolean), Cond.fieldLink RX7 376 "ColdStore$Order" "count" "I", Cond.methodLink RX7 273 yX7_countCandidates, Cond.instanceMethod yX7_countCandidates, Cond.selects RX7 yX7_countCandidates yX7_countCandidates, Cond.code yX7_countCandidates cX7_countCandidates 4 (some .int), Cond.methodLink RX7 373 yX3_accepts, Cond.instanceMethod yX3_accepts, Cond.selects RX3 yX3_accepts yX3_accepts, Cond.initialized RX3, Cond.code yX3_accepts cX3_accepts 2 (some .boolean), Cond.fieldLink RX3 38 "ColdStore$Pallet" "kind" "LColdStore$Kind;", Cond.fieldLink RX3 19 "ColdStore$Order" "kind" "LColdStore$Kind;", Cond.fieldLink RX3 39 "ColdStore$Pallet" "lifeLeft" "I"]
def wsX7_pass_r8 : List Cond := [Cond.fieldLink RX3 26 "ColdStore$Order" "promise" "I", Cond.methodLink RX3 32 yX4_isInRoom, Cond.methodLink RX7 292 yX7_shipCandidates, Cond.instanceMethod yX7_shipCandidates, Cond.selects RX7 yX7_shipCandidates yX7_shipCandidates, Cond.code yX7_shipCandidates cX7_shipCandidates 5 (some .int), Cond.fieldLink RX7 212 "ColdStore$Pallet" "lifeLeft" "I", Cond.fieldLink RX7 297 "ColdStore$Order" "leastLife" "I", Cond.methodLink RX7 379 yX7_nextCandidate, Cond.instanceMethod yX7_nextCandidate, Cond.selects RX7 yX7_nextCandidate yX7_nextCandidate, Cond.code yX7_nextCandidate cX7_nextCandidate 7 (some (.object "ColdStore$Pallet")), Cond.methodLink RX7 242 yX4_isAheadOf, Cond.instanceMethod yX4_isAheadOf, Cond.selects RX4 yX4_isAheadOf yX4_isAheadOf, Cond.code yX4_isAheadOf cX4_isAheadOf 2 (some .boolean), Cond.fieldLink RX4 19 "ColdStore$Pallet" "number" "I", Cond.methodLink RX7 208 yX4_leave, Cond.instanceMethod yX4_leave, Cond.selects RX4 yX4_leave yX4_leave, Cond.code yX4_leave cX4_leave 3 none, Cond.fieldLink RX4 15 "ColdStore$Pallet" "leftAt" "I"]
def wsX7_pass : List Cond := .code yX7_pass cX7_pass 4 (some .int) :: ((wsX7_pass_r1 ++ (wsX7_pass_r2 ++ (wsX7_pass_r3 ++ (wsX7_pass_r4 ++ (wsX7_pass_r5 ++ (wsX7_pass_r6 ++ (wsX7_pass_r7 ++ wsX7_pass_r8))))))) ++ wsX70 ++ wsJx4a65c0 ++ wsX50 ++ wsX00 ++ wsX20 ++ wsX40 ++ wsX60 ++ wsX10 ++ wsX30 ++ (vx_atS RX7 54 "java/lang/IllegalStateException" ["java/lang/RuntimeException", "java/lang/Exception"]).filter goodWord ++ (vx_atS RX7 89 "java/lang/IllegalArgumentException" ["java/lang/RuntimeException", "java/lang/Exception"]).filter goodWord ++ (vx_atM "java/lang/ArrayIndexOutOfBoundsException" ["java/lang/IndexOutOfBoundsException", "java/lang/RuntimeException", "java/lang/Exception"]).filter goodWord)
def wsX7_setOutside : List Cond := .code yX7_setOutside cX7_setOutside 3 (some .int) :: ([.fieldLink RX7 43 "ColdStore" "outside" "I", .methodLink RX7 46 yX7_requireRange, .static yX7_requireRange, .initialized RX7, .code yX7_requireRange cX7_requireRange 3 none, .classLink RX7 85 "java/lang/IllegalArgumentException", .initialized "java/lang/IllegalArgumentException"] ++ wsX70 ++ (vx_atS RX7 89 "java/lang/IllegalArgumentException" ["java/lang/RuntimeException", "java/lang/Exception"]).filter goodWord)
def wsJ8_hugeLength_7cf53 : List Cond := .code yJ8_hugeLength_7cf53 cJ8_hugeLength_7cf53 3 (some .int) :: ([.constant RJ8 200 (2147483639)])
def wsJ8_newLength_cabcc : List Cond := .code yJ8_newLength_cabcc cJ8_newLength_cabcc 4 (some .int) :: ([.methodLink RJ8 194 Lib.Math.max.name, .static Lib.Math.max.name, .initialized "java/lang/Math", .code Lib.Math.max.name Lib.Math.max.code 2 (some .int), .constant RJ8 200 (2147483639), .methodLink RJ8 201 yJ8_hugeLength_7cf53, .static yJ8_hugeLength_7cf53, .initialized RJ8, .code yJ8_hugeLength_7cf53 cJ8_hugeLength_7cf53 3 (some .int)])
def wsJ7_copyOf_6403c : List Cond := .code yJ7_copyOf_6403c cJ7_copyOf_6403c 4 (some (.array (.object "java/lang/Object"))) :: ([.classLink RJ7 110 "[Ljava/lang/Object;", .classLink RJ7 2 "java/lang/Object", .methodLink RJ7 304 Lib.Math.min.name, .static Lib.Math.min.name, .initialized "java/lang/Math", .code Lib.Math.min.name Lib.Math.min.code 2 (some .int), .methodLink RJ7 150 arraycopyName, .native arraycopyName, .static arraycopyName, .initialized "java/lang/System"])
def wsJ7_copyOf_1904c : List Cond := .code yJ7_copyOf_1904c cJ7_copyOf_1904c 2 (some (.array (.object "java/lang/Object"))) :: ([.methodLink RJ7 86 ⟨"java/lang/Object", "getClass", "()Ljava/lang/Class;"⟩, .selects "[Ljava/lang/Object;" ⟨"java/lang/Object", "getClass", "()Ljava/lang/Class;"⟩ ⟨"java/lang/Object", "getClass", "()Ljava/lang/Class;"⟩, .instanceMethod ⟨"java/lang/Object", "getClass", "()Ljava/lang/Class;"⟩, .native ⟨"java/lang/Object", "getClass", "()Ljava/lang/Class;"⟩, .methodLink RJ7 300 yJ7_copyOf_6403c, .static yJ7_copyOf_6403c, .initialized RJ7, .code yJ7_copyOf_6403c cJ7_copyOf_6403c 4 (some (.array (.object "java/lang/Object"))), .classLink RJ7 110 "[Ljava/lang/Object;", .classLink RJ7 2 "java/lang/Object", .methodLink RJ7 304 Lib.Math.min.name, .static Lib.Math.min.name, .initialized "java/lang/Math", .code Lib.Math.min.name Lib.Math.min.code 2 (some .int), .methodLink RJ7 150 arraycopyName, .native arraycopyName, .static arraycopyName, .initialized "java/lang/System"])
def wsJx4a65c_grow_92f84_r1 : List Cond := [Cond.fieldLink RJx4a65c 9 "java/util/ArrayList" "elementData" "[Ljava/lang/Object;", Cond.fieldLink RJx4a65c 39 "java/util/ArrayList" "DEFAULTCAPACITY_EMPTY_ELEMENTDATA" "[Ljava/lang/Object;", Cond.methodLink RJx4a65c 79 Lib.Math.max.name, Cond.static Lib.Math.max.name, Cond.initialized "java/lang/Math", Cond.code Lib.Math.max.name Lib.Math.max.code 2 (some .int), Cond.classLink RJx4a65c 7 "java/lang/Object", Cond.methodLink RJx4a65c 73 yJ8_newLength_cabcc, Cond.static yJ8_newLength_cabcc, Cond.initialized RJ8, Cond.code yJ8_newLength_cabcc cJ8_newLength_cabcc 4 (some .int), Cond.methodLink RJ8 194 Lib.Math.max.name, Cond.constant RJ8 200 (2147483639), Cond.methodLink RJ8 201 yJ8_hugeLength_7cf53, Cond.static yJ8_hugeLength_7cf53, Cond.code yJ8_hugeLength_7cf53 cJ8_hugeLength_7cf53 3 (some .int), Cond.methodLink RJx4a65c 66 yJ7_copyOf_1904c, Cond.static yJ7_copyOf_1904c, Cond.initialized RJ7, Cond.code yJ7_copyOf_1904c cJ7_copyOf_1904c 2 (some (.array (.object "java/lang/Object"))), Cond.methodLink RJ7 86 ⟨"java/lang/Object", "getClass", "()Ljava/lang/Class;"⟩, Cond.selects "[Ljava/lang/Object;" ⟨"java/lang/Object", "getClass", "()Ljava/lang/Class;"⟩ ⟨"java/lang/Object", "getClass", "()Ljava/lang/Class;"⟩, Cond.instanceMethod ⟨"java/lang/Object", "getClass", "()Ljava/lang/Class;"⟩, Cond.native ⟨"java/lang/Object", "getClass", "()Ljava/lang/Class;"⟩]
def wsJx4a65c_grow_92f84_r2 : List Cond := [Cond.methodLink RJ7 300 yJ7_copyOf_6403c, Cond.static yJ7_copyOf_6403c, Cond.code yJ7_copyOf_6403c cJ7_copyOf_6403c 4 (some (.array (.object "java/lang/Object"))), Cond.classLink RJ7 110 "[Ljava/lang/Object;", Cond.classLink RJ7 2 "java/lang/Object", Cond.methodLink RJ7 304 Lib.Math.min.name, Cond.static Lib.Math.min.name, Cond.code Lib.Math.min.name Lib.Math.min.code 2 (some .int), Cond.methodLink RJ7 150 arraycopyName, Cond.native arraycopyName, Cond.static arraycopyName, Cond.initialized "java/lang/System"]
def wsJx4a65c_grow_92f84 : List Cond := .code yJx4a65c_grow_92f84 cJx4a65c_grow_92f84 4 (some (.array (.object "java/lang/Object"))) :: ((wsJx4a65c_grow_92f84_r1 ++ wsJx4a65c_grow_92f84_r2) ++ wsJx4a65c0)
def wsJx4a65c_grow_d5877_r1 : List Cond := [Cond.fieldLink RJx4a65c 48 "java/util/ArrayList" "size" "I", Cond.methodLink RJx4a65c 69 yJx4a65c_grow_92f84, Cond.instanceMethod yJx4a65c_grow_92f84, Cond.selects RJx4a65c yJx4a65c_grow_92f84 yJx4a65c_grow_92f84, Cond.initialized RJx4a65c, Cond.code yJx4a65c_grow_92f84 cJx4a65c_grow_92f84 4 (some (.array (.object "java/lang/Object"))), Cond.fieldLink RJx4a65c 9 "java/util/ArrayList" "elementData" "[Ljava/lang/Object;", Cond.fieldLink RJx4a65c 39 "java/util/ArrayList" "DEFAULTCAPACITY_EMPTY_ELEMENTDATA" "[Ljava/lang/Object;", Cond.methodLink RJx4a65c 79 Lib.Math.max.name, Cond.static Lib.Math.max.name, Cond.initialized "java/lang/Math", Cond.code Lib.Math.max.name Lib.Math.max.code 2 (some .int), Cond.classLink RJx4a65c 7 "java/lang/Object", Cond.methodLink RJx4a65c 73 yJ8_newLength_cabcc, Cond.static yJ8_newLength_cabcc, Cond.initialized RJ8, Cond.code yJ8_newLength_cabcc cJ8_newLength_cabcc 4 (some .int), Cond.methodLink RJ8 194 Lib.Math.max.name, Cond.constant RJ8 200 (2147483639), Cond.methodLink RJ8 201 yJ8_hugeLength_7cf53, Cond.static yJ8_hugeLength_7cf53, Cond.code yJ8_hugeLength_7cf53 cJ8_hugeLength_7cf53 3 (some .int), Cond.methodLink RJx4a65c 66 yJ7_copyOf_1904c, Cond.static yJ7_copyOf_1904c]
def wsJx4a65c_grow_d5877_r2 : List Cond := [Cond.initialized RJ7, Cond.code yJ7_copyOf_1904c cJ7_copyOf_1904c 2 (some (.array (.object "java/lang/Object"))), Cond.methodLink RJ7 86 ⟨"java/lang/Object", "getClass", "()Ljava/lang/Class;"⟩, Cond.selects "[Ljava/lang/Object;" ⟨"java/lang/Object", "getClass", "()Ljava/lang/Class;"⟩ ⟨"java/lang/Object", "getClass", "()Ljava/lang/Class;"⟩, Cond.instanceMethod ⟨"java/lang/Object", "getClass", "()Ljava/lang/Class;"⟩, Cond.native ⟨"java/lang/Object", "getClass", "()Ljava/lang/Class;"⟩, Cond.methodLink RJ7 300 yJ7_copyOf_6403c, Cond.static yJ7_copyOf_6403c, Cond.code yJ7_copyOf_6403c cJ7_copyOf_6403c 4 (some (.array (.object "java/lang/Object"))), Cond.classLink RJ7 110 "[Ljava/lang/Object;", Cond.classLink RJ7 2 "java/lang/Object", Cond.methodLink RJ7 304 Lib.Math.min.name, Cond.static Lib.Math.min.name, Cond.code Lib.Math.min.name Lib.Math.min.code 2 (some .int), Cond.methodLink RJ7 150 arraycopyName, Cond.native arraycopyName, Cond.static arraycopyName, Cond.initialized "java/lang/System"]
def wsJx4a65c_grow_d5877 : List Cond := .code yJx4a65c_grow_d5877 cJx4a65c_grow_d5877 1 (some (.array (.object "java/lang/Object"))) :: ((wsJx4a65c_grow_d5877_r1 ++ wsJx4a65c_grow_d5877_r2) ++ wsJx4a65c0)
def wsJx4a65c_add_72be8_r1 : List Cond := [Cond.fieldLink RJx4a65c 48 "java/util/ArrayList" "size" "I", Cond.methodLink RJx4a65c 129 yJx4a65c_grow_d5877, Cond.instanceMethod yJx4a65c_grow_d5877, Cond.selects RJx4a65c yJx4a65c_grow_d5877 yJx4a65c_grow_d5877, Cond.initialized RJx4a65c, Cond.code yJx4a65c_grow_d5877 cJx4a65c_grow_d5877 1 (some (.array (.object "java/lang/Object"))), Cond.methodLink RJx4a65c 69 yJx4a65c_grow_92f84, Cond.instanceMethod yJx4a65c_grow_92f84, Cond.selects RJx4a65c yJx4a65c_grow_92f84 yJx4a65c_grow_92f84, Cond.code yJx4a65c_grow_92f84 cJx4a65c_grow_92f84 4 (some (.array (.object "java/lang/Object"))), Cond.fieldLink RJx4a65c 9 "java/util/ArrayList" "elementData" "[Ljava/lang/Object;", Cond.fieldLink RJx4a65c 39 "java/util/ArrayList" "DEFAULTCAPACITY_EMPTY_ELEMENTDATA" "[Ljava/lang/Object;", Cond.methodLink RJx4a65c 79 Lib.Math.max.name, Cond.static Lib.Math.max.name, Cond.initialized "java/lang/Math", Cond.code Lib.Math.max.name Lib.Math.max.code 2 (some .int), Cond.classLink RJx4a65c 7 "java/lang/Object", Cond.methodLink RJx4a65c 73 yJ8_newLength_cabcc, Cond.static yJ8_newLength_cabcc, Cond.initialized RJ8, Cond.code yJ8_newLength_cabcc cJ8_newLength_cabcc 4 (some .int), Cond.methodLink RJ8 194 Lib.Math.max.name, Cond.constant RJ8 200 (2147483639), Cond.methodLink RJ8 201 yJ8_hugeLength_7cf53]
def wsJx4a65c_add_72be8_r2 : List Cond := [Cond.static yJ8_hugeLength_7cf53, Cond.code yJ8_hugeLength_7cf53 cJ8_hugeLength_7cf53 3 (some .int), Cond.methodLink RJx4a65c 66 yJ7_copyOf_1904c, Cond.static yJ7_copyOf_1904c, Cond.initialized RJ7, Cond.code yJ7_copyOf_1904c cJ7_copyOf_1904c 2 (some (.array (.object "java/lang/Object"))), Cond.methodLink RJ7 86 ⟨"java/lang/Object", "getClass", "()Ljava/lang/Class;"⟩, Cond.selects "[Ljava/lang/Object;" ⟨"java/lang/Object", "getClass", "()Ljava/lang/Class;"⟩ ⟨"java/lang/Object", "getClass", "()Ljava/lang/Class;"⟩, Cond.instanceMethod ⟨"java/lang/Object", "getClass", "()Ljava/lang/Class;"⟩, Cond.native ⟨"java/lang/Object", "getClass", "()Ljava/lang/Class;"⟩, Cond.methodLink RJ7 300 yJ7_copyOf_6403c, Cond.static yJ7_copyOf_6403c, Cond.code yJ7_copyOf_6403c cJ7_copyOf_6403c 4 (some (.array (.object "java/lang/Object"))), Cond.classLink RJ7 110 "[Ljava/lang/Object;", Cond.classLink RJ7 2 "java/lang/Object", Cond.methodLink RJ7 304 Lib.Math.min.name, Cond.static Lib.Math.min.name, Cond.code Lib.Math.min.name Lib.Math.min.code 2 (some .int), Cond.methodLink RJ7 150 arraycopyName, Cond.native arraycopyName, Cond.static arraycopyName, Cond.initialized "java/lang/System"]
def wsJx4a65c_add_72be8 : List Cond := .code yJx4a65c_add_72be8 cJx4a65c_add_72be8 4 none :: ((wsJx4a65c_add_72be8_r1 ++ wsJx4a65c_add_72be8_r2) ++ wsJx4a65c0)
def wsJx4a65c_add_9ea2d_r1 : List Cond := [Cond.fieldLink RJx4a65c 63 "java/util/ArrayList" "modCount" "I", Cond.sameField "java/util/ArrayList" "java/util/AbstractList" "modCount" "I", Cond.fieldLink RJx4a65c 9 "java/util/ArrayList" "elementData" "[Ljava/lang/Object;", Cond.fieldLink RJx4a65c 48 "java/util/ArrayList" "size" "I", Cond.methodLink RJx4a65c 131 yJx4a65c_add_72be8, Cond.instanceMethod yJx4a65c_add_72be8, Cond.selects RJx4a65c yJx4a65c_add_72be8 yJx4a65c_add_72be8, Cond.initialized RJx4a65c, Cond.code yJx4a65c_add_72be8 cJx4a65c_add_72be8 4 none, Cond.methodLink RJx4a65c 129 yJx4a65c_grow_d5877, Cond.instanceMethod yJx4a65c_grow_d5877, Cond.selects RJx4a65c yJx4a65c_grow_d5877 yJx4a65c_grow_d5877, Cond.code yJx4a65c_grow_d5877 cJx4a65c_grow_d5877 1 (some (.array (.object "java/lang/Object"))), Cond.methodLink RJx4a65c 69 yJx4a65c_grow_92f84, Cond.instanceMethod yJx4a65c_grow_92f84, Cond.selects RJx4a65c yJx4a65c_grow_92f84 yJx4a65c_grow_92f84, Cond.code yJx4a65c_grow_92f84 cJx4a65c_grow_92f84 4 (some (.array (.object "java/lang/Object"))), Cond.fieldLink RJx4a65c 39 "java/util/ArrayList" "DEFAULTCAPACITY_EMPTY_ELEMENTDATA" "[Ljava/lang/Object;", Cond.methodLink RJx4a65c 79 Lib.Math.max.name, Cond.static Lib.Math.max.name, Cond.initialized "java/lang/Math", Cond.code Lib.Math.max.name Lib.Math.max.code 2 (some .int), Cond.classLink RJx4a65c 7 "java/lang/Object", Cond.methodLink RJx4a65c 73 yJ8_newLength_cabcc]
def wsJx4a65c_add_9ea2d_r2 : List Cond := [Cond.static yJ8_newLength_cabcc, Cond.initialized RJ8, Cond.code yJ8_newLength_cabcc cJ8_newLength_cabcc 4 (some .int), Cond.methodLink RJ8 194 Lib.Math.max.name, Cond.constant RJ8 200 (2147483639), Cond.methodLink RJ8 201 yJ8_hugeLength_7cf53, Cond.static yJ8_hugeLength_7cf53, Cond.code yJ8_hugeLength_7cf53 cJ8_hugeLength_7cf53 3 (some .int), Cond.methodLink RJx4a65c 66 yJ7_copyOf_1904c, Cond.static yJ7_copyOf_1904c, Cond.initialized RJ7, Cond.code yJ7_copyOf_1904c cJ7_copyOf_1904c 2 (some (.array (.object "java/lang/Object"))), Cond.methodLink RJ7 86 ⟨"java/lang/Object", "getClass", "()Ljava/lang/Class;"⟩, Cond.selects "[Ljava/lang/Object;" ⟨"java/lang/Object", "getClass", "()Ljava/lang/Class;"⟩ ⟨"java/lang/Object", "getClass", "()Ljava/lang/Class;"⟩, Cond.instanceMethod ⟨"java/lang/Object", "getClass", "()Ljava/lang/Class;"⟩, Cond.native ⟨"java/lang/Object", "getClass", "()Ljava/lang/Class;"⟩, Cond.methodLink RJ7 300 yJ7_copyOf_6403c, Cond.static yJ7_copyOf_6403c, Cond.code yJ7_copyOf_6403c cJ7_copyOf_6403c 4 (some (.array (.object "java/lang/Object"))), Cond.classLink RJ7 110 "[Ljava/lang/Object;", Cond.classLink RJ7 2 "java/lang/Object", Cond.methodLink RJ7 304 Lib.Math.min.name, Cond.static Lib.Math.min.name, Cond.code Lib.Math.min.name Lib.Math.min.code 2 (some .int)]
def wsJx4a65c_add_9ea2d_r3 : List Cond := [Cond.methodLink RJ7 150 arraycopyName, Cond.native arraycopyName, Cond.static arraycopyName, Cond.initialized "java/lang/System"]
def wsJx4a65c_add_9ea2d : List Cond := .code yJx4a65c_add_9ea2d cJx4a65c_add_9ea2d 2 (some .boolean) :: ((wsJx4a65c_add_9ea2d_r1 ++ (wsJx4a65c_add_9ea2d_r2 ++ wsJx4a65c_add_9ea2d_r3)) ++ wsJx4a65c0)
def wsX7_addRoom_r1 : List Cond := [Cond.classLink RX7 50 "java/lang/IllegalStateException", Cond.initialized "java/lang/IllegalStateException", Cond.fieldLink RX7 10 "ColdStore" "rooms" "Ljava/util/ArrayList;", Cond.classLink RX7 66 RX5, Cond.instantiable RX5 17, Cond.initialized RX5, Cond.fieldLink RX7 43 "ColdStore" "outside" "I", Cond.methodLink RX7 46 yX7_requireRange, Cond.static yX7_requireRange, Cond.initialized RX7, Cond.code yX7_requireRange cX7_requireRange 3 none, Cond.classLink RX7 85 "java/lang/IllegalArgumentException", Cond.initialized "java/lang/IllegalArgumentException", Cond.methodLink RX7 61 yJx4a65c_size_8abf5, Cond.instanceMethod yJx4a65c_size_8abf5, Cond.selects RJx4a65c yJx4a65c_size_8abf5 yJx4a65c_size_8abf5, Cond.initialized RJx4a65c, Cond.code yJx4a65c_size_8abf5 cJx4a65c_size_8abf5 1 (some .int), Cond.fieldLink RJx4a65c 48 "java/util/ArrayList" "size" "I", Cond.methodLink RX7 68 yX5_init, Cond.instanceMethod yX5_init, Cond.code yX5_init cX5_init 6 none, Cond.methodLink RX5 3 objectInit, Cond.instanceMethod objectInit]
def wsX7_addRoom_r2 : List Cond := [Cond.code objectInit ⟨#[0xb1]⟩ 1 none, Cond.arrayClass .int, Cond.fieldLink RX5 9 "ColdStore$Room" "records" "[I", Cond.fieldLink RX5 15 "ColdStore$Room" "lower" "I", Cond.fieldLink RX5 19 "ColdStore$Room" "upper" "I", Cond.fieldLink RX5 22 "ColdStore$Room" "mode" "C", Cond.fieldLink RX5 26 "ColdStore$Room" "leadTicks" "I", Cond.fieldLink RX5 29 "ColdStore$Room" "leadDepth" "I", Cond.fieldLink RX5 32 "ColdStore$Room" "wanting" "Z", Cond.fieldLink RX5 36 "ColdStore$Room" "waiting" "Z", Cond.fieldLink RX5 39 "ColdStore$Room" "cooled" "Z", Cond.fieldLink RX5 42 "ColdStore$Room" "ticks" "I", Cond.fieldLink RX5 45 "ColdStore$Room" "sum" "I", Cond.fieldLink RX5 48 "ColdStore$Room" "greatest" "I", Cond.fieldLink RX5 51 "ColdStore$Room" "number" "I", Cond.fieldLink RX5 54 "ColdStore$Room" "leak" "I", Cond.fieldLink RX5 57 "ColdStore$Room" "strength" "I", Cond.fieldLink RX5 60 "ColdStore$Room" "kilowatts" "I", Cond.fieldLink RX5 63 "ColdStore$Room" "degrees" "I", Cond.methodLink RX7 71 yJx4a65c_add_9ea2d, Cond.instanceMethod yJx4a65c_add_9ea2d, Cond.selects RJx4a65c yJx4a65c_add_9ea2d yJx4a65c_add_9ea2d, Cond.code yJx4a65c_add_9ea2d cJx4a65c_add_9ea2d 2 (some .boolean), Cond.fieldLink RJx4a65c 63 "java/util/ArrayList" "modCount" "I"]
def wsX7_addRoom_r3 : List Cond := [Cond.sameField "java/util/ArrayList" "java/util/AbstractList" "modCount" "I", Cond.fieldLink RJx4a65c 9 "java/util/ArrayList" "elementData" "[Ljava/lang/Object;", Cond.methodLink RJx4a65c 131 yJx4a65c_add_72be8, Cond.instanceMethod yJx4a65c_add_72be8, Cond.selects RJx4a65c yJx4a65c_add_72be8 yJx4a65c_add_72be8, Cond.code yJx4a65c_add_72be8 cJx4a65c_add_72be8 4 none, Cond.methodLink RJx4a65c 129 yJx4a65c_grow_d5877, Cond.instanceMethod yJx4a65c_grow_d5877, Cond.selects RJx4a65c yJx4a65c_grow_d5877 yJx4a65c_grow_d5877, Cond.code yJx4a65c_grow_d5877 cJx4a65c_grow_d5877 1 (some (.array (.object "java/lang/Object"))), Cond.methodLink RJx4a65c 69 yJx4a65c_grow_92f84, Cond.instanceMethod yJx4a65c_grow_92f84, Cond.selects RJx4a65c yJx4a65c_grow_92f84 yJx4a65c_grow_92f84, Cond.code yJx4a65c_grow_92f84 cJx4a65c_grow_92f84 4 (some (.array (.object "java/lang/Object"))), Cond.fieldLink RJx4a65c 39 "java/util/ArrayList" "DEFAULTCAPACITY_EMPTY_ELEMENTDATA" "[Ljava/lang/Object;", Cond.methodLink RJx4a65c 79 Lib.Math.max.name, Cond.static Lib.Math.max.name, Cond.initialized "java/lang/Math", Cond.code Lib.Math.max.name Lib.Math.max.code 2 (some .int), Cond.classLink RJx4a65c 7 "java/lang/Object", Cond.methodLink RJx4a65c 73 yJ8_newLength_cabcc, Cond.static yJ8_newLength_cabcc, Cond.initialized RJ8, Cond.code yJ8_newLength_cabcc cJ8_newLength_cabcc 4 (some .int)]
def wsX7_addRoom_r4 : List Cond := [Cond.methodLink RJ8 194 Lib.Math.max.name, Cond.constant RJ8 200 (2147483639), Cond.methodLink RJ8 201 yJ8_hugeLength_7cf53, Cond.static yJ8_hugeLength_7cf53, Cond.code yJ8_hugeLength_7cf53 cJ8_hugeLength_7cf53 3 (some .int), Cond.methodLink RJx4a65c 66 yJ7_copyOf_1904c, Cond.static yJ7_copyOf_1904c, Cond.initialized RJ7, Cond.code yJ7_copyOf_1904c cJ7_copyOf_1904c 2 (some (.array (.object "java/lang/Object"))), Cond.methodLink RJ7 86 ⟨"java/lang/Object", "getClass", "()Ljava/lang/Class;"⟩, Cond.selects "[Ljava/lang/Object;" ⟨"java/lang/Object", "getClass", "()Ljava/lang/Class;"⟩ ⟨"java/lang/Object", "getClass", "()Ljava/lang/Class;"⟩, Cond.instanceMethod ⟨"java/lang/Object", "getClass", "()Ljava/lang/Class;"⟩, Cond.native ⟨"java/lang/Object", "getClass", "()Ljava/lang/Class;"⟩, Cond.methodLink RJ7 300 yJ7_copyOf_6403c, Cond.static yJ7_copyOf_6403c, Cond.code yJ7_copyOf_6403c cJ7_copyOf_6403c 4 (some (.array (.object "java/lang/Object"))), Cond.classLink RJ7 110 "[Ljava/lang/Object;", Cond.classLink RJ7 2 "java/lang/Object", Cond.methodLink RJ7 304 Lib.Math.min.name, Cond.static Lib.Math.min.name, Cond.code Lib.Math.min.name Lib.Math.min.code 2 (some .int), Cond.methodLink RJ7 150 arraycopyName, Cond.native arraycopyName, Cond.static arraycopyName]
def wsX7_addRoom_r5 : List Cond := [Cond.initialized "java/lang/System"]
def wsX7_addRoom : List Cond := .code yX7_addRoom cX7_addRoom 5 (some .int) :: ((wsX7_addRoom_r1 ++ (wsX7_addRoom_r2 ++ (wsX7_addRoom_r3 ++ (wsX7_addRoom_r4 ++ wsX7_addRoom_r5)))) ++ wsX70 ++ wsX50 ++ wsJx4a65c0 ++ (vx_atS RX7 54 "java/lang/IllegalStateException" ["java/lang/RuntimeException", "java/lang/Exception"]).filter goodWord ++ (vx_atS RX7 89 "java/lang/IllegalArgumentException" ["java/lang/RuntimeException", "java/lang/Exception"]).filter goodWord)
def wsX7_findRoom_r1 : List Cond := [Cond.classLink RX7 314 "java/lang/IndexOutOfBoundsException", Cond.initialized "java/lang/IndexOutOfBoundsException", Cond.fieldLink RX7 10 "ColdStore" "rooms" "Ljava/util/ArrayList;", Cond.classLink RX7 66 "ColdStore$Room", Cond.methodLink RX7 61 yJx4a65c_size_8abf5, Cond.instanceMethod yJx4a65c_size_8abf5, Cond.selects RJx4a65c yJx4a65c_size_8abf5 yJx4a65c_size_8abf5, Cond.initialized RJx4a65c, Cond.code yJx4a65c_size_8abf5 cJx4a65c_size_8abf5 1 (some .int), Cond.fieldLink RJx4a65c 48 "java/util/ArrayList" "size" "I", Cond.methodLink RX7 234 yJx4a65c_get_915e3, Cond.instanceMethod yJx4a65c_get_915e3, Cond.selects RJx4a65c yJx4a65c_get_915e3 yJx4a65c_get_915e3, Cond.code yJx4a65c_get_915e3 cJx4a65c_get_915e3 2 (some (.object "java/lang/Object")), Cond.methodLink RJx4a65c 118 yJ15_checkIndex_7cf53, Cond.static yJ15_checkIndex_7cf53, Cond.initialized RJ15, Cond.code yJ15_checkIndex_7cf53 cJ15_checkIndex_7cf53 2 (some .int), Cond.methodLink RJ15 105 yJ3_checkIndex_8e157, Cond.static yJ3_checkIndex_8e157, Cond.initialized RJ3, Cond.code yJ3_checkIndex_8e157 cJ3_checkIndex_8e157 3 (some .int), Cond.methodLink RJx4a65c 123 yJx4a65c_elementData_915e3, Cond.instanceMethod yJx4a65c_elementData_915e3]
def wsX7_findRoom_r2 : List Cond := [Cond.selects RJx4a65c yJx4a65c_elementData_915e3 yJx4a65c_elementData_915e3, Cond.code yJx4a65c_elementData_915e3 cJx4a65c_elementData_915e3 2 (some (.object "java/lang/Object")), Cond.fieldLink RJx4a65c 9 "java/util/ArrayList" "elementData" "[Ljava/lang/Object;"]
def wsX7_findRoom : List Cond := .code yX7_findRoom cX7_findRoom 2 (some (.object "ColdStore$Room")) :: ((wsX7_findRoom_r1 ++ wsX7_findRoom_r2) ++ wsX70 ++ wsJx4a65c0 ++ (vx_atS RX7 318 "java/lang/IndexOutOfBoundsException" ["java/lang/RuntimeException", "java/lang/Exception"]).filter goodWord)
def wsX7_setLimits_r1 : List Cond := [Cond.fieldLink RX7 79 "ColdStore$Room" "lower" "I", Cond.fieldLink RX7 82 "ColdStore$Room" "upper" "I", Cond.methodLink RX7 75 yX7_findRoom, Cond.instanceMethod yX7_findRoom, Cond.selects RX7 yX7_findRoom yX7_findRoom, Cond.initialized RX7, Cond.code yX7_findRoom cX7_findRoom 2 (some (.object "ColdStore$Room")), Cond.classLink RX7 314 "java/lang/IndexOutOfBoundsException", Cond.initialized "java/lang/IndexOutOfBoundsException", Cond.fieldLink RX7 10 "ColdStore" "rooms" "Ljava/util/ArrayList;", Cond.classLink RX7 66 "ColdStore$Room", Cond.methodLink RX7 61 yJx4a65c_size_8abf5, Cond.instanceMethod yJx4a65c_size_8abf5, Cond.selects RJx4a65c yJx4a65c_size_8abf5 yJx4a65c_size_8abf5, Cond.initialized RJx4a65c, Cond.code yJx4a65c_size_8abf5 cJx4a65c_size_8abf5 1 (some .int), Cond.fieldLink RJx4a65c 48 "java/util/ArrayList" "size" "I", Cond.methodLink RX7 234 yJx4a65c_get_915e3, Cond.instanceMethod yJx4a65c_get_915e3, Cond.selects RJx4a65c yJx4a65c_get_915e3 yJx4a65c_get_915e3, Cond.code yJx4a65c_get_915e3 cJx4a65c_get_915e3 2 (some (.object "java/lang/Object")), Cond.methodLink RJx4a65c 118 yJ15_checkIndex_7cf53, Cond.static yJ15_checkIndex_7cf53, Cond.initialized RJ15]
def wsX7_setLimits_r2 : List Cond := [Cond.code yJ15_checkIndex_7cf53 cJ15_checkIndex_7cf53 2 (some .int), Cond.methodLink RJ15 105 yJ3_checkIndex_8e157, Cond.static yJ3_checkIndex_8e157, Cond.initialized RJ3, Cond.code yJ3_checkIndex_8e157 cJ3_checkIndex_8e157 3 (some .int), Cond.methodLink RJx4a65c 123 yJx4a65c_elementData_915e3, Cond.instanceMethod yJx4a65c_elementData_915e3, Cond.selects RJx4a65c yJx4a65c_elementData_915e3 yJx4a65c_elementData_915e3, Cond.code yJx4a65c_elementData_915e3 cJx4a65c_elementData_915e3 2 (some (.object "java/lang/Object")), Cond.fieldLink RJx4a65c 9 "java/util/ArrayList" "elementData" "[Ljava/lang/Object;", Cond.methodLink RX7 46 yX7_requireRange, Cond.static yX7_requireRange, Cond.code yX7_requireRange cX7_requireRange 3 none, Cond.classLink RX7 85 "java/lang/IllegalArgumentException", Cond.initialized "java/lang/IllegalArgumentException"]
def wsX7_setLimits : List Cond := .code yX7_setLimits cX7_setLimits 6 (some .int) :: ((wsX7_setLimits_r1 ++ wsX7_setLimits_r2) ++ wsX50 ++ wsX70 ++ wsJx4a65c0 ++ (vx_atS RX7 318 "java/lang/IndexOutOfBoundsException" ["java/lang/RuntimeException", "java/lang/Exception"]).filter goodWord ++ (vx_atS RX7 89 "java/lang/IllegalArgumentException" ["java/lang/RuntimeException", "java/lang/Exception"]).filter goodWord)
def wsX7_setMode_r1 : List Cond := [Cond.classLink RX7 85 "java/lang/IllegalArgumentException", Cond.initialized "java/lang/IllegalArgumentException", Cond.fieldLink RX7 90 "ColdStore$Room" "mode" "C", Cond.methodLink RX7 75 yX7_findRoom, Cond.instanceMethod yX7_findRoom, Cond.selects RX7 yX7_findRoom yX7_findRoom, Cond.initialized RX7, Cond.code yX7_findRoom cX7_findRoom 2 (some (.object "ColdStore$Room")), Cond.classLink RX7 314 "java/lang/IndexOutOfBoundsException", Cond.initialized "java/lang/IndexOutOfBoundsException", Cond.fieldLink RX7 10 "ColdStore" "rooms" "Ljava/util/ArrayList;", Cond.classLink RX7 66 "ColdStore$Room", Cond.methodLink RX7 61 yJx4a65c_size_8abf5, Cond.instanceMethod yJx4a65c_size_8abf5, Cond.selects RJx4a65c yJx4a65c_size_8abf5 yJx4a65c_size_8abf5, Cond.initialized RJx4a65c, Cond.code yJx4a65c_size_8abf5 cJx4a65c_size_8abf5 1 (some .int), Cond.fieldLink RJx4a65c 48 "java/util/ArrayList" "size" "I", Cond.methodLink RX7 234 yJx4a65c_get_915e3, Cond.instanceMethod yJx4a65c_get_915e3, Cond.selects RJx4a65c yJx4a65c_get_915e3 yJx4a65c_get_915e3, Cond.code yJx4a65c_get_915e3 cJx4a65c_get_915e3 2 (some (.object "java/lang/Object")), Cond.methodLink RJx4a65c 118 yJ15_checkIndex_7cf53, Cond.static yJ15_checkIndex_7cf53]
def wsX7_setMode_r2 : List Cond := [Cond.initialized RJ15, Cond.code yJ15_checkIndex_7cf53 cJ15_checkIndex_7cf53 2 (some .int), Cond.methodLink RJ15 105 yJ3_checkIndex_8e157, Cond.static yJ3_checkIndex_8e157, Cond.initialized RJ3, Cond.code yJ3_checkIndex_8e157 cJ3_checkIndex_8e157 3 (some .int), Cond.methodLink RJx4a65c 123 yJx4a65c_elementData_915e3, Cond.instanceMethod yJx4a65c_elementData_915e3, Cond.selects RJx4a65c yJx4a65c_elementData_915e3 yJx4a65c_elementData_915e3, Cond.code yJx4a65c_elementData_915e3 cJx4a65c_elementData_915e3 2 (some (.object "java/lang/Object")), Cond.fieldLink RJx4a65c 9 "java/util/ArrayList" "elementData" "[Ljava/lang/Object;"]
def wsX7_setMode : List Cond := .code yX7_setMode cX7_setMode 5 (some .char) :: ((wsX7_setMode_r1 ++ wsX7_setMode_r2) ++ wsX50 ++ wsX70 ++ wsJx4a65c0 ++ (vx_atS RX7 89 "java/lang/IllegalArgumentException" ["java/lang/RuntimeException", "java/lang/Exception"]).filter goodWord ++ (vx_atS RX7 318 "java/lang/IndexOutOfBoundsException" ["java/lang/RuntimeException", "java/lang/Exception"]).filter goodWord)
def wsX7_setLead_r1 : List Cond := [Cond.fieldLink RX7 94 "ColdStore$Room" "leadTicks" "I", Cond.fieldLink RX7 97 "ColdStore$Room" "leadDepth" "I", Cond.methodLink RX7 75 yX7_findRoom, Cond.instanceMethod yX7_findRoom, Cond.selects RX7 yX7_findRoom yX7_findRoom, Cond.initialized RX7, Cond.code yX7_findRoom cX7_findRoom 2 (some (.object "ColdStore$Room")), Cond.classLink RX7 314 "java/lang/IndexOutOfBoundsException", Cond.initialized "java/lang/IndexOutOfBoundsException", Cond.fieldLink RX7 10 "ColdStore" "rooms" "Ljava/util/ArrayList;", Cond.classLink RX7 66 "ColdStore$Room", Cond.methodLink RX7 61 yJx4a65c_size_8abf5, Cond.instanceMethod yJx4a65c_size_8abf5, Cond.selects RJx4a65c yJx4a65c_size_8abf5 yJx4a65c_size_8abf5, Cond.initialized RJx4a65c, Cond.code yJx4a65c_size_8abf5 cJx4a65c_size_8abf5 1 (some .int), Cond.fieldLink RJx4a65c 48 "java/util/ArrayList" "size" "I", Cond.methodLink RX7 234 yJx4a65c_get_915e3, Cond.instanceMethod yJx4a65c_get_915e3, Cond.selects RJx4a65c yJx4a65c_get_915e3 yJx4a65c_get_915e3, Cond.code yJx4a65c_get_915e3 cJx4a65c_get_915e3 2 (some (.object "java/lang/Object")), Cond.methodLink RJx4a65c 118 yJ15_checkIndex_7cf53, Cond.static yJ15_checkIndex_7cf53, Cond.initialized RJ15]
def wsX7_setLead_r2 : List Cond := [Cond.code yJ15_checkIndex_7cf53 cJ15_checkIndex_7cf53 2 (some .int), Cond.methodLink RJ15 105 yJ3_checkIndex_8e157, Cond.static yJ3_checkIndex_8e157, Cond.initialized RJ3, Cond.code yJ3_checkIndex_8e157 cJ3_checkIndex_8e157 3 (some .int), Cond.methodLink RJx4a65c 123 yJx4a65c_elementData_915e3, Cond.instanceMethod yJx4a65c_elementData_915e3, Cond.selects RJx4a65c yJx4a65c_elementData_915e3 yJx4a65c_elementData_915e3, Cond.code yJx4a65c_elementData_915e3 cJx4a65c_elementData_915e3 2 (some (.object "java/lang/Object")), Cond.fieldLink RJx4a65c 9 "java/util/ArrayList" "elementData" "[Ljava/lang/Object;", Cond.methodLink RX7 46 yX7_requireRange, Cond.static yX7_requireRange, Cond.code yX7_requireRange cX7_requireRange 3 none, Cond.classLink RX7 85 "java/lang/IllegalArgumentException", Cond.initialized "java/lang/IllegalArgumentException"]
def wsX7_setLead : List Cond := .code yX7_setLead cX7_setLead 6 (some .int) :: ((wsX7_setLead_r1 ++ wsX7_setLead_r2) ++ wsX50 ++ wsX70 ++ wsJx4a65c0 ++ (vx_atS RX7 318 "java/lang/IndexOutOfBoundsException" ["java/lang/RuntimeException", "java/lang/Exception"]).filter goodWord ++ (vx_atS RX7 89 "java/lang/IllegalArgumentException" ["java/lang/RuntimeException", "java/lang/Exception"]).filter goodWord)
def wsX7_temperature_r1 : List Cond := [Cond.fieldLink RX7 100 "ColdStore$Room" "degrees" "I", Cond.methodLink RX7 75 yX7_findRoom, Cond.instanceMethod yX7_findRoom, Cond.selects RX7 yX7_findRoom yX7_findRoom, Cond.initialized RX7, Cond.code yX7_findRoom cX7_findRoom 2 (some (.object "ColdStore$Room")), Cond.classLink RX7 314 "java/lang/IndexOutOfBoundsException", Cond.initialized "java/lang/IndexOutOfBoundsException", Cond.fieldLink RX7 10 "ColdStore" "rooms" "Ljava/util/ArrayList;", Cond.classLink RX7 66 "ColdStore$Room", Cond.methodLink RX7 61 yJx4a65c_size_8abf5, Cond.instanceMethod yJx4a65c_size_8abf5, Cond.selects RJx4a65c yJx4a65c_size_8abf5 yJx4a65c_size_8abf5, Cond.initialized RJx4a65c, Cond.code yJx4a65c_size_8abf5 cJx4a65c_size_8abf5 1 (some .int), Cond.fieldLink RJx4a65c 48 "java/util/ArrayList" "size" "I", Cond.methodLink RX7 234 yJx4a65c_get_915e3, Cond.instanceMethod yJx4a65c_get_915e3, Cond.selects RJx4a65c yJx4a65c_get_915e3 yJx4a65c_get_915e3, Cond.code yJx4a65c_get_915e3 cJx4a65c_get_915e3 2 (some (.object "java/lang/Object")), Cond.methodLink RJx4a65c 118 yJ15_checkIndex_7cf53, Cond.static yJ15_checkIndex_7cf53, Cond.initialized RJ15, Cond.code yJ15_checkIndex_7cf53 cJ15_checkIndex_7cf53 2 (some .int)]
def wsX7_temperature_r2 : List Cond := [Cond.methodLink RJ15 105 yJ3_checkIndex_8e157, Cond.static yJ3_checkIndex_8e157, Cond.initialized RJ3, Cond.code yJ3_checkIndex_8e157 cJ3_checkIndex_8e157 3 (some .int), Cond.methodLink RJx4a65c 123 yJx4a65c_elementData_915e3, Cond.instanceMethod yJx4a65c_elementData_915e3, Cond.selects RJx4a65c yJx4a65c_elementData_915e3 yJx4a65c_elementData_915e3, Cond.code yJx4a65c_elementData_915e3 cJx4a65c_elementData_915e3 2 (some (.object "java/lang/Object")), Cond.fieldLink RJx4a65c 9 "java/util/ArrayList" "elementData" "[Ljava/lang/Object;"]
def wsX7_temperature : List Cond := .code yX7_temperature cX7_temperature 2 (some .int) :: ((wsX7_temperature_r1 ++ wsX7_temperature_r2) ++ wsX50 ++ wsX70 ++ wsJx4a65c0 ++ (vx_atS RX7 318 "java/lang/IndexOutOfBoundsException" ["java/lang/RuntimeException", "java/lang/Exception"]).filter goodWord)
def wsX7_isCooled_r1 : List Cond := [Cond.fieldLink RX7 103 "ColdStore$Room" "cooled" "Z", Cond.methodLink RX7 75 yX7_findRoom, Cond.instanceMethod yX7_findRoom, Cond.selects RX7 yX7_findRoom yX7_findRoom, Cond.initialized RX7, Cond.code yX7_findRoom cX7_findRoom 2 (some (.object "ColdStore$Room")), Cond.classLink RX7 314 "java/lang/IndexOutOfBoundsException", Cond.initialized "java/lang/IndexOutOfBoundsException", Cond.fieldLink RX7 10 "ColdStore" "rooms" "Ljava/util/ArrayList;", Cond.classLink RX7 66 "ColdStore$Room", Cond.methodLink RX7 61 yJx4a65c_size_8abf5, Cond.instanceMethod yJx4a65c_size_8abf5, Cond.selects RJx4a65c yJx4a65c_size_8abf5 yJx4a65c_size_8abf5, Cond.initialized RJx4a65c, Cond.code yJx4a65c_size_8abf5 cJx4a65c_size_8abf5 1 (some .int), Cond.fieldLink RJx4a65c 48 "java/util/ArrayList" "size" "I", Cond.methodLink RX7 234 yJx4a65c_get_915e3, Cond.instanceMethod yJx4a65c_get_915e3, Cond.selects RJx4a65c yJx4a65c_get_915e3 yJx4a65c_get_915e3, Cond.code yJx4a65c_get_915e3 cJx4a65c_get_915e3 2 (some (.object "java/lang/Object")), Cond.methodLink RJx4a65c 118 yJ15_checkIndex_7cf53, Cond.static yJ15_checkIndex_7cf53, Cond.initialized RJ15, Cond.code yJ15_checkIndex_7cf53 cJ15_checkIndex_7cf53 2 (some .int)]
def wsX7_isCooled_r2 : List Cond := [Cond.methodLink RJ15 105 yJ3_checkIndex_8e157, Cond.static yJ3_checkIndex_8e157, Cond.initialized RJ3, Cond.code yJ3_checkIndex_8e157 cJ3_checkIndex_8e157 3 (some .int), Cond.methodLink RJx4a65c 123 yJx4a65c_elementData_915e3, Cond.instanceMethod yJx4a65c_elementData_915e3, Cond.selects RJx4a65c yJx4a65c_elementData_915e3 yJx4a65c_elementData_915e3, Cond.code yJx4a65c_elementData_915e3 cJx4a65c_elementData_915e3 2 (some (.object "java/lang/Object")), Cond.fieldLink RJx4a65c 9 "java/util/ArrayList" "elementData" "[Ljava/lang/Object;"]
def wsX7_isCooled : List Cond := .code yX7_isCooled cX7_isCooled 2 (some .boolean) :: ((wsX7_isCooled_r1 ++ wsX7_isCooled_r2) ++ wsX50 ++ wsX70 ++ wsJx4a65c0 ++ (vx_atS RX7 318 "java/lang/IndexOutOfBoundsException" ["java/lang/RuntimeException", "java/lang/Exception"]).filter goodWord)
def wsX7_warmest_r1 : List Cond := [Cond.classLink RX7 110 "java/util/NoSuchElementException", Cond.initialized "java/util/NoSuchElementException", Cond.fieldLink RX7 107 "ColdStore$Room" "ticks" "I", Cond.fieldLink RX7 115 "ColdStore$Room" "greatest" "I", Cond.methodLink RX7 75 yX7_findRoom, Cond.instanceMethod yX7_findRoom, Cond.selects RX7 yX7_findRoom yX7_findRoom, Cond.initialized RX7, Cond.code yX7_findRoom cX7_findRoom 2 (some (.object "ColdStore$Room")), Cond.classLink RX7 314 "java/lang/IndexOutOfBoundsException", Cond.initialized "java/lang/IndexOutOfBoundsException", Cond.fieldLink RX7 10 "ColdStore" "rooms" "Ljava/util/ArrayList;", Cond.classLink RX7 66 "ColdStore$Room", Cond.methodLink RX7 61 yJx4a65c_size_8abf5, Cond.instanceMethod yJx4a65c_size_8abf5, Cond.selects RJx4a65c yJx4a65c_size_8abf5 yJx4a65c_size_8abf5, Cond.initialized RJx4a65c, Cond.code yJx4a65c_size_8abf5 cJx4a65c_size_8abf5 1 (some .int), Cond.fieldLink RJx4a65c 48 "java/util/ArrayList" "size" "I", Cond.methodLink RX7 234 yJx4a65c_get_915e3, Cond.instanceMethod yJx4a65c_get_915e3, Cond.selects RJx4a65c yJx4a65c_get_915e3 yJx4a65c_get_915e3, Cond.code yJx4a65c_get_915e3 cJx4a65c_get_915e3 2 (some (.object "java/lang/Object")), Cond.methodLink RJx4a65c 118 yJ15_checkIndex_7cf53]
def wsX7_warmest_r2 : List Cond := [Cond.static yJ15_checkIndex_7cf53, Cond.initialized RJ15, Cond.code yJ15_checkIndex_7cf53 cJ15_checkIndex_7cf53 2 (some .int), Cond.methodLink RJ15 105 yJ3_checkIndex_8e157, Cond.static yJ3_checkIndex_8e157, Cond.initialized RJ3, Cond.code yJ3_checkIndex_8e157 cJ3_checkIndex_8e157 3 (some .int), Cond.methodLink RJx4a65c 123 yJx4a65c_elementData_915e3, Cond.instanceMethod yJx4a65c_elementData_915e3, Cond.selects RJx4a65c yJx4a65c_elementData_915e3 yJx4a65c_elementData_915e3, Cond.code yJx4a65c_elementData_915e3 cJx4a65c_elementData_915e3 2 (some (.object "java/lang/Object")), Cond.fieldLink RJx4a65c 9 "java/util/ArrayList" "elementData" "[Ljava/lang/Object;"]
def wsX7_warmest : List Cond := .code yX7_warmest cX7_warmest 3 (some .int) :: ((wsX7_warmest_r1 ++ wsX7_warmest_r2) ++ wsX50 ++ wsX70 ++ wsJx4a65c0 ++ (vx_atS RX7 114 "java/util/NoSuchElementException" ["java/lang/RuntimeException", "java/lang/Exception"]).filter goodWord ++ (vx_atS RX7 318 "java/lang/IndexOutOfBoundsException" ["java/lang/RuntimeException", "java/lang/Exception"]).filter goodWord)
def wsX7_meanTemperature_r1 : List Cond := [Cond.classLink RX7 118 "java/lang/ArithmeticException", Cond.initialized "java/lang/ArithmeticException", Cond.fieldLink RX7 107 "ColdStore$Room" "ticks" "I", Cond.fieldLink RX7 121 "ColdStore$Room" "sum" "I", Cond.methodLink RX7 75 yX7_findRoom, Cond.instanceMethod yX7_findRoom, Cond.selects RX7 yX7_findRoom yX7_findRoom, Cond.initialized RX7, Cond.code yX7_findRoom cX7_findRoom 2 (some (.object "ColdStore$Room")), Cond.classLink RX7 314 "java/lang/IndexOutOfBoundsException", Cond.initialized "java/lang/IndexOutOfBoundsException", Cond.fieldLink RX7 10 "ColdStore" "rooms" "Ljava/util/ArrayList;", Cond.classLink RX7 66 "ColdStore$Room", Cond.methodLink RX7 61 yJx4a65c_size_8abf5, Cond.instanceMethod yJx4a65c_size_8abf5, Cond.selects RJx4a65c yJx4a65c_size_8abf5 yJx4a65c_size_8abf5, Cond.initialized RJx4a65c, Cond.code yJx4a65c_size_8abf5 cJx4a65c_size_8abf5 1 (some .int), Cond.fieldLink RJx4a65c 48 "java/util/ArrayList" "size" "I", Cond.methodLink RX7 234 yJx4a65c_get_915e3, Cond.instanceMethod yJx4a65c_get_915e3, Cond.selects RJx4a65c yJx4a65c_get_915e3 yJx4a65c_get_915e3, Cond.code yJx4a65c_get_915e3 cJx4a65c_get_915e3 2 (some (.object "java/lang/Object")), Cond.methodLink RJx4a65c 118 yJ15_checkIndex_7cf53]
def wsX7_meanTemperature_r2 : List Cond := [Cond.static yJ15_checkIndex_7cf53, Cond.initialized RJ15, Cond.code yJ15_checkIndex_7cf53 cJ15_checkIndex_7cf53 2 (some .int), Cond.methodLink RJ15 105 yJ3_checkIndex_8e157, Cond.static yJ3_checkIndex_8e157, Cond.initialized RJ3, Cond.code yJ3_checkIndex_8e157 cJ3_checkIndex_8e157 3 (some .int), Cond.methodLink RJx4a65c 123 yJx4a65c_elementData_915e3, Cond.instanceMethod yJx4a65c_elementData_915e3, Cond.selects RJx4a65c yJx4a65c_elementData_915e3 yJx4a65c_elementData_915e3, Cond.code yJx4a65c_elementData_915e3 cJx4a65c_elementData_915e3 2 (some (.object "java/lang/Object")), Cond.fieldLink RJx4a65c 9 "java/util/ArrayList" "elementData" "[Ljava/lang/Object;"]
def wsX7_meanTemperature : List Cond := .code yX7_meanTemperature cX7_meanTemperature 3 (some .double) :: ((wsX7_meanTemperature_r1 ++ wsX7_meanTemperature_r2) ++ wsX50 ++ wsX70 ++ wsJx4a65c0 ++ (vx_atS RX7 120 "java/lang/ArithmeticException" ["java/lang/RuntimeException", "java/lang/Exception"]).filter goodWord ++ (vx_atS RX7 318 "java/lang/IndexOutOfBoundsException" ["java/lang/RuntimeException", "java/lang/Exception"]).filter goodWord)
def wsX7_spaceIn_r1 : List Cond := [Cond.fieldLink RX7 19 "ColdStore" "pallets" "Ljava/util/ArrayList;", Cond.classLink RX7 178 "ColdStore$Pallet", Cond.fieldLink RX7 191 "ColdStore$Pallet" "stay" "LColdStore$Stay;", Cond.fieldLink RX7 195 "ColdStore$Stay" "room" "LColdStore$Room;", Cond.methodLink RX7 61 yJx4a65c_size_8abf5, Cond.instanceMethod yJx4a65c_size_8abf5, Cond.selects RJx4a65c yJx4a65c_size_8abf5 yJx4a65c_size_8abf5, Cond.initialized RJx4a65c, Cond.code yJx4a65c_size_8abf5 cJx4a65c_size_8abf5 1 (some .int), Cond.fieldLink RJx4a65c 48 "java/util/ArrayList" "size" "I", Cond.methodLink RX7 234 yJx4a65c_get_915e3, Cond.instanceMethod yJx4a65c_get_915e3, Cond.selects RJx4a65c yJx4a65c_get_915e3 yJx4a65c_get_915e3, Cond.code yJx4a65c_get_915e3 cJx4a65c_get_915e3 2 (some (.object "java/lang/Object")), Cond.methodLink RJx4a65c 118 yJ15_checkIndex_7cf53, Cond.static yJ15_checkIndex_7cf53, Cond.initialized RJ15, Cond.code yJ15_checkIndex_7cf53 cJ15_checkIndex_7cf53 2 (some .int), Cond.methodLink RJ15 105 yJ3_checkIndex_8e157, Cond.static yJ3_checkIndex_8e157, Cond.initialized RJ3, Cond.code yJ3_checkIndex_8e157 cJ3_checkIndex_8e157 3 (some .int), Cond.methodLink RJx4a65c 123 yJx4a65c_elementData_915e3, Cond.instanceMethod yJx4a65c_elementData_915e3]
def wsX7_spaceIn_r2 : List Cond := [Cond.selects RJx4a65c yJx4a65c_elementData_915e3 yJx4a65c_elementData_915e3, Cond.code yJx4a65c_elementData_915e3 cJx4a65c_elementData_915e3 2 (some (.object "java/lang/Object")), Cond.fieldLink RJx4a65c 9 "java/util/ArrayList" "elementData" "[Ljava/lang/Object;", Cond.methodLink RX7 238 yX4_isInRoom, Cond.instanceMethod yX4_isInRoom, Cond.selects RX4 yX4_isInRoom yX4_isInRoom, Cond.initialized RX4, Cond.code yX4_isInRoom cX4_isInRoom 1 (some .boolean), Cond.fieldLink RX4 9 "ColdStore$Pallet" "status" "C"]
def wsX7_spaceIn : List Cond := .code yX7_spaceIn cX7_spaceIn 5 (some .int) :: ((wsX7_spaceIn_r1 ++ wsX7_spaceIn_r2) ++ wsX70 ++ wsX40 ++ wsX60 ++ wsJx4a65c0)
def wsX7_freeSpace_r1 : List Cond := [Cond.methodLink RX7 75 yX7_findRoom, Cond.instanceMethod yX7_findRoom, Cond.selects RX7 yX7_findRoom yX7_findRoom, Cond.initialized RX7, Cond.code yX7_findRoom cX7_findRoom 2 (some (.object "ColdStore$Room")), Cond.classLink RX7 314 "java/lang/IndexOutOfBoundsException", Cond.initialized "java/lang/IndexOutOfBoundsException", Cond.fieldLink RX7 10 "ColdStore" "rooms" "Ljava/util/ArrayList;", Cond.classLink RX7 66 "ColdStore$Room", Cond.methodLink RX7 61 yJx4a65c_size_8abf5, Cond.instanceMethod yJx4a65c_size_8abf5, Cond.selects RJx4a65c yJx4a65c_size_8abf5 yJx4a65c_size_8abf5, Cond.initialized RJx4a65c, Cond.code yJx4a65c_size_8abf5 cJx4a65c_size_8abf5 1 (some .int), Cond.fieldLink RJx4a65c 48 "java/util/ArrayList" "size" "I", Cond.methodLink RX7 234 yJx4a65c_get_915e3, Cond.instanceMethod yJx4a65c_get_915e3, Cond.selects RJx4a65c yJx4a65c_get_915e3 yJx4a65c_get_915e3, Cond.code yJx4a65c_get_915e3 cJx4a65c_get_915e3 2 (some (.object "java/lang/Object")), Cond.methodLink RJx4a65c 118 yJ15_checkIndex_7cf53, Cond.static yJ15_checkIndex_7cf53, Cond.initialized RJ15, Cond.code yJ15_checkIndex_7cf53 cJ15_checkIndex_7cf53 2 (some .int), Cond.methodLink RJ15 105 yJ3_checkIndex_8e157]
def wsX7_freeSpace_r2 : List Cond := [Cond.static yJ3_checkIndex_8e157, Cond.initialized RJ3, Cond.code yJ3_checkIndex_8e157 cJ3_checkIndex_8e157 3 (some .int), Cond.methodLink RJx4a65c 123 yJx4a65c_elementData_915e3, Cond.instanceMethod yJx4a65c_elementData_915e3, Cond.selects RJx4a65c yJx4a65c_elementData_915e3 yJx4a65c_elementData_915e3, Cond.code yJx4a65c_elementData_915e3 cJx4a65c_elementData_915e3 2 (some (.object "java/lang/Object")), Cond.fieldLink RJx4a65c 9 "java/util/ArrayList" "elementData" "[Ljava/lang/Object;", Cond.methodLink RX7 124 yX7_spaceIn, Cond.instanceMethod yX7_spaceIn, Cond.selects RX7 yX7_spaceIn yX7_spaceIn, Cond.code yX7_spaceIn cX7_spaceIn 5 (some .int), Cond.fieldLink RX7 19 "ColdStore" "pallets" "Ljava/util/ArrayList;", Cond.classLink RX7 178 "ColdStore$Pallet", Cond.fieldLink RX7 191 "ColdStore$Pallet" "stay" "LColdStore$Stay;", Cond.fieldLink RX7 195 "ColdStore$Stay" "room" "LColdStore$Room;", Cond.methodLink RX7 238 yX4_isInRoom, Cond.instanceMethod yX4_isInRoom, Cond.selects RX4 yX4_isInRoom yX4_isInRoom, Cond.initialized RX4, Cond.code yX4_isInRoom cX4_isInRoom 1 (some .boolean), Cond.fieldLink RX4 9 "ColdStore$Pallet" "status" "C"]
def wsX7_freeSpace : List Cond := .code yX7_freeSpace cX7_freeSpace 2 (some .int) :: ((wsX7_freeSpace_r1 ++ wsX7_freeSpace_r2) ++ wsX70 ++ wsJx4a65c0 ++ wsX40 ++ wsX60 ++ (vx_atS RX7 318 "java/lang/IndexOutOfBoundsException" ["java/lang/RuntimeException", "java/lang/Exception"]).filter goodWord)
def wsX7_setPrices : List Cond := .code yX7_setPrices cX7_setPrices 6 (some .int) :: ([.fieldLink RX7 28 "ColdStore" "contract" "LColdStore$Contract;", .fieldLink RX7 128 "ColdStore$Contract" "normalPrice" "I", .fieldLink RX7 131 "ColdStore$Contract" "peakPrice" "I", .fieldLink RX7 134 "ColdStore$Contract" "firstPeak" "I", .fieldLink RX7 137 "ColdStore$Contract" "lastPeak" "I", .methodLink RX7 46 yX7_requireRange, .static yX7_requireRange, .initialized RX7, .code yX7_requireRange cX7_requireRange 3 none, .classLink RX7 85 "java/lang/IllegalArgumentException", .initialized "java/lang/IllegalArgumentException"] ++ wsX70 ++ wsX00 ++ (vx_atS RX7 89 "java/lang/IllegalArgumentException" ["java/lang/RuntimeException", "java/lang/Exception"]).filter goodWord)
def wsX7_setCharge : List Cond := .code yX7_setCharge cX7_setCharge 3 (some .int) :: ([.fieldLink RX7 28 "ColdStore" "contract" "LColdStore$Contract;", .fieldLink RX7 140 "ColdStore$Contract" "charge" "I", .methodLink RX7 46 yX7_requireRange, .static yX7_requireRange, .initialized RX7, .code yX7_requireRange cX7_requireRange 3 none, .classLink RX7 85 "java/lang/IllegalArgumentException", .initialized "java/lang/IllegalArgumentException"] ++ wsX70 ++ wsX00 ++ (vx_atS RX7 89 "java/lang/IllegalArgumentException" ["java/lang/RuntimeException", "java/lang/Exception"]).filter goodWord)
def wsX7_setPowerLimit : List Cond := .code yX7_setPowerLimit cX7_setPowerLimit 3 (some .int) :: ([.fieldLink RX7 28 "ColdStore" "contract" "LColdStore$Contract;", .fieldLink RX7 143 "ColdStore$Contract" "limit" "I", .methodLink RX7 46 yX7_requireRange, .static yX7_requireRange, .initialized RX7, .code yX7_requireRange cX7_requireRange 3 none, .classLink RX7 85 "java/lang/IllegalArgumentException", .initialized "java/lang/IllegalArgumentException"] ++ wsX70 ++ wsX00 ++ (vx_atS RX7 89 "java/lang/IllegalArgumentException" ["java/lang/RuntimeException", "java/lang/Exception"]).filter goodWord)
def wsX7_power : List Cond := .code yX7_power cX7_power 1 (some .int) :: ([.fieldLink RX7 35 "ColdStore" "meter" "LColdStore$Meter;", .fieldLink RX7 146 "ColdStore$Meter" "latest" "I"] ++ wsX70 ++ wsX20)
def wsX7_greatestPower : List Cond := .code yX7_greatestPower cX7_greatestPower 1 (some .int) :: ([.fieldLink RX7 35 "ColdStore" "meter" "LColdStore$Meter;", .fieldLink RX7 149 "ColdStore$Meter" "greatest" "I"] ++ wsX70 ++ wsX20)
def wsX7_bill : List Cond := .code yX7_bill cX7_bill 1 (some .long) :: ([.fieldLink RX7 35 "ColdStore" "meter" "LColdStore$Meter;", .fieldLink RX7 150 "ColdStore$Meter" "costs" "J", .fieldLink RX7 149 "ColdStore$Meter" "greatest" "I", .fieldLink RX7 28 "ColdStore" "contract" "LColdStore$Contract;", .fieldLink RX7 140 "ColdStore$Contract" "charge" "I"] ++ wsX70 ++ wsX20 ++ wsX00)
def wsX7_billByRecords : List Cond := .code yX7_billByRecords cX7_billByRecords 1 (some .long) :: ([.fieldLink RX7 35 "ColdStore" "meter" "LColdStore$Meter;", .fieldLink RX7 39 "ColdStore" "time" "I", .fieldLink RX7 28 "ColdStore" "contract" "LColdStore$Contract;", .fieldLink RX7 140 "ColdStore$Contract" "charge" "I", .methodLink RX7 154 yX2_recordedCosts, .instanceMethod yX2_recordedCosts, .selects RX2 yX2_recordedCosts yX2_recordedCosts, .initialized RX2, .code yX2_recordedCosts cX2_recordedCosts 5 (some .long), .fieldLink RX2 9 "ColdStore$Meter" "powers" "[I", .fieldLink RX2 15 "ColdStore$Meter" "prices" "[I", .methodLink RX7 158 yX2_recordedGreatest, .instanceMethod yX2_recordedGreatest, .selects RX2 yX2_recordedGreatest yX2_recordedGreatest, .code yX2_recordedGreatest cX2_recordedGreatest 4 (some .int), .methodLink RX2 29 Lib.Math.max.name, .static Lib.Math.max.name, .initialized "java/lang/Math", .code Lib.Math.max.name Lib.Math.max.code 2 (some .int)] ++ wsX70 ++ wsX00 ++ wsX20 ++ (vx_atM "java/lang/ArrayIndexOutOfBoundsException" ["java/lang/IndexOutOfBoundsException", "java/lang/RuntimeException", "java/lang/Exception"]).filter goodWord)
def wsX7_addKind_r1 : List Cond := [Cond.classLink RX7 50 "java/lang/IllegalStateException", Cond.initialized "java/lang/IllegalStateException", Cond.fieldLink RX7 16 "ColdStore" "kinds" "Ljava/util/ArrayList;", Cond.classLink RX7 164 RX1, Cond.instantiable RX1 3, Cond.initialized RX1, Cond.methodLink RX7 46 yX7_requireRange, Cond.static yX7_requireRange, Cond.initialized RX7, Cond.code yX7_requireRange cX7_requireRange 3 none, Cond.classLink RX7 85 "java/lang/IllegalArgumentException", Cond.initialized "java/lang/IllegalArgumentException", Cond.methodLink RX7 61 yJx4a65c_size_8abf5, Cond.instanceMethod yJx4a65c_size_8abf5, Cond.selects RJx4a65c yJx4a65c_size_8abf5 yJx4a65c_size_8abf5, Cond.initialized RJx4a65c, Cond.code yJx4a65c_size_8abf5 cJx4a65c_size_8abf5 1 (some .int), Cond.fieldLink RJx4a65c 48 "java/util/ArrayList" "size" "I", Cond.methodLink RX7 166 yX1_init, Cond.instanceMethod yX1_init, Cond.code yX1_init cX1_init 4 none, Cond.methodLink RX1 1 objectInit, Cond.instanceMethod objectInit, Cond.code objectInit ⟨#[0xb1]⟩ 1 none]
def wsX7_addKind_r2 : List Cond := [Cond.fieldLink RX1 7 "ColdStore$Kind" "fullLife" "I", Cond.fieldLink RX1 13 "ColdStore$Kind" "best" "I", Cond.fieldLink RX1 16 "ColdStore$Kind" "lowest" "I", Cond.methodLink RX7 71 yJx4a65c_add_9ea2d, Cond.instanceMethod yJx4a65c_add_9ea2d, Cond.selects RJx4a65c yJx4a65c_add_9ea2d yJx4a65c_add_9ea2d, Cond.code yJx4a65c_add_9ea2d cJx4a65c_add_9ea2d 2 (some .boolean), Cond.fieldLink RJx4a65c 63 "java/util/ArrayList" "modCount" "I", Cond.sameField "java/util/ArrayList" "java/util/AbstractList" "modCount" "I", Cond.fieldLink RJx4a65c 9 "java/util/ArrayList" "elementData" "[Ljava/lang/Object;", Cond.methodLink RJx4a65c 131 yJx4a65c_add_72be8, Cond.instanceMethod yJx4a65c_add_72be8, Cond.selects RJx4a65c yJx4a65c_add_72be8 yJx4a65c_add_72be8, Cond.code yJx4a65c_add_72be8 cJx4a65c_add_72be8 4 none, Cond.methodLink RJx4a65c 129 yJx4a65c_grow_d5877, Cond.instanceMethod yJx4a65c_grow_d5877, Cond.selects RJx4a65c yJx4a65c_grow_d5877 yJx4a65c_grow_d5877, Cond.code yJx4a65c_grow_d5877 cJx4a65c_grow_d5877 1 (some (.array (.object "java/lang/Object"))), Cond.methodLink RJx4a65c 69 yJx4a65c_grow_92f84, Cond.instanceMethod yJx4a65c_grow_92f84, Cond.selects RJx4a65c yJx4a65c_grow_92f84 yJx4a65c_grow_92f84, Cond.code yJx4a65c_grow_92f84 cJx4a65c_grow_92f84 4 (some (.array (.object "java/lang/Object"))), Cond.fieldLink RJx4a65c 39 "java/util/ArrayList" "DEFAULTCAPACITY_EMPTY_ELEMENTDATA" "[Ljava/lang/Object;", Cond.methodLink RJx4a65c 79 Lib.Math.max.name]
def wsX7_addKind_r3 : List Cond := [Cond.static Lib.Math.max.name, Cond.initialized "java/lang/Math", Cond.code Lib.Math.max.name Lib.Math.max.code 2 (some .int), Cond.classLink RJx4a65c 7 "java/lang/Object", Cond.methodLink RJx4a65c 73 yJ8_newLength_cabcc, Cond.static yJ8_newLength_cabcc, Cond.initialized RJ8, Cond.code yJ8_newLength_cabcc cJ8_newLength_cabcc 4 (some .int), Cond.methodLink RJ8 194 Lib.Math.max.name, Cond.constant RJ8 200 (2147483639), Cond.methodLink RJ8 201 yJ8_hugeLength_7cf53, Cond.static yJ8_hugeLength_7cf53, Cond.code yJ8_hugeLength_7cf53 cJ8_hugeLength_7cf53 3 (some .int), Cond.methodLink RJx4a65c 66 yJ7_copyOf_1904c, Cond.static yJ7_copyOf_1904c, Cond.initialized RJ7, Cond.code yJ7_copyOf_1904c cJ7_copyOf_1904c 2 (some (.array (.object "java/lang/Object"))), Cond.methodLink RJ7 86 ⟨"java/lang/Object", "getClass", "()Ljava/lang/Class;"⟩, Cond.selects "[Ljava/lang/Object;" ⟨"java/lang/Object", "getClass", "()Ljava/lang/Class;"⟩ ⟨"java/lang/Object", "getClass", "()Ljava/lang/Class;"⟩, Cond.instanceMethod ⟨"java/lang/Object", "getClass", "()Ljava/lang/Class;"⟩, Cond.native ⟨"java/lang/Object", "getClass", "()Ljava/lang/Class;"⟩, Cond.methodLink RJ7 300 yJ7_copyOf_6403c, Cond.static yJ7_copyOf_6403c, Cond.code yJ7_copyOf_6403c cJ7_copyOf_6403c 4 (some (.array (.object "java/lang/Object")))]
def wsX7_addKind_r4 : List Cond := [Cond.classLink RJ7 110 "[Ljava/lang/Object;", Cond.classLink RJ7 2 "java/lang/Object", Cond.methodLink RJ7 304 Lib.Math.min.name, Cond.static Lib.Math.min.name, Cond.code Lib.Math.min.name Lib.Math.min.code 2 (some .int), Cond.methodLink RJ7 150 arraycopyName, Cond.native arraycopyName, Cond.static arraycopyName, Cond.initialized "java/lang/System"]
def wsX7_addKind : List Cond := .code yX7_addKind cX7_addKind 4 (some .int) :: ((wsX7_addKind_r1 ++ (wsX7_addKind_r2 ++ (wsX7_addKind_r3 ++ wsX7_addKind_r4))) ++ wsX70 ++ wsX10 ++ wsJx4a65c0 ++ (vx_atS RX7 54 "java/lang/IllegalStateException" ["java/lang/RuntimeException", "java/lang/Exception"]).filter goodWord ++ (vx_atS RX7 89 "java/lang/IllegalArgumentException" ["java/lang/RuntimeException", "java/lang/Exception"]).filter goodWord)
def wsX7_findKind_r1 : List Cond := [Cond.classLink RX7 314 "java/lang/IndexOutOfBoundsException", Cond.initialized "java/lang/IndexOutOfBoundsException", Cond.fieldLink RX7 16 "ColdStore" "kinds" "Ljava/util/ArrayList;", Cond.classLink RX7 164 "ColdStore$Kind", Cond.methodLink RX7 61 yJx4a65c_size_8abf5, Cond.instanceMethod yJx4a65c_size_8abf5, Cond.selects RJx4a65c yJx4a65c_size_8abf5 yJx4a65c_size_8abf5, Cond.initialized RJx4a65c, Cond.code yJx4a65c_size_8abf5 cJx4a65c_size_8abf5 1 (some .int), Cond.fieldLink RJx4a65c 48 "java/util/ArrayList" "size" "I", Cond.methodLink RX7 234 yJx4a65c_get_915e3, Cond.instanceMethod yJx4a65c_get_915e3, Cond.selects RJx4a65c yJx4a65c_get_915e3 yJx4a65c_get_915e3, Cond.code yJx4a65c_get_915e3 cJx4a65c_get_915e3 2 (some (.object "java/lang/Object")), Cond.methodLink RJx4a65c 118 yJ15_checkIndex_7cf53, Cond.static yJ15_checkIndex_7cf53, Cond.initialized RJ15, Cond.code yJ15_checkIndex_7cf53 cJ15_checkIndex_7cf53 2 (some .int), Cond.methodLink RJ15 105 yJ3_checkIndex_8e157, Cond.static yJ3_checkIndex_8e157, Cond.initialized RJ3, Cond.code yJ3_checkIndex_8e157 cJ3_checkIndex_8e157 3 (some .int), Cond.methodLink RJx4a65c 123 yJx4a65c_elementData_915e3, Cond.instanceMethod yJx4a65c_elementData_915e3]
def wsX7_findKind_r2 : List Cond := [Cond.selects RJx4a65c yJx4a65c_elementData_915e3 yJx4a65c_elementData_915e3, Cond.code yJx4a65c_elementData_915e3 cJx4a65c_elementData_915e3 2 (some (.object "java/lang/Object")), Cond.fieldLink RJx4a65c 9 "java/util/ArrayList" "elementData" "[Ljava/lang/Object;"]
def wsX7_findKind : List Cond := .code yX7_findKind cX7_findKind 2 (some (.object "ColdStore$Kind")) :: ((wsX7_findKind_r1 ++ wsX7_findKind_r2) ++ wsX70 ++ wsJx4a65c0 ++ (vx_atS RX7 318 "java/lang/IndexOutOfBoundsException" ["java/lang/RuntimeException", "java/lang/Exception"]).filter goodWord)
def wsX7_requireSpace_r1 : List Cond := [Cond.classLink RX7 50 "java/lang/IllegalStateException", Cond.initialized "java/lang/IllegalStateException", Cond.methodLink RX7 124 yX7_spaceIn, Cond.instanceMethod yX7_spaceIn, Cond.selects RX7 yX7_spaceIn yX7_spaceIn, Cond.initialized RX7, Cond.code yX7_spaceIn cX7_spaceIn 5 (some .int), Cond.fieldLink RX7 19 "ColdStore" "pallets" "Ljava/util/ArrayList;", Cond.classLink RX7 178 "ColdStore$Pallet", Cond.fieldLink RX7 191 "ColdStore$Pallet" "stay" "LColdStore$Stay;", Cond.fieldLink RX7 195 "ColdStore$Stay" "room" "LColdStore$Room;", Cond.methodLink RX7 61 yJx4a65c_size_8abf5, Cond.instanceMethod yJx4a65c_size_8abf5, Cond.selects RJx4a65c yJx4a65c_size_8abf5 yJx4a65c_size_8abf5, Cond.initialized RJx4a65c, Cond.code yJx4a65c_size_8abf5 cJx4a65c_size_8abf5 1 (some .int), Cond.fieldLink RJx4a65c 48 "java/util/ArrayList" "size" "I", Cond.methodLink RX7 234 yJx4a65c_get_915e3, Cond.instanceMethod yJx4a65c_get_915e3, Cond.selects RJx4a65c yJx4a65c_get_915e3 yJx4a65c_get_915e3, Cond.code yJx4a65c_get_915e3 cJx4a65c_get_915e3 2 (some (.object "java/lang/Object")), Cond.methodLink RJx4a65c 118 yJ15_checkIndex_7cf53, Cond.static yJ15_checkIndex_7cf53, Cond.initialized RJ15]
def wsX7_requireSpace_r2 : List Cond := [Cond.code yJ15_checkIndex_7cf53 cJ15_checkIndex_7cf53 2 (some .int), Cond.methodLink RJ15 105 yJ3_checkIndex_8e157, Cond.static yJ3_checkIndex_8e157, Cond.initialized RJ3, Cond.code yJ3_checkIndex_8e157 cJ3_checkIndex_8e157 3 (some .int), Cond.methodLink RJx4a65c 123 yJx4a65c_elementData_915e3, Cond.instanceMethod yJx4a65c_elementData_915e3, Cond.selects RJx4a65c yJx4a65c_elementData_915e3 yJx4a65c_elementData_915e3, Cond.code yJx4a65c_elementData_915e3 cJx4a65c_elementData_915e3 2 (some (.object "java/lang/Object")), Cond.fieldLink RJx4a65c 9 "java/util/ArrayList" "elementData" "[Ljava/lang/Object;", Cond.methodLink RX7 238 yX4_isInRoom, Cond.instanceMethod yX4_isInRoom, Cond.selects RX4 yX4_isInRoom yX4_isInRoom, Cond.initialized RX4, Cond.code yX4_isInRoom cX4_isInRoom 1 (some .boolean), Cond.fieldLink RX4 9 "ColdStore$Pallet" "status" "C"]
def wsX7_requireSpace : List Cond := .code yX7_requireSpace cX7_requireSpace 2 none :: ((wsX7_requireSpace_r1 ++ wsX7_requireSpace_r2) ++ wsX70 ++ wsX40 ++ wsX60 ++ wsJx4a65c0 ++ (vx_atS RX7 54 "java/lang/IllegalStateException" ["java/lang/RuntimeException", "java/lang/Exception"]).filter goodWord)
def wsX7_addPallet_r1 : List Cond := [Cond.classLink RX7 50 "java/lang/IllegalStateException", Cond.initialized "java/lang/IllegalStateException", Cond.fieldLink RX7 19 "ColdStore" "pallets" "Ljava/util/ArrayList;", Cond.classLink RX7 178 RX4, Cond.instantiable RX4 6, Cond.initialized RX4, Cond.fieldLink RX7 39 "ColdStore" "time" "I", Cond.methodLink RX7 168 yX7_findKind, Cond.instanceMethod yX7_findKind, Cond.selects RX7 yX7_findKind yX7_findKind, Cond.initialized RX7, Cond.code yX7_findKind cX7_findKind 2 (some (.object "ColdStore$Kind")), Cond.classLink RX7 314 "java/lang/IndexOutOfBoundsException", Cond.initialized "java/lang/IndexOutOfBoundsException", Cond.fieldLink RX7 16 "ColdStore" "kinds" "Ljava/util/ArrayList;", Cond.classLink RX7 164 "ColdStore$Kind", Cond.methodLink RX7 61 yJx4a65c_size_8abf5, Cond.instanceMethod yJx4a65c_size_8abf5, Cond.selects RJx4a65c yJx4a65c_size_8abf5 yJx4a65c_size_8abf5, Cond.initialized RJx4a65c, Cond.code yJx4a65c_size_8abf5 cJx4a65c_size_8abf5 1 (some .int), Cond.fieldLink RJx4a65c 48 "java/util/ArrayList" "size" "I", Cond.methodLink RX7 234 yJx4a65c_get_915e3, Cond.instanceMethod yJx4a65c_get_915e3]
def wsX7_addPallet_r2 : List Cond := [Cond.selects RJx4a65c yJx4a65c_get_915e3 yJx4a65c_get_915e3, Cond.code yJx4a65c_get_915e3 cJx4a65c_get_915e3 2 (some (.object "java/lang/Object")), Cond.methodLink RJx4a65c 118 yJ15_checkIndex_7cf53, Cond.static yJ15_checkIndex_7cf53, Cond.initialized RJ15, Cond.code yJ15_checkIndex_7cf53 cJ15_checkIndex_7cf53 2 (some .int), Cond.methodLink RJ15 105 yJ3_checkIndex_8e157, Cond.static yJ3_checkIndex_8e157, Cond.initialized RJ3, Cond.code yJ3_checkIndex_8e157 cJ3_checkIndex_8e157 3 (some .int), Cond.methodLink RJx4a65c 123 yJx4a65c_elementData_915e3, Cond.instanceMethod yJx4a65c_elementData_915e3, Cond.selects RJx4a65c yJx4a65c_elementData_915e3 yJx4a65c_elementData_915e3, Cond.code yJx4a65c_elementData_915e3 cJx4a65c_elementData_915e3 2 (some (.object "java/lang/Object")), Cond.fieldLink RJx4a65c 9 "java/util/ArrayList" "elementData" "[Ljava/lang/Object;", Cond.methodLink RX7 75 yX7_findRoom, Cond.instanceMethod yX7_findRoom, Cond.selects RX7 yX7_findRoom yX7_findRoom, Cond.code yX7_findRoom cX7_findRoom 2 (some (.object "ColdStore$Room")), Cond.fieldLink RX7 10 "ColdStore" "rooms" "Ljava/util/ArrayList;", Cond.classLink RX7 66 "ColdStore$Room", Cond.methodLink RX7 174 yX7_requireSpace, Cond.instanceMethod yX7_requireSpace, Cond.selects RX7 yX7_requireSpace yX7_requireSpace]
def wsX7_addPallet_r3 : List Cond := [Cond.code yX7_requireSpace cX7_requireSpace 2 none, Cond.methodLink RX7 124 yX7_spaceIn, Cond.instanceMethod yX7_spaceIn, Cond.selects RX7 yX7_spaceIn yX7_spaceIn, Cond.code yX7_spaceIn cX7_spaceIn 5 (some .int), Cond.classLink RX7 178 "ColdStore$Pallet", Cond.fieldLink RX7 191 "ColdStore$Pallet" "stay" "LColdStore$Stay;", Cond.fieldLink RX7 195 "ColdStore$Stay" "room" "LColdStore$Room;", Cond.methodLink RX7 238 yX4_isInRoom, Cond.instanceMethod yX4_isInRoom, Cond.selects RX4 yX4_isInRoom yX4_isInRoom, Cond.code yX4_isInRoom cX4_isInRoom 1 (some .boolean), Cond.fieldLink RX4 9 "ColdStore$Pallet" "status" "C", Cond.methodLink RX7 180 yX4_init, Cond.instanceMethod yX4_init, Cond.code yX4_init cX4_init 5 none, Cond.methodLink RX4 3 objectInit, Cond.instanceMethod objectInit, Cond.code objectInit ⟨#[0xb1]⟩ 1 none, Cond.fieldLink RX4 15 "ColdStore$Pallet" "leftAt" "I", Cond.fieldLink RX4 19 "ColdStore$Pallet" "number" "I", Cond.fieldLink RX4 22 "ColdStore$Pallet" "kind" "LColdStore$Kind;", Cond.classLink RX4 26 RX6, Cond.instantiable RX6 3]
def wsX7_addPallet_r4 : List Cond := [Cond.initialized RX6, Cond.fieldLink RX4 31 "ColdStore$Pallet" "stay" "LColdStore$Stay;", Cond.fieldLink RX4 35 "ColdStore$Kind" "fullLife" "I", Cond.fieldLink RX4 40 "ColdStore$Pallet" "lifeLeft" "I", Cond.methodLink RX4 28 yX6_init, Cond.instanceMethod yX6_init, Cond.code yX6_init cX6_init 4 none, Cond.methodLink RX6 1 objectInit, Cond.fieldLink RX6 7 "ColdStore$Stay" "room" "LColdStore$Room;", Cond.fieldLink RX6 13 "ColdStore$Stay" "since" "I", Cond.fieldLink RX6 17 "ColdStore$Stay" "earlier" "LColdStore$Stay;", Cond.methodLink RX7 71 yJx4a65c_add_9ea2d, Cond.instanceMethod yJx4a65c_add_9ea2d, Cond.selects RJx4a65c yJx4a65c_add_9ea2d yJx4a65c_add_9ea2d, Cond.code yJx4a65c_add_9ea2d cJx4a65c_add_9ea2d 2 (some .boolean), Cond.fieldLink RJx4a65c 63 "java/util/ArrayList" "modCount" "I", Cond.sameField "java/util/ArrayList" "java/util/AbstractList" "modCount" "I", Cond.methodLink RJx4a65c 131 yJx4a65c_add_72be8, Cond.instanceMethod yJx4a65c_add_72be8, Cond.selects RJx4a65c yJx4a65c_add_72be8 yJx4a65c_add_72be8, Cond.code yJx4a65c_add_72be8 cJx4a65c_add_72be8 4 none, Cond.methodLink RJx4a65c 129 yJx4a65c_grow_d5877, Cond.instanceMethod yJx4a65c_grow_d5877, Cond.selects RJx4a65c yJx4a65c_grow_d5877 yJx4a65c_grow_d5877]
def wsX7_addPallet_r5 : List Cond := [Cond.code yJx4a65c_grow_d5877 cJx4a65c_grow_d5877 1 (some (.array (.object "java/lang/Object"))), Cond.methodLink RJx4a65c 69 yJx4a65c_grow_92f84, Cond.instanceMethod yJx4a65c_grow_92f84, Cond.selects RJx4a65c yJx4a65c_grow_92f84 yJx4a65c_grow_92f84, Cond.code yJx4a65c_grow_92f84 cJx4a65c_grow_92f84 4 (some (.array (.object "java/lang/Object"))), Cond.fieldLink RJx4a65c 39 "java/util/ArrayList" "DEFAULTCAPACITY_EMPTY_ELEMENTDATA" "[Ljava/lang/Object;", Cond.methodLink RJx4a65c 79 Lib.Math.max.name, Cond.static Lib.Math.max.name, Cond.initialized "java/lang/Math", Cond.code Lib.Math.max.name Lib.Math.max.code 2 (some .int), Cond.classLink RJx4a65c 7 "java/lang/Object", Cond.methodLink RJx4a65c 73 yJ8_newLength_cabcc, Cond.static yJ8_newLength_cabcc, Cond.initialized RJ8, Cond.code yJ8_newLength_cabcc cJ8_newLength_cabcc 4 (some .int), Cond.methodLink RJ8 194 Lib.Math.max.name, Cond.constant RJ8 200 (2147483639), Cond.methodLink RJ8 201 yJ8_hugeLength_7cf53, Cond.static yJ8_hugeLength_7cf53, Cond.code yJ8_hugeLength_7cf53 cJ8_hugeLength_7cf53 3 (some .int), Cond.methodLink RJx4a65c 66 yJ7_copyOf_1904c, Cond.static yJ7_copyOf_1904c, Cond.initialized RJ7, Cond.code yJ7_copyOf_1904c cJ7_copyOf_1904c 2 (some (.array (.object "java/lang/Object")))]
def wsX7_addPallet_r6 : List Cond := [Cond.methodLink RJ7 86 ⟨"java/lang/Object", "getClass", "()Ljava/lang/Class;"⟩, Cond.selects "[Ljava/lang/Object;" ⟨"java/lang/Object", "getClass", "()Ljava/lang/Class;"⟩ ⟨"java/lang/Object", "getClass", "()Ljava/lang/Class;"⟩, Cond.instanceMethod ⟨"java/lang/Object", "getClass", "()Ljava/lang/Class;"⟩, Cond.native ⟨"java/lang/Object", "getClass", "()Ljava/lang/Class;"⟩, Cond.methodLink RJ7 300 yJ7_copyOf_6403c, Cond.static yJ7_copyOf_6403c, Cond.code yJ7_copyOf_6403c cJ7_copyOf_6403c 4 (some (.array (.object "java/lang/Object"))), Cond.classLink RJ7 110 "[Ljava/lang/Object;", Cond.classLink RJ7 2 "java/lang/Object", Cond.methodLink RJ7 304 Lib.Math.min.name, Cond.static Lib.Math.min.name, Cond.code Lib.Math.min.name Lib.Math.min.code 2 (some .int), Cond.methodLink RJ7 150 arraycopyName, Cond.native arraycopyName, Cond.static arraycopyName, Cond.initialized "java/lang/System"]
def wsX7_addPallet : List Cond := .code yX7_addPallet cX7_addPallet 6 (some .int) :: ((wsX7_addPallet_r1 ++ (wsX7_addPallet_r2 ++ (wsX7_addPallet_r3 ++ (wsX7_addPallet_r4 ++ (wsX7_addPallet_r5 ++ wsX7_addPallet_r6))))) ++ wsX70 ++ wsX40 ++ wsJx4a65c0 ++ wsX60 ++ wsX10 ++ (vx_atS RX7 54 "java/lang/IllegalStateException" ["java/lang/RuntimeException", "java/lang/Exception"]).filter goodWord ++ (vx_atS RX7 318 "java/lang/IndexOutOfBoundsException" ["java/lang/RuntimeException", "java/lang/Exception"]).filter goodWord)
def wsX7_findPallet_r1 : List Cond := [Cond.classLink RX7 314 "java/lang/IndexOutOfBoundsException", Cond.initialized "java/lang/IndexOutOfBoundsException", Cond.fieldLink RX7 19 "ColdStore" "pallets" "Ljava/util/ArrayList;", Cond.classLink RX7 178 "ColdStore$Pallet", Cond.methodLink RX7 61 yJx4a65c_size_8abf5, Cond.instanceMethod yJx4a65c_size_8abf5, Cond.selects RJx4a65c yJx4a65c_size_8abf5 yJx4a65c_size_8abf5, Cond.initialized RJx4a65c, Cond.code yJx4a65c_size_8abf5 cJx4a65c_size_8abf5 1 (some .int), Cond.fieldLink RJx4a65c 48 "java/util/ArrayList" "size" "I", Cond.methodLink RX7 234 yJx4a65c_get_915e3, Cond.instanceMethod yJx4a65c_get_915e3, Cond.selects RJx4a65c yJx4a65c_get_915e3 yJx4a65c_get_915e3, Cond.code yJx4a65c_get_915e3 cJx4a65c_get_915e3 2 (some (.object "java/lang/Object")), Cond.methodLink RJx4a65c 118 yJ15_checkIndex_7cf53, Cond.static yJ15_checkIndex_7cf53, Cond.initialized RJ15, Cond.code yJ15_checkIndex_7cf53 cJ15_checkIndex_7cf53 2 (some .int), Cond.methodLink RJ15 105 yJ3_checkIndex_8e157, Cond.static yJ3_checkIndex_8e157, Cond.initialized RJ3, Cond.code yJ3_checkIndex_8e157 cJ3_checkIndex_8e157 3 (some .int), Cond.methodLink RJx4a65c 123 yJx4a65c_elementData_915e3, Cond.instanceMethod yJx4a65c_elementData_915e3]
def wsX7_findPallet_r2 : List Cond := [Cond.selects RJx4a65c yJx4a65c_elementData_915e3 yJx4a65c_elementData_915e3, Cond.code yJx4a65c_elementData_915e3 cJx4a65c_elementData_915e3 2 (some (.object "java/lang/Object")), Cond.fieldLink RJx4a65c 9 "java/util/ArrayList" "elementData" "[Ljava/lang/Object;"]
def wsX7_findPallet : List Cond := .code yX7_findPallet cX7_findPallet 2 (some (.object "ColdStore$Pallet")) :: ((wsX7_findPallet_r1 ++ wsX7_findPallet_r2) ++ wsX70 ++ wsJx4a65c0 ++ (vx_atS RX7 318 "java/lang/IndexOutOfBoundsException" ["java/lang/RuntimeException", "java/lang/Exception"]).filter goodWord)
def wsX7_requireInRoom : List Cond := .code yX7_requireInRoom cX7_requireInRoom 1 none :: ([.classLink RX7 110 "java/util/NoSuchElementException", .initialized "java/util/NoSuchElementException", .methodLink RX7 238 yX4_isInRoom, .instanceMethod yX4_isInRoom, .selects RX4 yX4_isInRoom yX4_isInRoom, .initialized RX4, .code yX4_isInRoom cX4_isInRoom 1 (some .boolean), .fieldLink RX4 9 "ColdStore$Pallet" "status" "C"] ++ wsX40 ++ (vx_atS RX7 114 "java/util/NoSuchElementException" ["java/lang/RuntimeException", "java/lang/Exception"]).filter goodWord)
def wsX7_movePallet_r1 : List Cond := [Cond.fieldLink RX7 191 "ColdStore$Pallet" "stay" "LColdStore$Stay;", Cond.fieldLink RX7 195 "ColdStore$Stay" "room" "LColdStore$Room;", Cond.fieldLink RX7 39 "ColdStore" "time" "I", Cond.fieldLink RX7 205 "ColdStore$Room" "number" "I", Cond.methodLink RX7 183 yX7_findPallet, Cond.instanceMethod yX7_findPallet, Cond.selects RX7 yX7_findPallet yX7_findPallet, Cond.initialized RX7, Cond.code yX7_findPallet cX7_findPallet 2 (some (.object "ColdStore$Pallet")), Cond.classLink RX7 314 "java/lang/IndexOutOfBoundsException", Cond.initialized "java/lang/IndexOutOfBoundsException", Cond.fieldLink RX7 19 "ColdStore" "pallets" "Ljava/util/ArrayList;", Cond.classLink RX7 178 "ColdStore$Pallet", Cond.methodLink RX7 61 yJx4a65c_size_8abf5, Cond.instanceMethod yJx4a65c_size_8abf5, Cond.selects RJx4a65c yJx4a65c_size_8abf5 yJx4a65c_size_8abf5, Cond.initialized RJx4a65c, Cond.code yJx4a65c_size_8abf5 cJx4a65c_size_8abf5 1 (some .int), Cond.fieldLink RJx4a65c 48 "java/util/ArrayList" "size" "I", Cond.methodLink RX7 234 yJx4a65c_get_915e3, Cond.instanceMethod yJx4a65c_get_915e3, Cond.selects RJx4a65c yJx4a65c_get_915e3 yJx4a65c_get_915e3, Cond.code yJx4a65c_get_915e3 cJx4a65c_get_915e3 2 (some (.object "java/lang/Object")), Cond.methodLink RJx4a65c 118 yJ15_checkIndex_7cf53]
def wsX7_movePallet_r2 : List Cond := [Cond.static yJ15_checkIndex_7cf53, Cond.initialized RJ15, Cond.code yJ15_checkIndex_7cf53 cJ15_checkIndex_7cf53 2 (some .int), Cond.methodLink RJ15 105 yJ3_checkIndex_8e157, Cond.static yJ3_checkIndex_8e157, Cond.initialized RJ3, Cond.code yJ3_checkIndex_8e157 cJ3_checkIndex_8e157 3 (some .int), Cond.methodLink RJx4a65c 123 yJx4a65c_elementData_915e3, Cond.instanceMethod yJx4a65c_elementData_915e3, Cond.selects RJx4a65c yJx4a65c_elementData_915e3 yJx4a65c_elementData_915e3, Cond.code yJx4a65c_elementData_915e3 cJx4a65c_elementData_915e3 2 (some (.object "java/lang/Object")), Cond.fieldLink RJx4a65c 9 "java/util/ArrayList" "elementData" "[Ljava/lang/Object;", Cond.methodLink RX7 75 yX7_findRoom, Cond.instanceMethod yX7_findRoom, Cond.selects RX7 yX7_findRoom yX7_findRoom, Cond.code yX7_findRoom cX7_findRoom 2 (some (.object "ColdStore$Room")), Cond.fieldLink RX7 10 "ColdStore" "rooms" "Ljava/util/ArrayList;", Cond.classLink RX7 66 "ColdStore$Room", Cond.methodLink RX7 187 yX7_requireInRoom, Cond.static yX7_requireInRoom, Cond.code yX7_requireInRoom cX7_requireInRoom 1 none, Cond.classLink RX7 110 "java/util/NoSuchElementException", Cond.initialized "java/util/NoSuchElementException", Cond.methodLink RX7 238 yX4_isInRoom]
def wsX7_movePallet_r3 : List Cond := [Cond.instanceMethod yX4_isInRoom, Cond.selects RX4 yX4_isInRoom yX4_isInRoom, Cond.initialized RX4, Cond.code yX4_isInRoom cX4_isInRoom 1 (some .boolean), Cond.fieldLink RX4 9 "ColdStore$Pallet" "status" "C", Cond.methodLink RX7 174 yX7_requireSpace, Cond.instanceMethod yX7_requireSpace, Cond.selects RX7 yX7_requireSpace yX7_requireSpace, Cond.code yX7_requireSpace cX7_requireSpace 2 none, Cond.classLink RX7 50 "java/lang/IllegalStateException", Cond.initialized "java/lang/IllegalStateException", Cond.methodLink RX7 124 yX7_spaceIn, Cond.instanceMethod yX7_spaceIn, Cond.selects RX7 yX7_spaceIn yX7_spaceIn, Cond.code yX7_spaceIn cX7_spaceIn 5 (some .int), Cond.methodLink RX7 201 yX4_enter, Cond.instanceMethod yX4_enter, Cond.selects RX4 yX4_enter yX4_enter, Cond.code yX4_enter cX4_enter 4 none, Cond.fieldLink RX4 31 "ColdStore$Pallet" "stay" "LColdStore$Stay;", Cond.fieldLink RX4 43 "ColdStore$Stay" "since" "I", Cond.fieldLink RX4 46 "ColdStore$Stay" "earlier" "LColdStore$Stay;", Cond.classLink RX4 26 RX6, Cond.instantiable RX6 3]
def wsX7_movePallet_r4 : List Cond := [Cond.initialized RX6, Cond.methodLink RX4 28 yX6_init, Cond.instanceMethod yX6_init, Cond.code yX6_init cX6_init 4 none, Cond.methodLink RX6 1 objectInit, Cond.instanceMethod objectInit, Cond.code objectInit ⟨#[0xb1]⟩ 1 none, Cond.fieldLink RX6 7 "ColdStore$Stay" "room" "LColdStore$Room;", Cond.fieldLink RX6 13 "ColdStore$Stay" "since" "I", Cond.fieldLink RX6 17 "ColdStore$Stay" "earlier" "LColdStore$Stay;"]
def wsX7_movePallet : List Cond := .code yX7_movePallet cX7_movePallet 6 (some .int) :: ((wsX7_movePallet_r1 ++ (wsX7_movePallet_r2 ++ (wsX7_movePallet_r3 ++ wsX7_movePallet_r4))) ++ wsX40 ++ wsX60 ++ wsX70 ++ wsX50 ++ wsJx4a65c0 ++ (vx_atS RX7 318 "java/lang/IndexOutOfBoundsException" ["java/lang/RuntimeException", "java/lang/Exception"]).filter goodWord ++ (vx_atS RX7 114 "java/util/NoSuchElementException" ["java/lang/RuntimeException", "java/lang/Exception"]).filter goodWord ++ (vx_atS RX7 54 "java/lang/IllegalStateException" ["java/lang/RuntimeException", "java/lang/Exception"]).filter goodWord)
def wsX7_scrap_r1 : List Cond := [Cond.fieldLink RX7 39 "ColdStore" "time" "I", Cond.fieldLink RX7 212 "ColdStore$Pallet" "lifeLeft" "I", Cond.methodLink RX7 183 yX7_findPallet, Cond.instanceMethod yX7_findPallet, Cond.selects RX7 yX7_findPallet yX7_findPallet, Cond.initialized RX7, Cond.code yX7_findPallet cX7_findPallet 2 (some (.object "ColdStore$Pallet")), Cond.classLink RX7 314 "java/lang/IndexOutOfBoundsException", Cond.initialized "java/lang/IndexOutOfBoundsException", Cond.fieldLink RX7 19 "ColdStore" "pallets" "Ljava/util/ArrayList;", Cond.classLink RX7 178 "ColdStore$Pallet", Cond.methodLink RX7 61 yJx4a65c_size_8abf5, Cond.instanceMethod yJx4a65c_size_8abf5, Cond.selects RJx4a65c yJx4a65c_size_8abf5 yJx4a65c_size_8abf5, Cond.initialized RJx4a65c, Cond.code yJx4a65c_size_8abf5 cJx4a65c_size_8abf5 1 (some .int), Cond.fieldLink RJx4a65c 48 "java/util/ArrayList" "size" "I", Cond.methodLink RX7 234 yJx4a65c_get_915e3, Cond.instanceMethod yJx4a65c_get_915e3, Cond.selects RJx4a65c yJx4a65c_get_915e3 yJx4a65c_get_915e3, Cond.code yJx4a65c_get_915e3 cJx4a65c_get_915e3 2 (some (.object "java/lang/Object")), Cond.methodLink RJx4a65c 118 yJ15_checkIndex_7cf53, Cond.static yJ15_checkIndex_7cf53, Cond.initialized RJ15]
def wsX7_scrap_r2 : List Cond := [Cond.code yJ15_checkIndex_7cf53 cJ15_checkIndex_7cf53 2 (some .int), Cond.methodLink RJ15 105 yJ3_checkIndex_8e157, Cond.static yJ3_checkIndex_8e157, Cond.initialized RJ3, Cond.code yJ3_checkIndex_8e157 cJ3_checkIndex_8e157 3 (some .int), Cond.methodLink RJx4a65c 123 yJx4a65c_elementData_915e3, Cond.instanceMethod yJx4a65c_elementData_915e3, Cond.selects RJx4a65c yJx4a65c_elementData_915e3 yJx4a65c_elementData_915e3, Cond.code yJx4a65c_elementData_915e3 cJx4a65c_elementData_915e3 2 (some (.object "java/lang/Object")), Cond.fieldLink RJx4a65c 9 "java/util/ArrayList" "elementData" "[Ljava/lang/Object;", Cond.methodLink RX7 187 yX7_requireInRoom, Cond.static yX7_requireInRoom, Cond.code yX7_requireInRoom cX7_requireInRoom 1 none, Cond.classLink RX7 110 "java/util/NoSuchElementException", Cond.initialized "java/util/NoSuchElementException", Cond.methodLink RX7 238 yX4_isInRoom, Cond.instanceMethod yX4_isInRoom, Cond.selects RX4 yX4_isInRoom yX4_isInRoom, Cond.initialized RX4, Cond.code yX4_isInRoom cX4_isInRoom 1 (some .boolean), Cond.fieldLink RX4 9 "ColdStore$Pallet" "status" "C", Cond.methodLink RX7 208 yX4_leave, Cond.instanceMethod yX4_leave, Cond.selects RX4 yX4_leave yX4_leave]
def wsX7_scrap_r3 : List Cond := [Cond.code yX4_leave cX4_leave 3 none, Cond.fieldLink RX4 15 "ColdStore$Pallet" "leftAt" "I"]
def wsX7_scrap : List Cond := .code yX7_scrap cX7_scrap 3 (some .int) :: ((wsX7_scrap_r1 ++ (wsX7_scrap_r2 ++ wsX7_scrap_r3)) ++ wsX70 ++ wsX40 ++ wsJx4a65c0 ++ (vx_atS RX7 318 "java/lang/IndexOutOfBoundsException" ["java/lang/RuntimeException", "java/lang/Exception"]).filter goodWord ++ (vx_atS RX7 114 "java/util/NoSuchElementException" ["java/lang/RuntimeException", "java/lang/Exception"]).filter goodWord)
def wsX7_pallets : List Cond := .code yX7_pallets cX7_pallets 1 (some .int) :: ([.fieldLink RX7 19 "ColdStore" "pallets" "Ljava/util/ArrayList;", .methodLink RX7 61 yJx4a65c_size_8abf5, .instanceMethod yJx4a65c_size_8abf5, .selects RJx4a65c yJx4a65c_size_8abf5 yJx4a65c_size_8abf5, .initialized RJx4a65c, .code yJx4a65c_size_8abf5 cJx4a65c_size_8abf5 1 (some .int), .fieldLink RJx4a65c 48 "java/util/ArrayList" "size" "I"] ++ wsX70 ++ wsJx4a65c0)
def wsX7_state_r1 : List Cond := [Cond.fieldLink RX7 215 "ColdStore$Pallet" "status" "C", Cond.methodLink RX7 183 yX7_findPallet, Cond.instanceMethod yX7_findPallet, Cond.selects RX7 yX7_findPallet yX7_findPallet, Cond.initialized RX7, Cond.code yX7_findPallet cX7_findPallet 2 (some (.object "ColdStore$Pallet")), Cond.classLink RX7 314 "java/lang/IndexOutOfBoundsException", Cond.initialized "java/lang/IndexOutOfBoundsException", Cond.fieldLink RX7 19 "ColdStore" "pallets" "Ljava/util/ArrayList;", Cond.classLink RX7 178 "ColdStore$Pallet", Cond.methodLink RX7 61 yJx4a65c_size_8abf5, Cond.instanceMethod yJx4a65c_size_8abf5, Cond.selects RJx4a65c yJx4a65c_size_8abf5 yJx4a65c_size_8abf5, Cond.initialized RJx4a65c, Cond.code yJx4a65c_size_8abf5 cJx4a65c_size_8abf5 1 (some .int), Cond.fieldLink RJx4a65c 48 "java/util/ArrayList" "size" "I", Cond.methodLink RX7 234 yJx4a65c_get_915e3, Cond.instanceMethod yJx4a65c_get_915e3, Cond.selects RJx4a65c yJx4a65c_get_915e3 yJx4a65c_get_915e3, Cond.code yJx4a65c_get_915e3 cJx4a65c_get_915e3 2 (some (.object "java/lang/Object")), Cond.methodLink RJx4a65c 118 yJ15_checkIndex_7cf53, Cond.static yJ15_checkIndex_7cf53, Cond.initialized RJ15, Cond.code yJ15_checkIndex_7cf53 cJ15_checkIndex_7cf53 2 (some .int)]
def wsX7_state_r2 : List Cond := [Cond.methodLink RJ15 105 yJ3_checkIndex_8e157, Cond.static yJ3_checkIndex_8e157, Cond.initialized RJ3, Cond.code yJ3_checkIndex_8e157 cJ3_checkIndex_8e157 3 (some .int), Cond.methodLink RJx4a65c 123 yJx4a65c_elementData_915e3, Cond.instanceMethod yJx4a65c_elementData_915e3, Cond.selects RJx4a65c yJx4a65c_elementData_915e3 yJx4a65c_elementData_915e3, Cond.code yJx4a65c_elementData_915e3 cJx4a65c_elementData_915e3 2 (some (.object "java/lang/Object")), Cond.fieldLink RJx4a65c 9 "java/util/ArrayList" "elementData" "[Ljava/lang/Object;"]
def wsX7_state : List Cond := .code yX7_state cX7_state 2 (some .char) :: ((wsX7_state_r1 ++ wsX7_state_r2) ++ wsX40 ++ wsX70 ++ wsJx4a65c0 ++ (vx_atS RX7 318 "java/lang/IndexOutOfBoundsException" ["java/lang/RuntimeException", "java/lang/Exception"]).filter goodWord)
def wsX7_roomOf_r1 : List Cond := [Cond.fieldLink RX7 191 "ColdStore$Pallet" "stay" "LColdStore$Stay;", Cond.fieldLink RX7 195 "ColdStore$Stay" "room" "LColdStore$Room;", Cond.fieldLink RX7 205 "ColdStore$Room" "number" "I", Cond.methodLink RX7 183 yX7_findPallet, Cond.instanceMethod yX7_findPallet, Cond.selects RX7 yX7_findPallet yX7_findPallet, Cond.initialized RX7, Cond.code yX7_findPallet cX7_findPallet 2 (some (.object "ColdStore$Pallet")), Cond.classLink RX7 314 "java/lang/IndexOutOfBoundsException", Cond.initialized "java/lang/IndexOutOfBoundsException", Cond.fieldLink RX7 19 "ColdStore" "pallets" "Ljava/util/ArrayList;", Cond.classLink RX7 178 "ColdStore$Pallet", Cond.methodLink RX7 61 yJx4a65c_size_8abf5, Cond.instanceMethod yJx4a65c_size_8abf5, Cond.selects RJx4a65c yJx4a65c_size_8abf5 yJx4a65c_size_8abf5, Cond.initialized RJx4a65c, Cond.code yJx4a65c_size_8abf5 cJx4a65c_size_8abf5 1 (some .int), Cond.fieldLink RJx4a65c 48 "java/util/ArrayList" "size" "I", Cond.methodLink RX7 234 yJx4a65c_get_915e3, Cond.instanceMethod yJx4a65c_get_915e3, Cond.selects RJx4a65c yJx4a65c_get_915e3 yJx4a65c_get_915e3, Cond.code yJx4a65c_get_915e3 cJx4a65c_get_915e3 2 (some (.object "java/lang/Object")), Cond.methodLink RJx4a65c 118 yJ15_checkIndex_7cf53, Cond.static yJ15_checkIndex_7cf53]
def wsX7_roomOf_r2 : List Cond := [Cond.initialized RJ15, Cond.code yJ15_checkIndex_7cf53 cJ15_checkIndex_7cf53 2 (some .int), Cond.methodLink RJ15 105 yJ3_checkIndex_8e157, Cond.static yJ3_checkIndex_8e157, Cond.initialized RJ3, Cond.code yJ3_checkIndex_8e157 cJ3_checkIndex_8e157 3 (some .int), Cond.methodLink RJx4a65c 123 yJx4a65c_elementData_915e3, Cond.instanceMethod yJx4a65c_elementData_915e3, Cond.selects RJx4a65c yJx4a65c_elementData_915e3 yJx4a65c_elementData_915e3, Cond.code yJx4a65c_elementData_915e3 cJx4a65c_elementData_915e3 2 (some (.object "java/lang/Object")), Cond.fieldLink RJx4a65c 9 "java/util/ArrayList" "elementData" "[Ljava/lang/Object;", Cond.methodLink RX7 187 yX7_requireInRoom, Cond.static yX7_requireInRoom, Cond.code yX7_requireInRoom cX7_requireInRoom 1 none, Cond.classLink RX7 110 "java/util/NoSuchElementException", Cond.initialized "java/util/NoSuchElementException", Cond.methodLink RX7 238 yX4_isInRoom, Cond.instanceMethod yX4_isInRoom, Cond.selects RX4 yX4_isInRoom yX4_isInRoom, Cond.initialized RX4, Cond.code yX4_isInRoom cX4_isInRoom 1 (some .boolean), Cond.fieldLink RX4 9 "ColdStore$Pallet" "status" "C"]
def wsX7_roomOf : List Cond := .code yX7_roomOf cX7_roomOf 3 (some .int) :: ((wsX7_roomOf_r1 ++ wsX7_roomOf_r2) ++ wsX40 ++ wsX60 ++ wsX50 ++ wsX70 ++ wsJx4a65c0 ++ (vx_atS RX7 318 "java/lang/IndexOutOfBoundsException" ["java/lang/RuntimeException", "java/lang/Exception"]).filter goodWord ++ (vx_atS RX7 114 "java/util/NoSuchElementException" ["java/lang/RuntimeException", "java/lang/Exception"]).filter goodWord)
def wsX7_life_r1 : List Cond := [Cond.fieldLink RX7 212 "ColdStore$Pallet" "lifeLeft" "I", Cond.methodLink RX7 183 yX7_findPallet, Cond.instanceMethod yX7_findPallet, Cond.selects RX7 yX7_findPallet yX7_findPallet, Cond.initialized RX7, Cond.code yX7_findPallet cX7_findPallet 2 (some (.object "ColdStore$Pallet")), Cond.classLink RX7 314 "java/lang/IndexOutOfBoundsException", Cond.initialized "java/lang/IndexOutOfBoundsException", Cond.fieldLink RX7 19 "ColdStore" "pallets" "Ljava/util/ArrayList;", Cond.classLink RX7 178 "ColdStore$Pallet", Cond.methodLink RX7 61 yJx4a65c_size_8abf5, Cond.instanceMethod yJx4a65c_size_8abf5, Cond.selects RJx4a65c yJx4a65c_size_8abf5 yJx4a65c_size_8abf5, Cond.initialized RJx4a65c, Cond.code yJx4a65c_size_8abf5 cJx4a65c_size_8abf5 1 (some .int), Cond.fieldLink RJx4a65c 48 "java/util/ArrayList" "size" "I", Cond.methodLink RX7 234 yJx4a65c_get_915e3, Cond.instanceMethod yJx4a65c_get_915e3, Cond.selects RJx4a65c yJx4a65c_get_915e3 yJx4a65c_get_915e3, Cond.code yJx4a65c_get_915e3 cJx4a65c_get_915e3 2 (some (.object "java/lang/Object")), Cond.methodLink RJx4a65c 118 yJ15_checkIndex_7cf53, Cond.static yJ15_checkIndex_7cf53, Cond.initialized RJ15, Cond.code yJ15_checkIndex_7cf53 cJ15_checkIndex_7cf53 2 (some .int)]
def wsX7_life_r2 : List Cond := [Cond.methodLink RJ15 105 yJ3_checkIndex_8e157, Cond.static yJ3_checkIndex_8e157, Cond.initialized RJ3, Cond.code yJ3_checkIndex_8e157 cJ3_checkIndex_8e157 3 (some .int), Cond.methodLink RJx4a65c 123 yJx4a65c_elementData_915e3, Cond.instanceMethod yJx4a65c_elementData_915e3, Cond.selects RJx4a65c yJx4a65c_elementData_915e3 yJx4a65c_elementData_915e3, Cond.code yJx4a65c_elementData_915e3 cJx4a65c_elementData_915e3 2 (some (.object "java/lang/Object")), Cond.fieldLink RJx4a65c 9 "java/util/ArrayList" "elementData" "[Ljava/lang/Object;"]
def wsX7_life : List Cond := .code yX7_life cX7_life 2 (some .int) :: ((wsX7_life_r1 ++ wsX7_life_r2) ++ wsX40 ++ wsX70 ++ wsJx4a65c0 ++ (vx_atS RX7 318 "java/lang/IndexOutOfBoundsException" ["java/lang/RuntimeException", "java/lang/Exception"]).filter goodWord)
def wsX7_lifeByRecords_r1 : List Cond := [Cond.fieldLink RX7 39 "ColdStore" "time" "I", Cond.methodLink RX7 183 yX7_findPallet, Cond.instanceMethod yX7_findPallet, Cond.selects RX7 yX7_findPallet yX7_findPallet, Cond.initialized RX7, Cond.code yX7_findPallet cX7_findPallet 2 (some (.object "ColdStore$Pallet")), Cond.classLink RX7 314 "java/lang/IndexOutOfBoundsException", Cond.initialized "java/lang/IndexOutOfBoundsException", Cond.fieldLink RX7 19 "ColdStore" "pallets" "Ljava/util/ArrayList;", Cond.classLink RX7 178 "ColdStore$Pallet", Cond.methodLink RX7 61 yJx4a65c_size_8abf5, Cond.instanceMethod yJx4a65c_size_8abf5, Cond.selects RJx4a65c yJx4a65c_size_8abf5 yJx4a65c_size_8abf5, Cond.initialized RJx4a65c, Cond.code yJx4a65c_size_8abf5 cJx4a65c_size_8abf5 1 (some .int), Cond.fieldLink RJx4a65c 48 "java/util/ArrayList" "size" "I", Cond.methodLink RX7 234 yJx4a65c_get_915e3, Cond.instanceMethod yJx4a65c_get_915e3, Cond.selects RJx4a65c yJx4a65c_get_915e3 yJx4a65c_get_915e3, Cond.code yJx4a65c_get_915e3 cJx4a65c_get_915e3 2 (some (.object "java/lang/Object")), Cond.methodLink RJx4a65c 118 yJ15_checkIndex_7cf53, Cond.static yJ15_checkIndex_7cf53, Cond.initialized RJ15, Cond.code yJ15_checkIndex_7cf53 cJ15_checkIndex_7cf53 2 (some .int)]
def wsX7_lifeByRecords_r2 : List Cond := [Cond.methodLink RJ15 105 yJ3_checkIndex_8e157, Cond.static yJ3_checkIndex_8e157, Cond.initialized RJ3, Cond.code yJ3_checkIndex_8e157 cJ3_checkIndex_8e157 3 (some .int), Cond.methodLink RJx4a65c 123 yJx4a65c_elementData_915e3, Cond.instanceMethod yJx4a65c_elementData_915e3, Cond.selects RJx4a65c yJx4a65c_elementData_915e3 yJx4a65c_elementData_915e3, Cond.code yJx4a65c_elementData_915e3 cJx4a65c_elementData_915e3 2 (some (.object "java/lang/Object")), Cond.fieldLink RJx4a65c 9 "java/util/ArrayList" "elementData" "[Ljava/lang/Object;", Cond.methodLink RX7 218 yX4_recordedLife, Cond.instanceMethod yX4_recordedLife, Cond.selects RX4 yX4_recordedLife yX4_recordedLife, Cond.initialized RX4, Cond.code yX4_recordedLife cX4_recordedLife 6 (some .int), Cond.fieldLink RX4 15 "ColdStore$Pallet" "leftAt" "I", Cond.fieldLink RX4 31 "ColdStore$Pallet" "stay" "LColdStore$Stay;", Cond.fieldLink RX4 43 "ColdStore$Stay" "since" "I", Cond.fieldLink RX4 22 "ColdStore$Pallet" "kind" "LColdStore$Kind;", Cond.fieldLink RX4 53 "ColdStore$Stay" "room" "LColdStore$Room;", Cond.fieldLink RX4 46 "ColdStore$Stay" "earlier" "LColdStore$Stay;", Cond.fieldLink RX4 35 "ColdStore$Kind" "fullLife" "I", Cond.methodLink RX4 66 Lib.Math.max.name, Cond.static Lib.Math.max.name, Cond.initialized "java/lang/Math"]
def wsX7_lifeByRecords_r3 : List Cond := [Cond.code Lib.Math.max.name Lib.Math.max.code 2 (some .int), Cond.methodLink RX4 49 yX4_isInRoom, Cond.instanceMethod yX4_isInRoom, Cond.selects RX4 yX4_isInRoom yX4_isInRoom, Cond.code yX4_isInRoom cX4_isInRoom 1 (some .boolean), Cond.fieldLink RX4 9 "ColdStore$Pallet" "status" "C", Cond.methodLink RX4 72 yX5_recordedAt, Cond.instanceMethod yX5_recordedAt, Cond.selects RX5 yX5_recordedAt yX5_recordedAt, Cond.initialized RX5, Cond.code yX5_recordedAt cX5_recordedAt 2 (some .int), Cond.fieldLink RX5 9 "ColdStore$Room" "records" "[I", Cond.fieldLink RX5 63 "ColdStore$Room" "degrees" "I", Cond.methodLink RX4 62 yX1_lossAt, Cond.instanceMethod yX1_lossAt, Cond.selects RX1 yX1_lossAt yX1_lossAt, Cond.initialized RX1, Cond.code yX1_lossAt cX1_lossAt 2 (some .int), Cond.fieldLink RX1 16 "ColdStore$Kind" "lowest" "I", Cond.fieldLink RX1 13 "ColdStore$Kind" "best" "I"]
def wsX7_lifeByRecords : List Cond := .code yX7_lifeByRecords cX7_lifeByRecords 2 (some .int) :: ((wsX7_lifeByRecords_r1 ++ (wsX7_lifeByRecords_r2 ++ wsX7_lifeByRecords_r3)) ++ wsX70 ++ wsJx4a65c0 ++ wsX40 ++ wsX60 ++ wsX10 ++ wsX50 ++ (vx_atS RX7 318 "java/lang/IndexOutOfBoundsException" ["java/lang/RuntimeException", "java/lang/Exception"]).filter goodWord ++ (vx_atM "java/lang/ArrayIndexOutOfBoundsException" ["java/lang/IndexOutOfBoundsException", "java/lang/RuntimeException", "java/lang/Exception"]).filter goodWord)
def wsX7_forecast_r1 : List Cond := [Cond.fieldLink RX7 221 "ColdStore$Pallet" "kind" "LColdStore$Kind;", Cond.fieldLink RX7 191 "ColdStore$Pallet" "stay" "LColdStore$Stay;", Cond.fieldLink RX7 195 "ColdStore$Stay" "room" "LColdStore$Room;", Cond.fieldLink RX7 100 "ColdStore$Room" "degrees" "I", Cond.fieldLink RX7 212 "ColdStore$Pallet" "lifeLeft" "I", Cond.methodLink RX7 228 Lib.Math.max.name, Cond.static Lib.Math.max.name, Cond.initialized "java/lang/Math", Cond.code Lib.Math.max.name Lib.Math.max.code 2 (some .int), Cond.methodLink RX7 183 yX7_findPallet, Cond.instanceMethod yX7_findPallet, Cond.selects RX7 yX7_findPallet yX7_findPallet, Cond.initialized RX7, Cond.code yX7_findPallet cX7_findPallet 2 (some (.object "ColdStore$Pallet")), Cond.classLink RX7 314 "java/lang/IndexOutOfBoundsException", Cond.initialized "java/lang/IndexOutOfBoundsException", Cond.fieldLink RX7 19 "ColdStore" "pallets" "Ljava/util/ArrayList;", Cond.classLink RX7 178 "ColdStore$Pallet", Cond.methodLink RX7 61 yJx4a65c_size_8abf5, Cond.instanceMethod yJx4a65c_size_8abf5, Cond.selects RJx4a65c yJx4a65c_size_8abf5 yJx4a65c_size_8abf5, Cond.initialized RJx4a65c, Cond.code yJx4a65c_size_8abf5 cJx4a65c_size_8abf5 1 (some .int), Cond.fieldLink RJx4a65c 48 "java/util/ArrayList" "size" "I"]
def wsX7_forecast_r2 : List Cond := [Cond.methodLink RX7 234 yJx4a65c_get_915e3, Cond.instanceMethod yJx4a65c_get_915e3, Cond.selects RJx4a65c yJx4a65c_get_915e3 yJx4a65c_get_915e3, Cond.code yJx4a65c_get_915e3 cJx4a65c_get_915e3 2 (some (.object "java/lang/Object")), Cond.methodLink RJx4a65c 118 yJ15_checkIndex_7cf53, Cond.static yJ15_checkIndex_7cf53, Cond.initialized RJ15, Cond.code yJ15_checkIndex_7cf53 cJ15_checkIndex_7cf53 2 (some .int), Cond.methodLink RJ15 105 yJ3_checkIndex_8e157, Cond.static yJ3_checkIndex_8e157, Cond.initialized RJ3, Cond.code yJ3_checkIndex_8e157 cJ3_checkIndex_8e157 3 (some .int), Cond.methodLink RJx4a65c 123 yJx4a65c_elementData_915e3, Cond.instanceMethod yJx4a65c_elementData_915e3, Cond.selects RJx4a65c yJx4a65c_elementData_915e3 yJx4a65c_elementData_915e3, Cond.code yJx4a65c_elementData_915e3 cJx4a65c_elementData_915e3 2 (some (.object "java/lang/Object")), Cond.fieldLink RJx4a65c 9 "java/util/ArrayList" "elementData" "[Ljava/lang/Object;", Cond.methodLink RX7 187 yX7_requireInRoom, Cond.static yX7_requireInRoom, Cond.code yX7_requireInRoom cX7_requireInRoom 1 none, Cond.classLink RX7 110 "java/util/NoSuchElementException", Cond.initialized "java/util/NoSuchElementException", Cond.methodLink RX7 238 yX4_isInRoom, Cond.instanceMethod yX4_isInRoom]
def wsX7_forecast_r3 : List Cond := [Cond.selects RX4 yX4_isInRoom yX4_isInRoom, Cond.initialized RX4, Cond.code yX4_isInRoom cX4_isInRoom 1 (some .boolean), Cond.fieldLink RX4 9 "ColdStore$Pallet" "status" "C", Cond.methodLink RX7 46 yX7_requireRange, Cond.static yX7_requireRange, Cond.code yX7_requireRange cX7_requireRange 3 none, Cond.classLink RX7 85 "java/lang/IllegalArgumentException", Cond.initialized "java/lang/IllegalArgumentException", Cond.methodLink RX7 225 yX1_lossAt, Cond.instanceMethod yX1_lossAt, Cond.selects RX1 yX1_lossAt yX1_lossAt, Cond.initialized RX1, Cond.code yX1_lossAt cX1_lossAt 2 (some .int), Cond.fieldLink RX1 16 "ColdStore$Kind" "lowest" "I", Cond.fieldLink RX1 13 "ColdStore$Kind" "best" "I"]
def wsX7_forecast : List Cond := .code yX7_forecast cX7_forecast 5 (some .int) :: ((wsX7_forecast_r1 ++ (wsX7_forecast_r2 ++ wsX7_forecast_r3)) ++ wsX40 ++ wsX60 ++ wsX50 ++ wsX70 ++ wsJx4a65c0 ++ wsX10 ++ (vx_atS RX7 318 "java/lang/IndexOutOfBoundsException" ["java/lang/RuntimeException", "java/lang/Exception"]).filter goodWord ++ (vx_atS RX7 114 "java/util/NoSuchElementException" ["java/lang/RuntimeException", "java/lang/Exception"]).filter goodWord ++ (vx_atS RX7 89 "java/lang/IllegalArgumentException" ["java/lang/RuntimeException", "java/lang/Exception"]).filter goodWord)
def wsX7_soonest_r1 : List Cond := [Cond.classLink RX7 110 "java/util/NoSuchElementException", Cond.initialized "java/util/NoSuchElementException", Cond.fieldLink RX7 19 "ColdStore" "pallets" "Ljava/util/ArrayList;", Cond.classLink RX7 178 "ColdStore$Pallet", Cond.fieldLink RX7 248 "ColdStore$Pallet" "number" "I", Cond.methodLink RX7 61 yJx4a65c_size_8abf5, Cond.instanceMethod yJx4a65c_size_8abf5, Cond.selects RJx4a65c yJx4a65c_size_8abf5 yJx4a65c_size_8abf5, Cond.initialized RJx4a65c, Cond.code yJx4a65c_size_8abf5 cJx4a65c_size_8abf5 1 (some .int), Cond.fieldLink RJx4a65c 48 "java/util/ArrayList" "size" "I", Cond.methodLink RX7 234 yJx4a65c_get_915e3, Cond.instanceMethod yJx4a65c_get_915e3, Cond.selects RJx4a65c yJx4a65c_get_915e3 yJx4a65c_get_915e3, Cond.code yJx4a65c_get_915e3 cJx4a65c_get_915e3 2 (some (.object "java/lang/Object")), Cond.methodLink RJx4a65c 118 yJ15_checkIndex_7cf53, Cond.static yJ15_checkIndex_7cf53, Cond.initialized RJ15, Cond.code yJ15_checkIndex_7cf53 cJ15_checkIndex_7cf53 2 (some .int), Cond.methodLink RJ15 105 yJ3_checkIndex_8e157, Cond.static yJ3_checkIndex_8e157, Cond.initialized RJ3, Cond.code yJ3_checkIndex_8e157 cJ3_checkIndex_8e157 3 (some .int), Cond.methodLink RJx4a65c 123 yJx4a65c_elementData_915e3]
def wsX7_soonest_r2 : List Cond := [Cond.instanceMethod yJx4a65c_elementData_915e3, Cond.selects RJx4a65c yJx4a65c_elementData_915e3 yJx4a65c_elementData_915e3, Cond.code yJx4a65c_elementData_915e3 cJx4a65c_elementData_915e3 2 (some (.object "java/lang/Object")), Cond.fieldLink RJx4a65c 9 "java/util/ArrayList" "elementData" "[Ljava/lang/Object;", Cond.methodLink RX7 238 yX4_isInRoom, Cond.instanceMethod yX4_isInRoom, Cond.selects RX4 yX4_isInRoom yX4_isInRoom, Cond.initialized RX4, Cond.code yX4_isInRoom cX4_isInRoom 1 (some .boolean), Cond.fieldLink RX4 9 "ColdStore$Pallet" "status" "C", Cond.methodLink RX7 242 yX4_isAheadOf, Cond.instanceMethod yX4_isAheadOf, Cond.selects RX4 yX4_isAheadOf yX4_isAheadOf, Cond.code yX4_isAheadOf cX4_isAheadOf 2 (some .boolean), Cond.fieldLink RX4 40 "ColdStore$Pallet" "lifeLeft" "I", Cond.fieldLink RX4 19 "ColdStore$Pallet" "number" "I"]
def wsX7_soonest : List Cond := .code yX7_soonest cX7_soonest 4 (some .int) :: ((wsX7_soonest_r1 ++ wsX7_soonest_r2) ++ wsX70 ++ wsX40 ++ wsJx4a65c0 ++ (vx_atS RX7 114 "java/util/NoSuchElementException" ["java/lang/RuntimeException", "java/lang/Exception"]).filter goodWord)
def wsJx4a65c_isEmpty_aae02 : List Cond := .code yJx4a65c_isEmpty_aae02 cJx4a65c_isEmpty_aae02 1 (some .boolean) :: ([.fieldLink RJx4a65c 48 "java/util/ArrayList" "size" "I"] ++ wsJx4a65c0)
def wsX7_lostShare_r1 : List Cond := [Cond.classLink RX7 118 "java/lang/ArithmeticException", Cond.initialized "java/lang/ArithmeticException", Cond.fieldLink RX7 19 "ColdStore" "pallets" "Ljava/util/ArrayList;", Cond.classLink RX7 178 "ColdStore$Pallet", Cond.fieldLink RX7 215 "ColdStore$Pallet" "status" "C", Cond.fieldLink RX7 212 "ColdStore$Pallet" "lifeLeft" "I", Cond.methodLink RX7 249 yJx4a65c_isEmpty_aae02, Cond.instanceMethod yJx4a65c_isEmpty_aae02, Cond.selects RJx4a65c yJx4a65c_isEmpty_aae02 yJx4a65c_isEmpty_aae02, Cond.initialized RJx4a65c, Cond.code yJx4a65c_isEmpty_aae02 cJx4a65c_isEmpty_aae02 1 (some .boolean), Cond.fieldLink RJx4a65c 48 "java/util/ArrayList" "size" "I", Cond.methodLink RX7 61 yJx4a65c_size_8abf5, Cond.instanceMethod yJx4a65c_size_8abf5, Cond.selects RJx4a65c yJx4a65c_size_8abf5 yJx4a65c_size_8abf5, Cond.code yJx4a65c_size_8abf5 cJx4a65c_size_8abf5 1 (some .int), Cond.methodLink RX7 234 yJx4a65c_get_915e3, Cond.instanceMethod yJx4a65c_get_915e3, Cond.selects RJx4a65c yJx4a65c_get_915e3 yJx4a65c_get_915e3, Cond.code yJx4a65c_get_915e3 cJx4a65c_get_915e3 2 (some (.object "java/lang/Object")), Cond.methodLink RJx4a65c 118 yJ15_checkIndex_7cf53, Cond.static yJ15_checkIndex_7cf53, Cond.initialized RJ15, Cond.code yJ15_checkIndex_7cf53 cJ15_checkIndex_7cf53 2 (some .int)]
def wsX7_lostShare_r2 : List Cond := [Cond.methodLink RJ15 105 yJ3_checkIndex_8e157, Cond.static yJ3_checkIndex_8e157, Cond.initialized RJ3, Cond.code yJ3_checkIndex_8e157 cJ3_checkIndex_8e157 3 (some .int), Cond.methodLink RJx4a65c 123 yJx4a65c_elementData_915e3, Cond.instanceMethod yJx4a65c_elementData_915e3, Cond.selects RJx4a65c yJx4a65c_elementData_915e3 yJx4a65c_elementData_915e3, Cond.code yJx4a65c_elementData_915e3 cJx4a65c_elementData_915e3 2 (some (.object "java/lang/Object")), Cond.fieldLink RJx4a65c 9 "java/util/ArrayList" "elementData" "[Ljava/lang/Object;"]
def wsX7_lostShare : List Cond := .code yX7_lostShare cX7_lostShare 4 (some .float) :: ((wsX7_lostShare_r1 ++ wsX7_lostShare_r2) ++ wsX70 ++ wsX40 ++ wsJx4a65c0 ++ (vx_atS RX7 120 "java/lang/ArithmeticException" ["java/lang/RuntimeException", "java/lang/Exception"]).filter goodWord)
def wsX7_order_r1 : List Cond := [Cond.classLink RX7 50 "java/lang/IllegalStateException", Cond.initialized "java/lang/IllegalStateException", Cond.fieldLink RX7 39 "ColdStore" "time" "I", Cond.fieldLink RX7 22 "ColdStore" "orders" "Ljava/util/ArrayList;", Cond.classLink RX7 256 RX3, Cond.instantiable RX3 6, Cond.initialized RX3, Cond.methodLink RX7 168 yX7_findKind, Cond.instanceMethod yX7_findKind, Cond.selects RX7 yX7_findKind yX7_findKind, Cond.initialized RX7, Cond.code yX7_findKind cX7_findKind 2 (some (.object "ColdStore$Kind")), Cond.classLink RX7 314 "java/lang/IndexOutOfBoundsException", Cond.initialized "java/lang/IndexOutOfBoundsException", Cond.fieldLink RX7 16 "ColdStore" "kinds" "Ljava/util/ArrayList;", Cond.classLink RX7 164 "ColdStore$Kind", Cond.methodLink RX7 61 yJx4a65c_size_8abf5, Cond.instanceMethod yJx4a65c_size_8abf5, Cond.selects RJx4a65c yJx4a65c_size_8abf5 yJx4a65c_size_8abf5, Cond.initialized RJx4a65c, Cond.code yJx4a65c_size_8abf5 cJx4a65c_size_8abf5 1 (some .int), Cond.fieldLink RJx4a65c 48 "java/util/ArrayList" "size" "I", Cond.methodLink RX7 234 yJx4a65c_get_915e3, Cond.instanceMethod yJx4a65c_get_915e3]
def wsX7_order_r2 : List Cond := [Cond.selects RJx4a65c yJx4a65c_get_915e3 yJx4a65c_get_915e3, Cond.code yJx4a65c_get_915e3 cJx4a65c_get_915e3 2 (some (.object "java/lang/Object")), Cond.methodLink RJx4a65c 118 yJ15_checkIndex_7cf53, Cond.static yJ15_checkIndex_7cf53, Cond.initialized RJ15, Cond.code yJ15_checkIndex_7cf53 cJ15_checkIndex_7cf53 2 (some .int), Cond.methodLink RJ15 105 yJ3_checkIndex_8e157, Cond.static yJ3_checkIndex_8e157, Cond.initialized RJ3, Cond.code yJ3_checkIndex_8e157 cJ3_checkIndex_8e157 3 (some .int), Cond.methodLink RJx4a65c 123 yJx4a65c_elementData_915e3, Cond.instanceMethod yJx4a65c_elementData_915e3, Cond.selects RJx4a65c yJx4a65c_elementData_915e3 yJx4a65c_elementData_915e3, Cond.code yJx4a65c_elementData_915e3 cJx4a65c_elementData_915e3 2 (some (.object "java/lang/Object")), Cond.fieldLink RJx4a65c 9 "java/util/ArrayList" "elementData" "[Ljava/lang/Object;", Cond.methodLink RX7 46 yX7_requireRange, Cond.static yX7_requireRange, Cond.code yX7_requireRange cX7_requireRange 3 none, Cond.classLink RX7 85 "java/lang/IllegalArgumentException", Cond.initialized "java/lang/IllegalArgumentException", Cond.methodLink RX7 258 yX3_init, Cond.instanceMethod yX3_init, Cond.code yX3_init cX3_init 5 none, Cond.methodLink RX3 3 objectInit]
def wsX7_order_r3 : List Cond := [Cond.instanceMethod objectInit, Cond.code objectInit ⟨#[0xb1]⟩ 1 none, Cond.fieldLink RX3 9 "ColdStore$Order" "status" "C", Cond.fieldLink RX3 15 "ColdStore$Order" "leastLife" "I", Cond.fieldLink RX3 19 "ColdStore$Order" "kind" "LColdStore$Kind;", Cond.fieldLink RX3 23 "ColdStore$Order" "count" "I", Cond.fieldLink RX3 26 "ColdStore$Order" "promise" "I", Cond.fieldLink RX3 29 "ColdStore$Order" "due" "I", Cond.methodLink RX7 71 yJx4a65c_add_9ea2d, Cond.instanceMethod yJx4a65c_add_9ea2d, Cond.selects RJx4a65c yJx4a65c_add_9ea2d yJx4a65c_add_9ea2d, Cond.code yJx4a65c_add_9ea2d cJx4a65c_add_9ea2d 2 (some .boolean), Cond.fieldLink RJx4a65c 63 "java/util/ArrayList" "modCount" "I", Cond.sameField "java/util/ArrayList" "java/util/AbstractList" "modCount" "I", Cond.methodLink RJx4a65c 131 yJx4a65c_add_72be8, Cond.instanceMethod yJx4a65c_add_72be8, Cond.selects RJx4a65c yJx4a65c_add_72be8 yJx4a65c_add_72be8, Cond.code yJx4a65c_add_72be8 cJx4a65c_add_72be8 4 none, Cond.methodLink RJx4a65c 129 yJx4a65c_grow_d5877, Cond.instanceMethod yJx4a65c_grow_d5877, Cond.selects RJx4a65c yJx4a65c_grow_d5877 yJx4a65c_grow_d5877, Cond.code yJx4a65c_grow_d5877 cJx4a65c_grow_d5877 1 (some (.array (.object "java/lang/Object"))), Cond.methodLink RJx4a65c 69 yJx4a65c_grow_92f84, Cond.instanceMethod yJx4a65c_grow_92f84]
def wsX7_order_r4 : List Cond := [Cond.selects RJx4a65c yJx4a65c_grow_92f84 yJx4a65c_grow_92f84, Cond.code yJx4a65c_grow_92f84 cJx4a65c_grow_92f84 4 (some (.array (.object "java/lang/Object"))), Cond.fieldLink RJx4a65c 39 "java/util/ArrayList" "DEFAULTCAPACITY_EMPTY_ELEMENTDATA" "[Ljava/lang/Object;", Cond.methodLink RJx4a65c 79 Lib.Math.max.name, Cond.static Lib.Math.max.name, Cond.initialized "java/lang/Math", Cond.code Lib.Math.max.name Lib.Math.max.code 2 (some .int), Cond.classLink RJx4a65c 7 "java/lang/Object", Cond.methodLink RJx4a65c 73 yJ8_newLength_cabcc, Cond.static yJ8_newLength_cabcc, Cond.initialized RJ8, Cond.code yJ8_newLength_cabcc cJ8_newLength_cabcc 4 (some .int), Cond.methodLink RJ8 194 Lib.Math.max.name, Cond.constant RJ8 200 (2147483639), Cond.methodLink RJ8 201 yJ8_hugeLength_7cf53, Cond.static yJ8_hugeLength_7cf53, Cond.code yJ8_hugeLength_7cf53 cJ8_hugeLength_7cf53 3 (some .int), Cond.methodLink RJx4a65c 66 yJ7_copyOf_1904c, Cond.static yJ7_copyOf_1904c, Cond.initialized RJ7, Cond.code yJ7_copyOf_1904c cJ7_copyOf_1904c 2 (some (.array (.object "java/lang/Object"))), Cond.methodLink RJ7 86 ⟨"java/lang/Object", "getClass", "()Ljava/lang/Class;"⟩, Cond.selects "[Ljava/lang/Object;" ⟨"java/lang/Object", "getClass", "()Ljava/lang/Class;"⟩ ⟨"java/lang/Object", "getClass", "()Ljava/lang/Class;"⟩, Cond.instanceMethod ⟨"java/lang/Object", "getClass", "()Ljava/lang/Class;"⟩]
def wsX7_order_r5 : List Cond := [Cond.native ⟨"java/lang/Object", "getClass", "()Ljava/lang/Class;"⟩, Cond.methodLink RJ7 300 yJ7_copyOf_6403c, Cond.static yJ7_copyOf_6403c, Cond.code yJ7_copyOf_6403c cJ7_copyOf_6403c 4 (some (.array (.object "java/lang/Object"))), Cond.classLink RJ7 110 "[Ljava/lang/Object;", Cond.classLink RJ7 2 "java/lang/Object", Cond.methodLink RJ7 304 Lib.Math.min.name, Cond.static Lib.Math.min.name, Cond.code Lib.Math.min.name Lib.Math.min.code 2 (some .int), Cond.methodLink RJ7 150 arraycopyName, Cond.native arraycopyName, Cond.static arraycopyName, Cond.initialized "java/lang/System"]
def wsX7_order : List Cond := .code yX7_order cX7_order 6 (some .int) :: ((wsX7_order_r1 ++ (wsX7_order_r2 ++ (wsX7_order_r3 ++ (wsX7_order_r4 ++ wsX7_order_r5)))) ++ wsX70 ++ wsX30 ++ wsJx4a65c0 ++ (vx_atS RX7 54 "java/lang/IllegalStateException" ["java/lang/RuntimeException", "java/lang/Exception"]).filter goodWord ++ (vx_atS RX7 318 "java/lang/IndexOutOfBoundsException" ["java/lang/RuntimeException", "java/lang/Exception"]).filter goodWord ++ (vx_atS RX7 89 "java/lang/IllegalArgumentException" ["java/lang/RuntimeException", "java/lang/Exception"]).filter goodWord)
def wsX7_findOrder_r1 : List Cond := [Cond.classLink RX7 314 "java/lang/IndexOutOfBoundsException", Cond.initialized "java/lang/IndexOutOfBoundsException", Cond.fieldLink RX7 22 "ColdStore" "orders" "Ljava/util/ArrayList;", Cond.classLink RX7 256 "ColdStore$Order", Cond.methodLink RX7 61 yJx4a65c_size_8abf5, Cond.instanceMethod yJx4a65c_size_8abf5, Cond.selects RJx4a65c yJx4a65c_size_8abf5 yJx4a65c_size_8abf5, Cond.initialized RJx4a65c, Cond.code yJx4a65c_size_8abf5 cJx4a65c_size_8abf5 1 (some .int), Cond.fieldLink RJx4a65c 48 "java/util/ArrayList" "size" "I", Cond.methodLink RX7 234 yJx4a65c_get_915e3, Cond.instanceMethod yJx4a65c_get_915e3, Cond.selects RJx4a65c yJx4a65c_get_915e3 yJx4a65c_get_915e3, Cond.code yJx4a65c_get_915e3 cJx4a65c_get_915e3 2 (some (.object "java/lang/Object")), Cond.methodLink RJx4a65c 118 yJ15_checkIndex_7cf53, Cond.static yJ15_checkIndex_7cf53, Cond.initialized RJ15, Cond.code yJ15_checkIndex_7cf53 cJ15_checkIndex_7cf53 2 (some .int), Cond.methodLink RJ15 105 yJ3_checkIndex_8e157, Cond.static yJ3_checkIndex_8e157, Cond.initialized RJ3, Cond.code yJ3_checkIndex_8e157 cJ3_checkIndex_8e157 3 (some .int), Cond.methodLink RJx4a65c 123 yJx4a65c_elementData_915e3, Cond.instanceMethod yJx4a65c_elementData_915e3]
def wsX7_findOrder_r2 : List Cond := [Cond.selects RJx4a65c yJx4a65c_elementData_915e3 yJx4a65c_elementData_915e3, Cond.code yJx4a65c_elementData_915e3 cJx4a65c_elementData_915e3 2 (some (.object "java/lang/Object")), Cond.fieldLink RJx4a65c 9 "java/util/ArrayList" "elementData" "[Ljava/lang/Object;"]
def wsX7_findOrder : List Cond := .code yX7_findOrder cX7_findOrder 2 (some (.object "ColdStore$Order")) :: ((wsX7_findOrder_r1 ++ wsX7_findOrder_r2) ++ wsX70 ++ wsJx4a65c0 ++ (vx_atS RX7 318 "java/lang/IndexOutOfBoundsException" ["java/lang/RuntimeException", "java/lang/Exception"]).filter goodWord)
def wsX7_requireOpen : List Cond := .code yX7_requireOpen cX7_requireOpen 1 none :: ([.classLink RX7 50 "java/lang/IllegalStateException", .initialized "java/lang/IllegalStateException", .fieldLink RX7 269 "ColdStore$Order" "status" "C"] ++ wsX30 ++ (vx_atS RX7 54 "java/lang/IllegalStateException" ["java/lang/RuntimeException", "java/lang/Exception"]).filter goodWord)
def wsX7_countOpenOrders_r1 : List Cond := [Cond.fieldLink RX7 22 "ColdStore" "orders" "Ljava/util/ArrayList;", Cond.classLink RX7 256 "ColdStore$Order", Cond.fieldLink RX7 269 "ColdStore$Order" "status" "C", Cond.methodLink RX7 61 yJx4a65c_size_8abf5, Cond.instanceMethod yJx4a65c_size_8abf5, Cond.selects RJx4a65c yJx4a65c_size_8abf5 yJx4a65c_size_8abf5, Cond.initialized RJx4a65c, Cond.code yJx4a65c_size_8abf5 cJx4a65c_size_8abf5 1 (some .int), Cond.fieldLink RJx4a65c 48 "java/util/ArrayList" "size" "I", Cond.methodLink RX7 234 yJx4a65c_get_915e3, Cond.instanceMethod yJx4a65c_get_915e3, Cond.selects RJx4a65c yJx4a65c_get_915e3 yJx4a65c_get_915e3, Cond.code yJx4a65c_get_915e3 cJx4a65c_get_915e3 2 (some (.object "java/lang/Object")), Cond.methodLink RJx4a65c 118 yJ15_checkIndex_7cf53, Cond.static yJ15_checkIndex_7cf53, Cond.initialized RJ15, Cond.code yJ15_checkIndex_7cf53 cJ15_checkIndex_7cf53 2 (some .int), Cond.methodLink RJ15 105 yJ3_checkIndex_8e157, Cond.static yJ3_checkIndex_8e157, Cond.initialized RJ3, Cond.code yJ3_checkIndex_8e157 cJ3_checkIndex_8e157 3 (some .int), Cond.methodLink RJx4a65c 123 yJx4a65c_elementData_915e3, Cond.instanceMethod yJx4a65c_elementData_915e3, Cond.selects RJx4a65c yJx4a65c_elementData_915e3 yJx4a65c_elementData_915e3]
def wsX7_countOpenOrders_r2 : List Cond := [Cond.code yJx4a65c_elementData_915e3 cJx4a65c_elementData_915e3 2 (some (.object "java/lang/Object")), Cond.fieldLink RJx4a65c 9 "java/util/ArrayList" "elementData" "[Ljava/lang/Object;"]
def wsX7_countOpenOrders : List Cond := .code yX7_countOpenOrders cX7_countOpenOrders 3 (some .int) :: ((wsX7_countOpenOrders_r1 ++ wsX7_countOpenOrders_r2) ++ wsX70 ++ wsX30 ++ wsJx4a65c0)
def wsX7_cancel_r1 : List Cond := [Cond.fieldLink RX7 269 "ColdStore$Order" "status" "C", Cond.methodLink RX7 261 yX7_findOrder, Cond.instanceMethod yX7_findOrder, Cond.selects RX7 yX7_findOrder yX7_findOrder, Cond.initialized RX7, Cond.code yX7_findOrder cX7_findOrder 2 (some (.object "ColdStore$Order")), Cond.classLink RX7 314 "java/lang/IndexOutOfBoundsException", Cond.initialized "java/lang/IndexOutOfBoundsException", Cond.fieldLink RX7 22 "ColdStore" "orders" "Ljava/util/ArrayList;", Cond.classLink RX7 256 "ColdStore$Order", Cond.methodLink RX7 61 yJx4a65c_size_8abf5, Cond.instanceMethod yJx4a65c_size_8abf5, Cond.selects RJx4a65c yJx4a65c_size_8abf5 yJx4a65c_size_8abf5, Cond.initialized RJx4a65c, Cond.code yJx4a65c_size_8abf5 cJx4a65c_size_8abf5 1 (some .int), Cond.fieldLink RJx4a65c 48 "java/util/ArrayList" "size" "I", Cond.methodLink RX7 234 yJx4a65c_get_915e3, Cond.instanceMethod yJx4a65c_get_915e3, Cond.selects RJx4a65c yJx4a65c_get_915e3 yJx4a65c_get_915e3, Cond.code yJx4a65c_get_915e3 cJx4a65c_get_915e3 2 (some (.object "java/lang/Object")), Cond.methodLink RJx4a65c 118 yJ15_checkIndex_7cf53, Cond.static yJ15_checkIndex_7cf53, Cond.initialized RJ15, Cond.code yJ15_checkIndex_7cf53 cJ15_checkIndex_7cf53 2 (some .int)]
def wsX7_cancel_r2 : List Cond := [Cond.methodLink RJ15 105 yJ3_checkIndex_8e157, Cond.static yJ3_checkIndex_8e157, Cond.initialized RJ3, Cond.code yJ3_checkIndex_8e157 cJ3_checkIndex_8e157 3 (some .int), Cond.methodLink RJx4a65c 123 yJx4a65c_elementData_915e3, Cond.instanceMethod yJx4a65c_elementData_915e3, Cond.selects RJx4a65c yJx4a65c_elementData_915e3 yJx4a65c_elementData_915e3, Cond.code yJx4a65c_elementData_915e3 cJx4a65c_elementData_915e3 2 (some (.object "java/lang/Object")), Cond.fieldLink RJx4a65c 9 "java/util/ArrayList" "elementData" "[Ljava/lang/Object;", Cond.methodLink RX7 265 yX7_requireOpen, Cond.static yX7_requireOpen, Cond.code yX7_requireOpen cX7_requireOpen 1 none, Cond.classLink RX7 50 "java/lang/IllegalStateException", Cond.initialized "java/lang/IllegalStateException", Cond.methodLink RX7 270 yX7_countOpenOrders, Cond.instanceMethod yX7_countOpenOrders, Cond.selects RX7 yX7_countOpenOrders yX7_countOpenOrders, Cond.code yX7_countOpenOrders cX7_countOpenOrders 3 (some .int)]
def wsX7_cancel : List Cond := .code yX7_cancel cX7_cancel 3 (some .int) :: ((wsX7_cancel_r1 ++ wsX7_cancel_r2) ++ wsX30 ++ wsX70 ++ wsJx4a65c0 ++ (vx_atS RX7 318 "java/lang/IndexOutOfBoundsException" ["java/lang/RuntimeException", "java/lang/Exception"]).filter goodWord ++ (vx_atS RX7 54 "java/lang/IllegalStateException" ["java/lang/RuntimeException", "java/lang/Exception"]).filter goodWord)
def wsX7_candidates_r1 : List Cond := [Cond.methodLink RX7 261 yX7_findOrder, Cond.instanceMethod yX7_findOrder, Cond.selects RX7 yX7_findOrder yX7_findOrder, Cond.initialized RX7, Cond.code yX7_findOrder cX7_findOrder 2 (some (.object "ColdStore$Order")), Cond.classLink RX7 314 "java/lang/IndexOutOfBoundsException", Cond.initialized "java/lang/IndexOutOfBoundsException", Cond.fieldLink RX7 22 "ColdStore" "orders" "Ljava/util/ArrayList;", Cond.classLink RX7 256 "ColdStore$Order", Cond.methodLink RX7 61 yJx4a65c_size_8abf5, Cond.instanceMethod yJx4a65c_size_8abf5, Cond.selects RJx4a65c yJx4a65c_size_8abf5 yJx4a65c_size_8abf5, Cond.initialized RJx4a65c, Cond.code yJx4a65c_size_8abf5 cJx4a65c_size_8abf5 1 (some .int), Cond.fieldLink RJx4a65c 48 "java/util/ArrayList" "size" "I", Cond.methodLink RX7 234 yJx4a65c_get_915e3, Cond.instanceMethod yJx4a65c_get_915e3, Cond.selects RJx4a65c yJx4a65c_get_915e3 yJx4a65c_get_915e3, Cond.code yJx4a65c_get_915e3 cJx4a65c_get_915e3 2 (some (.object "java/lang/Object")), Cond.methodLink RJx4a65c 118 yJ15_checkIndex_7cf53, Cond.static yJ15_checkIndex_7cf53, Cond.initialized RJ15, Cond.code yJ15_checkIndex_7cf53 cJ15_checkIndex_7cf53 2 (some .int), Cond.methodLink RJ15 105 yJ3_checkIndex_8e157]
def wsX7_candidates_r2 : List Cond := [Cond.static yJ3_checkIndex_8e157, Cond.initialized RJ3, Cond.code yJ3_checkIndex_8e157 cJ3_checkIndex_8e157 3 (some .int), Cond.methodLink RJx4a65c 123 yJx4a65c_elementData_915e3, Cond.instanceMethod yJx4a65c_elementData_915e3, Cond.selects RJx4a65c yJx4a65c_elementData_915e3 yJx4a65c_elementData_915e3, Cond.code yJx4a65c_elementData_915e3 cJx4a65c_elementData_915e3 2 (some (.object "java/lang/Object")), Cond.fieldLink RJx4a65c 9 "java/util/ArrayList" "elementData" "[Ljava/lang/Object;", Cond.methodLink RX7 273 yX7_countCandidates, Cond.instanceMethod yX7_countCandidates, Cond.selects RX7 yX7_countCandidates yX7_countCandidates, Cond.code yX7_countCandidates cX7_countCandidates 4 (some .int), Cond.fieldLink RX7 19 "ColdStore" "pallets" "Ljava/util/ArrayList;", Cond.classLink RX7 178 "ColdStore$Pallet", Cond.methodLink RX7 373 yX3_accepts, Cond.instanceMethod yX3_accepts, Cond.selects RX3 yX3_accepts yX3_accepts, Cond.initialized RX3, Cond.code yX3_accepts cX3_accepts 2 (some .boolean), Cond.fieldLink RX3 38 "ColdStore$Pallet" "kind" "LColdStore$Kind;", Cond.fieldLink RX3 19 "ColdStore$Order" "kind" "LColdStore$Kind;", Cond.fieldLink RX3 39 "ColdStore$Pallet" "lifeLeft" "I", Cond.fieldLink RX3 26 "ColdStore$Order" "promise" "I", Cond.methodLink RX3 32 yX4_isInRoom]
def wsX7_candidates_r3 : List Cond := [Cond.instanceMethod yX4_isInRoom, Cond.selects RX4 yX4_isInRoom yX4_isInRoom, Cond.initialized RX4, Cond.code yX4_isInRoom cX4_isInRoom 1 (some .boolean), Cond.fieldLink RX4 9 "ColdStore$Pallet" "status" "C"]
def wsX7_candidates : List Cond := .code yX7_candidates cX7_candidates 2 (some .int) :: ((wsX7_candidates_r1 ++ (wsX7_candidates_r2 ++ wsX7_candidates_r3)) ++ wsX70 ++ wsJx4a65c0 ++ wsX40 ++ wsX30 ++ (vx_atS RX7 318 "java/lang/IndexOutOfBoundsException" ["java/lang/RuntimeException", "java/lang/Exception"]).filter goodWord)
def wsX7_findCandidate_r1 : List Cond := [Cond.methodLink RX7 379 yX7_nextCandidate, Cond.instanceMethod yX7_nextCandidate, Cond.selects RX7 yX7_nextCandidate yX7_nextCandidate, Cond.initialized RX7, Cond.code yX7_nextCandidate cX7_nextCandidate 7 (some (.object "ColdStore$Pallet")), Cond.fieldLink RX7 19 "ColdStore" "pallets" "Ljava/util/ArrayList;", Cond.classLink RX7 178 "ColdStore$Pallet", Cond.methodLink RX7 61 yJx4a65c_size_8abf5, Cond.instanceMethod yJx4a65c_size_8abf5, Cond.selects RJx4a65c yJx4a65c_size_8abf5 yJx4a65c_size_8abf5, Cond.initialized RJx4a65c, Cond.code yJx4a65c_size_8abf5 cJx4a65c_size_8abf5 1 (some .int), Cond.fieldLink RJx4a65c 48 "java/util/ArrayList" "size" "I", Cond.methodLink RX7 234 yJx4a65c_get_915e3, Cond.instanceMethod yJx4a65c_get_915e3, Cond.selects RJx4a65c yJx4a65c_get_915e3 yJx4a65c_get_915e3, Cond.code yJx4a65c_get_915e3 cJx4a65c_get_915e3 2 (some (.object "java/lang/Object")), Cond.methodLink RJx4a65c 118 yJ15_checkIndex_7cf53, Cond.static yJ15_checkIndex_7cf53, Cond.initialized RJ15, Cond.code yJ15_checkIndex_7cf53 cJ15_checkIndex_7cf53 2 (some .int), Cond.methodLink RJ15 105 yJ3_checkIndex_8e157, Cond.static yJ3_checkIndex_8e157, Cond.initialized RJ3]
def wsX7_findCandidate_r2 : List Cond := [Cond.code yJ3_checkIndex_8e157 cJ3_checkIndex_8e157 3 (some .int), Cond.methodLink RJx4a65c 123 yJx4a65c_elementData_915e3, Cond.instanceMethod yJx4a65c_elementData_915e3, Cond.selects RJx4a65c yJx4a65c_elementData_915e3 yJx4a65c_elementData_915e3, Cond.code yJx4a65c_elementData_915e3 cJx4a65c_elementData_915e3 2 (some (.object "java/lang/Object")), Cond.fieldLink RJx4a65c 9 "java/util/ArrayList" "elementData" "[Ljava/lang/Object;", Cond.methodLink RX7 242 yX4_isAheadOf, Cond.instanceMethod yX4_isAheadOf, Cond.selects RX4 yX4_isAheadOf yX4_isAheadOf, Cond.initialized RX4, Cond.code yX4_isAheadOf cX4_isAheadOf 2 (some .boolean), Cond.fieldLink RX4 40 "ColdStore$Pallet" "lifeLeft" "I", Cond.fieldLink RX4 19 "ColdStore$Pallet" "number" "I", Cond.methodLink RX7 373 yX3_accepts, Cond.instanceMethod yX3_accepts, Cond.selects RX3 yX3_accepts yX3_accepts, Cond.initialized RX3, Cond.code yX3_accepts cX3_accepts 2 (some .boolean), Cond.fieldLink RX3 38 "ColdStore$Pallet" "kind" "LColdStore$Kind;", Cond.fieldLink RX3 19 "ColdStore$Order" "kind" "LColdStore$Kind;", Cond.fieldLink RX3 39 "ColdStore$Pallet" "lifeLeft" "I", Cond.fieldLink RX3 26 "ColdStore$Order" "promise" "I", Cond.methodLink RX3 32 yX4_isInRoom, Cond.instanceMethod yX4_isInRoom]
def wsX7_findCandidate_r3 : List Cond := [Cond.selects RX4 yX4_isInRoom yX4_isInRoom, Cond.code yX4_isInRoom cX4_isInRoom 1 (some .boolean), Cond.fieldLink RX4 9 "ColdStore$Pallet" "status" "C"]
def wsX7_findCandidate : List Cond := .code yX7_findCandidate cX7_findCandidate 5 (some (.object "ColdStore$Pallet")) :: ((wsX7_findCandidate_r1 ++ (wsX7_findCandidate_r2 ++ wsX7_findCandidate_r3)) ++ wsX70 ++ wsJx4a65c0 ++ wsX40 ++ wsX30)
def wsX7_candidateAt_r1 : List Cond := [Cond.classLink RX7 110 "java/util/NoSuchElementException", Cond.initialized "java/util/NoSuchElementException", Cond.fieldLink RX7 248 "ColdStore$Pallet" "number" "I", Cond.methodLink RX7 261 yX7_findOrder, Cond.instanceMethod yX7_findOrder, Cond.selects RX7 yX7_findOrder yX7_findOrder, Cond.initialized RX7, Cond.code yX7_findOrder cX7_findOrder 2 (some (.object "ColdStore$Order")), Cond.classLink RX7 314 "java/lang/IndexOutOfBoundsException", Cond.initialized "java/lang/IndexOutOfBoundsException", Cond.fieldLink RX7 22 "ColdStore" "orders" "Ljava/util/ArrayList;", Cond.classLink RX7 256 "ColdStore$Order", Cond.methodLink RX7 61 yJx4a65c_size_8abf5, Cond.instanceMethod yJx4a65c_size_8abf5, Cond.selects RJx4a65c yJx4a65c_size_8abf5 yJx4a65c_size_8abf5, Cond.initialized RJx4a65c, Cond.code yJx4a65c_size_8abf5 cJx4a65c_size_8abf5 1 (some .int), Cond.fieldLink RJx4a65c 48 "java/util/ArrayList" "size" "I", Cond.methodLink RX7 234 yJx4a65c_get_915e3, Cond.instanceMethod yJx4a65c_get_915e3, Cond.selects RJx4a65c yJx4a65c_get_915e3 yJx4a65c_get_915e3, Cond.code yJx4a65c_get_915e3 cJx4a65c_get_915e3 2 (some (.object "java/lang/Object")), Cond.methodLink RJx4a65c 118 yJ15_checkIndex_7cf53, Cond.static yJ15_checkIndex_7cf53]
def wsX7_candidateAt_r2 : List Cond := [Cond.initialized RJ15, Cond.code yJ15_checkIndex_7cf53 cJ15_checkIndex_7cf53 2 (some .int), Cond.methodLink RJ15 105 yJ3_checkIndex_8e157, Cond.static yJ3_checkIndex_8e157, Cond.initialized RJ3, Cond.code yJ3_checkIndex_8e157 cJ3_checkIndex_8e157 3 (some .int), Cond.methodLink RJx4a65c 123 yJx4a65c_elementData_915e3, Cond.instanceMethod yJx4a65c_elementData_915e3, Cond.selects RJx4a65c yJx4a65c_elementData_915e3 yJx4a65c_elementData_915e3, Cond.code yJx4a65c_elementData_915e3 cJx4a65c_elementData_915e3 2 (some (.object "java/lang/Object")), Cond.fieldLink RJx4a65c 9 "java/util/ArrayList" "elementData" "[Ljava/lang/Object;", Cond.methodLink RX7 273 yX7_countCandidates, Cond.instanceMethod yX7_countCandidates, Cond.selects RX7 yX7_countCandidates yX7_countCandidates, Cond.code yX7_countCandidates cX7_countCandidates 4 (some .int), Cond.fieldLink RX7 19 "ColdStore" "pallets" "Ljava/util/ArrayList;", Cond.classLink RX7 178 "ColdStore$Pallet", Cond.methodLink RX7 373 yX3_accepts, Cond.instanceMethod yX3_accepts, Cond.selects RX3 yX3_accepts yX3_accepts, Cond.initialized RX3, Cond.code yX3_accepts cX3_accepts 2 (some .boolean), Cond.fieldLink RX3 38 "ColdStore$Pallet" "kind" "LColdStore$Kind;", Cond.fieldLink RX3 19 "ColdStore$Order" "kind" "LColdStore$Kind;"]
def wsX7_candidateAt_r3 : List Cond := [Cond.fieldLink RX3 39 "ColdStore$Pallet" "lifeLeft" "I", Cond.fieldLink RX3 26 "ColdStore$Order" "promise" "I", Cond.methodLink RX3 32 yX4_isInRoom, Cond.instanceMethod yX4_isInRoom, Cond.selects RX4 yX4_isInRoom yX4_isInRoom, Cond.initialized RX4, Cond.code yX4_isInRoom cX4_isInRoom 1 (some .boolean), Cond.fieldLink RX4 9 "ColdStore$Pallet" "status" "C", Cond.methodLink RX7 277 yX7_findCandidate, Cond.instanceMethod yX7_findCandidate, Cond.selects RX7 yX7_findCandidate yX7_findCandidate, Cond.code yX7_findCandidate cX7_findCandidate 5 (some (.object "ColdStore$Pallet")), Cond.methodLink RX7 379 yX7_nextCandidate, Cond.instanceMethod yX7_nextCandidate, Cond.selects RX7 yX7_nextCandidate yX7_nextCandidate, Cond.code yX7_nextCandidate cX7_nextCandidate 7 (some (.object "ColdStore$Pallet")), Cond.methodLink RX7 242 yX4_isAheadOf, Cond.instanceMethod yX4_isAheadOf, Cond.selects RX4 yX4_isAheadOf yX4_isAheadOf, Cond.code yX4_isAheadOf cX4_isAheadOf 2 (some .boolean), Cond.fieldLink RX4 40 "ColdStore$Pallet" "lifeLeft" "I", Cond.fieldLink RX4 19 "ColdStore$Pallet" "number" "I"]
def wsX7_candidateAt : List Cond := .code yX7_candidateAt cX7_candidateAt 5 (some .int) :: ((wsX7_candidateAt_r1 ++ (wsX7_candidateAt_r2 ++ wsX7_candidateAt_r3)) ++ wsX40 ++ wsX70 ++ wsJx4a65c0 ++ wsX30 ++ (vx_atS RX7 114 "java/util/NoSuchElementException" ["java/lang/RuntimeException", "java/lang/Exception"]).filter goodWord ++ (vx_atS RX7 318 "java/lang/IndexOutOfBoundsException" ["java/lang/RuntimeException", "java/lang/Exception"]).filter goodWord)
def wsX7_ship_r1 : List Cond := [Cond.classLink RX7 287 "java/lang/UnsupportedOperationException", Cond.initialized "java/lang/UnsupportedOperationException", Cond.methodLink RX7 261 yX7_findOrder, Cond.instanceMethod yX7_findOrder, Cond.selects RX7 yX7_findOrder yX7_findOrder, Cond.initialized RX7, Cond.code yX7_findOrder cX7_findOrder 2 (some (.object "ColdStore$Order")), Cond.classLink RX7 314 "java/lang/IndexOutOfBoundsException", Cond.initialized "java/lang/IndexOutOfBoundsException", Cond.fieldLink RX7 22 "ColdStore" "orders" "Ljava/util/ArrayList;", Cond.classLink RX7 256 "ColdStore$Order", Cond.methodLink RX7 61 yJx4a65c_size_8abf5, Cond.instanceMethod yJx4a65c_size_8abf5, Cond.selects RJx4a65c yJx4a65c_size_8abf5 yJx4a65c_size_8abf5, Cond.initialized RJx4a65c, Cond.code yJx4a65c_size_8abf5 cJx4a65c_size_8abf5 1 (some .int), Cond.fieldLink RJx4a65c 48 "java/util/ArrayList" "size" "I", Cond.methodLink RX7 234 yJx4a65c_get_915e3, Cond.instanceMethod yJx4a65c_get_915e3, Cond.selects RJx4a65c yJx4a65c_get_915e3 yJx4a65c_get_915e3, Cond.code yJx4a65c_get_915e3 cJx4a65c_get_915e3 2 (some (.object "java/lang/Object")), Cond.methodLink RJx4a65c 118 yJ15_checkIndex_7cf53, Cond.static yJ15_checkIndex_7cf53, Cond.initialized RJ15]
def wsX7_ship_r2 : List Cond := [Cond.code yJ15_checkIndex_7cf53 cJ15_checkIndex_7cf53 2 (some .int), Cond.methodLink RJ15 105 yJ3_checkIndex_8e157, Cond.static yJ3_checkIndex_8e157, Cond.initialized RJ3, Cond.code yJ3_checkIndex_8e157 cJ3_checkIndex_8e157 3 (some .int), Cond.methodLink RJx4a65c 123 yJx4a65c_elementData_915e3, Cond.instanceMethod yJx4a65c_elementData_915e3, Cond.selects RJx4a65c yJx4a65c_elementData_915e3 yJx4a65c_elementData_915e3, Cond.code yJx4a65c_elementData_915e3 cJx4a65c_elementData_915e3 2 (some (.object "java/lang/Object")), Cond.fieldLink RJx4a65c 9 "java/util/ArrayList" "elementData" "[Ljava/lang/Object;", Cond.methodLink RX7 265 yX7_requireOpen, Cond.static yX7_requireOpen, Cond.code yX7_requireOpen cX7_requireOpen 1 none, Cond.classLink RX7 50 "java/lang/IllegalStateException", Cond.initialized "java/lang/IllegalStateException", Cond.fieldLink RX7 269 "ColdStore$Order" "status" "C", Cond.methodLink RX7 283 yX7_canBeShipped, Cond.instanceMethod yX7_canBeShipped, Cond.selects RX7 yX7_canBeShipped yX7_canBeShipped, Cond.code yX7_canBeShipped cX7_canBeShipped 2 (some .boolean), Cond.fieldLink RX7 376 "ColdStore$Order" "count" "I", Cond.methodLink RX7 273 yX7_countCandidates, Cond.instanceMethod yX7_countCandidates, Cond.selects RX7 yX7_countCandidates yX7_countCandidates]
def wsX7_ship_r3 : List Cond := [Cond.code yX7_countCandidates cX7_countCandidates 4 (some .int), Cond.fieldLink RX7 19 "ColdStore" "pallets" "Ljava/util/ArrayList;", Cond.classLink RX7 178 "ColdStore$Pallet", Cond.methodLink RX7 373 yX3_accepts, Cond.instanceMethod yX3_accepts, Cond.selects RX3 yX3_accepts yX3_accepts, Cond.initialized RX3, Cond.code yX3_accepts cX3_accepts 2 (some .boolean), Cond.fieldLink RX3 38 "ColdStore$Pallet" "kind" "LColdStore$Kind;", Cond.fieldLink RX3 19 "ColdStore$Order" "kind" "LColdStore$Kind;", Cond.fieldLink RX3 39 "ColdStore$Pallet" "lifeLeft" "I", Cond.fieldLink RX3 26 "ColdStore$Order" "promise" "I", Cond.methodLink RX3 32 yX4_isInRoom, Cond.instanceMethod yX4_isInRoom, Cond.selects RX4 yX4_isInRoom yX4_isInRoom, Cond.initialized RX4, Cond.code yX4_isInRoom cX4_isInRoom 1 (some .boolean), Cond.fieldLink RX4 9 "ColdStore$Pallet" "status" "C", Cond.methodLink RX7 292 yX7_shipCandidates, Cond.instanceMethod yX7_shipCandidates, Cond.selects RX7 yX7_shipCandidates yX7_shipCandidates, Cond.code yX7_shipCandidates cX7_shipCandidates 5 (some .int), Cond.fieldLink RX7 212 "ColdStore$Pallet" "lifeLeft" "I", Cond.fieldLink RX7 297 "ColdStore$Order" "leastLife" "I"]
def wsX7_ship_r4 : List Cond := [Cond.fieldLink RX7 39 "ColdStore" "time" "I", Cond.methodLink RX7 379 yX7_nextCandidate, Cond.instanceMethod yX7_nextCandidate, Cond.selects RX7 yX7_nextCandidate yX7_nextCandidate, Cond.code yX7_nextCandidate cX7_nextCandidate 7 (some (.object "ColdStore$Pallet")), Cond.methodLink RX7 242 yX4_isAheadOf, Cond.instanceMethod yX4_isAheadOf, Cond.selects RX4 yX4_isAheadOf yX4_isAheadOf, Cond.code yX4_isAheadOf cX4_isAheadOf 2 (some .boolean), Cond.fieldLink RX4 40 "ColdStore$Pallet" "lifeLeft" "I", Cond.fieldLink RX4 19 "ColdStore$Pallet" "number" "I", Cond.methodLink RX7 208 yX4_leave, Cond.instanceMethod yX4_leave, Cond.selects RX4 yX4_leave yX4_leave, Cond.code yX4_leave cX4_leave 3 none, Cond.fieldLink RX4 15 "ColdStore$Pallet" "leftAt" "I"]
def wsX7_ship : List Cond := .code yX7_ship cX7_ship 3 (some .int) :: ((wsX7_ship_r1 ++ (wsX7_ship_r2 ++ (wsX7_ship_r3 ++ wsX7_ship_r4))) ++ wsX70 ++ wsJx4a65c0 ++ wsX30 ++ wsX40 ++ (vx_atS RX7 291 "java/lang/UnsupportedOperationException" ["java/lang/RuntimeException", "java/lang/Exception"]).filter goodWord ++ (vx_atS RX7 318 "java/lang/IndexOutOfBoundsException" ["java/lang/RuntimeException", "java/lang/Exception"]).filter goodWord ++ (vx_atS RX7 54 "java/lang/IllegalStateException" ["java/lang/RuntimeException", "java/lang/Exception"]).filter goodWord)
def wsX7_orderState_r1 : List Cond := [Cond.fieldLink RX7 269 "ColdStore$Order" "status" "C", Cond.methodLink RX7 261 yX7_findOrder, Cond.instanceMethod yX7_findOrder, Cond.selects RX7 yX7_findOrder yX7_findOrder, Cond.initialized RX7, Cond.code yX7_findOrder cX7_findOrder 2 (some (.object "ColdStore$Order")), Cond.classLink RX7 314 "java/lang/IndexOutOfBoundsException", Cond.initialized "java/lang/IndexOutOfBoundsException", Cond.fieldLink RX7 22 "ColdStore" "orders" "Ljava/util/ArrayList;", Cond.classLink RX7 256 "ColdStore$Order", Cond.methodLink RX7 61 yJx4a65c_size_8abf5, Cond.instanceMethod yJx4a65c_size_8abf5, Cond.selects RJx4a65c yJx4a65c_size_8abf5 yJx4a65c_size_8abf5, Cond.initialized RJx4a65c, Cond.code yJx4a65c_size_8abf5 cJx4a65c_size_8abf5 1 (some .int), Cond.fieldLink RJx4a65c 48 "java/util/ArrayList" "size" "I", Cond.methodLink RX7 234 yJx4a65c_get_915e3, Cond.instanceMethod yJx4a65c_get_915e3, Cond.selects RJx4a65c yJx4a65c_get_915e3 yJx4a65c_get_915e3, Cond.code yJx4a65c_get_915e3 cJx4a65c_get_915e3 2 (some (.object "java/lang/Object")), Cond.methodLink RJx4a65c 118 yJ15_checkIndex_7cf53, Cond.static yJ15_checkIndex_7cf53, Cond.initialized RJ15, Cond.code yJ15_checkIndex_7cf53 cJ15_checkIndex_7cf53 2 (some .int)]
def wsX7_orderState_r2 : List Cond := [Cond.methodLink RJ15 105 yJ3_checkIndex_8e157, Cond.static yJ3_checkIndex_8e157, Cond.initialized RJ3, Cond.code yJ3_checkIndex_8e157 cJ3_checkIndex_8e157 3 (some .int), Cond.methodLink RJx4a65c 123 yJx4a65c_elementData_915e3, Cond.instanceMethod yJx4a65c_elementData_915e3, Cond.selects RJx4a65c yJx4a65c_elementData_915e3 yJx4a65c_elementData_915e3, Cond.code yJx4a65c_elementData_915e3 cJx4a65c_elementData_915e3 2 (some (.object "java/lang/Object")), Cond.fieldLink RJx4a65c 9 "java/util/ArrayList" "elementData" "[Ljava/lang/Object;"]
def wsX7_orderState : List Cond := .code yX7_orderState cX7_orderState 2 (some .char) :: ((wsX7_orderState_r1 ++ wsX7_orderState_r2) ++ wsX30 ++ wsX70 ++ wsJx4a65c0 ++ (vx_atS RX7 318 "java/lang/IndexOutOfBoundsException" ["java/lang/RuntimeException", "java/lang/Exception"]).filter goodWord)
def wsX7_leastShipped_r1 : List Cond := [Cond.classLink RX7 110 "java/util/NoSuchElementException", Cond.initialized "java/util/NoSuchElementException", Cond.fieldLink RX7 269 "ColdStore$Order" "status" "C", Cond.fieldLink RX7 297 "ColdStore$Order" "leastLife" "I", Cond.methodLink RX7 261 yX7_findOrder, Cond.instanceMethod yX7_findOrder, Cond.selects RX7 yX7_findOrder yX7_findOrder, Cond.initialized RX7, Cond.code yX7_findOrder cX7_findOrder 2 (some (.object "ColdStore$Order")), Cond.classLink RX7 314 "java/lang/IndexOutOfBoundsException", Cond.initialized "java/lang/IndexOutOfBoundsException", Cond.fieldLink RX7 22 "ColdStore" "orders" "Ljava/util/ArrayList;", Cond.classLink RX7 256 "ColdStore$Order", Cond.methodLink RX7 61 yJx4a65c_size_8abf5, Cond.instanceMethod yJx4a65c_size_8abf5, Cond.selects RJx4a65c yJx4a65c_size_8abf5 yJx4a65c_size_8abf5, Cond.initialized RJx4a65c, Cond.code yJx4a65c_size_8abf5 cJx4a65c_size_8abf5 1 (some .int), Cond.fieldLink RJx4a65c 48 "java/util/ArrayList" "size" "I", Cond.methodLink RX7 234 yJx4a65c_get_915e3, Cond.instanceMethod yJx4a65c_get_915e3, Cond.selects RJx4a65c yJx4a65c_get_915e3 yJx4a65c_get_915e3, Cond.code yJx4a65c_get_915e3 cJx4a65c_get_915e3 2 (some (.object "java/lang/Object")), Cond.methodLink RJx4a65c 118 yJ15_checkIndex_7cf53]
def wsX7_leastShipped_r2 : List Cond := [Cond.static yJ15_checkIndex_7cf53, Cond.initialized RJ15, Cond.code yJ15_checkIndex_7cf53 cJ15_checkIndex_7cf53 2 (some .int), Cond.methodLink RJ15 105 yJ3_checkIndex_8e157, Cond.static yJ3_checkIndex_8e157, Cond.initialized RJ3, Cond.code yJ3_checkIndex_8e157 cJ3_checkIndex_8e157 3 (some .int), Cond.methodLink RJx4a65c 123 yJx4a65c_elementData_915e3, Cond.instanceMethod yJx4a65c_elementData_915e3, Cond.selects RJx4a65c yJx4a65c_elementData_915e3 yJx4a65c_elementData_915e3, Cond.code yJx4a65c_elementData_915e3 cJx4a65c_elementData_915e3 2 (some (.object "java/lang/Object")), Cond.fieldLink RJx4a65c 9 "java/util/ArrayList" "elementData" "[Ljava/lang/Object;"]
def wsX7_leastShipped : List Cond := .code yX7_leastShipped cX7_leastShipped 3 (some .int) :: ((wsX7_leastShipped_r1 ++ wsX7_leastShipped_r2) ++ wsX30 ++ wsX70 ++ wsJx4a65c0 ++ (vx_atS RX7 114 "java/util/NoSuchElementException" ["java/lang/RuntimeException", "java/lang/Exception"]).filter goodWord ++ (vx_atS RX7 318 "java/lang/IndexOutOfBoundsException" ["java/lang/RuntimeException", "java/lang/Exception"]).filter goodWord)
def wsX7_isMeterConsistent_r1 : List Cond := [Cond.fieldLink RX7 39 "ColdStore" "time" "I", Cond.fieldLink RX7 35 "ColdStore" "meter" "LColdStore$Meter;", Cond.fieldLink RX7 149 "ColdStore$Meter" "greatest" "I", Cond.fieldLink RX7 146 "ColdStore$Meter" "latest" "I", Cond.methodLink RX7 383 yX7_bill, Cond.instanceMethod yX7_bill, Cond.selects RX7 yX7_bill yX7_bill, Cond.initialized RX7, Cond.code yX7_bill cX7_bill 1 (some .long), Cond.fieldLink RX7 150 "ColdStore$Meter" "costs" "J", Cond.fieldLink RX7 28 "ColdStore" "contract" "LColdStore$Contract;", Cond.fieldLink RX7 140 "ColdStore$Contract" "charge" "I", Cond.methodLink RX7 387 yX7_billByRecords, Cond.instanceMethod yX7_billByRecords, Cond.selects RX7 yX7_billByRecords yX7_billByRecords, Cond.code yX7_billByRecords cX7_billByRecords 1 (some .long), Cond.methodLink RX7 154 yX2_recordedCosts, Cond.instanceMethod yX2_recordedCosts, Cond.selects RX2 yX2_recordedCosts yX2_recordedCosts, Cond.initialized RX2, Cond.code yX2_recordedCosts cX2_recordedCosts 5 (some .long), Cond.fieldLink RX2 9 "ColdStore$Meter" "powers" "[I", Cond.fieldLink RX2 15 "ColdStore$Meter" "prices" "[I", Cond.methodLink RX7 158 yX2_recordedGreatest]
def wsX7_isMeterConsistent_r2 : List Cond := [Cond.instanceMethod yX2_recordedGreatest, Cond.selects RX2 yX2_recordedGreatest yX2_recordedGreatest, Cond.code yX2_recordedGreatest cX2_recordedGreatest 4 (some .int), Cond.methodLink RX2 29 Lib.Math.max.name, Cond.static Lib.Math.max.name, Cond.initialized "java/lang/Math", Cond.code Lib.Math.max.name Lib.Math.max.code 2 (some .int)]
def wsX7_isMeterConsistent : List Cond := .code yX7_isMeterConsistent cX7_isMeterConsistent 1 (some .boolean) :: ((wsX7_isMeterConsistent_r1 ++ wsX7_isMeterConsistent_r2) ++ wsX70 ++ wsX20 ++ wsX00 ++ (vx_atM "java/lang/ArrayIndexOutOfBoundsException" ["java/lang/IndexOutOfBoundsException", "java/lang/RuntimeException", "java/lang/Exception"]).filter goodWord)
def wsX7_areRoomsConsistent_r1 : List Cond := [Cond.fieldLink RX7 10 "ColdStore" "rooms" "Ljava/util/ArrayList;", Cond.classLink RX7 66 "ColdStore$Room", Cond.fieldLink RX7 205 "ColdStore$Room" "number" "I", Cond.fieldLink RX7 79 "ColdStore$Room" "lower" "I", Cond.fieldLink RX7 82 "ColdStore$Room" "upper" "I", Cond.fieldLink RX7 100 "ColdStore$Room" "degrees" "I", Cond.fieldLink RX7 107 "ColdStore$Room" "ticks" "I", Cond.fieldLink RX7 39 "ColdStore" "time" "I", Cond.methodLink RX7 61 yJx4a65c_size_8abf5, Cond.instanceMethod yJx4a65c_size_8abf5, Cond.selects RJx4a65c yJx4a65c_size_8abf5 yJx4a65c_size_8abf5, Cond.initialized RJx4a65c, Cond.code yJx4a65c_size_8abf5 cJx4a65c_size_8abf5 1 (some .int), Cond.fieldLink RJx4a65c 48 "java/util/ArrayList" "size" "I", Cond.methodLink RX7 234 yJx4a65c_get_915e3, Cond.instanceMethod yJx4a65c_get_915e3, Cond.selects RJx4a65c yJx4a65c_get_915e3 yJx4a65c_get_915e3, Cond.code yJx4a65c_get_915e3 cJx4a65c_get_915e3 2 (some (.object "java/lang/Object")), Cond.methodLink RJx4a65c 118 yJ15_checkIndex_7cf53, Cond.static yJ15_checkIndex_7cf53, Cond.initialized RJ15, Cond.code yJ15_checkIndex_7cf53 cJ15_checkIndex_7cf53 2 (some .int), Cond.methodLink RJ15 105 yJ3_checkIndex_8e157, Cond.static yJ3_checkIndex_8e157]
def wsX7_areRoomsConsistent_r2 : List Cond := [Cond.initialized RJ3, Cond.code yJ3_checkIndex_8e157 cJ3_checkIndex_8e157 3 (some .int), Cond.methodLink RJx4a65c 123 yJx4a65c_elementData_915e3, Cond.instanceMethod yJx4a65c_elementData_915e3, Cond.selects RJx4a65c yJx4a65c_elementData_915e3 yJx4a65c_elementData_915e3, Cond.code yJx4a65c_elementData_915e3 cJx4a65c_elementData_915e3 2 (some (.object "java/lang/Object")), Cond.fieldLink RJx4a65c 9 "java/util/ArrayList" "elementData" "[Ljava/lang/Object;", Cond.methodLink RX7 124 yX7_spaceIn, Cond.instanceMethod yX7_spaceIn, Cond.selects RX7 yX7_spaceIn yX7_spaceIn, Cond.initialized RX7, Cond.code yX7_spaceIn cX7_spaceIn 5 (some .int), Cond.fieldLink RX7 19 "ColdStore" "pallets" "Ljava/util/ArrayList;", Cond.classLink RX7 178 "ColdStore$Pallet", Cond.fieldLink RX7 191 "ColdStore$Pallet" "stay" "LColdStore$Stay;", Cond.fieldLink RX7 195 "ColdStore$Stay" "room" "LColdStore$Room;", Cond.methodLink RX7 238 yX4_isInRoom, Cond.instanceMethod yX4_isInRoom, Cond.selects RX4 yX4_isInRoom yX4_isInRoom, Cond.initialized RX4, Cond.code yX4_isInRoom cX4_isInRoom 1 (some .boolean), Cond.fieldLink RX4 9 "ColdStore$Pallet" "status" "C"]
def wsX7_areRoomsConsistent : List Cond := .code yX7_areRoomsConsistent cX7_areRoomsConsistent 4 (some .boolean) :: ((wsX7_areRoomsConsistent_r1 ++ wsX7_areRoomsConsistent_r2) ++ wsX70 ++ wsX50 ++ wsJx4a65c0 ++ wsX40 ++ wsX60)
def wsX7_arePalletsConsistent_r1 : List Cond := [Cond.fieldLink RX7 19 "ColdStore" "pallets" "Ljava/util/ArrayList;", Cond.classLink RX7 178 "ColdStore$Pallet", Cond.fieldLink RX7 248 "ColdStore$Pallet" "number" "I", Cond.fieldLink RX7 212 "ColdStore$Pallet" "lifeLeft" "I", Cond.fieldLink RX7 221 "ColdStore$Pallet" "kind" "LColdStore$Kind;", Cond.fieldLink RX7 390 "ColdStore$Kind" "fullLife" "I", Cond.fieldLink RX7 39 "ColdStore" "time" "I", Cond.fieldLink RX7 16 "ColdStore" "kinds" "Ljava/util/ArrayList;", Cond.methodLink RX7 61 yJx4a65c_size_8abf5, Cond.instanceMethod yJx4a65c_size_8abf5, Cond.selects RJx4a65c yJx4a65c_size_8abf5 yJx4a65c_size_8abf5, Cond.initialized RJx4a65c, Cond.code yJx4a65c_size_8abf5 cJx4a65c_size_8abf5 1 (some .int), Cond.fieldLink RJx4a65c 48 "java/util/ArrayList" "size" "I", Cond.methodLink RX7 234 yJx4a65c_get_915e3, Cond.instanceMethod yJx4a65c_get_915e3, Cond.selects RJx4a65c yJx4a65c_get_915e3 yJx4a65c_get_915e3, Cond.code yJx4a65c_get_915e3 cJx4a65c_get_915e3 2 (some (.object "java/lang/Object")), Cond.methodLink RJx4a65c 118 yJ15_checkIndex_7cf53, Cond.static yJ15_checkIndex_7cf53, Cond.initialized RJ15, Cond.code yJ15_checkIndex_7cf53 cJ15_checkIndex_7cf53 2 (some .int), Cond.methodLink RJ15 105 yJ3_checkIndex_8e157, Cond.static yJ3_checkIndex_8e157]
def wsX7_arePalletsConsistent_r2 : List Cond := [Cond.initialized RJ3, Cond.code yJ3_checkIndex_8e157 cJ3_checkIndex_8e157 3 (some .int), Cond.methodLink RJx4a65c 123 yJx4a65c_elementData_915e3, Cond.instanceMethod yJx4a65c_elementData_915e3, Cond.selects RJx4a65c yJx4a65c_elementData_915e3 yJx4a65c_elementData_915e3, Cond.code yJx4a65c_elementData_915e3 cJx4a65c_elementData_915e3 2 (some (.object "java/lang/Object")), Cond.fieldLink RJx4a65c 9 "java/util/ArrayList" "elementData" "[Ljava/lang/Object;", Cond.methodLink RX7 218 yX4_recordedLife, Cond.instanceMethod yX4_recordedLife, Cond.selects RX4 yX4_recordedLife yX4_recordedLife, Cond.initialized RX4, Cond.code yX4_recordedLife cX4_recordedLife 6 (some .int), Cond.fieldLink RX4 15 "ColdStore$Pallet" "leftAt" "I", Cond.fieldLink RX4 31 "ColdStore$Pallet" "stay" "LColdStore$Stay;", Cond.fieldLink RX4 43 "ColdStore$Stay" "since" "I", Cond.fieldLink RX4 22 "ColdStore$Pallet" "kind" "LColdStore$Kind;", Cond.fieldLink RX4 53 "ColdStore$Stay" "room" "LColdStore$Room;", Cond.fieldLink RX4 46 "ColdStore$Stay" "earlier" "LColdStore$Stay;", Cond.fieldLink RX4 35 "ColdStore$Kind" "fullLife" "I", Cond.methodLink RX4 66 Lib.Math.max.name, Cond.static Lib.Math.max.name, Cond.initialized "java/lang/Math", Cond.code Lib.Math.max.name Lib.Math.max.code 2 (some .int), Cond.methodLink RX4 49 yX4_isInRoom]
def wsX7_arePalletsConsistent_r3 : List Cond := [Cond.instanceMethod yX4_isInRoom, Cond.selects RX4 yX4_isInRoom yX4_isInRoom, Cond.code yX4_isInRoom cX4_isInRoom 1 (some .boolean), Cond.fieldLink RX4 9 "ColdStore$Pallet" "status" "C", Cond.methodLink RX4 72 yX5_recordedAt, Cond.instanceMethod yX5_recordedAt, Cond.selects RX5 yX5_recordedAt yX5_recordedAt, Cond.initialized RX5, Cond.code yX5_recordedAt cX5_recordedAt 2 (some .int), Cond.fieldLink RX5 9 "ColdStore$Room" "records" "[I", Cond.fieldLink RX5 63 "ColdStore$Room" "degrees" "I", Cond.methodLink RX4 62 yX1_lossAt, Cond.instanceMethod yX1_lossAt, Cond.selects RX1 yX1_lossAt yX1_lossAt, Cond.initialized RX1, Cond.code yX1_lossAt cX1_lossAt 2 (some .int), Cond.fieldLink RX1 16 "ColdStore$Kind" "lowest" "I", Cond.fieldLink RX1 13 "ColdStore$Kind" "best" "I"]
def wsX7_arePalletsConsistent : List Cond := .code yX7_arePalletsConsistent cX7_arePalletsConsistent 4 (some .boolean) :: ((wsX7_arePalletsConsistent_r1 ++ (wsX7_arePalletsConsistent_r2 ++ wsX7_arePalletsConsistent_r3)) ++ wsX70 ++ wsX40 ++ wsX10 ++ wsJx4a65c0 ++ wsX60 ++ wsX50 ++ (vx_atM "java/lang/ArrayIndexOutOfBoundsException" ["java/lang/IndexOutOfBoundsException", "java/lang/RuntimeException", "java/lang/Exception"]).filter goodWord)
def wsX7_areOrdersConsistent_r1 : List Cond := [Cond.fieldLink RX7 22 "ColdStore" "orders" "Ljava/util/ArrayList;", Cond.classLink RX7 256 "ColdStore$Order", Cond.fieldLink RX7 269 "ColdStore$Order" "status" "C", Cond.fieldLink RX7 370 "ColdStore$Order" "due" "I", Cond.fieldLink RX7 39 "ColdStore" "time" "I", Cond.methodLink RX7 61 yJx4a65c_size_8abf5, Cond.instanceMethod yJx4a65c_size_8abf5, Cond.selects RJx4a65c yJx4a65c_size_8abf5 yJx4a65c_size_8abf5, Cond.initialized RJx4a65c, Cond.code yJx4a65c_size_8abf5 cJx4a65c_size_8abf5 1 (some .int), Cond.fieldLink RJx4a65c 48 "java/util/ArrayList" "size" "I", Cond.methodLink RX7 234 yJx4a65c_get_915e3, Cond.instanceMethod yJx4a65c_get_915e3, Cond.selects RJx4a65c yJx4a65c_get_915e3 yJx4a65c_get_915e3, Cond.code yJx4a65c_get_915e3 cJx4a65c_get_915e3 2 (some (.object "java/lang/Object")), Cond.methodLink RJx4a65c 118 yJ15_checkIndex_7cf53, Cond.static yJ15_checkIndex_7cf53, Cond.initialized RJ15, Cond.code yJ15_checkIndex_7cf53 cJ15_checkIndex_7cf53 2 (some .int), Cond.methodLink RJ15 105 yJ3_checkIndex_8e157, Cond.static yJ3_checkIndex_8e157, Cond.initialized RJ3, Cond.code yJ3_checkIndex_8e157 cJ3_checkIndex_8e157 3 (some .int), Cond.methodLink RJx4a65c 123 yJx4a65c_elementData_915e3]
def wsX7_areOrdersConsistent_r2 : List Cond := [Cond.instanceMethod yJx4a65c_elementData_915e3, Cond.selects RJx4a65c yJx4a65c_elementData_915e3 yJx4a65c_elementData_915e3, Cond.code yJx4a65c_elementData_915e3 cJx4a65c_elementData_915e3 2 (some (.object "java/lang/Object")), Cond.fieldLink RJx4a65c 9 "java/util/ArrayList" "elementData" "[Ljava/lang/Object;"]
def wsX7_areOrdersConsistent : List Cond := .code yX7_areOrdersConsistent cX7_areOrdersConsistent 3 (some .boolean) :: ((wsX7_areOrdersConsistent_r1 ++ wsX7_areOrdersConsistent_r2) ++ wsX70 ++ wsX30 ++ wsJx4a65c0)
def wsX7_isConsistent_r1 : List Cond := [Cond.methodLink RX7 300 yX7_isMeterConsistent, Cond.instanceMethod yX7_isMeterConsistent, Cond.selects RX7 yX7_isMeterConsistent yX7_isMeterConsistent, Cond.initialized RX7, Cond.code yX7_isMeterConsistent cX7_isMeterConsistent 1 (some .boolean), Cond.fieldLink RX7 39 "ColdStore" "time" "I", Cond.fieldLink RX7 35 "ColdStore" "meter" "LColdStore$Meter;", Cond.fieldLink RX7 149 "ColdStore$Meter" "greatest" "I", Cond.fieldLink RX7 146 "ColdStore$Meter" "latest" "I", Cond.methodLink RX7 383 yX7_bill, Cond.instanceMethod yX7_bill, Cond.selects RX7 yX7_bill yX7_bill, Cond.code yX7_bill cX7_bill 1 (some .long), Cond.fieldLink RX7 150 "ColdStore$Meter" "costs" "J", Cond.fieldLink RX7 28 "ColdStore" "contract" "LColdStore$Contract;", Cond.fieldLink RX7 140 "ColdStore$Contract" "charge" "I", Cond.methodLink RX7 387 yX7_billByRecords, Cond.instanceMethod yX7_billByRecords, Cond.selects RX7 yX7_billByRecords yX7_billByRecords, Cond.code yX7_billByRecords cX7_billByRecords 1 (some .long), Cond.methodLink RX7 154 yX2_recordedCosts, Cond.instanceMethod yX2_recordedCosts, Cond.selects RX2 yX2_recordedCosts yX2_recordedCosts, Cond.initialized RX2]
def wsX7_isConsistent_r2 : List Cond := [Cond.code yX2_recordedCosts cX2_recordedCosts 5 (some .long), Cond.fieldLink RX2 9 "ColdStore$Meter" "powers" "[I", Cond.fieldLink RX2 15 "ColdStore$Meter" "prices" "[I", Cond.methodLink RX7 158 yX2_recordedGreatest, Cond.instanceMethod yX2_recordedGreatest, Cond.selects RX2 yX2_recordedGreatest yX2_recordedGreatest, Cond.code yX2_recordedGreatest cX2_recordedGreatest 4 (some .int), Cond.methodLink RX2 29 Lib.Math.max.name, Cond.static Lib.Math.max.name, Cond.initialized "java/lang/Math", Cond.code Lib.Math.max.name Lib.Math.max.code 2 (some .int), Cond.methodLink RX7 303 yX7_areRoomsConsistent, Cond.instanceMethod yX7_areRoomsConsistent, Cond.selects RX7 yX7_areRoomsConsistent yX7_areRoomsConsistent, Cond.code yX7_areRoomsConsistent cX7_areRoomsConsistent 4 (some .boolean), Cond.fieldLink RX7 10 "ColdStore" "rooms" "Ljava/util/ArrayList;", Cond.classLink RX7 66 "ColdStore$Room", Cond.fieldLink RX7 205 "ColdStore$Room" "number" "I", Cond.fieldLink RX7 79 "ColdStore$Room" "lower" "I", Cond.fieldLink RX7 82 "ColdStore$Room" "upper" "I", Cond.fieldLink RX7 100 "ColdStore$Room" "degrees" "I", Cond.fieldLink RX7 107 "ColdStore$Room" "ticks" "I", Cond.methodLink RX7 61 yJx4a65c_size_8abf5, Cond.instanceMethod yJx4a65c_size_8abf5]
def wsX7_isConsistent_r3 : List Cond := [Cond.selects RJx4a65c yJx4a65c_size_8abf5 yJx4a65c_size_8abf5, Cond.initialized RJx4a65c, Cond.code yJx4a65c_size_8abf5 cJx4a65c_size_8abf5 1 (some .int), Cond.fieldLink RJx4a65c 48 "java/util/ArrayList" "size" "I", Cond.methodLink RX7 234 yJx4a65c_get_915e3, Cond.instanceMethod yJx4a65c_get_915e3, Cond.selects RJx4a65c yJx4a65c_get_915e3 yJx4a65c_get_915e3, Cond.code yJx4a65c_get_915e3 cJx4a65c_get_915e3 2 (some (.object "java/lang/Object")), Cond.methodLink RJx4a65c 118 yJ15_checkIndex_7cf53, Cond.static yJ15_checkIndex_7cf53, Cond.initialized RJ15, Cond.code yJ15_checkIndex_7cf53 cJ15_checkIndex_7cf53 2 (some .int), Cond.methodLink RJ15 105 yJ3_checkIndex_8e157, Cond.static yJ3_checkIndex_8e157, Cond.initialized RJ3, Cond.code yJ3_checkIndex_8e157 cJ3_checkIndex_8e157 3 (some .int), Cond.methodLink RJx4a65c 123 yJx4a65c_elementData_915e3, Cond.instanceMethod yJx4a65c_elementData_915e3, Cond.selects RJx4a65c yJx4a65c_elementData_915e3 yJx4a65c_elementData_915e3, Cond.code yJx4a65c_elementData_915e3 cJx4a65c_elementData_915e3 2 (some (.object "java/lang/Object")), Cond.fieldLink RJx4a65c 9 "java/util/ArrayList" "elementData" "[Ljava/lang/Object;", Cond.methodLink RX7 124 yX7_spaceIn, Cond.instanceMethod yX7_spaceIn, Cond.selects RX7 yX7_spaceIn yX7_spaceIn]
def wsX7_isConsistent_r4 : List Cond := [Cond.code yX7_spaceIn cX7_spaceIn 5 (some .int), Cond.fieldLink RX7 19 "ColdStore" "pallets" "Ljava/util/ArrayList;", Cond.classLink RX7 178 "ColdStore$Pallet", Cond.fieldLink RX7 191 "ColdStore$Pallet" "stay" "LColdStore$Stay;", Cond.fieldLink RX7 195 "ColdStore$Stay" "room" "LColdStore$Room;", Cond.methodLink RX7 238 yX4_isInRoom, Cond.instanceMethod yX4_isInRoom, Cond.selects RX4 yX4_isInRoom yX4_isInRoom, Cond.initialized RX4, Cond.code yX4_isInRoom cX4_isInRoom 1 (some .boolean), Cond.fieldLink RX4 9 "ColdStore$Pallet" "status" "C", Cond.methodLink RX7 306 yX7_arePalletsConsistent, Cond.instanceMethod yX7_arePalletsConsistent, Cond.selects RX7 yX7_arePalletsConsistent yX7_arePalletsConsistent, Cond.code yX7_arePalletsConsistent cX7_arePalletsConsistent 4 (some .boolean), Cond.fieldLink RX7 248 "ColdStore$Pallet" "number" "I", Cond.fieldLink RX7 212 "ColdStore$Pallet" "lifeLeft" "I", Cond.fieldLink RX7 221 "ColdStore$Pallet" "kind" "LColdStore$Kind;", Cond.fieldLink RX7 390 "ColdStore$Kind" "fullLife" "I", Cond.fieldLink RX7 16 "ColdStore" "kinds" "Ljava/util/ArrayList;", Cond.methodLink RX7 218 yX4_recordedLife, Cond.instanceMethod yX4_recordedLife, Cond.selects RX4 yX4_recordedLife yX4_recordedLife, Cond.code yX4_recordedLife cX4_recordedLife 6 (some .int)]
def wsX7_isConsistent_r5 : List Cond := [Cond.fieldLink RX4 15 "ColdStore$Pallet" "leftAt" "I", Cond.fieldLink RX4 31 "ColdStore$Pallet" "stay" "LColdStore$Stay;", Cond.fieldLink RX4 43 "ColdStore$Stay" "since" "I", Cond.fieldLink RX4 22 "ColdStore$Pallet" "kind" "LColdStore$Kind;", Cond.fieldLink RX4 53 "ColdStore$Stay" "room" "LColdStore$Room;", Cond.fieldLink RX4 46 "ColdStore$Stay" "earlier" "LColdStore$Stay;", Cond.fieldLink RX4 35 "ColdStore$Kind" "fullLife" "I", Cond.methodLink RX4 66 Lib.Math.max.name, Cond.methodLink RX4 49 yX4_isInRoom, Cond.methodLink RX4 72 yX5_recordedAt, Cond.instanceMethod yX5_recordedAt, Cond.selects RX5 yX5_recordedAt yX5_recordedAt, Cond.initialized RX5, Cond.code yX5_recordedAt cX5_recordedAt 2 (some .int), Cond.fieldLink RX5 9 "ColdStore$Room" "records" "[I", Cond.fieldLink RX5 63 "ColdStore$Room" "degrees" "I", Cond.methodLink RX4 62 yX1_lossAt, Cond.instanceMethod yX1_lossAt, Cond.selects RX1 yX1_lossAt yX1_lossAt, Cond.initialized RX1, Cond.code yX1_lossAt cX1_lossAt 2 (some .int), Cond.fieldLink RX1 16 "ColdStore$Kind" "lowest" "I", Cond.fieldLink RX1 13 "ColdStore$Kind" "best" "I", Cond.methodLink RX7 309 yX7_areOrdersConsistent]
def wsX7_isConsistent_r6 : List Cond := [Cond.instanceMethod yX7_areOrdersConsistent, Cond.selects RX7 yX7_areOrdersConsistent yX7_areOrdersConsistent, Cond.code yX7_areOrdersConsistent cX7_areOrdersConsistent 3 (some .boolean), Cond.fieldLink RX7 22 "ColdStore" "orders" "Ljava/util/ArrayList;", Cond.classLink RX7 256 "ColdStore$Order", Cond.fieldLink RX7 269 "ColdStore$Order" "status" "C", Cond.fieldLink RX7 370 "ColdStore$Order" "due" "I"]
def wsX7_isConsistent : List Cond := .code yX7_isConsistent cX7_isConsistent 1 (some .boolean) :: ((wsX7_isConsistent_r1 ++ (wsX7_isConsistent_r2 ++ (wsX7_isConsistent_r3 ++ (wsX7_isConsistent_r4 ++ (wsX7_isConsistent_r5 ++ wsX7_isConsistent_r6))))) ++ wsX70 ++ wsX20 ++ wsX00 ++ wsX50 ++ wsJx4a65c0 ++ wsX40 ++ wsX60 ++ wsX10 ++ wsX30 ++ (vx_atM "java/lang/ArrayIndexOutOfBoundsException" ["java/lang/IndexOutOfBoundsException", "java/lang/RuntimeException", "java/lang/Exception"]).filter goodWord)
def wsX8_init_r1 : List Cond := [Cond.methodLink RX8 1 objectInit, Cond.instanceMethod objectInit, Cond.code objectInit ⟨#[0xb1]⟩ 1 none, Cond.fieldLink RX8 7 "ColdStoreModel" "outside" "I", Cond.arrayClass .int, Cond.fieldLink RX8 13 "ColdStoreModel" "leaks" "[I", Cond.fieldLink RX8 17 "ColdStoreModel" "strengths" "[I", Cond.fieldLink RX8 20 "ColdStoreModel" "powers" "[I", Cond.fieldLink RX8 23 "ColdStoreModel" "lowers" "[I", Cond.fieldLink RX8 26 "ColdStoreModel" "uppers" "[I", Cond.fieldLink RX8 29 "ColdStoreModel" "leads" "[I", Cond.fieldLink RX8 32 "ColdStoreModel" "depths" "[I", Cond.arrayClass .char, Cond.fieldLink RX8 35 "ColdStoreModel" "modes" "[C", Cond.fieldLink RX8 39 "ColdStoreModel" "temps" "[I", Cond.arrayClass .boolean, Cond.fieldLink RX8 42 "ColdStoreModel" "wants" "[Z", Cond.fieldLink RX8 46 "ColdStoreModel" "cooled" "[Z", Cond.fieldLink RX8 49 "ColdStoreModel" "isGiven" "[Z", Cond.fieldLink RX8 52 "ColdStoreModel" "warmests" "[I", Cond.arrayClass .long, Cond.fieldLink RX8 55 "ColdStoreModel" "tempSums" "[J", Cond.fieldLink RX8 59 "ColdStoreModel" "ticks" "[I", Cond.fieldLink RX8 62 "ColdStoreModel" "normal" "I"]
def wsX8_init_r2 : List Cond := [Cond.fieldLink RX8 65 "ColdStoreModel" "peak" "I", Cond.fieldLink RX8 68 "ColdStoreModel" "first" "I", Cond.fieldLink RX8 71 "ColdStoreModel" "last" "I", Cond.fieldLink RX8 74 "ColdStoreModel" "limit" "I", Cond.fieldLink RX8 77 "ColdStoreModel" "lives" "[I", Cond.fieldLink RX8 80 "ColdStoreModel" "bests" "[I", Cond.fieldLink RX8 83 "ColdStoreModel" "lowests" "[I", Cond.fieldLink RX8 86 "ColdStoreModel" "kindOf" "[I", Cond.fieldLink RX8 89 "ColdStoreModel" "roomOf" "[I", Cond.fieldLink RX8 92 "ColdStoreModel" "lifeOf" "[I", Cond.fieldLink RX8 95 "ColdStoreModel" "states" "[C", Cond.fieldLink RX8 98 "ColdStoreModel" "orderKinds" "[I", Cond.fieldLink RX8 101 "ColdStoreModel" "counts" "[I", Cond.fieldLink RX8 104 "ColdStoreModel" "promises" "[I", Cond.fieldLink RX8 107 "ColdStoreModel" "dues" "[I", Cond.fieldLink RX8 110 "ColdStoreModel" "orderStates" "[C", Cond.fieldLink RX8 113 "ColdStoreModel" "leasts" "[I"]
def wsX8_init : List Cond := .code yX8_init cX8_init 1 none :: ((wsX8_init_r1 ++ wsX8_init_r2) ++ wsX80)
def wsX8_thrown : List Cond := .code yX8_thrown cX8_thrown 1 (some .int) :: ([.fieldLink RX8 116 "ColdStoreModel" "thrown" "I"] ++ wsX80)
def wsX8_raises : List Cond := .code yX8_raises cX8_raises 2 (some .int) :: ([.fieldLink RX8 116 "ColdStoreModel" "thrown" "I"] ++ wsX80)
def wsX8_in : List Cond := .code yX8_in cX8_in 3 (some .boolean) :: ([])
def wsX8_isRoom : List Cond := .code yX8_isRoom cX8_isRoom 2 (some .boolean) :: ([.fieldLink RX8 119 "ColdStoreModel" "rooms" "I", .methodLink RX8 122 yX8_in, .static yX8_in, .initialized RX8, .code yX8_in cX8_in 3 (some .boolean)] ++ wsX80)
def wsX8_isPallet : List Cond := .code yX8_isPallet cX8_isPallet 2 (some .boolean) :: ([.fieldLink RX8 126 "ColdStoreModel" "pallets" "I", .methodLink RX8 122 yX8_in, .static yX8_in, .initialized RX8, .code yX8_in cX8_in 3 (some .boolean)] ++ wsX80)
def wsX8_isOrder : List Cond := .code yX8_isOrder cX8_isOrder 2 (some .boolean) :: ([.fieldLink RX8 129 "ColdStoreModel" "orders" "I", .methodLink RX8 122 yX8_in, .static yX8_in, .initialized RX8, .code yX8_in cX8_in 3 (some .boolean)] ++ wsX80)
def wsX8_now : List Cond := .code yX8_now cX8_now 1 (some .int) :: ([.fieldLink RX8 116 "ColdStoreModel" "thrown" "I", .fieldLink RX8 132 "ColdStoreModel" "time" "I"] ++ wsX80)
def wsX8_isPeak : List Cond := .code yX8_isPeak cX8_isPeak 1 (some .boolean) :: ([.fieldLink RX8 68 "ColdStoreModel" "first" "I", .fieldLink RX8 132 "ColdStoreModel" "time" "I", .fieldLink RX8 71 "ColdStoreModel" "last" "I", .methodLink RX8 122 yX8_in, .static yX8_in, .initialized RX8, .code yX8_in cX8_in 3 (some .boolean)] ++ wsX80)
def wsX8_wishes : List Cond := .code yX8_wishes cX8_wishes 3 none :: ([.fieldLink RX8 35 "ColdStoreModel" "modes" "[C", .fieldLink RX8 42 "ColdStoreModel" "wants" "[Z", .fieldLink RX8 32 "ColdStoreModel" "depths" "[I", .fieldLink RX8 68 "ColdStoreModel" "first" "I", .fieldLink RX8 132 "ColdStoreModel" "time" "I", .fieldLink RX8 29 "ColdStoreModel" "leads" "[I", .fieldLink RX8 39 "ColdStoreModel" "temps" "[I", .fieldLink RX8 26 "ColdStoreModel" "uppers" "[I", .fieldLink RX8 23 "ColdStoreModel" "lowers" "[I", .methodLink RX8 135 yX8_isPeak, .instanceMethod yX8_isPeak, .selects RX8 yX8_isPeak yX8_isPeak, .initialized RX8, .code yX8_isPeak cX8_isPeak 1 (some .boolean), .fieldLink RX8 71 "ColdStoreModel" "last" "I", .methodLink RX8 122 yX8_in, .static yX8_in, .code yX8_in cX8_in 3 (some .boolean)] ++ wsX80 ++ (vx_atM "java/lang/ArrayIndexOutOfBoundsException" ["java/lang/IndexOutOfBoundsException", "java/lang/RuntimeException", "java/lang/Exception"]).filter goodWord)
def wsX8_next : List Cond := .code yX8_next cX8_next 4 (some .int) :: ([.fieldLink RX8 119 "ColdStoreModel" "rooms" "I", .fieldLink RX8 42 "ColdStoreModel" "wants" "[Z", .fieldLink RX8 49 "ColdStoreModel" "isGiven" "[Z", .fieldLink RX8 39 "ColdStoreModel" "temps" "[I", .fieldLink RX8 26 "ColdStoreModel" "uppers" "[I"] ++ wsX80 ++ (vx_atM "java/lang/ArrayIndexOutOfBoundsException" ["java/lang/IndexOutOfBoundsException", "java/lang/RuntimeException", "java/lang/Exception"]).filter goodWord)
def wsX8_powers : List Cond := .code yX8_powers cX8_powers 2 none :: ([.fieldLink RX8 139 "ColdStoreModel" "powerNow" "I", .fieldLink RX8 119 "ColdStoreModel" "rooms" "I", .fieldLink RX8 49 "ColdStoreModel" "isGiven" "[Z", .fieldLink RX8 46 "ColdStoreModel" "cooled" "[Z", .fieldLink RX8 20 "ColdStoreModel" "powers" "[I", .fieldLink RX8 74 "ColdStoreModel" "limit" "I", .methodLink RX8 142 yX8_next, .instanceMethod yX8_next, .selects RX8 yX8_next yX8_next, .initialized RX8, .code yX8_next cX8_next 4 (some .int), .fieldLink RX8 42 "ColdStoreModel" "wants" "[Z", .fieldLink RX8 39 "ColdStoreModel" "temps" "[I", .fieldLink RX8 26 "ColdStoreModel" "uppers" "[I"] ++ wsX80 ++ (vx_atM "java/lang/ArrayIndexOutOfBoundsException" ["java/lang/IndexOutOfBoundsException", "java/lang/RuntimeException", "java/lang/Exception"]).filter goodWord)
def wsX8_warms : List Cond := .code yX8_warms cX8_warms 2 none :: ([.fieldLink RX8 119 "ColdStoreModel" "rooms" "I", .fieldLink RX8 39 "ColdStoreModel" "temps" "[I", .fieldLink RX8 7 "ColdStoreModel" "outside" "I", .fieldLink RX8 13 "ColdStoreModel" "leaks" "[I", .fieldLink RX8 46 "ColdStoreModel" "cooled" "[Z", .fieldLink RX8 17 "ColdStoreModel" "strengths" "[I", .methodLink RX8 146 Lib.Math.max.name, .static Lib.Math.max.name, .initialized "java/lang/Math", .code Lib.Math.max.name Lib.Math.max.code 2 (some .int), .fieldLink RX8 52 "ColdStoreModel" "warmests" "[I", .fieldLink RX8 59 "ColdStoreModel" "ticks" "[I", .fieldLink RX8 55 "ColdStoreModel" "tempSums" "[J"] ++ wsX80 ++ (vx_atM "java/lang/ArrayIndexOutOfBoundsException" ["java/lang/IndexOutOfBoundsException", "java/lang/RuntimeException", "java/lang/Exception"]).filter goodWord)
def wsX8_loss : List Cond := .code yX8_loss cX8_loss 4 (some .int) :: ([.fieldLink RX8 86 "ColdStoreModel" "kindOf" "[I", .fieldLink RX8 83 "ColdStoreModel" "lowests" "[I", .fieldLink RX8 80 "ColdStoreModel" "bests" "[I", .methodLink RX8 146 Lib.Math.max.name, .static Lib.Math.max.name, .initialized "java/lang/Math", .code Lib.Math.max.name Lib.Math.max.code 2 (some .int)] ++ wsX80 ++ (vx_atM "java/lang/ArrayIndexOutOfBoundsException" ["java/lang/IndexOutOfBoundsException", "java/lang/RuntimeException", "java/lang/Exception"]).filter goodWord)
def wsX8_isCandidate : List Cond := .code yX8_isCandidate cX8_isCandidate 3 (some .boolean) :: ([.fieldLink RX8 95 "ColdStoreModel" "states" "[C", .fieldLink RX8 86 "ColdStoreModel" "kindOf" "[I", .fieldLink RX8 98 "ColdStoreModel" "orderKinds" "[I", .fieldLink RX8 92 "ColdStoreModel" "lifeOf" "[I", .fieldLink RX8 104 "ColdStoreModel" "promises" "[I"] ++ wsX80 ++ (vx_atM "java/lang/ArrayIndexOutOfBoundsException" ["java/lang/IndexOutOfBoundsException", "java/lang/RuntimeException", "java/lang/Exception"]).filter goodWord)
def wsX8_candidatesOf : List Cond := .code yX8_candidatesOf cX8_candidatesOf 4 (some .int) :: ([.fieldLink RX8 126 "ColdStoreModel" "pallets" "I", .methodLink RX8 207 yX8_isCandidate, .instanceMethod yX8_isCandidate, .selects RX8 yX8_isCandidate yX8_isCandidate, .initialized RX8, .code yX8_isCandidate cX8_isCandidate 3 (some .boolean), .fieldLink RX8 95 "ColdStoreModel" "states" "[C", .fieldLink RX8 86 "ColdStoreModel" "kindOf" "[I", .fieldLink RX8 98 "ColdStoreModel" "orderKinds" "[I", .fieldLink RX8 92 "ColdStoreModel" "lifeOf" "[I", .fieldLink RX8 104 "ColdStoreModel" "promises" "[I"] ++ wsX80 ++ (vx_atM "java/lang/ArrayIndexOutOfBoundsException" ["java/lang/IndexOutOfBoundsException", "java/lang/RuntimeException", "java/lang/Exception"]).filter goodWord)
def wsX8_candidate : List Cond := .code yX8_candidate cX8_candidate 6 (some .int) :: ([.fieldLink RX8 126 "ColdStoreModel" "pallets" "I", .fieldLink RX8 92 "ColdStoreModel" "lifeOf" "[I", .methodLink RX8 207 yX8_isCandidate, .instanceMethod yX8_isCandidate, .selects RX8 yX8_isCandidate yX8_isCandidate, .initialized RX8, .code yX8_isCandidate cX8_isCandidate 3 (some .boolean), .fieldLink RX8 95 "ColdStoreModel" "states" "[C", .fieldLink RX8 86 "ColdStoreModel" "kindOf" "[I", .fieldLink RX8 98 "ColdStoreModel" "orderKinds" "[I", .fieldLink RX8 104 "ColdStoreModel" "promises" "[I"] ++ wsX80 ++ (vx_atM "java/lang/ArrayIndexOutOfBoundsException" ["java/lang/IndexOutOfBoundsException", "java/lang/RuntimeException", "java/lang/Exception"]).filter goodWord)
def wsX8_ships : List Cond := .code yX8_ships cX8_ships 5 (some .int) :: ([.fieldLink RX8 113 "ColdStoreModel" "leasts" "[I", .fieldLink RX8 92 "ColdStoreModel" "lifeOf" "[I", .fieldLink RX8 101 "ColdStoreModel" "counts" "[I", .fieldLink RX8 95 "ColdStoreModel" "states" "[C", .fieldLink RX8 110 "ColdStoreModel" "orderStates" "[C", .methodLink RX8 211 yX8_candidate, .instanceMethod yX8_candidate, .selects RX8 yX8_candidate yX8_candidate, .initialized RX8, .code yX8_candidate cX8_candidate 6 (some .int), .fieldLink RX8 126 "ColdStoreModel" "pallets" "I", .methodLink RX8 207 yX8_isCandidate, .instanceMethod yX8_isCandidate, .selects RX8 yX8_isCandidate yX8_isCandidate, .code yX8_isCandidate cX8_isCandidate 3 (some .boolean), .fieldLink RX8 86 "ColdStoreModel" "kindOf" "[I", .fieldLink RX8 98 "ColdStoreModel" "orderKinds" "[I", .fieldLink RX8 104 "ColdStoreModel" "promises" "[I"] ++ wsX80 ++ (vx_atM "java/lang/ArrayIndexOutOfBoundsException" ["java/lang/IndexOutOfBoundsException", "java/lang/RuntimeException", "java/lang/Exception"]).filter goodWord)
def wsX8_tick_r1 : List Cond := [Cond.fieldLink RX8 119 "ColdStoreModel" "rooms" "I", Cond.fieldLink RX8 161 "ColdStoreModel" "powerMost" "I", Cond.fieldLink RX8 139 "ColdStoreModel" "powerNow" "I", Cond.methodLink RX8 146 Lib.Math.max.name, Cond.static Lib.Math.max.name, Cond.initialized "java/lang/Math", Cond.code Lib.Math.max.name Lib.Math.max.code 2 (some .int), Cond.fieldLink RX8 164 "ColdStoreModel" "costs" "J", Cond.fieldLink RX8 65 "ColdStoreModel" "peak" "I", Cond.fieldLink RX8 62 "ColdStoreModel" "normal" "I", Cond.fieldLink RX8 126 "ColdStoreModel" "pallets" "I", Cond.fieldLink RX8 92 "ColdStoreModel" "lifeOf" "[I", Cond.fieldLink RX8 95 "ColdStoreModel" "states" "[C", Cond.fieldLink RX8 39 "ColdStoreModel" "temps" "[I", Cond.fieldLink RX8 89 "ColdStoreModel" "roomOf" "[I", Cond.fieldLink RX8 132 "ColdStoreModel" "time" "I", Cond.fieldLink RX8 129 "ColdStoreModel" "orders" "I", Cond.fieldLink RX8 110 "ColdStoreModel" "orderStates" "[C", Cond.fieldLink RX8 107 "ColdStoreModel" "dues" "[I", Cond.fieldLink RX8 101 "ColdStoreModel" "counts" "[I", Cond.methodLink RX8 152 yX8_wishes, Cond.instanceMethod yX8_wishes, Cond.selects RX8 yX8_wishes yX8_wishes, Cond.initialized RX8]
def wsX8_tick_r2 : List Cond := [Cond.code yX8_wishes cX8_wishes 3 none, Cond.fieldLink RX8 35 "ColdStoreModel" "modes" "[C", Cond.fieldLink RX8 42 "ColdStoreModel" "wants" "[Z", Cond.fieldLink RX8 32 "ColdStoreModel" "depths" "[I", Cond.fieldLink RX8 68 "ColdStoreModel" "first" "I", Cond.fieldLink RX8 29 "ColdStoreModel" "leads" "[I", Cond.fieldLink RX8 26 "ColdStoreModel" "uppers" "[I", Cond.fieldLink RX8 23 "ColdStoreModel" "lowers" "[I", Cond.methodLink RX8 135 yX8_isPeak, Cond.instanceMethod yX8_isPeak, Cond.selects RX8 yX8_isPeak yX8_isPeak, Cond.code yX8_isPeak cX8_isPeak 1 (some .boolean), Cond.fieldLink RX8 71 "ColdStoreModel" "last" "I", Cond.methodLink RX8 122 yX8_in, Cond.static yX8_in, Cond.code yX8_in cX8_in 3 (some .boolean), Cond.methodLink RX8 156 yX8_powers, Cond.instanceMethod yX8_powers, Cond.selects RX8 yX8_powers yX8_powers, Cond.code yX8_powers cX8_powers 2 none, Cond.fieldLink RX8 49 "ColdStoreModel" "isGiven" "[Z", Cond.fieldLink RX8 46 "ColdStoreModel" "cooled" "[Z", Cond.fieldLink RX8 20 "ColdStoreModel" "powers" "[I", Cond.fieldLink RX8 74 "ColdStoreModel" "limit" "I"]
def wsX8_tick_r3 : List Cond := [Cond.methodLink RX8 142 yX8_next, Cond.instanceMethod yX8_next, Cond.selects RX8 yX8_next yX8_next, Cond.code yX8_next cX8_next 4 (some .int), Cond.methodLink RX8 158 yX8_warms, Cond.instanceMethod yX8_warms, Cond.selects RX8 yX8_warms yX8_warms, Cond.code yX8_warms cX8_warms 2 none, Cond.fieldLink RX8 7 "ColdStoreModel" "outside" "I", Cond.fieldLink RX8 13 "ColdStoreModel" "leaks" "[I", Cond.fieldLink RX8 17 "ColdStoreModel" "strengths" "[I", Cond.fieldLink RX8 52 "ColdStoreModel" "warmests" "[I", Cond.fieldLink RX8 59 "ColdStoreModel" "ticks" "[I", Cond.fieldLink RX8 55 "ColdStoreModel" "tempSums" "[J", Cond.methodLink RX8 168 yX8_loss, Cond.instanceMethod yX8_loss, Cond.selects RX8 yX8_loss yX8_loss, Cond.code yX8_loss cX8_loss 4 (some .int), Cond.fieldLink RX8 86 "ColdStoreModel" "kindOf" "[I", Cond.fieldLink RX8 83 "ColdStoreModel" "lowests" "[I", Cond.fieldLink RX8 80 "ColdStoreModel" "bests" "[I", Cond.methodLink RX8 171 yX8_candidatesOf, Cond.instanceMethod yX8_candidatesOf, Cond.selects RX8 yX8_candidatesOf yX8_candidatesOf]
def wsX8_tick_r4 : List Cond := [Cond.code yX8_candidatesOf cX8_candidatesOf 4 (some .int), Cond.methodLink RX8 207 yX8_isCandidate, Cond.instanceMethod yX8_isCandidate, Cond.selects RX8 yX8_isCandidate yX8_isCandidate, Cond.code yX8_isCandidate cX8_isCandidate 3 (some .boolean), Cond.fieldLink RX8 98 "ColdStoreModel" "orderKinds" "[I", Cond.fieldLink RX8 104 "ColdStoreModel" "promises" "[I", Cond.methodLink RX8 175 yX8_ships, Cond.instanceMethod yX8_ships, Cond.selects RX8 yX8_ships yX8_ships, Cond.code yX8_ships cX8_ships 5 (some .int), Cond.fieldLink RX8 113 "ColdStoreModel" "leasts" "[I", Cond.methodLink RX8 211 yX8_candidate, Cond.instanceMethod yX8_candidate, Cond.selects RX8 yX8_candidate yX8_candidate, Cond.code yX8_candidate cX8_candidate 6 (some .int)]
def wsX8_tick : List Cond := .code yX8_tick cX8_tick 4 (some .int) :: ((wsX8_tick_r1 ++ (wsX8_tick_r2 ++ (wsX8_tick_r3 ++ wsX8_tick_r4))) ++ wsX80 ++ (vx_atM "java/lang/ArrayIndexOutOfBoundsException" ["java/lang/IndexOutOfBoundsException", "java/lang/RuntimeException", "java/lang/Exception"]).filter goodWord)
def wsX8_pass_r1 : List Cond := [Cond.fieldLink RX8 132 "ColdStoreModel" "time" "I", Cond.fieldLink RX8 116 "ColdStoreModel" "thrown" "I", Cond.methodLink RX8 122 yX8_in, Cond.static yX8_in, Cond.initialized RX8, Cond.code yX8_in cX8_in 3 (some .boolean), Cond.methodLink RX8 178 yX8_tick, Cond.instanceMethod yX8_tick, Cond.selects RX8 yX8_tick yX8_tick, Cond.code yX8_tick cX8_tick 4 (some .int), Cond.fieldLink RX8 119 "ColdStoreModel" "rooms" "I", Cond.fieldLink RX8 161 "ColdStoreModel" "powerMost" "I", Cond.fieldLink RX8 139 "ColdStoreModel" "powerNow" "I", Cond.methodLink RX8 146 Lib.Math.max.name, Cond.static Lib.Math.max.name, Cond.initialized "java/lang/Math", Cond.code Lib.Math.max.name Lib.Math.max.code 2 (some .int), Cond.fieldLink RX8 164 "ColdStoreModel" "costs" "J", Cond.fieldLink RX8 65 "ColdStoreModel" "peak" "I", Cond.fieldLink RX8 62 "ColdStoreModel" "normal" "I", Cond.fieldLink RX8 126 "ColdStoreModel" "pallets" "I", Cond.fieldLink RX8 92 "ColdStoreModel" "lifeOf" "[I", Cond.fieldLink RX8 95 "ColdStoreModel" "states" "[C", Cond.fieldLink RX8 39 "ColdStoreModel" "temps" "[I"]
def wsX8_pass_r2 : List Cond := [Cond.fieldLink RX8 89 "ColdStoreModel" "roomOf" "[I", Cond.fieldLink RX8 129 "ColdStoreModel" "orders" "I", Cond.fieldLink RX8 110 "ColdStoreModel" "orderStates" "[C", Cond.fieldLink RX8 107 "ColdStoreModel" "dues" "[I", Cond.fieldLink RX8 101 "ColdStoreModel" "counts" "[I", Cond.methodLink RX8 152 yX8_wishes, Cond.instanceMethod yX8_wishes, Cond.selects RX8 yX8_wishes yX8_wishes, Cond.code yX8_wishes cX8_wishes 3 none, Cond.fieldLink RX8 35 "ColdStoreModel" "modes" "[C", Cond.fieldLink RX8 42 "ColdStoreModel" "wants" "[Z", Cond.fieldLink RX8 32 "ColdStoreModel" "depths" "[I", Cond.fieldLink RX8 68 "ColdStoreModel" "first" "I", Cond.fieldLink RX8 29 "ColdStoreModel" "leads" "[I", Cond.fieldLink RX8 26 "ColdStoreModel" "uppers" "[I", Cond.fieldLink RX8 23 "ColdStoreModel" "lowers" "[I", Cond.methodLink RX8 135 yX8_isPeak, Cond.instanceMethod yX8_isPeak, Cond.selects RX8 yX8_isPeak yX8_isPeak, Cond.code yX8_isPeak cX8_isPeak 1 (some .boolean), Cond.fieldLink RX8 71 "ColdStoreModel" "last" "I", Cond.methodLink RX8 156 yX8_powers, Cond.instanceMethod yX8_powers, Cond.selects RX8 yX8_powers yX8_powers]
def wsX8_pass_r3 : List Cond := [Cond.code yX8_powers cX8_powers 2 none, Cond.fieldLink RX8 49 "ColdStoreModel" "isGiven" "[Z", Cond.fieldLink RX8 46 "ColdStoreModel" "cooled" "[Z", Cond.fieldLink RX8 20 "ColdStoreModel" "powers" "[I", Cond.fieldLink RX8 74 "ColdStoreModel" "limit" "I", Cond.methodLink RX8 142 yX8_next, Cond.instanceMethod yX8_next, Cond.selects RX8 yX8_next yX8_next, Cond.code yX8_next cX8_next 4 (some .int), Cond.methodLink RX8 158 yX8_warms, Cond.instanceMethod yX8_warms, Cond.selects RX8 yX8_warms yX8_warms, Cond.code yX8_warms cX8_warms 2 none, Cond.fieldLink RX8 7 "ColdStoreModel" "outside" "I", Cond.fieldLink RX8 13 "ColdStoreModel" "leaks" "[I", Cond.fieldLink RX8 17 "ColdStoreModel" "strengths" "[I", Cond.fieldLink RX8 52 "ColdStoreModel" "warmests" "[I", Cond.fieldLink RX8 59 "ColdStoreModel" "ticks" "[I", Cond.fieldLink RX8 55 "ColdStoreModel" "tempSums" "[J", Cond.methodLink RX8 168 yX8_loss, Cond.instanceMethod yX8_loss, Cond.selects RX8 yX8_loss yX8_loss, Cond.code yX8_loss cX8_loss 4 (some .int), Cond.fieldLink RX8 86 "ColdStoreModel" "kindOf" "[I"]
def wsX8_pass_r4 : List Cond := [Cond.fieldLink RX8 83 "ColdStoreModel" "lowests" "[I", Cond.fieldLink RX8 80 "ColdStoreModel" "bests" "[I", Cond.methodLink RX8 171 yX8_candidatesOf, Cond.instanceMethod yX8_candidatesOf, Cond.selects RX8 yX8_candidatesOf yX8_candidatesOf, Cond.code yX8_candidatesOf cX8_candidatesOf 4 (some .int), Cond.methodLink RX8 207 yX8_isCandidate, Cond.instanceMethod yX8_isCandidate, Cond.selects RX8 yX8_isCandidate yX8_isCandidate, Cond.code yX8_isCandidate cX8_isCandidate 3 (some .boolean), Cond.fieldLink RX8 98 "ColdStoreModel" "orderKinds" "[I", Cond.fieldLink RX8 104 "ColdStoreModel" "promises" "[I", Cond.methodLink RX8 175 yX8_ships, Cond.instanceMethod yX8_ships, Cond.selects RX8 yX8_ships yX8_ships, Cond.code yX8_ships cX8_ships 5 (some .int), Cond.fieldLink RX8 113 "ColdStoreModel" "leasts" "[I", Cond.methodLink RX8 211 yX8_candidate, Cond.instanceMethod yX8_candidate, Cond.selects RX8 yX8_candidate yX8_candidate, Cond.code yX8_candidate cX8_candidate 6 (some .int)]
def wsX8_pass : List Cond := .code yX8_pass cX8_pass 4 (some .int) :: ((wsX8_pass_r1 ++ (wsX8_pass_r2 ++ (wsX8_pass_r3 ++ wsX8_pass_r4))) ++ wsX80 ++ (vx_atM "java/lang/ArrayIndexOutOfBoundsException" ["java/lang/IndexOutOfBoundsException", "java/lang/RuntimeException", "java/lang/Exception"]).filter goodWord)
def wsX8_setOutside : List Cond := .code yX8_setOutside cX8_setOutside 3 (some .int) :: ([.fieldLink RX8 116 "ColdStoreModel" "thrown" "I", .fieldLink RX8 7 "ColdStoreModel" "outside" "I", .methodLink RX8 122 yX8_in, .static yX8_in, .initialized RX8, .code yX8_in cX8_in 3 (some .boolean)] ++ wsX80)
def wsX8_addRoom : List Cond := .code yX8_addRoom cX8_addRoom 4 (some .int) :: ([.fieldLink RX8 119 "ColdStoreModel" "rooms" "I", .fieldLink RX8 116 "ColdStoreModel" "thrown" "I", .fieldLink RX8 13 "ColdStoreModel" "leaks" "[I", .fieldLink RX8 17 "ColdStoreModel" "strengths" "[I", .fieldLink RX8 20 "ColdStoreModel" "powers" "[I", .fieldLink RX8 23 "ColdStoreModel" "lowers" "[I", .fieldLink RX8 26 "ColdStoreModel" "uppers" "[I", .fieldLink RX8 35 "ColdStoreModel" "modes" "[C", .fieldLink RX8 39 "ColdStoreModel" "temps" "[I", .fieldLink RX8 7 "ColdStoreModel" "outside" "I", .methodLink RX8 122 yX8_in, .static yX8_in, .initialized RX8, .code yX8_in cX8_in 3 (some .boolean)] ++ wsX80 ++ (vx_atM "java/lang/ArrayIndexOutOfBoundsException" ["java/lang/IndexOutOfBoundsException", "java/lang/RuntimeException", "java/lang/Exception"]).filter goodWord)
def wsX8_setLimits : List Cond := .code yX8_setLimits cX8_setLimits 5 (some .int) :: ([.fieldLink RX8 116 "ColdStoreModel" "thrown" "I", .fieldLink RX8 23 "ColdStoreModel" "lowers" "[I", .fieldLink RX8 26 "ColdStoreModel" "uppers" "[I", .methodLink RX8 181 yX8_isRoom, .instanceMethod yX8_isRoom, .selects RX8 yX8_isRoom yX8_isRoom, .initialized RX8, .code yX8_isRoom cX8_isRoom 2 (some .boolean), .fieldLink RX8 119 "ColdStoreModel" "rooms" "I", .methodLink RX8 122 yX8_in, .static yX8_in, .code yX8_in cX8_in 3 (some .boolean)] ++ wsX80 ++ (vx_atM "java/lang/ArrayIndexOutOfBoundsException" ["java/lang/IndexOutOfBoundsException", "java/lang/RuntimeException", "java/lang/Exception"]).filter goodWord)
def wsX8_setMode : List Cond := .code yX8_setMode cX8_setMode 4 (some .char) :: ([.fieldLink RX8 116 "ColdStoreModel" "thrown" "I", .fieldLink RX8 35 "ColdStoreModel" "modes" "[C", .methodLink RX8 181 yX8_isRoom, .instanceMethod yX8_isRoom, .selects RX8 yX8_isRoom yX8_isRoom, .initialized RX8, .code yX8_isRoom cX8_isRoom 2 (some .boolean), .fieldLink RX8 119 "ColdStoreModel" "rooms" "I", .methodLink RX8 122 yX8_in, .static yX8_in, .code yX8_in cX8_in 3 (some .boolean)] ++ wsX80 ++ (vx_atM "java/lang/ArrayIndexOutOfBoundsException" ["java/lang/IndexOutOfBoundsException", "java/lang/RuntimeException", "java/lang/Exception"]).filter goodWord)
def wsX8_setLead : List Cond := .code yX8_setLead cX8_setLead 5 (some .int) :: ([.fieldLink RX8 116 "ColdStoreModel" "thrown" "I", .fieldLink RX8 29 "ColdStoreModel" "leads" "[I", .fieldLink RX8 32 "ColdStoreModel" "depths" "[I", .methodLink RX8 181 yX8_isRoom, .instanceMethod yX8_isRoom, .selects RX8 yX8_isRoom yX8_isRoom, .initialized RX8, .code yX8_isRoom cX8_isRoom 2 (some .boolean), .fieldLink RX8 119 "ColdStoreModel" "rooms" "I", .methodLink RX8 122 yX8_in, .static yX8_in, .code yX8_in cX8_in 3 (some .boolean)] ++ wsX80 ++ (vx_atM "java/lang/ArrayIndexOutOfBoundsException" ["java/lang/IndexOutOfBoundsException", "java/lang/RuntimeException", "java/lang/Exception"]).filter goodWord)
def wsX8_temperature : List Cond := .code yX8_temperature cX8_temperature 2 (some .int) :: ([.fieldLink RX8 116 "ColdStoreModel" "thrown" "I", .fieldLink RX8 39 "ColdStoreModel" "temps" "[I", .methodLink RX8 181 yX8_isRoom, .instanceMethod yX8_isRoom, .selects RX8 yX8_isRoom yX8_isRoom, .initialized RX8, .code yX8_isRoom cX8_isRoom 2 (some .boolean), .fieldLink RX8 119 "ColdStoreModel" "rooms" "I", .methodLink RX8 122 yX8_in, .static yX8_in, .code yX8_in cX8_in 3 (some .boolean)] ++ wsX80 ++ (vx_atM "java/lang/ArrayIndexOutOfBoundsException" ["java/lang/IndexOutOfBoundsException", "java/lang/RuntimeException", "java/lang/Exception"]).filter goodWord)
def wsX8_isCooled : List Cond := .code yX8_isCooled cX8_isCooled 2 (some .boolean) :: ([.fieldLink RX8 116 "ColdStoreModel" "thrown" "I", .fieldLink RX8 46 "ColdStoreModel" "cooled" "[Z", .methodLink RX8 181 yX8_isRoom, .instanceMethod yX8_isRoom, .selects RX8 yX8_isRoom yX8_isRoom, .initialized RX8, .code yX8_isRoom cX8_isRoom 2 (some .boolean), .fieldLink RX8 119 "ColdStoreModel" "rooms" "I", .methodLink RX8 122 yX8_in, .static yX8_in, .code yX8_in cX8_in 3 (some .boolean)] ++ wsX80 ++ (vx_atM "java/lang/ArrayIndexOutOfBoundsException" ["java/lang/IndexOutOfBoundsException", "java/lang/RuntimeException", "java/lang/Exception"]).filter goodWord)
def wsX8_warmest : List Cond := .code yX8_warmest cX8_warmest 2 (some .int) :: ([.fieldLink RX8 59 "ColdStoreModel" "ticks" "[I", .fieldLink RX8 116 "ColdStoreModel" "thrown" "I", .fieldLink RX8 52 "ColdStoreModel" "warmests" "[I", .methodLink RX8 181 yX8_isRoom, .instanceMethod yX8_isRoom, .selects RX8 yX8_isRoom yX8_isRoom, .initialized RX8, .code yX8_isRoom cX8_isRoom 2 (some .boolean), .fieldLink RX8 119 "ColdStoreModel" "rooms" "I", .methodLink RX8 122 yX8_in, .static yX8_in, .code yX8_in cX8_in 3 (some .boolean)] ++ wsX80 ++ (vx_atM "java/lang/ArrayIndexOutOfBoundsException" ["java/lang/IndexOutOfBoundsException", "java/lang/RuntimeException", "java/lang/Exception"]).filter goodWord)
def wsX8_meanTemperature : List Cond := .code yX8_meanTemperature cX8_meanTemperature 2 (some .double) :: ([.fieldLink RX8 59 "ColdStoreModel" "ticks" "[I", .fieldLink RX8 116 "ColdStoreModel" "thrown" "I", .fieldLink RX8 55 "ColdStoreModel" "tempSums" "[J", .methodLink RX8 181 yX8_isRoom, .instanceMethod yX8_isRoom, .selects RX8 yX8_isRoom yX8_isRoom, .initialized RX8, .code yX8_isRoom cX8_isRoom 2 (some .boolean), .fieldLink RX8 119 "ColdStoreModel" "rooms" "I", .methodLink RX8 122 yX8_in, .static yX8_in, .code yX8_in cX8_in 3 (some .boolean)] ++ wsX80 ++ (vx_atM "java/lang/ArrayIndexOutOfBoundsException" ["java/lang/IndexOutOfBoundsException", "java/lang/RuntimeException", "java/lang/Exception"]).filter goodWord)
def wsX8_filled : List Cond := .code yX8_filled cX8_filled 4 (some .int) :: ([.fieldLink RX8 126 "ColdStoreModel" "pallets" "I", .fieldLink RX8 95 "ColdStoreModel" "states" "[C", .fieldLink RX8 89 "ColdStoreModel" "roomOf" "[I"] ++ wsX80 ++ (vx_atM "java/lang/ArrayIndexOutOfBoundsException" ["java/lang/IndexOutOfBoundsException", "java/lang/RuntimeException", "java/lang/Exception"]).filter goodWord)
def wsX8_freeSpace : List Cond := .code yX8_freeSpace cX8_freeSpace 2 (some .int) :: ([.fieldLink RX8 116 "ColdStoreModel" "thrown" "I", .methodLink RX8 181 yX8_isRoom, .instanceMethod yX8_isRoom, .selects RX8 yX8_isRoom yX8_isRoom, .initialized RX8, .code yX8_isRoom cX8_isRoom 2 (some .boolean), .fieldLink RX8 119 "ColdStoreModel" "rooms" "I", .methodLink RX8 122 yX8_in, .static yX8_in, .code yX8_in cX8_in 3 (some .boolean), .methodLink RX8 185 yX8_filled, .instanceMethod yX8_filled, .selects RX8 yX8_filled yX8_filled, .code yX8_filled cX8_filled 4 (some .int), .fieldLink RX8 126 "ColdStoreModel" "pallets" "I", .fieldLink RX8 95 "ColdStoreModel" "states" "[C", .fieldLink RX8 89 "ColdStoreModel" "roomOf" "[I"] ++ wsX80 ++ (vx_atM "java/lang/ArrayIndexOutOfBoundsException" ["java/lang/IndexOutOfBoundsException", "java/lang/RuntimeException", "java/lang/Exception"]).filter goodWord)
def wsX8_setPrices : List Cond := .code yX8_setPrices cX8_setPrices 6 (some .int) :: ([.fieldLink RX8 116 "ColdStoreModel" "thrown" "I", .fieldLink RX8 62 "ColdStoreModel" "normal" "I", .fieldLink RX8 65 "ColdStoreModel" "peak" "I", .fieldLink RX8 68 "ColdStoreModel" "first" "I", .fieldLink RX8 71 "ColdStoreModel" "last" "I", .methodLink RX8 122 yX8_in, .static yX8_in, .initialized RX8, .code yX8_in cX8_in 3 (some .boolean)] ++ wsX80)
def wsX8_setCharge : List Cond := .code yX8_setCharge cX8_setCharge 3 (some .int) :: ([.fieldLink RX8 116 "ColdStoreModel" "thrown" "I", .fieldLink RX8 188 "ColdStoreModel" "charge" "I", .methodLink RX8 122 yX8_in, .static yX8_in, .initialized RX8, .code yX8_in cX8_in 3 (some .boolean)] ++ wsX80)
def wsX8_setPowerLimit : List Cond := .code yX8_setPowerLimit cX8_setPowerLimit 3 (some .int) :: ([.fieldLink RX8 116 "ColdStoreModel" "thrown" "I", .fieldLink RX8 74 "ColdStoreModel" "limit" "I", .methodLink RX8 122 yX8_in, .static yX8_in, .initialized RX8, .code yX8_in cX8_in 3 (some .boolean)] ++ wsX80)
def wsX8_power : List Cond := .code yX8_power cX8_power 1 (some .int) :: ([.fieldLink RX8 116 "ColdStoreModel" "thrown" "I", .fieldLink RX8 139 "ColdStoreModel" "powerNow" "I"] ++ wsX80)
def wsX8_greatestPower : List Cond := .code yX8_greatestPower cX8_greatestPower 1 (some .int) :: ([.fieldLink RX8 116 "ColdStoreModel" "thrown" "I", .fieldLink RX8 161 "ColdStoreModel" "powerMost" "I"] ++ wsX80)
def wsX8_bill : List Cond := .code yX8_bill cX8_bill 1 (some .long) :: ([.fieldLink RX8 116 "ColdStoreModel" "thrown" "I", .fieldLink RX8 164 "ColdStoreModel" "costs" "J", .fieldLink RX8 161 "ColdStoreModel" "powerMost" "I", .fieldLink RX8 188 "ColdStoreModel" "charge" "I"] ++ wsX80)
def wsX8_billByRecords : List Cond := .code yX8_billByRecords cX8_billByRecords 1 (some .long) :: ([.methodLink RX8 191 yX8_bill, .instanceMethod yX8_bill, .selects RX8 yX8_bill yX8_bill, .initialized RX8, .code yX8_bill cX8_bill 1 (some .long), .fieldLink RX8 116 "ColdStoreModel" "thrown" "I", .fieldLink RX8 164 "ColdStoreModel" "costs" "J", .fieldLink RX8 161 "ColdStoreModel" "powerMost" "I", .fieldLink RX8 188 "ColdStoreModel" "charge" "I"] ++ wsX80)
def wsX8_addKind : List Cond := .code yX8_addKind cX8_addKind 4 (some .int) :: ([.fieldLink RX8 195 "ColdStoreModel" "kinds" "I", .fieldLink RX8 116 "ColdStoreModel" "thrown" "I", .fieldLink RX8 77 "ColdStoreModel" "lives" "[I", .fieldLink RX8 80 "ColdStoreModel" "bests" "[I", .fieldLink RX8 83 "ColdStoreModel" "lowests" "[I", .methodLink RX8 122 yX8_in, .static yX8_in, .initialized RX8, .code yX8_in cX8_in 3 (some .boolean)] ++ wsX80 ++ (vx_atM "java/lang/ArrayIndexOutOfBoundsException" ["java/lang/IndexOutOfBoundsException", "java/lang/RuntimeException", "java/lang/Exception"]).filter goodWord)
def wsX8_addPallet : List Cond := .code yX8_addPallet cX8_addPallet 3 (some .int) :: ([.fieldLink RX8 195 "ColdStoreModel" "kinds" "I", .fieldLink RX8 126 "ColdStoreModel" "pallets" "I", .fieldLink RX8 116 "ColdStoreModel" "thrown" "I", .fieldLink RX8 86 "ColdStoreModel" "kindOf" "[I", .fieldLink RX8 89 "ColdStoreModel" "roomOf" "[I", .fieldLink RX8 92 "ColdStoreModel" "lifeOf" "[I", .fieldLink RX8 77 "ColdStoreModel" "lives" "[I", .fieldLink RX8 95 "ColdStoreModel" "states" "[C", .methodLink RX8 122 yX8_in, .static yX8_in, .initialized RX8, .code yX8_in cX8_in 3 (some .boolean), .methodLink RX8 181 yX8_isRoom, .instanceMethod yX8_isRoom, .selects RX8 yX8_isRoom yX8_isRoom, .code yX8_isRoom cX8_isRoom 2 (some .boolean), .fieldLink RX8 119 "ColdStoreModel" "rooms" "I", .methodLink RX8 185 yX8_filled, .instanceMethod yX8_filled, .selects RX8 yX8_filled yX8_filled, .code yX8_filled cX8_filled 4 (some .int)] ++ wsX80 ++ (vx_atM "java/lang/ArrayIndexOutOfBoundsException" ["java/lang/IndexOutOfBoundsException", "java/lang/RuntimeException", "java/lang/Exception"]).filter goodWord)
def wsX8_movePallet : List Cond := .code yX8_movePallet cX8_movePallet 4 (some .int) :: ([.fieldLink RX8 95 "ColdStoreModel" "states" "[C", .fieldLink RX8 89 "ColdStoreModel" "roomOf" "[I", .fieldLink RX8 116 "ColdStoreModel" "thrown" "I", .methodLink RX8 198 yX8_isPallet, .instanceMethod yX8_isPallet, .selects RX8 yX8_isPallet yX8_isPallet, .initialized RX8, .code yX8_isPallet cX8_isPallet 2 (some .boolean), .fieldLink RX8 126 "ColdStoreModel" "pallets" "I", .methodLink RX8 122 yX8_in, .static yX8_in, .code yX8_in cX8_in 3 (some .boolean), .methodLink RX8 181 yX8_isRoom, .instanceMethod yX8_isRoom, .selects RX8 yX8_isRoom yX8_isRoom, .code yX8_isRoom cX8_isRoom 2 (some .boolean), .fieldLink RX8 119 "ColdStoreModel" "rooms" "I", .methodLink RX8 185 yX8_filled, .instanceMethod yX8_filled, .selects RX8 yX8_filled yX8_filled, .code yX8_filled cX8_filled 4 (some .int)] ++ wsX80 ++ (vx_atM "java/lang/ArrayIndexOutOfBoundsException" ["java/lang/IndexOutOfBoundsException", "java/lang/RuntimeException", "java/lang/Exception"]).filter goodWord)
def wsX8_scrap : List Cond := .code yX8_scrap cX8_scrap 2 (some .int) :: ([.fieldLink RX8 95 "ColdStoreModel" "states" "[C", .fieldLink RX8 116 "ColdStoreModel" "thrown" "I", .fieldLink RX8 92 "ColdStoreModel" "lifeOf" "[I", .methodLink RX8 198 yX8_isPallet, .instanceMethod yX8_isPallet, .selects RX8 yX8_isPallet yX8_isPallet, .initialized RX8, .code yX8_isPallet cX8_isPallet 2 (some .boolean), .fieldLink RX8 126 "ColdStoreModel" "pallets" "I", .methodLink RX8 122 yX8_in, .static yX8_in, .code yX8_in cX8_in 3 (some .boolean)] ++ wsX80 ++ (vx_atM "java/lang/ArrayIndexOutOfBoundsException" ["java/lang/IndexOutOfBoundsException", "java/lang/RuntimeException", "java/lang/Exception"]).filter goodWord)
def wsX8_pallets : List Cond := .code yX8_pallets cX8_pallets 1 (some .int) :: ([.fieldLink RX8 116 "ColdStoreModel" "thrown" "I", .fieldLink RX8 126 "ColdStoreModel" "pallets" "I"] ++ wsX80)
def wsX8_state : List Cond := .code yX8_state cX8_state 2 (some .char) :: ([.fieldLink RX8 116 "ColdStoreModel" "thrown" "I", .fieldLink RX8 95 "ColdStoreModel" "states" "[C", .methodLink RX8 198 yX8_isPallet, .instanceMethod yX8_isPallet, .selects RX8 yX8_isPallet yX8_isPallet, .initialized RX8, .code yX8_isPallet cX8_isPallet 2 (some .boolean), .fieldLink RX8 126 "ColdStoreModel" "pallets" "I", .methodLink RX8 122 yX8_in, .static yX8_in, .code yX8_in cX8_in 3 (some .boolean)] ++ wsX80 ++ (vx_atM "java/lang/ArrayIndexOutOfBoundsException" ["java/lang/IndexOutOfBoundsException", "java/lang/RuntimeException", "java/lang/Exception"]).filter goodWord)
def wsX8_roomOf : List Cond := .code yX8_roomOf cX8_roomOf 2 (some .int) :: ([.fieldLink RX8 95 "ColdStoreModel" "states" "[C", .fieldLink RX8 116 "ColdStoreModel" "thrown" "I", .fieldLink RX8 89 "ColdStoreModel" "roomOf" "[I", .methodLink RX8 198 yX8_isPallet, .instanceMethod yX8_isPallet, .selects RX8 yX8_isPallet yX8_isPallet, .initialized RX8, .code yX8_isPallet cX8_isPallet 2 (some .boolean), .fieldLink RX8 126 "ColdStoreModel" "pallets" "I", .methodLink RX8 122 yX8_in, .static yX8_in, .code yX8_in cX8_in 3 (some .boolean)] ++ wsX80 ++ (vx_atM "java/lang/ArrayIndexOutOfBoundsException" ["java/lang/IndexOutOfBoundsException", "java/lang/RuntimeException", "java/lang/Exception"]).filter goodWord)
def wsX8_life : List Cond := .code yX8_life cX8_life 2 (some .int) :: ([.fieldLink RX8 116 "ColdStoreModel" "thrown" "I", .fieldLink RX8 92 "ColdStoreModel" "lifeOf" "[I", .methodLink RX8 198 yX8_isPallet, .instanceMethod yX8_isPallet, .selects RX8 yX8_isPallet yX8_isPallet, .initialized RX8, .code yX8_isPallet cX8_isPallet 2 (some .boolean), .fieldLink RX8 126 "ColdStoreModel" "pallets" "I", .methodLink RX8 122 yX8_in, .static yX8_in, .code yX8_in cX8_in 3 (some .boolean)] ++ wsX80 ++ (vx_atM "java/lang/ArrayIndexOutOfBoundsException" ["java/lang/IndexOutOfBoundsException", "java/lang/RuntimeException", "java/lang/Exception"]).filter goodWord)
def wsX8_lifeByRecords : List Cond := .code yX8_lifeByRecords cX8_lifeByRecords 2 (some .int) :: ([.methodLink RX8 201 yX8_life, .instanceMethod yX8_life, .selects RX8 yX8_life yX8_life, .initialized RX8, .code yX8_life cX8_life 2 (some .int), .fieldLink RX8 116 "ColdStoreModel" "thrown" "I", .fieldLink RX8 92 "ColdStoreModel" "lifeOf" "[I", .methodLink RX8 198 yX8_isPallet, .instanceMethod yX8_isPallet, .selects RX8 yX8_isPallet yX8_isPallet, .code yX8_isPallet cX8_isPallet 2 (some .boolean), .fieldLink RX8 126 "ColdStoreModel" "pallets" "I", .methodLink RX8 122 yX8_in, .static yX8_in, .code yX8_in cX8_in 3 (some .boolean)] ++ wsX80 ++ (vx_atM "java/lang/ArrayIndexOutOfBoundsException" ["java/lang/IndexOutOfBoundsException", "java/lang/RuntimeException", "java/lang/Exception"]).filter goodWord)
def wsX8_forecast_r1 : List Cond := [Cond.fieldLink RX8 95 "ColdStoreModel" "states" "[C", Cond.fieldLink RX8 116 "ColdStoreModel" "thrown" "I", Cond.fieldLink RX8 92 "ColdStoreModel" "lifeOf" "[I", Cond.fieldLink RX8 39 "ColdStoreModel" "temps" "[I", Cond.fieldLink RX8 89 "ColdStoreModel" "roomOf" "[I", Cond.methodLink RX8 146 Lib.Math.max.name, Cond.static Lib.Math.max.name, Cond.initialized "java/lang/Math", Cond.code Lib.Math.max.name Lib.Math.max.code 2 (some .int), Cond.methodLink RX8 198 yX8_isPallet, Cond.instanceMethod yX8_isPallet, Cond.selects RX8 yX8_isPallet yX8_isPallet, Cond.initialized RX8, Cond.code yX8_isPallet cX8_isPallet 2 (some .boolean), Cond.fieldLink RX8 126 "ColdStoreModel" "pallets" "I", Cond.methodLink RX8 122 yX8_in, Cond.static yX8_in, Cond.code yX8_in cX8_in 3 (some .boolean), Cond.methodLink RX8 168 yX8_loss, Cond.instanceMethod yX8_loss, Cond.selects RX8 yX8_loss yX8_loss, Cond.code yX8_loss cX8_loss 4 (some .int), Cond.fieldLink RX8 86 "ColdStoreModel" "kindOf" "[I", Cond.fieldLink RX8 83 "ColdStoreModel" "lowests" "[I"]
def wsX8_forecast_r2 : List Cond := [Cond.fieldLink RX8 80 "ColdStoreModel" "bests" "[I"]
def wsX8_forecast : List Cond := .code yX8_forecast cX8_forecast 3 (some .int) :: ((wsX8_forecast_r1 ++ wsX8_forecast_r2) ++ wsX80 ++ (vx_atM "java/lang/ArrayIndexOutOfBoundsException" ["java/lang/IndexOutOfBoundsException", "java/lang/RuntimeException", "java/lang/Exception"]).filter goodWord)
def wsX8_soonest : List Cond := .code yX8_soonest cX8_soonest 3 (some .int) :: ([.fieldLink RX8 126 "ColdStoreModel" "pallets" "I", .fieldLink RX8 95 "ColdStoreModel" "states" "[C", .fieldLink RX8 92 "ColdStoreModel" "lifeOf" "[I", .fieldLink RX8 116 "ColdStoreModel" "thrown" "I"] ++ wsX80 ++ (vx_atM "java/lang/ArrayIndexOutOfBoundsException" ["java/lang/IndexOutOfBoundsException", "java/lang/RuntimeException", "java/lang/Exception"]).filter goodWord)
def wsX8_lostShare : List Cond := .code yX8_lostShare cX8_lostShare 3 (some .float) :: ([.fieldLink RX8 126 "ColdStoreModel" "pallets" "I", .fieldLink RX8 95 "ColdStoreModel" "states" "[C", .fieldLink RX8 92 "ColdStoreModel" "lifeOf" "[I", .fieldLink RX8 116 "ColdStoreModel" "thrown" "I"] ++ wsX80 ++ (vx_atM "java/lang/ArrayIndexOutOfBoundsException" ["java/lang/IndexOutOfBoundsException", "java/lang/RuntimeException", "java/lang/Exception"]).filter goodWord)
def wsX8_order : List Cond := .code yX8_order cX8_order 6 (some .int) :: ([.fieldLink RX8 132 "ColdStoreModel" "time" "I", .fieldLink RX8 195 "ColdStoreModel" "kinds" "I", .fieldLink RX8 129 "ColdStoreModel" "orders" "I", .fieldLink RX8 116 "ColdStoreModel" "thrown" "I", .fieldLink RX8 98 "ColdStoreModel" "orderKinds" "[I", .fieldLink RX8 101 "ColdStoreModel" "counts" "[I", .fieldLink RX8 104 "ColdStoreModel" "promises" "[I", .fieldLink RX8 107 "ColdStoreModel" "dues" "[I", .fieldLink RX8 110 "ColdStoreModel" "orderStates" "[C", .methodLink RX8 122 yX8_in, .static yX8_in, .initialized RX8, .code yX8_in cX8_in 3 (some .boolean)] ++ wsX80 ++ (vx_atM "java/lang/ArrayIndexOutOfBoundsException" ["java/lang/IndexOutOfBoundsException", "java/lang/RuntimeException", "java/lang/Exception"]).filter goodWord)
def wsX8_cancel : List Cond := .code yX8_cancel cX8_cancel 4 (some .int) :: ([.fieldLink RX8 110 "ColdStoreModel" "orderStates" "[C", .fieldLink RX8 116 "ColdStoreModel" "thrown" "I", .fieldLink RX8 129 "ColdStoreModel" "orders" "I", .methodLink RX8 204 yX8_isOrder, .instanceMethod yX8_isOrder, .selects RX8 yX8_isOrder yX8_isOrder, .initialized RX8, .code yX8_isOrder cX8_isOrder 2 (some .boolean), .methodLink RX8 122 yX8_in, .static yX8_in, .code yX8_in cX8_in 3 (some .boolean)] ++ wsX80 ++ (vx_atM "java/lang/ArrayIndexOutOfBoundsException" ["java/lang/IndexOutOfBoundsException", "java/lang/RuntimeException", "java/lang/Exception"]).filter goodWord)
def wsX8_candidates : List Cond := .code yX8_candidates cX8_candidates 2 (some .int) :: ([.fieldLink RX8 116 "ColdStoreModel" "thrown" "I", .methodLink RX8 204 yX8_isOrder, .instanceMethod yX8_isOrder, .selects RX8 yX8_isOrder yX8_isOrder, .initialized RX8, .code yX8_isOrder cX8_isOrder 2 (some .boolean), .fieldLink RX8 129 "ColdStoreModel" "orders" "I", .methodLink RX8 122 yX8_in, .static yX8_in, .code yX8_in cX8_in 3 (some .boolean), .methodLink RX8 171 yX8_candidatesOf, .instanceMethod yX8_candidatesOf, .selects RX8 yX8_candidatesOf yX8_candidatesOf, .code yX8_candidatesOf cX8_candidatesOf 4 (some .int), .fieldLink RX8 126 "ColdStoreModel" "pallets" "I", .methodLink RX8 207 yX8_isCandidate, .instanceMethod yX8_isCandidate, .selects RX8 yX8_isCandidate yX8_isCandidate, .code yX8_isCandidate cX8_isCandidate 3 (some .boolean), .fieldLink RX8 95 "ColdStoreModel" "states" "[C", .fieldLink RX8 86 "ColdStoreModel" "kindOf" "[I", .fieldLink RX8 98 "ColdStoreModel" "orderKinds" "[I", .fieldLink RX8 92 "ColdStoreModel" "lifeOf" "[I", .fieldLink RX8 104 "ColdStoreModel" "promises" "[I"] ++ wsX80 ++ (vx_atM "java/lang/ArrayIndexOutOfBoundsException" ["java/lang/IndexOutOfBoundsException", "java/lang/RuntimeException", "java/lang/Exception"]).filter goodWord)
def wsX8_candidateAt_r1 : List Cond := [Cond.fieldLink RX8 116 "ColdStoreModel" "thrown" "I", Cond.methodLink RX8 204 yX8_isOrder, Cond.instanceMethod yX8_isOrder, Cond.selects RX8 yX8_isOrder yX8_isOrder, Cond.initialized RX8, Cond.code yX8_isOrder cX8_isOrder 2 (some .boolean), Cond.fieldLink RX8 129 "ColdStoreModel" "orders" "I", Cond.methodLink RX8 122 yX8_in, Cond.static yX8_in, Cond.code yX8_in cX8_in 3 (some .boolean), Cond.methodLink RX8 214 yX8_raises, Cond.instanceMethod yX8_raises, Cond.selects RX8 yX8_raises yX8_raises, Cond.code yX8_raises cX8_raises 2 (some .int), Cond.methodLink RX8 211 yX8_candidate, Cond.instanceMethod yX8_candidate, Cond.selects RX8 yX8_candidate yX8_candidate, Cond.code yX8_candidate cX8_candidate 6 (some .int), Cond.fieldLink RX8 126 "ColdStoreModel" "pallets" "I", Cond.fieldLink RX8 92 "ColdStoreModel" "lifeOf" "[I", Cond.methodLink RX8 207 yX8_isCandidate, Cond.instanceMethod yX8_isCandidate, Cond.selects RX8 yX8_isCandidate yX8_isCandidate, Cond.code yX8_isCandidate cX8_isCandidate 3 (some .boolean)]
def wsX8_candidateAt_r2 : List Cond := [Cond.fieldLink RX8 95 "ColdStoreModel" "states" "[C", Cond.fieldLink RX8 86 "ColdStoreModel" "kindOf" "[I", Cond.fieldLink RX8 98 "ColdStoreModel" "orderKinds" "[I", Cond.fieldLink RX8 104 "ColdStoreModel" "promises" "[I"]
def wsX8_candidateAt : List Cond := .code yX8_candidateAt cX8_candidateAt 4 (some .int) :: ((wsX8_candidateAt_r1 ++ wsX8_candidateAt_r2) ++ wsX80 ++ (vx_atM "java/lang/ArrayIndexOutOfBoundsException" ["java/lang/IndexOutOfBoundsException", "java/lang/RuntimeException", "java/lang/Exception"]).filter goodWord)
def wsX8_ship_r1 : List Cond := [Cond.fieldLink RX8 110 "ColdStoreModel" "orderStates" "[C", Cond.fieldLink RX8 101 "ColdStoreModel" "counts" "[I", Cond.fieldLink RX8 116 "ColdStoreModel" "thrown" "I", Cond.methodLink RX8 204 yX8_isOrder, Cond.instanceMethod yX8_isOrder, Cond.selects RX8 yX8_isOrder yX8_isOrder, Cond.initialized RX8, Cond.code yX8_isOrder cX8_isOrder 2 (some .boolean), Cond.fieldLink RX8 129 "ColdStoreModel" "orders" "I", Cond.methodLink RX8 122 yX8_in, Cond.static yX8_in, Cond.code yX8_in cX8_in 3 (some .boolean), Cond.methodLink RX8 171 yX8_candidatesOf, Cond.instanceMethod yX8_candidatesOf, Cond.selects RX8 yX8_candidatesOf yX8_candidatesOf, Cond.code yX8_candidatesOf cX8_candidatesOf 4 (some .int), Cond.fieldLink RX8 126 "ColdStoreModel" "pallets" "I", Cond.methodLink RX8 207 yX8_isCandidate, Cond.instanceMethod yX8_isCandidate, Cond.selects RX8 yX8_isCandidate yX8_isCandidate, Cond.code yX8_isCandidate cX8_isCandidate 3 (some .boolean), Cond.fieldLink RX8 95 "ColdStoreModel" "states" "[C", Cond.fieldLink RX8 86 "ColdStoreModel" "kindOf" "[I", Cond.fieldLink RX8 98 "ColdStoreModel" "orderKinds" "[I"]
def wsX8_ship_r2 : List Cond := [Cond.fieldLink RX8 92 "ColdStoreModel" "lifeOf" "[I", Cond.fieldLink RX8 104 "ColdStoreModel" "promises" "[I", Cond.methodLink RX8 175 yX8_ships, Cond.instanceMethod yX8_ships, Cond.selects RX8 yX8_ships yX8_ships, Cond.code yX8_ships cX8_ships 5 (some .int), Cond.fieldLink RX8 113 "ColdStoreModel" "leasts" "[I", Cond.methodLink RX8 211 yX8_candidate, Cond.instanceMethod yX8_candidate, Cond.selects RX8 yX8_candidate yX8_candidate, Cond.code yX8_candidate cX8_candidate 6 (some .int)]
def wsX8_ship : List Cond := .code yX8_ship cX8_ship 2 (some .int) :: ((wsX8_ship_r1 ++ wsX8_ship_r2) ++ wsX80 ++ (vx_atM "java/lang/ArrayIndexOutOfBoundsException" ["java/lang/IndexOutOfBoundsException", "java/lang/RuntimeException", "java/lang/Exception"]).filter goodWord)
def wsX8_orderState : List Cond := .code yX8_orderState cX8_orderState 2 (some .char) :: ([.fieldLink RX8 116 "ColdStoreModel" "thrown" "I", .fieldLink RX8 110 "ColdStoreModel" "orderStates" "[C", .methodLink RX8 204 yX8_isOrder, .instanceMethod yX8_isOrder, .selects RX8 yX8_isOrder yX8_isOrder, .initialized RX8, .code yX8_isOrder cX8_isOrder 2 (some .boolean), .fieldLink RX8 129 "ColdStoreModel" "orders" "I", .methodLink RX8 122 yX8_in, .static yX8_in, .code yX8_in cX8_in 3 (some .boolean)] ++ wsX80 ++ (vx_atM "java/lang/ArrayIndexOutOfBoundsException" ["java/lang/IndexOutOfBoundsException", "java/lang/RuntimeException", "java/lang/Exception"]).filter goodWord)
def wsX8_leastShipped : List Cond := .code yX8_leastShipped cX8_leastShipped 2 (some .int) :: ([.fieldLink RX8 110 "ColdStoreModel" "orderStates" "[C", .fieldLink RX8 116 "ColdStoreModel" "thrown" "I", .fieldLink RX8 113 "ColdStoreModel" "leasts" "[I", .methodLink RX8 204 yX8_isOrder, .instanceMethod yX8_isOrder, .selects RX8 yX8_isOrder yX8_isOrder, .initialized RX8, .code yX8_isOrder cX8_isOrder 2 (some .boolean), .fieldLink RX8 129 "ColdStoreModel" "orders" "I", .methodLink RX8 122 yX8_in, .static yX8_in, .code yX8_in cX8_in 3 (some .boolean)] ++ wsX80 ++ (vx_atM "java/lang/ArrayIndexOutOfBoundsException" ["java/lang/IndexOutOfBoundsException", "java/lang/RuntimeException", "java/lang/Exception"]).filter goodWord)
def wsX8_isConsistent : List Cond := .code yX8_isConsistent cX8_isConsistent 1 (some .boolean) :: ([.fieldLink RX8 116 "ColdStoreModel" "thrown" "I"] ++ wsX80)
def wsJx00060_init_a7421 : List Cond := .code yJx00060_init_a7421 cJx00060_init_a7421 2 none :: ([])
def wsJ9_max_7cf53 : List Cond := .code yJ9_max_7cf53 cJ9_max_7cf53 2 (some .int) :: ([])
def wsJ9_min_7cf53 : List Cond := .code yJ9_min_7cf53 cJ9_min_7cf53 2 (some .int) :: ([])
def wsL_pass_r1 : List Cond := [Cond.classLink RL 13 "java/lang/IllegalArgumentException", Cond.classLink RL 15 "java/lang/IllegalStateException", Cond.methodLink RL 7 yX7_pass, Cond.instanceMethod yX7_pass, Cond.selects RX7 yX7_pass yX7_pass, Cond.initialized RX7, Cond.code yX7_pass cX7_pass 4 (some .int), Cond.classLink RX7 50 "java/lang/IllegalStateException", Cond.initialized "java/lang/IllegalStateException", Cond.fieldLink RX7 39 "ColdStore" "time" "I", Cond.methodLink RX7 46 yX7_requireRange, Cond.static yX7_requireRange, Cond.code yX7_requireRange cX7_requireRange 3 none, Cond.classLink RX7 85 "java/lang/IllegalArgumentException", Cond.initialized "java/lang/IllegalArgumentException", Cond.methodLink RX7 57 yX7_passOneTick, Cond.instanceMethod yX7_passOneTick, Cond.selects RX7 yX7_passOneTick yX7_passOneTick, Cond.code yX7_passOneTick cX7_passOneTick 4 (some .int), Cond.fieldLink RX7 10 "ColdStore" "rooms" "Ljava/util/ArrayList;", Cond.classLink RX7 66 "ColdStore$Room", Cond.fieldLink RX7 28 "ColdStore" "contract" "LColdStore$Contract;", Cond.fieldLink RX7 43 "ColdStore" "outside" "I", Cond.fieldLink RX7 35 "ColdStore" "meter" "LColdStore$Meter;"]
def wsL_pass_r2 : List Cond := [Cond.fieldLink RX7 19 "ColdStore" "pallets" "Ljava/util/ArrayList;", Cond.classLink RX7 178 "ColdStore$Pallet", Cond.methodLink RX7 61 yJx4a65c_size_8abf5, Cond.instanceMethod yJx4a65c_size_8abf5, Cond.selects RJx4a65c yJx4a65c_size_8abf5 yJx4a65c_size_8abf5, Cond.initialized RJx4a65c, Cond.code yJx4a65c_size_8abf5 cJx4a65c_size_8abf5 1 (some .int), Cond.fieldLink RJx4a65c 48 "java/util/ArrayList" "size" "I", Cond.methodLink RX7 234 yJx4a65c_get_915e3, Cond.instanceMethod yJx4a65c_get_915e3, Cond.selects RJx4a65c yJx4a65c_get_915e3 yJx4a65c_get_915e3, Cond.code yJx4a65c_get_915e3 cJx4a65c_get_915e3 2 (some (.object "java/lang/Object")), Cond.methodLink RJx4a65c 118 yJ15_checkIndex_7cf53, Cond.static yJ15_checkIndex_7cf53, Cond.initialized RJ15, Cond.code yJ15_checkIndex_7cf53 cJ15_checkIndex_7cf53 2 (some .int), Cond.methodLink RJ15 105 yJ3_checkIndex_8e157, Cond.static yJ3_checkIndex_8e157, Cond.initialized RJ3, Cond.code yJ3_checkIndex_8e157 cJ3_checkIndex_8e157 3 (some .int), Cond.methodLink RJx4a65c 123 yJx4a65c_elementData_915e3, Cond.instanceMethod yJx4a65c_elementData_915e3, Cond.selects RJx4a65c yJx4a65c_elementData_915e3 yJx4a65c_elementData_915e3, Cond.code yJx4a65c_elementData_915e3 cJx4a65c_elementData_915e3 2 (some (.object "java/lang/Object"))]
def wsL_pass_r3 : List Cond := [Cond.fieldLink RJx4a65c 9 "java/util/ArrayList" "elementData" "[Ljava/lang/Object;", Cond.methodLink RX7 331 yX5_decide, Cond.instanceMethod yX5_decide, Cond.selects RX5 yX5_decide yX5_decide, Cond.initialized RX5, Cond.code yX5_decide cX5_decide 4 none, Cond.fieldLink RX5 22 "ColdStore$Room" "mode" "C", Cond.fieldLink RX5 32 "ColdStore$Room" "wanting" "Z", Cond.fieldLink RX5 63 "ColdStore$Room" "degrees" "I", Cond.fieldLink RX5 19 "ColdStore$Room" "upper" "I", Cond.fieldLink RX5 15 "ColdStore$Room" "lower" "I", Cond.methodLink RX5 66 yX5_shiftIn, Cond.instanceMethod yX5_shiftIn, Cond.selects RX5 yX5_shiftIn yX5_shiftIn, Cond.code yX5_shiftIn cX5_shiftIn 3 (some .int), Cond.fieldLink RX5 29 "ColdStore$Room" "leadDepth" "I", Cond.fieldLink RX5 26 "ColdStore$Room" "leadTicks" "I", Cond.methodLink RX5 70 yX0_isPeak, Cond.instanceMethod yX0_isPeak, Cond.selects RX0 yX0_isPeak yX0_isPeak, Cond.initialized RX0, Cond.code yX0_isPeak cX0_isPeak 2 (some .boolean), Cond.fieldLink RX0 18 "ColdStore$Contract" "firstPeak" "I", Cond.fieldLink RX0 21 "ColdStore$Contract" "lastPeak" "I"]
def wsL_pass_r4 : List Cond := [Cond.methodLink RX5 76 yX0_isAheadOfPeak, Cond.instanceMethod yX0_isAheadOfPeak, Cond.selects RX0 yX0_isAheadOfPeak yX0_isAheadOfPeak, Cond.code yX0_isAheadOfPeak cX0_isAheadOfPeak 3 (some .boolean), Cond.methodLink RX7 335 yX7_givePower, Cond.instanceMethod yX7_givePower, Cond.selects RX7 yX7_givePower yX7_givePower, Cond.code yX7_givePower cX7_givePower 4 (some .int), Cond.fieldLink RX7 103 "ColdStore$Room" "cooled" "Z", Cond.fieldLink RX7 354 "ColdStore$Room" "wanting" "Z", Cond.fieldLink RX7 357 "ColdStore$Room" "waiting" "Z", Cond.fieldLink RX7 364 "ColdStore$Room" "kilowatts" "I", Cond.fieldLink RX7 143 "ColdStore$Contract" "limit" "I", Cond.methodLink RX7 360 yX7_nextWaitingRoom, Cond.instanceMethod yX7_nextWaitingRoom, Cond.selects RX7 yX7_nextWaitingRoom yX7_nextWaitingRoom, Cond.code yX7_nextWaitingRoom cX7_nextWaitingRoom 4 (some (.object "ColdStore$Room")), Cond.methodLink RX7 367 yX5_excess, Cond.instanceMethod yX5_excess, Cond.selects RX5 yX5_excess yX5_excess, Cond.code yX5_excess cX5_excess 1 (some .int), Cond.methodLink RX7 338 yX5_changeTemperature, Cond.instanceMethod yX5_changeTemperature, Cond.selects RX5 yX5_changeTemperature yX5_changeTemperature]
def wsL_pass_r5 : List Cond := [Cond.code yX5_changeTemperature cX5_changeTemperature 4 none, Cond.fieldLink RX5 54 "ColdStore$Room" "leak" "I", Cond.fieldLink RX5 39 "ColdStore$Room" "cooled" "Z", Cond.fieldLink RX5 57 "ColdStore$Room" "strength" "I", Cond.methodLink RX5 80 Lib.Math.max.name, Cond.static Lib.Math.max.name, Cond.initialized "java/lang/Math", Cond.code Lib.Math.max.name Lib.Math.max.code 2 (some .int), Cond.fieldLink RX5 9 "ColdStore$Room" "records" "[I", Cond.fieldLink RX5 42 "ColdStore$Room" "ticks" "I", Cond.fieldLink RX5 45 "ColdStore$Room" "sum" "I", Cond.fieldLink RX5 48 "ColdStore$Room" "greatest" "I", Cond.methodLink RX7 342 yX0_priceIn, Cond.instanceMethod yX0_priceIn, Cond.selects RX0 yX0_priceIn yX0_priceIn, Cond.code yX0_priceIn cX0_priceIn 2 (some .int), Cond.fieldLink RX0 15 "ColdStore$Contract" "peakPrice" "I", Cond.fieldLink RX0 9 "ColdStore$Contract" "normalPrice" "I", Cond.methodLink RX0 30 yX0_isPeak, Cond.methodLink RX7 345 yX2_record, Cond.instanceMethod yX2_record, Cond.selects RX2 yX2_record yX2_record, Cond.initialized RX2, Cond.code yX2_record cX2_record 4 none]
def wsL_pass_r6 : List Cond := [Cond.fieldLink RX2 9 "ColdStore$Meter" "powers" "[I", Cond.fieldLink RX2 15 "ColdStore$Meter" "prices" "[I", Cond.fieldLink RX2 18 "ColdStore$Meter" "latest" "I", Cond.fieldLink RX2 22 "ColdStore$Meter" "greatest" "I", Cond.methodLink RX2 29 Lib.Math.max.name, Cond.fieldLink RX2 25 "ColdStore$Meter" "costs" "J", Cond.methodLink RX7 348 yX4_loseLife, Cond.instanceMethod yX4_loseLife, Cond.selects RX4 yX4_loseLife yX4_loseLife, Cond.initialized RX4, Cond.code yX4_loseLife cX4_loseLife 1 none, Cond.fieldLink RX4 40 "ColdStore$Pallet" "lifeLeft" "I", Cond.fieldLink RX4 22 "ColdStore$Pallet" "kind" "LColdStore$Kind;", Cond.fieldLink RX4 31 "ColdStore$Pallet" "stay" "LColdStore$Stay;", Cond.fieldLink RX4 53 "ColdStore$Stay" "room" "LColdStore$Room;", Cond.fieldLink RX4 57 "ColdStore$Room" "degrees" "I", Cond.methodLink RX4 66 Lib.Math.max.name, Cond.methodLink RX4 49 yX4_isInRoom, Cond.instanceMethod yX4_isInRoom, Cond.selects RX4 yX4_isInRoom yX4_isInRoom, Cond.code yX4_isInRoom cX4_isInRoom 1 (some .boolean), Cond.fieldLink RX4 9 "ColdStore$Pallet" "status" "C", Cond.methodLink RX4 62 yX1_lossAt, Cond.instanceMethod yX1_lossAt]
def wsL_pass_r7 : List Cond := [Cond.selects RX1 yX1_lossAt yX1_lossAt, Cond.initialized RX1, Cond.code yX1_lossAt cX1_lossAt 2 (some .int), Cond.fieldLink RX1 16 "ColdStore$Kind" "lowest" "I", Cond.fieldLink RX1 13 "ColdStore$Kind" "best" "I", Cond.methodLink RX7 351 yX7_settleDueOrders, Cond.instanceMethod yX7_settleDueOrders, Cond.selects RX7 yX7_settleDueOrders yX7_settleDueOrders, Cond.code yX7_settleDueOrders cX7_settleDueOrders 4 (some .int), Cond.fieldLink RX7 22 "ColdStore" "orders" "Ljava/util/ArrayList;", Cond.classLink RX7 256 "ColdStore$Order", Cond.fieldLink RX7 269 "ColdStore$Order" "status" "C", Cond.fieldLink RX7 370 "ColdStore$Order" "due" "I", Cond.methodLink RX7 283 yX7_canBeShipped, Cond.instanceMethod yX7_canBeShipped, Cond.selects RX7 yX7_canBeShipped yX7_canBeShipped, Cond.code yX7_canBeShipped cX7_canBeShipped 2 (some .boolean), Cond.fieldLink RX7 376 "ColdStore$Order" "count" "I", Cond.methodLink RX7 273 yX7_countCandidates, Cond.instanceMethod yX7_countCandidates, Cond.selects RX7 yX7_countCandidates yX7_countCandidates, Cond.code yX7_countCandidates cX7_countCandidates 4 (some .int), Cond.methodLink RX7 373 yX3_accepts, Cond.instanceMethod yX3_accepts]
def wsL_pass_r8 : List Cond := [Cond.selects RX3 yX3_accepts yX3_accepts, Cond.initialized RX3, Cond.code yX3_accepts cX3_accepts 2 (some .boolean), Cond.fieldLink RX3 38 "ColdStore$Pallet" "kind" "LColdStore$Kind;", Cond.fieldLink RX3 19 "ColdStore$Order" "kind" "LColdStore$Kind;", Cond.fieldLink RX3 39 "ColdStore$Pallet" "lifeLeft" "I", Cond.fieldLink RX3 26 "ColdStore$Order" "promise" "I", Cond.methodLink RX3 32 yX4_isInRoom, Cond.methodLink RX7 292 yX7_shipCandidates, Cond.instanceMethod yX7_shipCandidates, Cond.selects RX7 yX7_shipCandidates yX7_shipCandidates, Cond.code yX7_shipCandidates cX7_shipCandidates 5 (some .int), Cond.fieldLink RX7 212 "ColdStore$Pallet" "lifeLeft" "I", Cond.fieldLink RX7 297 "ColdStore$Order" "leastLife" "I", Cond.methodLink RX7 379 yX7_nextCandidate, Cond.instanceMethod yX7_nextCandidate, Cond.selects RX7 yX7_nextCandidate yX7_nextCandidate, Cond.code yX7_nextCandidate cX7_nextCandidate 7 (some (.object "ColdStore$Pallet")), Cond.methodLink RX7 242 yX4_isAheadOf, Cond.instanceMethod yX4_isAheadOf, Cond.selects RX4 yX4_isAheadOf yX4_isAheadOf, Cond.code yX4_isAheadOf cX4_isAheadOf 2 (some .boolean), Cond.fieldLink RX4 19 "ColdStore$Pallet" "number" "I", Cond.methodLink RX7 208 yX4_leave]
def wsL_pass_r9 : List Cond := [Cond.instanceMethod yX4_leave, Cond.selects RX4 yX4_leave yX4_leave, Cond.code yX4_leave cX4_leave 3 none, Cond.fieldLink RX4 15 "ColdStore$Pallet" "leftAt" "I"]
def wsL_pass : List Cond := .codeWith yL_pass cL_pass 4 (some .int) [(0, 9, 12, 13), (0, 9, 15, 15)] :: ((wsL_pass_r1 ++ (wsL_pass_r2 ++ (wsL_pass_r3 ++ (wsL_pass_r4 ++ (wsL_pass_r5 ++ (wsL_pass_r6 ++ (wsL_pass_r7 ++ (wsL_pass_r8 ++ wsL_pass_r9)))))))) ++ wsX70 ++ wsJx4a65c0 ++ wsX50 ++ wsX00 ++ wsX20 ++ wsX40 ++ wsX60 ++ wsX10 ++ wsX30 ++ (vx_atM "java/lang/ArrayIndexOutOfBoundsException" ["java/lang/IndexOutOfBoundsException", "java/lang/RuntimeException", "java/lang/Exception"]).filter goodWord ++ (vx_atS RX7 54 "java/lang/IllegalStateException" ["java/lang/RuntimeException", "java/lang/Exception"]).filter goodWord ++ (vx_atS RX7 89 "java/lang/IllegalArgumentException" ["java/lang/RuntimeException", "java/lang/Exception"]).filter goodWord)
def wsL_setOutside : List Cond := .codeWith yL_setOutside cL_setOutside 4 (some .int) [(0, 9, 12, 13)] :: ([.classLink RL 13 "java/lang/IllegalArgumentException", .methodLink RL 17 yX7_setOutside, .instanceMethod yX7_setOutside, .selects RX7 yX7_setOutside yX7_setOutside, .initialized RX7, .code yX7_setOutside cX7_setOutside 3 (some .int), .fieldLink RX7 43 "ColdStore" "outside" "I", .methodLink RX7 46 yX7_requireRange, .static yX7_requireRange, .code yX7_requireRange cX7_requireRange 3 none, .classLink RX7 85 "java/lang/IllegalArgumentException", .initialized "java/lang/IllegalArgumentException"] ++ wsX70 ++ (vx_atM "java/lang/ArrayIndexOutOfBoundsException" ["java/lang/IndexOutOfBoundsException", "java/lang/RuntimeException", "java/lang/Exception"]).filter goodWord ++ (vx_atS RX7 89 "java/lang/IllegalArgumentException" ["java/lang/RuntimeException", "java/lang/Exception"]).filter goodWord)
def wsL_addRoom_r1 : List Cond := [Cond.classLink RL 13 "java/lang/IllegalArgumentException", Cond.classLink RL 15 "java/lang/IllegalStateException", Cond.methodLink RL 20 yX7_addRoom, Cond.instanceMethod yX7_addRoom, Cond.selects RX7 yX7_addRoom yX7_addRoom, Cond.initialized RX7, Cond.code yX7_addRoom cX7_addRoom 5 (some .int), Cond.classLink RX7 50 "java/lang/IllegalStateException", Cond.initialized "java/lang/IllegalStateException", Cond.fieldLink RX7 10 "ColdStore" "rooms" "Ljava/util/ArrayList;", Cond.classLink RX7 66 RX5, Cond.instantiable RX5 17, Cond.initialized RX5, Cond.fieldLink RX7 43 "ColdStore" "outside" "I", Cond.methodLink RX7 46 yX7_requireRange, Cond.static yX7_requireRange, Cond.code yX7_requireRange cX7_requireRange 3 none, Cond.classLink RX7 85 "java/lang/IllegalArgumentException", Cond.initialized "java/lang/IllegalArgumentException", Cond.methodLink RX7 61 yJx4a65c_size_8abf5, Cond.instanceMethod yJx4a65c_size_8abf5, Cond.selects RJx4a65c yJx4a65c_size_8abf5 yJx4a65c_size_8abf5, Cond.initialized RJx4a65c, Cond.code yJx4a65c_size_8abf5 cJx4a65c_size_8abf5 1 (some .int)]
def wsL_addRoom_r2 : List Cond := [Cond.fieldLink RJx4a65c 48 "java/util/ArrayList" "size" "I", Cond.methodLink RX7 68 yX5_init, Cond.instanceMethod yX5_init, Cond.code yX5_init cX5_init 6 none, Cond.methodLink RX5 3 objectInit, Cond.instanceMethod objectInit, Cond.code objectInit ⟨#[0xb1]⟩ 1 none, Cond.arrayClass .int, Cond.fieldLink RX5 9 "ColdStore$Room" "records" "[I", Cond.fieldLink RX5 15 "ColdStore$Room" "lower" "I", Cond.fieldLink RX5 19 "ColdStore$Room" "upper" "I", Cond.fieldLink RX5 22 "ColdStore$Room" "mode" "C", Cond.fieldLink RX5 26 "ColdStore$Room" "leadTicks" "I", Cond.fieldLink RX5 29 "ColdStore$Room" "leadDepth" "I", Cond.fieldLink RX5 32 "ColdStore$Room" "wanting" "Z", Cond.fieldLink RX5 36 "ColdStore$Room" "waiting" "Z", Cond.fieldLink RX5 39 "ColdStore$Room" "cooled" "Z", Cond.fieldLink RX5 42 "ColdStore$Room" "ticks" "I", Cond.fieldLink RX5 45 "ColdStore$Room" "sum" "I", Cond.fieldLink RX5 48 "ColdStore$Room" "greatest" "I", Cond.fieldLink RX5 51 "ColdStore$Room" "number" "I", Cond.fieldLink RX5 54 "ColdStore$Room" "leak" "I", Cond.fieldLink RX5 57 "ColdStore$Room" "strength" "I", Cond.fieldLink RX5 60 "ColdStore$Room" "kilowatts" "I"]
def wsL_addRoom_r3 : List Cond := [Cond.fieldLink RX5 63 "ColdStore$Room" "degrees" "I", Cond.methodLink RX7 71 yJx4a65c_add_9ea2d, Cond.instanceMethod yJx4a65c_add_9ea2d, Cond.selects RJx4a65c yJx4a65c_add_9ea2d yJx4a65c_add_9ea2d, Cond.code yJx4a65c_add_9ea2d cJx4a65c_add_9ea2d 2 (some .boolean), Cond.fieldLink RJx4a65c 63 "java/util/ArrayList" "modCount" "I", Cond.sameField "java/util/ArrayList" "java/util/AbstractList" "modCount" "I", Cond.fieldLink RJx4a65c 9 "java/util/ArrayList" "elementData" "[Ljava/lang/Object;", Cond.methodLink RJx4a65c 131 yJx4a65c_add_72be8, Cond.instanceMethod yJx4a65c_add_72be8, Cond.selects RJx4a65c yJx4a65c_add_72be8 yJx4a65c_add_72be8, Cond.code yJx4a65c_add_72be8 cJx4a65c_add_72be8 4 none, Cond.methodLink RJx4a65c 129 yJx4a65c_grow_d5877, Cond.instanceMethod yJx4a65c_grow_d5877, Cond.selects RJx4a65c yJx4a65c_grow_d5877 yJx4a65c_grow_d5877, Cond.code yJx4a65c_grow_d5877 cJx4a65c_grow_d5877 1 (some (.array (.object "java/lang/Object"))), Cond.methodLink RJx4a65c 69 yJx4a65c_grow_92f84, Cond.instanceMethod yJx4a65c_grow_92f84, Cond.selects RJx4a65c yJx4a65c_grow_92f84 yJx4a65c_grow_92f84, Cond.code yJx4a65c_grow_92f84 cJx4a65c_grow_92f84 4 (some (.array (.object "java/lang/Object"))), Cond.fieldLink RJx4a65c 39 "java/util/ArrayList" "DEFAULTCAPACITY_EMPTY_ELEMENTDATA" "[Ljava/lang/Object;", Cond.methodLink RJx4a65c 79 Lib.Math.max.name, Cond.static Lib.Math.max.name, Cond.initialized "java/lang/Math"]
def wsL_addRoom_r4 : List Cond := [Cond.code Lib.Math.max.name Lib.Math.max.code 2 (some .int), Cond.classLink RJx4a65c 7 "java/lang/Object", Cond.methodLink RJx4a65c 73 yJ8_newLength_cabcc, Cond.static yJ8_newLength_cabcc, Cond.initialized RJ8, Cond.code yJ8_newLength_cabcc cJ8_newLength_cabcc 4 (some .int), Cond.methodLink RJ8 194 Lib.Math.max.name, Cond.constant RJ8 200 (2147483639), Cond.methodLink RJ8 201 yJ8_hugeLength_7cf53, Cond.static yJ8_hugeLength_7cf53, Cond.code yJ8_hugeLength_7cf53 cJ8_hugeLength_7cf53 3 (some .int), Cond.methodLink RJx4a65c 66 yJ7_copyOf_1904c, Cond.static yJ7_copyOf_1904c, Cond.initialized RJ7, Cond.code yJ7_copyOf_1904c cJ7_copyOf_1904c 2 (some (.array (.object "java/lang/Object"))), Cond.methodLink RJ7 86 ⟨"java/lang/Object", "getClass", "()Ljava/lang/Class;"⟩, Cond.selects "[Ljava/lang/Object;" ⟨"java/lang/Object", "getClass", "()Ljava/lang/Class;"⟩ ⟨"java/lang/Object", "getClass", "()Ljava/lang/Class;"⟩, Cond.instanceMethod ⟨"java/lang/Object", "getClass", "()Ljava/lang/Class;"⟩, Cond.native ⟨"java/lang/Object", "getClass", "()Ljava/lang/Class;"⟩, Cond.methodLink RJ7 300 yJ7_copyOf_6403c, Cond.static yJ7_copyOf_6403c, Cond.code yJ7_copyOf_6403c cJ7_copyOf_6403c 4 (some (.array (.object "java/lang/Object"))), Cond.classLink RJ7 110 "[Ljava/lang/Object;", Cond.classLink RJ7 2 "java/lang/Object"]
def wsL_addRoom_r5 : List Cond := [Cond.methodLink RJ7 304 Lib.Math.min.name, Cond.static Lib.Math.min.name, Cond.code Lib.Math.min.name Lib.Math.min.code 2 (some .int), Cond.methodLink RJ7 150 arraycopyName, Cond.native arraycopyName, Cond.static arraycopyName, Cond.initialized "java/lang/System"]
def wsL_addRoom : List Cond := .codeWith yL_addRoom cL_addRoom 6 (some .int) [(0, 12, 15, 13), (0, 12, 19, 15)] :: ((wsL_addRoom_r1 ++ (wsL_addRoom_r2 ++ (wsL_addRoom_r3 ++ (wsL_addRoom_r4 ++ wsL_addRoom_r5)))) ++ wsX70 ++ wsX50 ++ wsJx4a65c0 ++ (vx_atM "java/lang/ArrayIndexOutOfBoundsException" ["java/lang/IndexOutOfBoundsException", "java/lang/RuntimeException", "java/lang/Exception"]).filter goodWord ++ (vx_atS RX7 54 "java/lang/IllegalStateException" ["java/lang/RuntimeException", "java/lang/Exception"]).filter goodWord ++ (vx_atS RX7 89 "java/lang/IllegalArgumentException" ["java/lang/RuntimeException", "java/lang/Exception"]).filter goodWord)
def wsL_setLimits_r1 : List Cond := [Cond.classLink RL 27 "java/lang/IndexOutOfBoundsException", Cond.classLink RL 13 "java/lang/IllegalArgumentException", Cond.methodLink RL 24 yX7_setLimits, Cond.instanceMethod yX7_setLimits, Cond.selects RX7 yX7_setLimits yX7_setLimits, Cond.initialized RX7, Cond.code yX7_setLimits cX7_setLimits 6 (some .int), Cond.fieldLink RX7 79 "ColdStore$Room" "lower" "I", Cond.fieldLink RX7 82 "ColdStore$Room" "upper" "I", Cond.methodLink RX7 75 yX7_findRoom, Cond.instanceMethod yX7_findRoom, Cond.selects RX7 yX7_findRoom yX7_findRoom, Cond.code yX7_findRoom cX7_findRoom 2 (some (.object "ColdStore$Room")), Cond.classLink RX7 314 "java/lang/IndexOutOfBoundsException", Cond.initialized "java/lang/IndexOutOfBoundsException", Cond.fieldLink RX7 10 "ColdStore" "rooms" "Ljava/util/ArrayList;", Cond.classLink RX7 66 "ColdStore$Room", Cond.methodLink RX7 61 yJx4a65c_size_8abf5, Cond.instanceMethod yJx4a65c_size_8abf5, Cond.selects RJx4a65c yJx4a65c_size_8abf5 yJx4a65c_size_8abf5, Cond.initialized RJx4a65c, Cond.code yJx4a65c_size_8abf5 cJx4a65c_size_8abf5 1 (some .int), Cond.fieldLink RJx4a65c 48 "java/util/ArrayList" "size" "I", Cond.methodLink RX7 234 yJx4a65c_get_915e3]
def wsL_setLimits_r2 : List Cond := [Cond.instanceMethod yJx4a65c_get_915e3, Cond.selects RJx4a65c yJx4a65c_get_915e3 yJx4a65c_get_915e3, Cond.code yJx4a65c_get_915e3 cJx4a65c_get_915e3 2 (some (.object "java/lang/Object")), Cond.methodLink RJx4a65c 118 yJ15_checkIndex_7cf53, Cond.static yJ15_checkIndex_7cf53, Cond.initialized RJ15, Cond.code yJ15_checkIndex_7cf53 cJ15_checkIndex_7cf53 2 (some .int), Cond.methodLink RJ15 105 yJ3_checkIndex_8e157, Cond.static yJ3_checkIndex_8e157, Cond.initialized RJ3, Cond.code yJ3_checkIndex_8e157 cJ3_checkIndex_8e157 3 (some .int), Cond.methodLink RJx4a65c 123 yJx4a65c_elementData_915e3, Cond.instanceMethod yJx4a65c_elementData_915e3, Cond.selects RJx4a65c yJx4a65c_elementData_915e3 yJx4a65c_elementData_915e3, Cond.code yJx4a65c_elementData_915e3 cJx4a65c_elementData_915e3 2 (some (.object "java/lang/Object")), Cond.fieldLink RJx4a65c 9 "java/util/ArrayList" "elementData" "[Ljava/lang/Object;", Cond.methodLink RX7 46 yX7_requireRange, Cond.static yX7_requireRange, Cond.code yX7_requireRange cX7_requireRange 3 none, Cond.classLink RX7 85 "java/lang/IllegalArgumentException", Cond.initialized "java/lang/IllegalArgumentException"]
def wsL_setLimits : List Cond := .codeWith yL_setLimits cL_setLimits 6 (some .int) [(0, 12, 15, 27), (0, 12, 19, 13)] :: ((wsL_setLimits_r1 ++ wsL_setLimits_r2) ++ wsX50 ++ wsX70 ++ wsJx4a65c0 ++ (vx_atM "java/lang/ArrayIndexOutOfBoundsException" ["java/lang/IndexOutOfBoundsException", "java/lang/RuntimeException", "java/lang/Exception"]).filter goodWord ++ (vx_atS RX7 318 "java/lang/IndexOutOfBoundsException" ["java/lang/RuntimeException", "java/lang/Exception"]).filter goodWord ++ (vx_atS RX7 89 "java/lang/IllegalArgumentException" ["java/lang/RuntimeException", "java/lang/Exception"]).filter goodWord)
def wsL_setMode_r1 : List Cond := [Cond.classLink RL 27 "java/lang/IndexOutOfBoundsException", Cond.classLink RL 13 "java/lang/IllegalArgumentException", Cond.methodLink RL 29 yX7_setMode, Cond.instanceMethod yX7_setMode, Cond.selects RX7 yX7_setMode yX7_setMode, Cond.initialized RX7, Cond.code yX7_setMode cX7_setMode 5 (some .char), Cond.classLink RX7 85 "java/lang/IllegalArgumentException", Cond.initialized "java/lang/IllegalArgumentException", Cond.fieldLink RX7 90 "ColdStore$Room" "mode" "C", Cond.methodLink RX7 75 yX7_findRoom, Cond.instanceMethod yX7_findRoom, Cond.selects RX7 yX7_findRoom yX7_findRoom, Cond.code yX7_findRoom cX7_findRoom 2 (some (.object "ColdStore$Room")), Cond.classLink RX7 314 "java/lang/IndexOutOfBoundsException", Cond.initialized "java/lang/IndexOutOfBoundsException", Cond.fieldLink RX7 10 "ColdStore" "rooms" "Ljava/util/ArrayList;", Cond.classLink RX7 66 "ColdStore$Room", Cond.methodLink RX7 61 yJx4a65c_size_8abf5, Cond.instanceMethod yJx4a65c_size_8abf5, Cond.selects RJx4a65c yJx4a65c_size_8abf5 yJx4a65c_size_8abf5, Cond.initialized RJx4a65c, Cond.code yJx4a65c_size_8abf5 cJx4a65c_size_8abf5 1 (some .int), Cond.fieldLink RJx4a65c 48 "java/util/ArrayList" "size" "I"]
def wsL_setMode_r2 : List Cond := [Cond.methodLink RX7 234 yJx4a65c_get_915e3, Cond.instanceMethod yJx4a65c_get_915e3, Cond.selects RJx4a65c yJx4a65c_get_915e3 yJx4a65c_get_915e3, Cond.code yJx4a65c_get_915e3 cJx4a65c_get_915e3 2 (some (.object "java/lang/Object")), Cond.methodLink RJx4a65c 118 yJ15_checkIndex_7cf53, Cond.static yJ15_checkIndex_7cf53, Cond.initialized RJ15, Cond.code yJ15_checkIndex_7cf53 cJ15_checkIndex_7cf53 2 (some .int), Cond.methodLink RJ15 105 yJ3_checkIndex_8e157, Cond.static yJ3_checkIndex_8e157, Cond.initialized RJ3, Cond.code yJ3_checkIndex_8e157 cJ3_checkIndex_8e157 3 (some .int), Cond.methodLink RJx4a65c 123 yJx4a65c_elementData_915e3, Cond.instanceMethod yJx4a65c_elementData_915e3, Cond.selects RJx4a65c yJx4a65c_elementData_915e3 yJx4a65c_elementData_915e3, Cond.code yJx4a65c_elementData_915e3 cJx4a65c_elementData_915e3 2 (some (.object "java/lang/Object")), Cond.fieldLink RJx4a65c 9 "java/util/ArrayList" "elementData" "[Ljava/lang/Object;"]
def wsL_setMode : List Cond := .codeWith yL_setMode cL_setMode 5 (some .int) [(0, 10, 13, 27), (0, 10, 17, 13)] :: ((wsL_setMode_r1 ++ wsL_setMode_r2) ++ wsX50 ++ wsX70 ++ wsJx4a65c0 ++ (vx_atM "java/lang/ArrayIndexOutOfBoundsException" ["java/lang/IndexOutOfBoundsException", "java/lang/RuntimeException", "java/lang/Exception"]).filter goodWord ++ (vx_atS RX7 89 "java/lang/IllegalArgumentException" ["java/lang/RuntimeException", "java/lang/Exception"]).filter goodWord ++ (vx_atS RX7 318 "java/lang/IndexOutOfBoundsException" ["java/lang/RuntimeException", "java/lang/Exception"]).filter goodWord)
def wsL_setLead_r1 : List Cond := [Cond.classLink RL 27 "java/lang/IndexOutOfBoundsException", Cond.classLink RL 13 "java/lang/IllegalArgumentException", Cond.methodLink RL 33 yX7_setLead, Cond.instanceMethod yX7_setLead, Cond.selects RX7 yX7_setLead yX7_setLead, Cond.initialized RX7, Cond.code yX7_setLead cX7_setLead 6 (some .int), Cond.fieldLink RX7 94 "ColdStore$Room" "leadTicks" "I", Cond.fieldLink RX7 97 "ColdStore$Room" "leadDepth" "I", Cond.methodLink RX7 75 yX7_findRoom, Cond.instanceMethod yX7_findRoom, Cond.selects RX7 yX7_findRoom yX7_findRoom, Cond.code yX7_findRoom cX7_findRoom 2 (some (.object "ColdStore$Room")), Cond.classLink RX7 314 "java/lang/IndexOutOfBoundsException", Cond.initialized "java/lang/IndexOutOfBoundsException", Cond.fieldLink RX7 10 "ColdStore" "rooms" "Ljava/util/ArrayList;", Cond.classLink RX7 66 "ColdStore$Room", Cond.methodLink RX7 61 yJx4a65c_size_8abf5, Cond.instanceMethod yJx4a65c_size_8abf5, Cond.selects RJx4a65c yJx4a65c_size_8abf5 yJx4a65c_size_8abf5, Cond.initialized RJx4a65c, Cond.code yJx4a65c_size_8abf5 cJx4a65c_size_8abf5 1 (some .int), Cond.fieldLink RJx4a65c 48 "java/util/ArrayList" "size" "I", Cond.methodLink RX7 234 yJx4a65c_get_915e3]
def wsL_setLead_r2 : List Cond := [Cond.instanceMethod yJx4a65c_get_915e3, Cond.selects RJx4a65c yJx4a65c_get_915e3 yJx4a65c_get_915e3, Cond.code yJx4a65c_get_915e3 cJx4a65c_get_915e3 2 (some (.object "java/lang/Object")), Cond.methodLink RJx4a65c 118 yJ15_checkIndex_7cf53, Cond.static yJ15_checkIndex_7cf53, Cond.initialized RJ15, Cond.code yJ15_checkIndex_7cf53 cJ15_checkIndex_7cf53 2 (some .int), Cond.methodLink RJ15 105 yJ3_checkIndex_8e157, Cond.static yJ3_checkIndex_8e157, Cond.initialized RJ3, Cond.code yJ3_checkIndex_8e157 cJ3_checkIndex_8e157 3 (some .int), Cond.methodLink RJx4a65c 123 yJx4a65c_elementData_915e3, Cond.instanceMethod yJx4a65c_elementData_915e3, Cond.selects RJx4a65c yJx4a65c_elementData_915e3 yJx4a65c_elementData_915e3, Cond.code yJx4a65c_elementData_915e3 cJx4a65c_elementData_915e3 2 (some (.object "java/lang/Object")), Cond.fieldLink RJx4a65c 9 "java/util/ArrayList" "elementData" "[Ljava/lang/Object;", Cond.methodLink RX7 46 yX7_requireRange, Cond.static yX7_requireRange, Cond.code yX7_requireRange cX7_requireRange 3 none, Cond.classLink RX7 85 "java/lang/IllegalArgumentException", Cond.initialized "java/lang/IllegalArgumentException"]
def wsL_setLead : List Cond := .codeWith yL_setLead cL_setLead 6 (some .int) [(0, 12, 15, 27), (0, 12, 19, 13)] :: ((wsL_setLead_r1 ++ wsL_setLead_r2) ++ wsX50 ++ wsX70 ++ wsJx4a65c0 ++ (vx_atM "java/lang/ArrayIndexOutOfBoundsException" ["java/lang/IndexOutOfBoundsException", "java/lang/RuntimeException", "java/lang/Exception"]).filter goodWord ++ (vx_atS RX7 318 "java/lang/IndexOutOfBoundsException" ["java/lang/RuntimeException", "java/lang/Exception"]).filter goodWord ++ (vx_atS RX7 89 "java/lang/IllegalArgumentException" ["java/lang/RuntimeException", "java/lang/Exception"]).filter goodWord)
def wsL_temperature_r1 : List Cond := [Cond.classLink RL 27 "java/lang/IndexOutOfBoundsException", Cond.methodLink RL 36 yX7_temperature, Cond.instanceMethod yX7_temperature, Cond.selects RX7 yX7_temperature yX7_temperature, Cond.initialized RX7, Cond.code yX7_temperature cX7_temperature 2 (some .int), Cond.fieldLink RX7 100 "ColdStore$Room" "degrees" "I", Cond.methodLink RX7 75 yX7_findRoom, Cond.instanceMethod yX7_findRoom, Cond.selects RX7 yX7_findRoom yX7_findRoom, Cond.code yX7_findRoom cX7_findRoom 2 (some (.object "ColdStore$Room")), Cond.classLink RX7 314 "java/lang/IndexOutOfBoundsException", Cond.initialized "java/lang/IndexOutOfBoundsException", Cond.fieldLink RX7 10 "ColdStore" "rooms" "Ljava/util/ArrayList;", Cond.classLink RX7 66 "ColdStore$Room", Cond.methodLink RX7 61 yJx4a65c_size_8abf5, Cond.instanceMethod yJx4a65c_size_8abf5, Cond.selects RJx4a65c yJx4a65c_size_8abf5 yJx4a65c_size_8abf5, Cond.initialized RJx4a65c, Cond.code yJx4a65c_size_8abf5 cJx4a65c_size_8abf5 1 (some .int), Cond.fieldLink RJx4a65c 48 "java/util/ArrayList" "size" "I", Cond.methodLink RX7 234 yJx4a65c_get_915e3, Cond.instanceMethod yJx4a65c_get_915e3, Cond.selects RJx4a65c yJx4a65c_get_915e3 yJx4a65c_get_915e3]
def wsL_temperature_r2 : List Cond := [Cond.code yJx4a65c_get_915e3 cJx4a65c_get_915e3 2 (some (.object "java/lang/Object")), Cond.methodLink RJx4a65c 118 yJ15_checkIndex_7cf53, Cond.static yJ15_checkIndex_7cf53, Cond.initialized RJ15, Cond.code yJ15_checkIndex_7cf53 cJ15_checkIndex_7cf53 2 (some .int), Cond.methodLink RJ15 105 yJ3_checkIndex_8e157, Cond.static yJ3_checkIndex_8e157, Cond.initialized RJ3, Cond.code yJ3_checkIndex_8e157 cJ3_checkIndex_8e157 3 (some .int), Cond.methodLink RJx4a65c 123 yJx4a65c_elementData_915e3, Cond.instanceMethod yJx4a65c_elementData_915e3, Cond.selects RJx4a65c yJx4a65c_elementData_915e3 yJx4a65c_elementData_915e3, Cond.code yJx4a65c_elementData_915e3 cJx4a65c_elementData_915e3 2 (some (.object "java/lang/Object")), Cond.fieldLink RJx4a65c 9 "java/util/ArrayList" "elementData" "[Ljava/lang/Object;"]
def wsL_temperature : List Cond := .codeWith yL_temperature cL_temperature 4 (some .int) [(0, 9, 12, 27)] :: ((wsL_temperature_r1 ++ wsL_temperature_r2) ++ wsX50 ++ wsX70 ++ wsJx4a65c0 ++ (vx_atM "java/lang/ArrayIndexOutOfBoundsException" ["java/lang/IndexOutOfBoundsException", "java/lang/RuntimeException", "java/lang/Exception"]).filter goodWord ++ (vx_atS RX7 318 "java/lang/IndexOutOfBoundsException" ["java/lang/RuntimeException", "java/lang/Exception"]).filter goodWord)
def wsL_isCooled_r1 : List Cond := [Cond.classLink RL 27 "java/lang/IndexOutOfBoundsException", Cond.methodLink RL 39 yX7_isCooled, Cond.instanceMethod yX7_isCooled, Cond.selects RX7 yX7_isCooled yX7_isCooled, Cond.initialized RX7, Cond.code yX7_isCooled cX7_isCooled 2 (some .boolean), Cond.fieldLink RX7 103 "ColdStore$Room" "cooled" "Z", Cond.methodLink RX7 75 yX7_findRoom, Cond.instanceMethod yX7_findRoom, Cond.selects RX7 yX7_findRoom yX7_findRoom, Cond.code yX7_findRoom cX7_findRoom 2 (some (.object "ColdStore$Room")), Cond.classLink RX7 314 "java/lang/IndexOutOfBoundsException", Cond.initialized "java/lang/IndexOutOfBoundsException", Cond.fieldLink RX7 10 "ColdStore" "rooms" "Ljava/util/ArrayList;", Cond.classLink RX7 66 "ColdStore$Room", Cond.methodLink RX7 61 yJx4a65c_size_8abf5, Cond.instanceMethod yJx4a65c_size_8abf5, Cond.selects RJx4a65c yJx4a65c_size_8abf5 yJx4a65c_size_8abf5, Cond.initialized RJx4a65c, Cond.code yJx4a65c_size_8abf5 cJx4a65c_size_8abf5 1 (some .int), Cond.fieldLink RJx4a65c 48 "java/util/ArrayList" "size" "I", Cond.methodLink RX7 234 yJx4a65c_get_915e3, Cond.instanceMethod yJx4a65c_get_915e3, Cond.selects RJx4a65c yJx4a65c_get_915e3 yJx4a65c_get_915e3]
def wsL_isCooled_r2 : List Cond := [Cond.code yJx4a65c_get_915e3 cJx4a65c_get_915e3 2 (some (.object "java/lang/Object")), Cond.methodLink RJx4a65c 118 yJ15_checkIndex_7cf53, Cond.static yJ15_checkIndex_7cf53, Cond.initialized RJ15, Cond.code yJ15_checkIndex_7cf53 cJ15_checkIndex_7cf53 2 (some .int), Cond.methodLink RJ15 105 yJ3_checkIndex_8e157, Cond.static yJ3_checkIndex_8e157, Cond.initialized RJ3, Cond.code yJ3_checkIndex_8e157 cJ3_checkIndex_8e157 3 (some .int), Cond.methodLink RJx4a65c 123 yJx4a65c_elementData_915e3, Cond.instanceMethod yJx4a65c_elementData_915e3, Cond.selects RJx4a65c yJx4a65c_elementData_915e3 yJx4a65c_elementData_915e3, Cond.code yJx4a65c_elementData_915e3 cJx4a65c_elementData_915e3 2 (some (.object "java/lang/Object")), Cond.fieldLink RJx4a65c 9 "java/util/ArrayList" "elementData" "[Ljava/lang/Object;"]
def wsL_isCooled : List Cond := .codeWith yL_isCooled cL_isCooled 4 (some .int) [(0, 16, 19, 27)] :: ((wsL_isCooled_r1 ++ wsL_isCooled_r2) ++ wsX50 ++ wsX70 ++ wsJx4a65c0 ++ (vx_atM "java/lang/ArrayIndexOutOfBoundsException" ["java/lang/IndexOutOfBoundsException", "java/lang/RuntimeException", "java/lang/Exception"]).filter goodWord ++ (vx_atS RX7 318 "java/lang/IndexOutOfBoundsException" ["java/lang/RuntimeException", "java/lang/Exception"]).filter goodWord)
def wsL_warmest_r1 : List Cond := [Cond.classLink RL 27 "java/lang/IndexOutOfBoundsException", Cond.classLink RL 46 "java/util/NoSuchElementException", Cond.methodLink RL 43 yX7_warmest, Cond.instanceMethod yX7_warmest, Cond.selects RX7 yX7_warmest yX7_warmest, Cond.initialized RX7, Cond.code yX7_warmest cX7_warmest 3 (some .int), Cond.classLink RX7 110 "java/util/NoSuchElementException", Cond.initialized "java/util/NoSuchElementException", Cond.fieldLink RX7 107 "ColdStore$Room" "ticks" "I", Cond.fieldLink RX7 115 "ColdStore$Room" "greatest" "I", Cond.methodLink RX7 75 yX7_findRoom, Cond.instanceMethod yX7_findRoom, Cond.selects RX7 yX7_findRoom yX7_findRoom, Cond.code yX7_findRoom cX7_findRoom 2 (some (.object "ColdStore$Room")), Cond.classLink RX7 314 "java/lang/IndexOutOfBoundsException", Cond.initialized "java/lang/IndexOutOfBoundsException", Cond.fieldLink RX7 10 "ColdStore" "rooms" "Ljava/util/ArrayList;", Cond.classLink RX7 66 "ColdStore$Room", Cond.methodLink RX7 61 yJx4a65c_size_8abf5, Cond.instanceMethod yJx4a65c_size_8abf5, Cond.selects RJx4a65c yJx4a65c_size_8abf5 yJx4a65c_size_8abf5, Cond.initialized RJx4a65c, Cond.code yJx4a65c_size_8abf5 cJx4a65c_size_8abf5 1 (some .int)]
def wsL_warmest_r2 : List Cond := [Cond.fieldLink RJx4a65c 48 "java/util/ArrayList" "size" "I", Cond.methodLink RX7 234 yJx4a65c_get_915e3, Cond.instanceMethod yJx4a65c_get_915e3, Cond.selects RJx4a65c yJx4a65c_get_915e3 yJx4a65c_get_915e3, Cond.code yJx4a65c_get_915e3 cJx4a65c_get_915e3 2 (some (.object "java/lang/Object")), Cond.methodLink RJx4a65c 118 yJ15_checkIndex_7cf53, Cond.static yJ15_checkIndex_7cf53, Cond.initialized RJ15, Cond.code yJ15_checkIndex_7cf53 cJ15_checkIndex_7cf53 2 (some .int), Cond.methodLink RJ15 105 yJ3_checkIndex_8e157, Cond.static yJ3_checkIndex_8e157, Cond.initialized RJ3, Cond.code yJ3_checkIndex_8e157 cJ3_checkIndex_8e157 3 (some .int), Cond.methodLink RJx4a65c 123 yJx4a65c_elementData_915e3, Cond.instanceMethod yJx4a65c_elementData_915e3, Cond.selects RJx4a65c yJx4a65c_elementData_915e3 yJx4a65c_elementData_915e3, Cond.code yJx4a65c_elementData_915e3 cJx4a65c_elementData_915e3 2 (some (.object "java/lang/Object")), Cond.fieldLink RJx4a65c 9 "java/util/ArrayList" "elementData" "[Ljava/lang/Object;"]
def wsL_warmest : List Cond := .codeWith yL_warmest cL_warmest 4 (some .int) [(0, 9, 12, 27), (0, 9, 15, 46)] :: ((wsL_warmest_r1 ++ wsL_warmest_r2) ++ wsX50 ++ wsX70 ++ wsJx4a65c0 ++ (vx_atM "java/lang/ArrayIndexOutOfBoundsException" ["java/lang/IndexOutOfBoundsException", "java/lang/RuntimeException", "java/lang/Exception"]).filter goodWord ++ (vx_atS RX7 114 "java/util/NoSuchElementException" ["java/lang/RuntimeException", "java/lang/Exception"]).filter goodWord ++ (vx_atS RX7 318 "java/lang/IndexOutOfBoundsException" ["java/lang/RuntimeException", "java/lang/Exception"]).filter goodWord)
def wsL_meanTemperature_r1 : List Cond := [Cond.classLink RL 27 "java/lang/IndexOutOfBoundsException", Cond.classLink RL 52 "java/lang/ArithmeticException", Cond.methodLink RL 48 yX7_meanTemperature, Cond.instanceMethod yX7_meanTemperature, Cond.selects RX7 yX7_meanTemperature yX7_meanTemperature, Cond.initialized RX7, Cond.code yX7_meanTemperature cX7_meanTemperature 3 (some .double), Cond.classLink RX7 118 "java/lang/ArithmeticException", Cond.initialized "java/lang/ArithmeticException", Cond.fieldLink RX7 107 "ColdStore$Room" "ticks" "I", Cond.fieldLink RX7 121 "ColdStore$Room" "sum" "I", Cond.methodLink RX7 75 yX7_findRoom, Cond.instanceMethod yX7_findRoom, Cond.selects RX7 yX7_findRoom yX7_findRoom, Cond.code yX7_findRoom cX7_findRoom 2 (some (.object "ColdStore$Room")), Cond.classLink RX7 314 "java/lang/IndexOutOfBoundsException", Cond.initialized "java/lang/IndexOutOfBoundsException", Cond.fieldLink RX7 10 "ColdStore" "rooms" "Ljava/util/ArrayList;", Cond.classLink RX7 66 "ColdStore$Room", Cond.methodLink RX7 61 yJx4a65c_size_8abf5, Cond.instanceMethod yJx4a65c_size_8abf5, Cond.selects RJx4a65c yJx4a65c_size_8abf5 yJx4a65c_size_8abf5, Cond.initialized RJx4a65c, Cond.code yJx4a65c_size_8abf5 cJx4a65c_size_8abf5 1 (some .int)]
def wsL_meanTemperature_r2 : List Cond := [Cond.fieldLink RJx4a65c 48 "java/util/ArrayList" "size" "I", Cond.methodLink RX7 234 yJx4a65c_get_915e3, Cond.instanceMethod yJx4a65c_get_915e3, Cond.selects RJx4a65c yJx4a65c_get_915e3 yJx4a65c_get_915e3, Cond.code yJx4a65c_get_915e3 cJx4a65c_get_915e3 2 (some (.object "java/lang/Object")), Cond.methodLink RJx4a65c 118 yJ15_checkIndex_7cf53, Cond.static yJ15_checkIndex_7cf53, Cond.initialized RJ15, Cond.code yJ15_checkIndex_7cf53 cJ15_checkIndex_7cf53 2 (some .int), Cond.methodLink RJ15 105 yJ3_checkIndex_8e157, Cond.static yJ3_checkIndex_8e157, Cond.initialized RJ3, Cond.code yJ3_checkIndex_8e157 cJ3_checkIndex_8e157 3 (some .int), Cond.methodLink RJx4a65c 123 yJx4a65c_elementData_915e3, Cond.instanceMethod yJx4a65c_elementData_915e3, Cond.selects RJx4a65c yJx4a65c_elementData_915e3 yJx4a65c_elementData_915e3, Cond.code yJx4a65c_elementData_915e3 cJx4a65c_elementData_915e3 2 (some (.object "java/lang/Object")), Cond.fieldLink RJx4a65c 9 "java/util/ArrayList" "elementData" "[Ljava/lang/Object;"]
def wsL_meanTemperature : List Cond := .codeWith yL_meanTemperature cL_meanTemperature 4 (some .int) [(0, 8, 11, 27), (0, 8, 14, 52)] :: ((wsL_meanTemperature_r1 ++ wsL_meanTemperature_r2) ++ wsX50 ++ wsX70 ++ wsJx4a65c0 ++ (vx_atM "java/lang/ArrayIndexOutOfBoundsException" ["java/lang/IndexOutOfBoundsException", "java/lang/RuntimeException", "java/lang/Exception"]).filter goodWord ++ (vx_atS RX7 120 "java/lang/ArithmeticException" ["java/lang/RuntimeException", "java/lang/Exception"]).filter goodWord ++ (vx_atS RX7 318 "java/lang/IndexOutOfBoundsException" ["java/lang/RuntimeException", "java/lang/Exception"]).filter goodWord)
def wsL_freeSpace_r1 : List Cond := [Cond.classLink RL 27 "java/lang/IndexOutOfBoundsException", Cond.methodLink RL 54 yX7_freeSpace, Cond.instanceMethod yX7_freeSpace, Cond.selects RX7 yX7_freeSpace yX7_freeSpace, Cond.initialized RX7, Cond.code yX7_freeSpace cX7_freeSpace 2 (some .int), Cond.methodLink RX7 75 yX7_findRoom, Cond.instanceMethod yX7_findRoom, Cond.selects RX7 yX7_findRoom yX7_findRoom, Cond.code yX7_findRoom cX7_findRoom 2 (some (.object "ColdStore$Room")), Cond.classLink RX7 314 "java/lang/IndexOutOfBoundsException", Cond.initialized "java/lang/IndexOutOfBoundsException", Cond.fieldLink RX7 10 "ColdStore" "rooms" "Ljava/util/ArrayList;", Cond.classLink RX7 66 "ColdStore$Room", Cond.methodLink RX7 61 yJx4a65c_size_8abf5, Cond.instanceMethod yJx4a65c_size_8abf5, Cond.selects RJx4a65c yJx4a65c_size_8abf5 yJx4a65c_size_8abf5, Cond.initialized RJx4a65c, Cond.code yJx4a65c_size_8abf5 cJx4a65c_size_8abf5 1 (some .int), Cond.fieldLink RJx4a65c 48 "java/util/ArrayList" "size" "I", Cond.methodLink RX7 234 yJx4a65c_get_915e3, Cond.instanceMethod yJx4a65c_get_915e3, Cond.selects RJx4a65c yJx4a65c_get_915e3 yJx4a65c_get_915e3, Cond.code yJx4a65c_get_915e3 cJx4a65c_get_915e3 2 (some (.object "java/lang/Object"))]
def wsL_freeSpace_r2 : List Cond := [Cond.methodLink RJx4a65c 118 yJ15_checkIndex_7cf53, Cond.static yJ15_checkIndex_7cf53, Cond.initialized RJ15, Cond.code yJ15_checkIndex_7cf53 cJ15_checkIndex_7cf53 2 (some .int), Cond.methodLink RJ15 105 yJ3_checkIndex_8e157, Cond.static yJ3_checkIndex_8e157, Cond.initialized RJ3, Cond.code yJ3_checkIndex_8e157 cJ3_checkIndex_8e157 3 (some .int), Cond.methodLink RJx4a65c 123 yJx4a65c_elementData_915e3, Cond.instanceMethod yJx4a65c_elementData_915e3, Cond.selects RJx4a65c yJx4a65c_elementData_915e3 yJx4a65c_elementData_915e3, Cond.code yJx4a65c_elementData_915e3 cJx4a65c_elementData_915e3 2 (some (.object "java/lang/Object")), Cond.fieldLink RJx4a65c 9 "java/util/ArrayList" "elementData" "[Ljava/lang/Object;", Cond.methodLink RX7 124 yX7_spaceIn, Cond.instanceMethod yX7_spaceIn, Cond.selects RX7 yX7_spaceIn yX7_spaceIn, Cond.code yX7_spaceIn cX7_spaceIn 5 (some .int), Cond.fieldLink RX7 19 "ColdStore" "pallets" "Ljava/util/ArrayList;", Cond.classLink RX7 178 "ColdStore$Pallet", Cond.fieldLink RX7 191 "ColdStore$Pallet" "stay" "LColdStore$Stay;", Cond.fieldLink RX7 195 "ColdStore$Stay" "room" "LColdStore$Room;", Cond.methodLink RX7 238 yX4_isInRoom, Cond.instanceMethod yX4_isInRoom, Cond.selects RX4 yX4_isInRoom yX4_isInRoom]
def wsL_freeSpace_r3 : List Cond := [Cond.initialized RX4, Cond.code yX4_isInRoom cX4_isInRoom 1 (some .boolean), Cond.fieldLink RX4 9 "ColdStore$Pallet" "status" "C"]
def wsL_freeSpace : List Cond := .codeWith yL_freeSpace cL_freeSpace 4 (some .int) [(0, 9, 12, 27)] :: ((wsL_freeSpace_r1 ++ (wsL_freeSpace_r2 ++ wsL_freeSpace_r3)) ++ wsX70 ++ wsJx4a65c0 ++ wsX40 ++ wsX60 ++ (vx_atM "java/lang/ArrayIndexOutOfBoundsException" ["java/lang/IndexOutOfBoundsException", "java/lang/RuntimeException", "java/lang/Exception"]).filter goodWord ++ (vx_atS RX7 318 "java/lang/IndexOutOfBoundsException" ["java/lang/RuntimeException", "java/lang/Exception"]).filter goodWord)
def wsL_setPrices : List Cond := .codeWith yL_setPrices cL_setPrices 7 (some .int) [(0, 14, 17, 13)] :: ([.classLink RL 13 "java/lang/IllegalArgumentException", .methodLink RL 57 yX7_setPrices, .instanceMethod yX7_setPrices, .selects RX7 yX7_setPrices yX7_setPrices, .initialized RX7, .code yX7_setPrices cX7_setPrices 6 (some .int), .fieldLink RX7 28 "ColdStore" "contract" "LColdStore$Contract;", .fieldLink RX7 128 "ColdStore$Contract" "normalPrice" "I", .fieldLink RX7 131 "ColdStore$Contract" "peakPrice" "I", .fieldLink RX7 134 "ColdStore$Contract" "firstPeak" "I", .fieldLink RX7 137 "ColdStore$Contract" "lastPeak" "I", .methodLink RX7 46 yX7_requireRange, .static yX7_requireRange, .code yX7_requireRange cX7_requireRange 3 none, .classLink RX7 85 "java/lang/IllegalArgumentException", .initialized "java/lang/IllegalArgumentException"] ++ wsX70 ++ wsX00 ++ (vx_atM "java/lang/ArrayIndexOutOfBoundsException" ["java/lang/IndexOutOfBoundsException", "java/lang/RuntimeException", "java/lang/Exception"]).filter goodWord ++ (vx_atS RX7 89 "java/lang/IllegalArgumentException" ["java/lang/RuntimeException", "java/lang/Exception"]).filter goodWord)
def wsL_setCharge : List Cond := .codeWith yL_setCharge cL_setCharge 4 (some .int) [(0, 9, 12, 13)] :: ([.classLink RL 13 "java/lang/IllegalArgumentException", .methodLink RL 61 yX7_setCharge, .instanceMethod yX7_setCharge, .selects RX7 yX7_setCharge yX7_setCharge, .initialized RX7, .code yX7_setCharge cX7_setCharge 3 (some .int), .fieldLink RX7 28 "ColdStore" "contract" "LColdStore$Contract;", .fieldLink RX7 140 "ColdStore$Contract" "charge" "I", .methodLink RX7 46 yX7_requireRange, .static yX7_requireRange, .code yX7_requireRange cX7_requireRange 3 none, .classLink RX7 85 "java/lang/IllegalArgumentException", .initialized "java/lang/IllegalArgumentException"] ++ wsX70 ++ wsX00 ++ (vx_atM "java/lang/ArrayIndexOutOfBoundsException" ["java/lang/IndexOutOfBoundsException", "java/lang/RuntimeException", "java/lang/Exception"]).filter goodWord ++ (vx_atS RX7 89 "java/lang/IllegalArgumentException" ["java/lang/RuntimeException", "java/lang/Exception"]).filter goodWord)
def wsL_setPowerLimit : List Cond := .codeWith yL_setPowerLimit cL_setPowerLimit 4 (some .int) [(0, 9, 12, 13)] :: ([.classLink RL 13 "java/lang/IllegalArgumentException", .methodLink RL 64 yX7_setPowerLimit, .instanceMethod yX7_setPowerLimit, .selects RX7 yX7_setPowerLimit yX7_setPowerLimit, .initialized RX7, .code yX7_setPowerLimit cX7_setPowerLimit 3 (some .int), .fieldLink RX7 28 "ColdStore" "contract" "LColdStore$Contract;", .fieldLink RX7 143 "ColdStore$Contract" "limit" "I", .methodLink RX7 46 yX7_requireRange, .static yX7_requireRange, .code yX7_requireRange cX7_requireRange 3 none, .classLink RX7 85 "java/lang/IllegalArgumentException", .initialized "java/lang/IllegalArgumentException"] ++ wsX70 ++ wsX00 ++ (vx_atM "java/lang/ArrayIndexOutOfBoundsException" ["java/lang/IndexOutOfBoundsException", "java/lang/RuntimeException", "java/lang/Exception"]).filter goodWord ++ (vx_atS RX7 89 "java/lang/IllegalArgumentException" ["java/lang/RuntimeException", "java/lang/Exception"]).filter goodWord)
def wsL_addKind_r1 : List Cond := [Cond.classLink RL 13 "java/lang/IllegalArgumentException", Cond.classLink RL 15 "java/lang/IllegalStateException", Cond.methodLink RL 67 yX7_addKind, Cond.instanceMethod yX7_addKind, Cond.selects RX7 yX7_addKind yX7_addKind, Cond.initialized RX7, Cond.code yX7_addKind cX7_addKind 4 (some .int), Cond.classLink RX7 50 "java/lang/IllegalStateException", Cond.initialized "java/lang/IllegalStateException", Cond.fieldLink RX7 16 "ColdStore" "kinds" "Ljava/util/ArrayList;", Cond.classLink RX7 164 RX1, Cond.instantiable RX1 3, Cond.initialized RX1, Cond.methodLink RX7 46 yX7_requireRange, Cond.static yX7_requireRange, Cond.code yX7_requireRange cX7_requireRange 3 none, Cond.classLink RX7 85 "java/lang/IllegalArgumentException", Cond.initialized "java/lang/IllegalArgumentException", Cond.methodLink RX7 61 yJx4a65c_size_8abf5, Cond.instanceMethod yJx4a65c_size_8abf5, Cond.selects RJx4a65c yJx4a65c_size_8abf5 yJx4a65c_size_8abf5, Cond.initialized RJx4a65c, Cond.code yJx4a65c_size_8abf5 cJx4a65c_size_8abf5 1 (some .int), Cond.fieldLink RJx4a65c 48 "java/util/ArrayList" "size" "I"]
def wsL_addKind_r2 : List Cond := [Cond.methodLink RX7 166 yX1_init, Cond.instanceMethod yX1_init, Cond.code yX1_init cX1_init 4 none, Cond.methodLink RX1 1 objectInit, Cond.instanceMethod objectInit, Cond.code objectInit ⟨#[0xb1]⟩ 1 none, Cond.fieldLink RX1 7 "ColdStore$Kind" "fullLife" "I", Cond.fieldLink RX1 13 "ColdStore$Kind" "best" "I", Cond.fieldLink RX1 16 "ColdStore$Kind" "lowest" "I", Cond.methodLink RX7 71 yJx4a65c_add_9ea2d, Cond.instanceMethod yJx4a65c_add_9ea2d, Cond.selects RJx4a65c yJx4a65c_add_9ea2d yJx4a65c_add_9ea2d, Cond.code yJx4a65c_add_9ea2d cJx4a65c_add_9ea2d 2 (some .boolean), Cond.fieldLink RJx4a65c 63 "java/util/ArrayList" "modCount" "I", Cond.sameField "java/util/ArrayList" "java/util/AbstractList" "modCount" "I", Cond.fieldLink RJx4a65c 9 "java/util/ArrayList" "elementData" "[Ljava/lang/Object;", Cond.methodLink RJx4a65c 131 yJx4a65c_add_72be8, Cond.instanceMethod yJx4a65c_add_72be8, Cond.selects RJx4a65c yJx4a65c_add_72be8 yJx4a65c_add_72be8, Cond.code yJx4a65c_add_72be8 cJx4a65c_add_72be8 4 none, Cond.methodLink RJx4a65c 129 yJx4a65c_grow_d5877, Cond.instanceMethod yJx4a65c_grow_d5877, Cond.selects RJx4a65c yJx4a65c_grow_d5877 yJx4a65c_grow_d5877, Cond.code yJx4a65c_grow_d5877 cJx4a65c_grow_d5877 1 (some (.array (.object "java/lang/Object")))]
def wsL_addKind_r3 : List Cond := [Cond.methodLink RJx4a65c 69 yJx4a65c_grow_92f84, Cond.instanceMethod yJx4a65c_grow_92f84, Cond.selects RJx4a65c yJx4a65c_grow_92f84 yJx4a65c_grow_92f84, Cond.code yJx4a65c_grow_92f84 cJx4a65c_grow_92f84 4 (some (.array (.object "java/lang/Object"))), Cond.fieldLink RJx4a65c 39 "java/util/ArrayList" "DEFAULTCAPACITY_EMPTY_ELEMENTDATA" "[Ljava/lang/Object;", Cond.methodLink RJx4a65c 79 Lib.Math.max.name, Cond.static Lib.Math.max.name, Cond.initialized "java/lang/Math", Cond.code Lib.Math.max.name Lib.Math.max.code 2 (some .int), Cond.classLink RJx4a65c 7 "java/lang/Object", Cond.methodLink RJx4a65c 73 yJ8_newLength_cabcc, Cond.static yJ8_newLength_cabcc, Cond.initialized RJ8, Cond.code yJ8_newLength_cabcc cJ8_newLength_cabcc 4 (some .int), Cond.methodLink RJ8 194 Lib.Math.max.name, Cond.constant RJ8 200 (2147483639), Cond.methodLink RJ8 201 yJ8_hugeLength_7cf53, Cond.static yJ8_hugeLength_7cf53, Cond.code yJ8_hugeLength_7cf53 cJ8_hugeLength_7cf53 3 (some .int), Cond.methodLink RJx4a65c 66 yJ7_copyOf_1904c, Cond.static yJ7_copyOf_1904c, Cond.initialized RJ7, Cond.code yJ7_copyOf_1904c cJ7_copyOf_1904c 2 (some (.array (.object "java/lang/Object"))), Cond.methodLink RJ7 86 ⟨"java/lang/Object", "getClass", "()Ljava/lang/Class;"⟩]
def wsL_addKind_r4 : List Cond := [Cond.selects "[Ljava/lang/Object;" ⟨"java/lang/Object", "getClass", "()Ljava/lang/Class;"⟩ ⟨"java/lang/Object", "getClass", "()Ljava/lang/Class;"⟩, Cond.instanceMethod ⟨"java/lang/Object", "getClass", "()Ljava/lang/Class;"⟩, Cond.native ⟨"java/lang/Object", "getClass", "()Ljava/lang/Class;"⟩, Cond.methodLink RJ7 300 yJ7_copyOf_6403c, Cond.static yJ7_copyOf_6403c, Cond.code yJ7_copyOf_6403c cJ7_copyOf_6403c 4 (some (.array (.object "java/lang/Object"))), Cond.classLink RJ7 110 "[Ljava/lang/Object;", Cond.classLink RJ7 2 "java/lang/Object", Cond.methodLink RJ7 304 Lib.Math.min.name, Cond.static Lib.Math.min.name, Cond.code Lib.Math.min.name Lib.Math.min.code 2 (some .int), Cond.methodLink RJ7 150 arraycopyName, Cond.native arraycopyName, Cond.static arraycopyName, Cond.initialized "java/lang/System"]
def wsL_addKind : List Cond := .codeWith yL_addKind cL_addKind 6 (some .int) [(0, 12, 15, 13), (0, 12, 19, 15)] :: ((wsL_addKind_r1 ++ (wsL_addKind_r2 ++ (wsL_addKind_r3 ++ wsL_addKind_r4))) ++ wsX70 ++ wsX10 ++ wsJx4a65c0 ++ (vx_atM "java/lang/ArrayIndexOutOfBoundsException" ["java/lang/IndexOutOfBoundsException", "java/lang/RuntimeException", "java/lang/Exception"]).filter goodWord ++ (vx_atS RX7 54 "java/lang/IllegalStateException" ["java/lang/RuntimeException", "java/lang/Exception"]).filter goodWord ++ (vx_atS RX7 89 "java/lang/IllegalArgumentException" ["java/lang/RuntimeException", "java/lang/Exception"]).filter goodWord)
def wsL_addPallet_r1 : List Cond := [Cond.classLink RL 27 "java/lang/IndexOutOfBoundsException", Cond.classLink RL 15 "java/lang/IllegalStateException", Cond.methodLink RL 70 yX7_addPallet, Cond.instanceMethod yX7_addPallet, Cond.selects RX7 yX7_addPallet yX7_addPallet, Cond.initialized RX7, Cond.code yX7_addPallet cX7_addPallet 6 (some .int), Cond.classLink RX7 50 "java/lang/IllegalStateException", Cond.initialized "java/lang/IllegalStateException", Cond.fieldLink RX7 19 "ColdStore" "pallets" "Ljava/util/ArrayList;", Cond.classLink RX7 178 RX4, Cond.instantiable RX4 6, Cond.initialized RX4, Cond.fieldLink RX7 39 "ColdStore" "time" "I", Cond.methodLink RX7 168 yX7_findKind, Cond.instanceMethod yX7_findKind, Cond.selects RX7 yX7_findKind yX7_findKind, Cond.code yX7_findKind cX7_findKind 2 (some (.object "ColdStore$Kind")), Cond.classLink RX7 314 "java/lang/IndexOutOfBoundsException", Cond.initialized "java/lang/IndexOutOfBoundsException", Cond.fieldLink RX7 16 "ColdStore" "kinds" "Ljava/util/ArrayList;", Cond.classLink RX7 164 "ColdStore$Kind", Cond.methodLink RX7 61 yJx4a65c_size_8abf5, Cond.instanceMethod yJx4a65c_size_8abf5]
def wsL_addPallet_r2 : List Cond := [Cond.selects RJx4a65c yJx4a65c_size_8abf5 yJx4a65c_size_8abf5, Cond.initialized RJx4a65c, Cond.code yJx4a65c_size_8abf5 cJx4a65c_size_8abf5 1 (some .int), Cond.fieldLink RJx4a65c 48 "java/util/ArrayList" "size" "I", Cond.methodLink RX7 234 yJx4a65c_get_915e3, Cond.instanceMethod yJx4a65c_get_915e3, Cond.selects RJx4a65c yJx4a65c_get_915e3 yJx4a65c_get_915e3, Cond.code yJx4a65c_get_915e3 cJx4a65c_get_915e3 2 (some (.object "java/lang/Object")), Cond.methodLink RJx4a65c 118 yJ15_checkIndex_7cf53, Cond.static yJ15_checkIndex_7cf53, Cond.initialized RJ15, Cond.code yJ15_checkIndex_7cf53 cJ15_checkIndex_7cf53 2 (some .int), Cond.methodLink RJ15 105 yJ3_checkIndex_8e157, Cond.static yJ3_checkIndex_8e157, Cond.initialized RJ3, Cond.code yJ3_checkIndex_8e157 cJ3_checkIndex_8e157 3 (some .int), Cond.methodLink RJx4a65c 123 yJx4a65c_elementData_915e3, Cond.instanceMethod yJx4a65c_elementData_915e3, Cond.selects RJx4a65c yJx4a65c_elementData_915e3 yJx4a65c_elementData_915e3, Cond.code yJx4a65c_elementData_915e3 cJx4a65c_elementData_915e3 2 (some (.object "java/lang/Object")), Cond.fieldLink RJx4a65c 9 "java/util/ArrayList" "elementData" "[Ljava/lang/Object;", Cond.methodLink RX7 75 yX7_findRoom, Cond.instanceMethod yX7_findRoom, Cond.selects RX7 yX7_findRoom yX7_findRoom]
def wsL_addPallet_r3 : List Cond := [Cond.code yX7_findRoom cX7_findRoom 2 (some (.object "ColdStore$Room")), Cond.fieldLink RX7 10 "ColdStore" "rooms" "Ljava/util/ArrayList;", Cond.classLink RX7 66 "ColdStore$Room", Cond.methodLink RX7 174 yX7_requireSpace, Cond.instanceMethod yX7_requireSpace, Cond.selects RX7 yX7_requireSpace yX7_requireSpace, Cond.code yX7_requireSpace cX7_requireSpace 2 none, Cond.methodLink RX7 124 yX7_spaceIn, Cond.instanceMethod yX7_spaceIn, Cond.selects RX7 yX7_spaceIn yX7_spaceIn, Cond.code yX7_spaceIn cX7_spaceIn 5 (some .int), Cond.classLink RX7 178 "ColdStore$Pallet", Cond.fieldLink RX7 191 "ColdStore$Pallet" "stay" "LColdStore$Stay;", Cond.fieldLink RX7 195 "ColdStore$Stay" "room" "LColdStore$Room;", Cond.methodLink RX7 238 yX4_isInRoom, Cond.instanceMethod yX4_isInRoom, Cond.selects RX4 yX4_isInRoom yX4_isInRoom, Cond.code yX4_isInRoom cX4_isInRoom 1 (some .boolean), Cond.fieldLink RX4 9 "ColdStore$Pallet" "status" "C", Cond.methodLink RX7 180 yX4_init, Cond.instanceMethod yX4_init, Cond.code yX4_init cX4_init 5 none, Cond.methodLink RX4 3 objectInit, Cond.instanceMethod objectInit]
def wsL_addPallet_r4 : List Cond := [Cond.code objectInit ⟨#[0xb1]⟩ 1 none, Cond.fieldLink RX4 15 "ColdStore$Pallet" "leftAt" "I", Cond.fieldLink RX4 19 "ColdStore$Pallet" "number" "I", Cond.fieldLink RX4 22 "ColdStore$Pallet" "kind" "LColdStore$Kind;", Cond.classLink RX4 26 RX6, Cond.instantiable RX6 3, Cond.initialized RX6, Cond.fieldLink RX4 31 "ColdStore$Pallet" "stay" "LColdStore$Stay;", Cond.fieldLink RX4 35 "ColdStore$Kind" "fullLife" "I", Cond.fieldLink RX4 40 "ColdStore$Pallet" "lifeLeft" "I", Cond.methodLink RX4 28 yX6_init, Cond.instanceMethod yX6_init, Cond.code yX6_init cX6_init 4 none, Cond.methodLink RX6 1 objectInit, Cond.fieldLink RX6 7 "ColdStore$Stay" "room" "LColdStore$Room;", Cond.fieldLink RX6 13 "ColdStore$Stay" "since" "I", Cond.fieldLink RX6 17 "ColdStore$Stay" "earlier" "LColdStore$Stay;", Cond.methodLink RX7 71 yJx4a65c_add_9ea2d, Cond.instanceMethod yJx4a65c_add_9ea2d, Cond.selects RJx4a65c yJx4a65c_add_9ea2d yJx4a65c_add_9ea2d, Cond.code yJx4a65c_add_9ea2d cJx4a65c_add_9ea2d 2 (some .boolean), Cond.fieldLink RJx4a65c 63 "java/util/ArrayList" "modCount" "I", Cond.sameField "java/util/ArrayList" "java/util/AbstractList" "modCount" "I", Cond.methodLink RJx4a65c 131 yJx4a65c_add_72be8]
def wsL_addPallet_r5 : List Cond := [Cond.instanceMethod yJx4a65c_add_72be8, Cond.selects RJx4a65c yJx4a65c_add_72be8 yJx4a65c_add_72be8, Cond.code yJx4a65c_add_72be8 cJx4a65c_add_72be8 4 none, Cond.methodLink RJx4a65c 129 yJx4a65c_grow_d5877, Cond.instanceMethod yJx4a65c_grow_d5877, Cond.selects RJx4a65c yJx4a65c_grow_d5877 yJx4a65c_grow_d5877, Cond.code yJx4a65c_grow_d5877 cJx4a65c_grow_d5877 1 (some (.array (.object "java/lang/Object"))), Cond.methodLink RJx4a65c 69 yJx4a65c_grow_92f84, Cond.instanceMethod yJx4a65c_grow_92f84, Cond.selects RJx4a65c yJx4a65c_grow_92f84 yJx4a65c_grow_92f84, Cond.code yJx4a65c_grow_92f84 cJx4a65c_grow_92f84 4 (some (.array (.object "java/lang/Object"))), Cond.fieldLink RJx4a65c 39 "java/util/ArrayList" "DEFAULTCAPACITY_EMPTY_ELEMENTDATA" "[Ljava/lang/Object;", Cond.methodLink RJx4a65c 79 Lib.Math.max.name, Cond.static Lib.Math.max.name, Cond.initialized "java/lang/Math", Cond.code Lib.Math.max.name Lib.Math.max.code 2 (some .int), Cond.classLink RJx4a65c 7 "java/lang/Object", Cond.methodLink RJx4a65c 73 yJ8_newLength_cabcc, Cond.static yJ8_newLength_cabcc, Cond.initialized RJ8, Cond.code yJ8_newLength_cabcc cJ8_newLength_cabcc 4 (some .int), Cond.methodLink RJ8 194 Lib.Math.max.name, Cond.constant RJ8 200 (2147483639), Cond.methodLink RJ8 201 yJ8_hugeLength_7cf53]
def wsL_addPallet_r6 : List Cond := [Cond.static yJ8_hugeLength_7cf53, Cond.code yJ8_hugeLength_7cf53 cJ8_hugeLength_7cf53 3 (some .int), Cond.methodLink RJx4a65c 66 yJ7_copyOf_1904c, Cond.static yJ7_copyOf_1904c, Cond.initialized RJ7, Cond.code yJ7_copyOf_1904c cJ7_copyOf_1904c 2 (some (.array (.object "java/lang/Object"))), Cond.methodLink RJ7 86 ⟨"java/lang/Object", "getClass", "()Ljava/lang/Class;"⟩, Cond.selects "[Ljava/lang/Object;" ⟨"java/lang/Object", "getClass", "()Ljava/lang/Class;"⟩ ⟨"java/lang/Object", "getClass", "()Ljava/lang/Class;"⟩, Cond.instanceMethod ⟨"java/lang/Object", "getClass", "()Ljava/lang/Class;"⟩, Cond.native ⟨"java/lang/Object", "getClass", "()Ljava/lang/Class;"⟩, Cond.methodLink RJ7 300 yJ7_copyOf_6403c, Cond.static yJ7_copyOf_6403c, Cond.code yJ7_copyOf_6403c cJ7_copyOf_6403c 4 (some (.array (.object "java/lang/Object"))), Cond.classLink RJ7 110 "[Ljava/lang/Object;", Cond.classLink RJ7 2 "java/lang/Object", Cond.methodLink RJ7 304 Lib.Math.min.name, Cond.static Lib.Math.min.name, Cond.code Lib.Math.min.name Lib.Math.min.code 2 (some .int), Cond.methodLink RJ7 150 arraycopyName, Cond.native arraycopyName, Cond.static arraycopyName, Cond.initialized "java/lang/System"]
def wsL_addPallet : List Cond := .codeWith yL_addPallet cL_addPallet 5 (some .int) [(0, 10, 13, 27), (0, 10, 17, 15)] :: ((wsL_addPallet_r1 ++ (wsL_addPallet_r2 ++ (wsL_addPallet_r3 ++ (wsL_addPallet_r4 ++ (wsL_addPallet_r5 ++ wsL_addPallet_r6))))) ++ wsX70 ++ wsX40 ++ wsJx4a65c0 ++ wsX60 ++ wsX10 ++ (vx_atM "java/lang/ArrayIndexOutOfBoundsException" ["java/lang/IndexOutOfBoundsException", "java/lang/RuntimeException", "java/lang/Exception"]).filter goodWord ++ (vx_atS RX7 54 "java/lang/IllegalStateException" ["java/lang/RuntimeException", "java/lang/Exception"]).filter goodWord ++ (vx_atS RX7 318 "java/lang/IndexOutOfBoundsException" ["java/lang/RuntimeException", "java/lang/Exception"]).filter goodWord)
def wsL_movePallet_r1 : List Cond := [Cond.classLink RL 27 "java/lang/IndexOutOfBoundsException", Cond.classLink RL 46 "java/util/NoSuchElementException", Cond.classLink RL 15 "java/lang/IllegalStateException", Cond.methodLink RL 74 yX7_movePallet, Cond.instanceMethod yX7_movePallet, Cond.selects RX7 yX7_movePallet yX7_movePallet, Cond.initialized RX7, Cond.code yX7_movePallet cX7_movePallet 6 (some .int), Cond.fieldLink RX7 191 "ColdStore$Pallet" "stay" "LColdStore$Stay;", Cond.fieldLink RX7 195 "ColdStore$Stay" "room" "LColdStore$Room;", Cond.fieldLink RX7 39 "ColdStore" "time" "I", Cond.fieldLink RX7 205 "ColdStore$Room" "number" "I", Cond.methodLink RX7 183 yX7_findPallet, Cond.instanceMethod yX7_findPallet, Cond.selects RX7 yX7_findPallet yX7_findPallet, Cond.code yX7_findPallet cX7_findPallet 2 (some (.object "ColdStore$Pallet")), Cond.classLink RX7 314 "java/lang/IndexOutOfBoundsException", Cond.initialized "java/lang/IndexOutOfBoundsException", Cond.fieldLink RX7 19 "ColdStore" "pallets" "Ljava/util/ArrayList;", Cond.classLink RX7 178 "ColdStore$Pallet", Cond.methodLink RX7 61 yJx4a65c_size_8abf5, Cond.instanceMethod yJx4a65c_size_8abf5, Cond.selects RJx4a65c yJx4a65c_size_8abf5 yJx4a65c_size_8abf5, Cond.initialized RJx4a65c]
def wsL_movePallet_r2 : List Cond := [Cond.code yJx4a65c_size_8abf5 cJx4a65c_size_8abf5 1 (some .int), Cond.fieldLink RJx4a65c 48 "java/util/ArrayList" "size" "I", Cond.methodLink RX7 234 yJx4a65c_get_915e3, Cond.instanceMethod yJx4a65c_get_915e3, Cond.selects RJx4a65c yJx4a65c_get_915e3 yJx4a65c_get_915e3, Cond.code yJx4a65c_get_915e3 cJx4a65c_get_915e3 2 (some (.object "java/lang/Object")), Cond.methodLink RJx4a65c 118 yJ15_checkIndex_7cf53, Cond.static yJ15_checkIndex_7cf53, Cond.initialized RJ15, Cond.code yJ15_checkIndex_7cf53 cJ15_checkIndex_7cf53 2 (some .int), Cond.methodLink RJ15 105 yJ3_checkIndex_8e157, Cond.static yJ3_checkIndex_8e157, Cond.initialized RJ3, Cond.code yJ3_checkIndex_8e157 cJ3_checkIndex_8e157 3 (some .int), Cond.methodLink RJx4a65c 123 yJx4a65c_elementData_915e3, Cond.instanceMethod yJx4a65c_elementData_915e3, Cond.selects RJx4a65c yJx4a65c_elementData_915e3 yJx4a65c_elementData_915e3, Cond.code yJx4a65c_elementData_915e3 cJx4a65c_elementData_915e3 2 (some (.object "java/lang/Object")), Cond.fieldLink RJx4a65c 9 "java/util/ArrayList" "elementData" "[Ljava/lang/Object;", Cond.methodLink RX7 75 yX7_findRoom, Cond.instanceMethod yX7_findRoom, Cond.selects RX7 yX7_findRoom yX7_findRoom, Cond.code yX7_findRoom cX7_findRoom 2 (some (.object "ColdStore$Room")), Cond.fieldLink RX7 10 "ColdStore" "rooms" "Ljava/util/ArrayList;"]
def wsL_movePallet_r3 : List Cond := [Cond.classLink RX7 66 "ColdStore$Room", Cond.methodLink RX7 187 yX7_requireInRoom, Cond.static yX7_requireInRoom, Cond.code yX7_requireInRoom cX7_requireInRoom 1 none, Cond.classLink RX7 110 "java/util/NoSuchElementException", Cond.initialized "java/util/NoSuchElementException", Cond.methodLink RX7 238 yX4_isInRoom, Cond.instanceMethod yX4_isInRoom, Cond.selects RX4 yX4_isInRoom yX4_isInRoom, Cond.initialized RX4, Cond.code yX4_isInRoom cX4_isInRoom 1 (some .boolean), Cond.fieldLink RX4 9 "ColdStore$Pallet" "status" "C", Cond.methodLink RX7 174 yX7_requireSpace, Cond.instanceMethod yX7_requireSpace, Cond.selects RX7 yX7_requireSpace yX7_requireSpace, Cond.code yX7_requireSpace cX7_requireSpace 2 none, Cond.classLink RX7 50 "java/lang/IllegalStateException", Cond.initialized "java/lang/IllegalStateException", Cond.methodLink RX7 124 yX7_spaceIn, Cond.instanceMethod yX7_spaceIn, Cond.selects RX7 yX7_spaceIn yX7_spaceIn, Cond.code yX7_spaceIn cX7_spaceIn 5 (some .int), Cond.methodLink RX7 201 yX4_enter, Cond.instanceMethod yX4_enter]
def wsL_movePallet_r4 : List Cond := [Cond.selects RX4 yX4_enter yX4_enter, Cond.code yX4_enter cX4_enter 4 none, Cond.fieldLink RX4 31 "ColdStore$Pallet" "stay" "LColdStore$Stay;", Cond.fieldLink RX4 43 "ColdStore$Stay" "since" "I", Cond.fieldLink RX4 46 "ColdStore$Stay" "earlier" "LColdStore$Stay;", Cond.classLink RX4 26 RX6, Cond.instantiable RX6 3, Cond.initialized RX6, Cond.methodLink RX4 28 yX6_init, Cond.instanceMethod yX6_init, Cond.code yX6_init cX6_init 4 none, Cond.methodLink RX6 1 objectInit, Cond.instanceMethod objectInit, Cond.code objectInit ⟨#[0xb1]⟩ 1 none, Cond.fieldLink RX6 7 "ColdStore$Stay" "room" "LColdStore$Room;", Cond.fieldLink RX6 13 "ColdStore$Stay" "since" "I", Cond.fieldLink RX6 17 "ColdStore$Stay" "earlier" "LColdStore$Stay;"]
def wsL_movePallet : List Cond := .codeWith yL_movePallet cL_movePallet 5 (some .int) [(0, 10, 13, 27), (0, 10, 17, 46), (0, 10, 21, 15)] :: ((wsL_movePallet_r1 ++ (wsL_movePallet_r2 ++ (wsL_movePallet_r3 ++ wsL_movePallet_r4))) ++ wsX40 ++ wsX60 ++ wsX70 ++ wsX50 ++ wsJx4a65c0 ++ (vx_atM "java/lang/ArrayIndexOutOfBoundsException" ["java/lang/IndexOutOfBoundsException", "java/lang/RuntimeException", "java/lang/Exception"]).filter goodWord ++ (vx_atS RX7 318 "java/lang/IndexOutOfBoundsException" ["java/lang/RuntimeException", "java/lang/Exception"]).filter goodWord ++ (vx_atS RX7 114 "java/util/NoSuchElementException" ["java/lang/RuntimeException", "java/lang/Exception"]).filter goodWord ++ (vx_atS RX7 54 "java/lang/IllegalStateException" ["java/lang/RuntimeException", "java/lang/Exception"]).filter goodWord)
def wsL_scrap_r1 : List Cond := [Cond.classLink RL 27 "java/lang/IndexOutOfBoundsException", Cond.classLink RL 46 "java/util/NoSuchElementException", Cond.methodLink RL 77 yX7_scrap, Cond.instanceMethod yX7_scrap, Cond.selects RX7 yX7_scrap yX7_scrap, Cond.initialized RX7, Cond.code yX7_scrap cX7_scrap 3 (some .int), Cond.fieldLink RX7 39 "ColdStore" "time" "I", Cond.fieldLink RX7 212 "ColdStore$Pallet" "lifeLeft" "I", Cond.methodLink RX7 183 yX7_findPallet, Cond.instanceMethod yX7_findPallet, Cond.selects RX7 yX7_findPallet yX7_findPallet, Cond.code yX7_findPallet cX7_findPallet 2 (some (.object "ColdStore$Pallet")), Cond.classLink RX7 314 "java/lang/IndexOutOfBoundsException", Cond.initialized "java/lang/IndexOutOfBoundsException", Cond.fieldLink RX7 19 "ColdStore" "pallets" "Ljava/util/ArrayList;", Cond.classLink RX7 178 "ColdStore$Pallet", Cond.methodLink RX7 61 yJx4a65c_size_8abf5, Cond.instanceMethod yJx4a65c_size_8abf5, Cond.selects RJx4a65c yJx4a65c_size_8abf5 yJx4a65c_size_8abf5, Cond.initialized RJx4a65c, Cond.code yJx4a65c_size_8abf5 cJx4a65c_size_8abf5 1 (some .int), Cond.fieldLink RJx4a65c 48 "java/util/ArrayList" "size" "I", Cond.methodLink RX7 234 yJx4a65c_get_915e3]
def wsL_scrap_r2 : List Cond := [Cond.instanceMethod yJx4a65c_get_915e3, Cond.selects RJx4a65c yJx4a65c_get_915e3 yJx4a65c_get_915e3, Cond.code yJx4a65c_get_915e3 cJx4a65c_get_915e3 2 (some (.object "java/lang/Object")), Cond.methodLink RJx4a65c 118 yJ15_checkIndex_7cf53, Cond.static yJ15_checkIndex_7cf53, Cond.initialized RJ15, Cond.code yJ15_checkIndex_7cf53 cJ15_checkIndex_7cf53 2 (some .int), Cond.methodLink RJ15 105 yJ3_checkIndex_8e157, Cond.static yJ3_checkIndex_8e157, Cond.initialized RJ3, Cond.code yJ3_checkIndex_8e157 cJ3_checkIndex_8e157 3 (some .int), Cond.methodLink RJx4a65c 123 yJx4a65c_elementData_915e3, Cond.instanceMethod yJx4a65c_elementData_915e3, Cond.selects RJx4a65c yJx4a65c_elementData_915e3 yJx4a65c_elementData_915e3, Cond.code yJx4a65c_elementData_915e3 cJx4a65c_elementData_915e3 2 (some (.object "java/lang/Object")), Cond.fieldLink RJx4a65c 9 "java/util/ArrayList" "elementData" "[Ljava/lang/Object;", Cond.methodLink RX7 187 yX7_requireInRoom, Cond.static yX7_requireInRoom, Cond.code yX7_requireInRoom cX7_requireInRoom 1 none, Cond.classLink RX7 110 "java/util/NoSuchElementException", Cond.initialized "java/util/NoSuchElementException", Cond.methodLink RX7 238 yX4_isInRoom, Cond.instanceMethod yX4_isInRoom, Cond.selects RX4 yX4_isInRoom yX4_isInRoom]
def wsL_scrap_r3 : List Cond := [Cond.initialized RX4, Cond.code yX4_isInRoom cX4_isInRoom 1 (some .boolean), Cond.fieldLink RX4 9 "ColdStore$Pallet" "status" "C", Cond.methodLink RX7 208 yX4_leave, Cond.instanceMethod yX4_leave, Cond.selects RX4 yX4_leave yX4_leave, Cond.code yX4_leave cX4_leave 3 none, Cond.fieldLink RX4 15 "ColdStore$Pallet" "leftAt" "I"]
def wsL_scrap : List Cond := .codeWith yL_scrap cL_scrap 4 (some .int) [(0, 9, 12, 27), (0, 9, 15, 46)] :: ((wsL_scrap_r1 ++ (wsL_scrap_r2 ++ wsL_scrap_r3)) ++ wsX70 ++ wsX40 ++ wsJx4a65c0 ++ (vx_atM "java/lang/ArrayIndexOutOfBoundsException" ["java/lang/IndexOutOfBoundsException", "java/lang/RuntimeException", "java/lang/Exception"]).filter goodWord ++ (vx_atS RX7 318 "java/lang/IndexOutOfBoundsException" ["java/lang/RuntimeException", "java/lang/Exception"]).filter goodWord ++ (vx_atS RX7 114 "java/util/NoSuchElementException" ["java/lang/RuntimeException", "java/lang/Exception"]).filter goodWord)
def wsL_state_r1 : List Cond := [Cond.classLink RL 27 "java/lang/IndexOutOfBoundsException", Cond.methodLink RL 80 yX7_state, Cond.instanceMethod yX7_state, Cond.selects RX7 yX7_state yX7_state, Cond.initialized RX7, Cond.code yX7_state cX7_state 2 (some .char), Cond.fieldLink RX7 215 "ColdStore$Pallet" "status" "C", Cond.methodLink RX7 183 yX7_findPallet, Cond.instanceMethod yX7_findPallet, Cond.selects RX7 yX7_findPallet yX7_findPallet, Cond.code yX7_findPallet cX7_findPallet 2 (some (.object "ColdStore$Pallet")), Cond.classLink RX7 314 "java/lang/IndexOutOfBoundsException", Cond.initialized "java/lang/IndexOutOfBoundsException", Cond.fieldLink RX7 19 "ColdStore" "pallets" "Ljava/util/ArrayList;", Cond.classLink RX7 178 "ColdStore$Pallet", Cond.methodLink RX7 61 yJx4a65c_size_8abf5, Cond.instanceMethod yJx4a65c_size_8abf5, Cond.selects RJx4a65c yJx4a65c_size_8abf5 yJx4a65c_size_8abf5, Cond.initialized RJx4a65c, Cond.code yJx4a65c_size_8abf5 cJx4a65c_size_8abf5 1 (some .int), Cond.fieldLink RJx4a65c 48 "java/util/ArrayList" "size" "I", Cond.methodLink RX7 234 yJx4a65c_get_915e3, Cond.instanceMethod yJx4a65c_get_915e3, Cond.selects RJx4a65c yJx4a65c_get_915e3 yJx4a65c_get_915e3]
def wsL_state_r2 : List Cond := [Cond.code yJx4a65c_get_915e3 cJx4a65c_get_915e3 2 (some (.object "java/lang/Object")), Cond.methodLink RJx4a65c 118 yJ15_checkIndex_7cf53, Cond.static yJ15_checkIndex_7cf53, Cond.initialized RJ15, Cond.code yJ15_checkIndex_7cf53 cJ15_checkIndex_7cf53 2 (some .int), Cond.methodLink RJ15 105 yJ3_checkIndex_8e157, Cond.static yJ3_checkIndex_8e157, Cond.initialized RJ3, Cond.code yJ3_checkIndex_8e157 cJ3_checkIndex_8e157 3 (some .int), Cond.methodLink RJx4a65c 123 yJx4a65c_elementData_915e3, Cond.instanceMethod yJx4a65c_elementData_915e3, Cond.selects RJx4a65c yJx4a65c_elementData_915e3 yJx4a65c_elementData_915e3, Cond.code yJx4a65c_elementData_915e3 cJx4a65c_elementData_915e3 2 (some (.object "java/lang/Object")), Cond.fieldLink RJx4a65c 9 "java/util/ArrayList" "elementData" "[Ljava/lang/Object;"]
def wsL_state : List Cond := .codeWith yL_state cL_state 4 (some .int) [(0, 9, 12, 27)] :: ((wsL_state_r1 ++ wsL_state_r2) ++ wsX40 ++ wsX70 ++ wsJx4a65c0 ++ (vx_atM "java/lang/ArrayIndexOutOfBoundsException" ["java/lang/IndexOutOfBoundsException", "java/lang/RuntimeException", "java/lang/Exception"]).filter goodWord ++ (vx_atS RX7 318 "java/lang/IndexOutOfBoundsException" ["java/lang/RuntimeException", "java/lang/Exception"]).filter goodWord)
def wsL_roomOf_r1 : List Cond := [Cond.classLink RL 27 "java/lang/IndexOutOfBoundsException", Cond.classLink RL 46 "java/util/NoSuchElementException", Cond.methodLink RL 84 yX7_roomOf, Cond.instanceMethod yX7_roomOf, Cond.selects RX7 yX7_roomOf yX7_roomOf, Cond.initialized RX7, Cond.code yX7_roomOf cX7_roomOf 3 (some .int), Cond.fieldLink RX7 191 "ColdStore$Pallet" "stay" "LColdStore$Stay;", Cond.fieldLink RX7 195 "ColdStore$Stay" "room" "LColdStore$Room;", Cond.fieldLink RX7 205 "ColdStore$Room" "number" "I", Cond.methodLink RX7 183 yX7_findPallet, Cond.instanceMethod yX7_findPallet, Cond.selects RX7 yX7_findPallet yX7_findPallet, Cond.code yX7_findPallet cX7_findPallet 2 (some (.object "ColdStore$Pallet")), Cond.classLink RX7 314 "java/lang/IndexOutOfBoundsException", Cond.initialized "java/lang/IndexOutOfBoundsException", Cond.fieldLink RX7 19 "ColdStore" "pallets" "Ljava/util/ArrayList;", Cond.classLink RX7 178 "ColdStore$Pallet", Cond.methodLink RX7 61 yJx4a65c_size_8abf5, Cond.instanceMethod yJx4a65c_size_8abf5, Cond.selects RJx4a65c yJx4a65c_size_8abf5 yJx4a65c_size_8abf5, Cond.initialized RJx4a65c, Cond.code yJx4a65c_size_8abf5 cJx4a65c_size_8abf5 1 (some .int), Cond.fieldLink RJx4a65c 48 "java/util/ArrayList" "size" "I"]
def wsL_roomOf_r2 : List Cond := [Cond.methodLink RX7 234 yJx4a65c_get_915e3, Cond.instanceMethod yJx4a65c_get_915e3, Cond.selects RJx4a65c yJx4a65c_get_915e3 yJx4a65c_get_915e3, Cond.code yJx4a65c_get_915e3 cJx4a65c_get_915e3 2 (some (.object "java/lang/Object")), Cond.methodLink RJx4a65c 118 yJ15_checkIndex_7cf53, Cond.static yJ15_checkIndex_7cf53, Cond.initialized RJ15, Cond.code yJ15_checkIndex_7cf53 cJ15_checkIndex_7cf53 2 (some .int), Cond.methodLink RJ15 105 yJ3_checkIndex_8e157, Cond.static yJ3_checkIndex_8e157, Cond.initialized RJ3, Cond.code yJ3_checkIndex_8e157 cJ3_checkIndex_8e157 3 (some .int), Cond.methodLink RJx4a65c 123 yJx4a65c_elementData_915e3, Cond.instanceMethod yJx4a65c_elementData_915e3, Cond.selects RJx4a65c yJx4a65c_elementData_915e3 yJx4a65c_elementData_915e3, Cond.code yJx4a65c_elementData_915e3 cJx4a65c_elementData_915e3 2 (some (.object "java/lang/Object")), Cond.fieldLink RJx4a65c 9 "java/util/ArrayList" "elementData" "[Ljava/lang/Object;", Cond.methodLink RX7 187 yX7_requireInRoom, Cond.static yX7_requireInRoom, Cond.code yX7_requireInRoom cX7_requireInRoom 1 none, Cond.classLink RX7 110 "java/util/NoSuchElementException", Cond.initialized "java/util/NoSuchElementException", Cond.methodLink RX7 238 yX4_isInRoom, Cond.instanceMethod yX4_isInRoom]
def wsL_roomOf_r3 : List Cond := [Cond.selects RX4 yX4_isInRoom yX4_isInRoom, Cond.initialized RX4, Cond.code yX4_isInRoom cX4_isInRoom 1 (some .boolean), Cond.fieldLink RX4 9 "ColdStore$Pallet" "status" "C"]
def wsL_roomOf : List Cond := .codeWith yL_roomOf cL_roomOf 4 (some .int) [(0, 9, 12, 27), (0, 9, 15, 46)] :: ((wsL_roomOf_r1 ++ (wsL_roomOf_r2 ++ wsL_roomOf_r3)) ++ wsX40 ++ wsX60 ++ wsX50 ++ wsX70 ++ wsJx4a65c0 ++ (vx_atM "java/lang/ArrayIndexOutOfBoundsException" ["java/lang/IndexOutOfBoundsException", "java/lang/RuntimeException", "java/lang/Exception"]).filter goodWord ++ (vx_atS RX7 318 "java/lang/IndexOutOfBoundsException" ["java/lang/RuntimeException", "java/lang/Exception"]).filter goodWord ++ (vx_atS RX7 114 "java/util/NoSuchElementException" ["java/lang/RuntimeException", "java/lang/Exception"]).filter goodWord)
def wsL_life_r1 : List Cond := [Cond.classLink RL 27 "java/lang/IndexOutOfBoundsException", Cond.methodLink RL 87 yX7_life, Cond.instanceMethod yX7_life, Cond.selects RX7 yX7_life yX7_life, Cond.initialized RX7, Cond.code yX7_life cX7_life 2 (some .int), Cond.fieldLink RX7 212 "ColdStore$Pallet" "lifeLeft" "I", Cond.methodLink RX7 183 yX7_findPallet, Cond.instanceMethod yX7_findPallet, Cond.selects RX7 yX7_findPallet yX7_findPallet, Cond.code yX7_findPallet cX7_findPallet 2 (some (.object "ColdStore$Pallet")), Cond.classLink RX7 314 "java/lang/IndexOutOfBoundsException", Cond.initialized "java/lang/IndexOutOfBoundsException", Cond.fieldLink RX7 19 "ColdStore" "pallets" "Ljava/util/ArrayList;", Cond.classLink RX7 178 "ColdStore$Pallet", Cond.methodLink RX7 61 yJx4a65c_size_8abf5, Cond.instanceMethod yJx4a65c_size_8abf5, Cond.selects RJx4a65c yJx4a65c_size_8abf5 yJx4a65c_size_8abf5, Cond.initialized RJx4a65c, Cond.code yJx4a65c_size_8abf5 cJx4a65c_size_8abf5 1 (some .int), Cond.fieldLink RJx4a65c 48 "java/util/ArrayList" "size" "I", Cond.methodLink RX7 234 yJx4a65c_get_915e3, Cond.instanceMethod yJx4a65c_get_915e3, Cond.selects RJx4a65c yJx4a65c_get_915e3 yJx4a65c_get_915e3]
def wsL_life_r2 : List Cond := [Cond.code yJx4a65c_get_915e3 cJx4a65c_get_915e3 2 (some (.object "java/lang/Object")), Cond.methodLink RJx4a65c 118 yJ15_checkIndex_7cf53, Cond.static yJ15_checkIndex_7cf53, Cond.initialized RJ15, Cond.code yJ15_checkIndex_7cf53 cJ15_checkIndex_7cf53 2 (some .int), Cond.methodLink RJ15 105 yJ3_checkIndex_8e157, Cond.static yJ3_checkIndex_8e157, Cond.initialized RJ3, Cond.code yJ3_checkIndex_8e157 cJ3_checkIndex_8e157 3 (some .int), Cond.methodLink RJx4a65c 123 yJx4a65c_elementData_915e3, Cond.instanceMethod yJx4a65c_elementData_915e3, Cond.selects RJx4a65c yJx4a65c_elementData_915e3 yJx4a65c_elementData_915e3, Cond.code yJx4a65c_elementData_915e3 cJx4a65c_elementData_915e3 2 (some (.object "java/lang/Object")), Cond.fieldLink RJx4a65c 9 "java/util/ArrayList" "elementData" "[Ljava/lang/Object;"]
def wsL_life : List Cond := .codeWith yL_life cL_life 4 (some .int) [(0, 9, 12, 27)] :: ((wsL_life_r1 ++ wsL_life_r2) ++ wsX40 ++ wsX70 ++ wsJx4a65c0 ++ (vx_atM "java/lang/ArrayIndexOutOfBoundsException" ["java/lang/IndexOutOfBoundsException", "java/lang/RuntimeException", "java/lang/Exception"]).filter goodWord ++ (vx_atS RX7 318 "java/lang/IndexOutOfBoundsException" ["java/lang/RuntimeException", "java/lang/Exception"]).filter goodWord)
def wsL_lifeByRecords_r1 : List Cond := [Cond.classLink RL 27 "java/lang/IndexOutOfBoundsException", Cond.methodLink RL 90 yX7_lifeByRecords, Cond.instanceMethod yX7_lifeByRecords, Cond.selects RX7 yX7_lifeByRecords yX7_lifeByRecords, Cond.initialized RX7, Cond.code yX7_lifeByRecords cX7_lifeByRecords 2 (some .int), Cond.fieldLink RX7 39 "ColdStore" "time" "I", Cond.methodLink RX7 183 yX7_findPallet, Cond.instanceMethod yX7_findPallet, Cond.selects RX7 yX7_findPallet yX7_findPallet, Cond.code yX7_findPallet cX7_findPallet 2 (some (.object "ColdStore$Pallet")), Cond.classLink RX7 314 "java/lang/IndexOutOfBoundsException", Cond.initialized "java/lang/IndexOutOfBoundsException", Cond.fieldLink RX7 19 "ColdStore" "pallets" "Ljava/util/ArrayList;", Cond.classLink RX7 178 "ColdStore$Pallet", Cond.methodLink RX7 61 yJx4a65c_size_8abf5, Cond.instanceMethod yJx4a65c_size_8abf5, Cond.selects RJx4a65c yJx4a65c_size_8abf5 yJx4a65c_size_8abf5, Cond.initialized RJx4a65c, Cond.code yJx4a65c_size_8abf5 cJx4a65c_size_8abf5 1 (some .int), Cond.fieldLink RJx4a65c 48 "java/util/ArrayList" "size" "I", Cond.methodLink RX7 234 yJx4a65c_get_915e3, Cond.instanceMethod yJx4a65c_get_915e3, Cond.selects RJx4a65c yJx4a65c_get_915e3 yJx4a65c_get_915e3]
def wsL_lifeByRecords_r2 : List Cond := [Cond.code yJx4a65c_get_915e3 cJx4a65c_get_915e3 2 (some (.object "java/lang/Object")), Cond.methodLink RJx4a65c 118 yJ15_checkIndex_7cf53, Cond.static yJ15_checkIndex_7cf53, Cond.initialized RJ15, Cond.code yJ15_checkIndex_7cf53 cJ15_checkIndex_7cf53 2 (some .int), Cond.methodLink RJ15 105 yJ3_checkIndex_8e157, Cond.static yJ3_checkIndex_8e157, Cond.initialized RJ3, Cond.code yJ3_checkIndex_8e157 cJ3_checkIndex_8e157 3 (some .int), Cond.methodLink RJx4a65c 123 yJx4a65c_elementData_915e3, Cond.instanceMethod yJx4a65c_elementData_915e3, Cond.selects RJx4a65c yJx4a65c_elementData_915e3 yJx4a65c_elementData_915e3, Cond.code yJx4a65c_elementData_915e3 cJx4a65c_elementData_915e3 2 (some (.object "java/lang/Object")), Cond.fieldLink RJx4a65c 9 "java/util/ArrayList" "elementData" "[Ljava/lang/Object;", Cond.methodLink RX7 218 yX4_recordedLife, Cond.instanceMethod yX4_recordedLife, Cond.selects RX4 yX4_recordedLife yX4_recordedLife, Cond.initialized RX4, Cond.code yX4_recordedLife cX4_recordedLife 6 (some .int), Cond.fieldLink RX4 15 "ColdStore$Pallet" "leftAt" "I", Cond.fieldLink RX4 31 "ColdStore$Pallet" "stay" "LColdStore$Stay;", Cond.fieldLink RX4 43 "ColdStore$Stay" "since" "I", Cond.fieldLink RX4 22 "ColdStore$Pallet" "kind" "LColdStore$Kind;", Cond.fieldLink RX4 53 "ColdStore$Stay" "room" "LColdStore$Room;"]
def wsL_lifeByRecords_r3 : List Cond := [Cond.fieldLink RX4 46 "ColdStore$Stay" "earlier" "LColdStore$Stay;", Cond.fieldLink RX4 35 "ColdStore$Kind" "fullLife" "I", Cond.methodLink RX4 66 Lib.Math.max.name, Cond.static Lib.Math.max.name, Cond.initialized "java/lang/Math", Cond.code Lib.Math.max.name Lib.Math.max.code 2 (some .int), Cond.methodLink RX4 49 yX4_isInRoom, Cond.instanceMethod yX4_isInRoom, Cond.selects RX4 yX4_isInRoom yX4_isInRoom, Cond.code yX4_isInRoom cX4_isInRoom 1 (some .boolean), Cond.fieldLink RX4 9 "ColdStore$Pallet" "status" "C", Cond.methodLink RX4 72 yX5_recordedAt, Cond.instanceMethod yX5_recordedAt, Cond.selects RX5 yX5_recordedAt yX5_recordedAt, Cond.initialized RX5, Cond.code yX5_recordedAt cX5_recordedAt 2 (some .int), Cond.fieldLink RX5 9 "ColdStore$Room" "records" "[I", Cond.fieldLink RX5 63 "ColdStore$Room" "degrees" "I", Cond.methodLink RX4 62 yX1_lossAt, Cond.instanceMethod yX1_lossAt, Cond.selects RX1 yX1_lossAt yX1_lossAt, Cond.initialized RX1, Cond.code yX1_lossAt cX1_lossAt 2 (some .int), Cond.fieldLink RX1 16 "ColdStore$Kind" "lowest" "I"]
def wsL_lifeByRecords_r4 : List Cond := [Cond.fieldLink RX1 13 "ColdStore$Kind" "best" "I"]
def wsL_lifeByRecords : List Cond := .codeWith yL_lifeByRecords cL_lifeByRecords 4 (some .int) [(0, 9, 12, 27)] :: ((wsL_lifeByRecords_r1 ++ (wsL_lifeByRecords_r2 ++ (wsL_lifeByRecords_r3 ++ wsL_lifeByRecords_r4))) ++ wsX70 ++ wsJx4a65c0 ++ wsX40 ++ wsX60 ++ wsX10 ++ wsX50 ++ (vx_atM "java/lang/ArrayIndexOutOfBoundsException" ["java/lang/IndexOutOfBoundsException", "java/lang/RuntimeException", "java/lang/Exception"]).filter goodWord ++ (vx_atS RX7 318 "java/lang/IndexOutOfBoundsException" ["java/lang/RuntimeException", "java/lang/Exception"]).filter goodWord)
def wsL_forecast_r1 : List Cond := [Cond.classLink RL 27 "java/lang/IndexOutOfBoundsException", Cond.classLink RL 46 "java/util/NoSuchElementException", Cond.classLink RL 13 "java/lang/IllegalArgumentException", Cond.methodLink RL 93 yX7_forecast, Cond.instanceMethod yX7_forecast, Cond.selects RX7 yX7_forecast yX7_forecast, Cond.initialized RX7, Cond.code yX7_forecast cX7_forecast 5 (some .int), Cond.fieldLink RX7 221 "ColdStore$Pallet" "kind" "LColdStore$Kind;", Cond.fieldLink RX7 191 "ColdStore$Pallet" "stay" "LColdStore$Stay;", Cond.fieldLink RX7 195 "ColdStore$Stay" "room" "LColdStore$Room;", Cond.fieldLink RX7 100 "ColdStore$Room" "degrees" "I", Cond.fieldLink RX7 212 "ColdStore$Pallet" "lifeLeft" "I", Cond.methodLink RX7 228 Lib.Math.max.name, Cond.static Lib.Math.max.name, Cond.initialized "java/lang/Math", Cond.code Lib.Math.max.name Lib.Math.max.code 2 (some .int), Cond.methodLink RX7 183 yX7_findPallet, Cond.instanceMethod yX7_findPallet, Cond.selects RX7 yX7_findPallet yX7_findPallet, Cond.code yX7_findPallet cX7_findPallet 2 (some (.object "ColdStore$Pallet")), Cond.classLink RX7 314 "java/lang/IndexOutOfBoundsException", Cond.initialized "java/lang/IndexOutOfBoundsException", Cond.fieldLink RX7 19 "ColdStore" "pallets" "Ljava/util/ArrayList;"]
def wsL_forecast_r2 : List Cond := [Cond.classLink RX7 178 "ColdStore$Pallet", Cond.methodLink RX7 61 yJx4a65c_size_8abf5, Cond.instanceMethod yJx4a65c_size_8abf5, Cond.selects RJx4a65c yJx4a65c_size_8abf5 yJx4a65c_size_8abf5, Cond.initialized RJx4a65c, Cond.code yJx4a65c_size_8abf5 cJx4a65c_size_8abf5 1 (some .int), Cond.fieldLink RJx4a65c 48 "java/util/ArrayList" "size" "I", Cond.methodLink RX7 234 yJx4a65c_get_915e3, Cond.instanceMethod yJx4a65c_get_915e3, Cond.selects RJx4a65c yJx4a65c_get_915e3 yJx4a65c_get_915e3, Cond.code yJx4a65c_get_915e3 cJx4a65c_get_915e3 2 (some (.object "java/lang/Object")), Cond.methodLink RJx4a65c 118 yJ15_checkIndex_7cf53, Cond.static yJ15_checkIndex_7cf53, Cond.initialized RJ15, Cond.code yJ15_checkIndex_7cf53 cJ15_checkIndex_7cf53 2 (some .int), Cond.methodLink RJ15 105 yJ3_checkIndex_8e157, Cond.static yJ3_checkIndex_8e157, Cond.initialized RJ3, Cond.code yJ3_checkIndex_8e157 cJ3_checkIndex_8e157 3 (some .int), Cond.methodLink RJx4a65c 123 yJx4a65c_elementData_915e3, Cond.instanceMethod yJx4a65c_elementData_915e3, Cond.selects RJx4a65c yJx4a65c_elementData_915e3 yJx4a65c_elementData_915e3, Cond.code yJx4a65c_elementData_915e3 cJx4a65c_elementData_915e3 2 (some (.object "java/lang/Object")), Cond.fieldLink RJx4a65c 9 "java/util/ArrayList" "elementData" "[Ljava/lang/Object;"]
def wsL_forecast_r3 : List Cond := [Cond.methodLink RX7 187 yX7_requireInRoom, Cond.static yX7_requireInRoom, Cond.code yX7_requireInRoom cX7_requireInRoom 1 none, Cond.classLink RX7 110 "java/util/NoSuchElementException", Cond.initialized "java/util/NoSuchElementException", Cond.methodLink RX7 238 yX4_isInRoom, Cond.instanceMethod yX4_isInRoom, Cond.selects RX4 yX4_isInRoom yX4_isInRoom, Cond.initialized RX4, Cond.code yX4_isInRoom cX4_isInRoom 1 (some .boolean), Cond.fieldLink RX4 9 "ColdStore$Pallet" "status" "C", Cond.methodLink RX7 46 yX7_requireRange, Cond.static yX7_requireRange, Cond.code yX7_requireRange cX7_requireRange 3 none, Cond.classLink RX7 85 "java/lang/IllegalArgumentException", Cond.initialized "java/lang/IllegalArgumentException", Cond.methodLink RX7 225 yX1_lossAt, Cond.instanceMethod yX1_lossAt, Cond.selects RX1 yX1_lossAt yX1_lossAt, Cond.initialized RX1, Cond.code yX1_lossAt cX1_lossAt 2 (some .int), Cond.fieldLink RX1 16 "ColdStore$Kind" "lowest" "I", Cond.fieldLink RX1 13 "ColdStore$Kind" "best" "I"]
def wsL_forecast : List Cond := .codeWith yL_forecast cL_forecast 5 (some .int) [(0, 10, 13, 27), (0, 10, 17, 46), (0, 10, 21, 13)] :: ((wsL_forecast_r1 ++ (wsL_forecast_r2 ++ wsL_forecast_r3)) ++ wsX40 ++ wsX60 ++ wsX50 ++ wsX70 ++ wsJx4a65c0 ++ wsX10 ++ (vx_atM "java/lang/ArrayIndexOutOfBoundsException" ["java/lang/IndexOutOfBoundsException", "java/lang/RuntimeException", "java/lang/Exception"]).filter goodWord ++ (vx_atS RX7 318 "java/lang/IndexOutOfBoundsException" ["java/lang/RuntimeException", "java/lang/Exception"]).filter goodWord ++ (vx_atS RX7 114 "java/util/NoSuchElementException" ["java/lang/RuntimeException", "java/lang/Exception"]).filter goodWord ++ (vx_atS RX7 89 "java/lang/IllegalArgumentException" ["java/lang/RuntimeException", "java/lang/Exception"]).filter goodWord)
def wsL_soonest_r1 : List Cond := [Cond.classLink RL 46 "java/util/NoSuchElementException", Cond.methodLink RL 96 yX7_soonest, Cond.instanceMethod yX7_soonest, Cond.selects RX7 yX7_soonest yX7_soonest, Cond.initialized RX7, Cond.code yX7_soonest cX7_soonest 4 (some .int), Cond.classLink RX7 110 "java/util/NoSuchElementException", Cond.initialized "java/util/NoSuchElementException", Cond.fieldLink RX7 19 "ColdStore" "pallets" "Ljava/util/ArrayList;", Cond.classLink RX7 178 "ColdStore$Pallet", Cond.fieldLink RX7 248 "ColdStore$Pallet" "number" "I", Cond.methodLink RX7 61 yJx4a65c_size_8abf5, Cond.instanceMethod yJx4a65c_size_8abf5, Cond.selects RJx4a65c yJx4a65c_size_8abf5 yJx4a65c_size_8abf5, Cond.initialized RJx4a65c, Cond.code yJx4a65c_size_8abf5 cJx4a65c_size_8abf5 1 (some .int), Cond.fieldLink RJx4a65c 48 "java/util/ArrayList" "size" "I", Cond.methodLink RX7 234 yJx4a65c_get_915e3, Cond.instanceMethod yJx4a65c_get_915e3, Cond.selects RJx4a65c yJx4a65c_get_915e3 yJx4a65c_get_915e3, Cond.code yJx4a65c_get_915e3 cJx4a65c_get_915e3 2 (some (.object "java/lang/Object")), Cond.methodLink RJx4a65c 118 yJ15_checkIndex_7cf53, Cond.static yJ15_checkIndex_7cf53, Cond.initialized RJ15]
def wsL_soonest_r2 : List Cond := [Cond.code yJ15_checkIndex_7cf53 cJ15_checkIndex_7cf53 2 (some .int), Cond.methodLink RJ15 105 yJ3_checkIndex_8e157, Cond.static yJ3_checkIndex_8e157, Cond.initialized RJ3, Cond.code yJ3_checkIndex_8e157 cJ3_checkIndex_8e157 3 (some .int), Cond.methodLink RJx4a65c 123 yJx4a65c_elementData_915e3, Cond.instanceMethod yJx4a65c_elementData_915e3, Cond.selects RJx4a65c yJx4a65c_elementData_915e3 yJx4a65c_elementData_915e3, Cond.code yJx4a65c_elementData_915e3 cJx4a65c_elementData_915e3 2 (some (.object "java/lang/Object")), Cond.fieldLink RJx4a65c 9 "java/util/ArrayList" "elementData" "[Ljava/lang/Object;", Cond.methodLink RX7 238 yX4_isInRoom, Cond.instanceMethod yX4_isInRoom, Cond.selects RX4 yX4_isInRoom yX4_isInRoom, Cond.initialized RX4, Cond.code yX4_isInRoom cX4_isInRoom 1 (some .boolean), Cond.fieldLink RX4 9 "ColdStore$Pallet" "status" "C", Cond.methodLink RX7 242 yX4_isAheadOf, Cond.instanceMethod yX4_isAheadOf, Cond.selects RX4 yX4_isAheadOf yX4_isAheadOf, Cond.code yX4_isAheadOf cX4_isAheadOf 2 (some .boolean), Cond.fieldLink RX4 40 "ColdStore$Pallet" "lifeLeft" "I", Cond.fieldLink RX4 19 "ColdStore$Pallet" "number" "I"]
def wsL_soonest : List Cond := .codeWith yL_soonest cL_soonest 3 (some .int) [(0, 8, 11, 46)] :: ((wsL_soonest_r1 ++ wsL_soonest_r2) ++ wsX70 ++ wsX40 ++ wsJx4a65c0 ++ (vx_atM "java/lang/ArrayIndexOutOfBoundsException" ["java/lang/IndexOutOfBoundsException", "java/lang/RuntimeException", "java/lang/Exception"]).filter goodWord ++ (vx_atS RX7 114 "java/util/NoSuchElementException" ["java/lang/RuntimeException", "java/lang/Exception"]).filter goodWord)
def wsL_lostShare_r1 : List Cond := [Cond.classLink RL 52 "java/lang/ArithmeticException", Cond.methodLink RL 100 yX7_lostShare, Cond.instanceMethod yX7_lostShare, Cond.selects RX7 yX7_lostShare yX7_lostShare, Cond.initialized RX7, Cond.code yX7_lostShare cX7_lostShare 4 (some .float), Cond.classLink RX7 118 "java/lang/ArithmeticException", Cond.initialized "java/lang/ArithmeticException", Cond.fieldLink RX7 19 "ColdStore" "pallets" "Ljava/util/ArrayList;", Cond.classLink RX7 178 "ColdStore$Pallet", Cond.fieldLink RX7 215 "ColdStore$Pallet" "status" "C", Cond.fieldLink RX7 212 "ColdStore$Pallet" "lifeLeft" "I", Cond.methodLink RX7 249 yJx4a65c_isEmpty_aae02, Cond.instanceMethod yJx4a65c_isEmpty_aae02, Cond.selects RJx4a65c yJx4a65c_isEmpty_aae02 yJx4a65c_isEmpty_aae02, Cond.initialized RJx4a65c, Cond.code yJx4a65c_isEmpty_aae02 cJx4a65c_isEmpty_aae02 1 (some .boolean), Cond.fieldLink RJx4a65c 48 "java/util/ArrayList" "size" "I", Cond.methodLink RX7 61 yJx4a65c_size_8abf5, Cond.instanceMethod yJx4a65c_size_8abf5, Cond.selects RJx4a65c yJx4a65c_size_8abf5 yJx4a65c_size_8abf5, Cond.code yJx4a65c_size_8abf5 cJx4a65c_size_8abf5 1 (some .int), Cond.methodLink RX7 234 yJx4a65c_get_915e3, Cond.instanceMethod yJx4a65c_get_915e3]
def wsL_lostShare_r2 : List Cond := [Cond.selects RJx4a65c yJx4a65c_get_915e3 yJx4a65c_get_915e3, Cond.code yJx4a65c_get_915e3 cJx4a65c_get_915e3 2 (some (.object "java/lang/Object")), Cond.methodLink RJx4a65c 118 yJ15_checkIndex_7cf53, Cond.static yJ15_checkIndex_7cf53, Cond.initialized RJ15, Cond.code yJ15_checkIndex_7cf53 cJ15_checkIndex_7cf53 2 (some .int), Cond.methodLink RJ15 105 yJ3_checkIndex_8e157, Cond.static yJ3_checkIndex_8e157, Cond.initialized RJ3, Cond.code yJ3_checkIndex_8e157 cJ3_checkIndex_8e157 3 (some .int), Cond.methodLink RJx4a65c 123 yJx4a65c_elementData_915e3, Cond.instanceMethod yJx4a65c_elementData_915e3, Cond.selects RJx4a65c yJx4a65c_elementData_915e3 yJx4a65c_elementData_915e3, Cond.code yJx4a65c_elementData_915e3 cJx4a65c_elementData_915e3 2 (some (.object "java/lang/Object")), Cond.fieldLink RJx4a65c 9 "java/util/ArrayList" "elementData" "[Ljava/lang/Object;"]
def wsL_lostShare : List Cond := .codeWith yL_lostShare cL_lostShare 3 (some .int) [(0, 8, 11, 52)] :: ((wsL_lostShare_r1 ++ wsL_lostShare_r2) ++ wsX70 ++ wsX40 ++ wsJx4a65c0 ++ (vx_atM "java/lang/ArrayIndexOutOfBoundsException" ["java/lang/IndexOutOfBoundsException", "java/lang/RuntimeException", "java/lang/Exception"]).filter goodWord ++ (vx_atS RX7 120 "java/lang/ArithmeticException" ["java/lang/RuntimeException", "java/lang/Exception"]).filter goodWord)
def wsL_order_r1 : List Cond := [Cond.classLink RL 27 "java/lang/IndexOutOfBoundsException", Cond.classLink RL 13 "java/lang/IllegalArgumentException", Cond.classLink RL 15 "java/lang/IllegalStateException", Cond.methodLink RL 104 yX7_order, Cond.instanceMethod yX7_order, Cond.selects RX7 yX7_order yX7_order, Cond.initialized RX7, Cond.code yX7_order cX7_order 6 (some .int), Cond.classLink RX7 50 "java/lang/IllegalStateException", Cond.initialized "java/lang/IllegalStateException", Cond.fieldLink RX7 39 "ColdStore" "time" "I", Cond.fieldLink RX7 22 "ColdStore" "orders" "Ljava/util/ArrayList;", Cond.classLink RX7 256 RX3, Cond.instantiable RX3 6, Cond.initialized RX3, Cond.methodLink RX7 168 yX7_findKind, Cond.instanceMethod yX7_findKind, Cond.selects RX7 yX7_findKind yX7_findKind, Cond.code yX7_findKind cX7_findKind 2 (some (.object "ColdStore$Kind")), Cond.classLink RX7 314 "java/lang/IndexOutOfBoundsException", Cond.initialized "java/lang/IndexOutOfBoundsException", Cond.fieldLink RX7 16 "ColdStore" "kinds" "Ljava/util/ArrayList;", Cond.classLink RX7 164 "ColdStore$Kind", Cond.methodLink RX7 61 yJx4a65c_size_8abf5]
def wsL_order_r2 : List Cond := [Cond.instanceMethod yJx4a65c_size_8abf5, Cond.selects RJx4a65c yJx4a65c_size_8abf5 yJx4a65c_size_8abf5, Cond.initialized RJx4a65c, Cond.code yJx4a65c_size_8abf5 cJx4a65c_size_8abf5 1 (some .int), Cond.fieldLink RJx4a65c 48 "java/util/ArrayList" "size" "I", Cond.methodLink RX7 234 yJx4a65c_get_915e3, Cond.instanceMethod yJx4a65c_get_915e3, Cond.selects RJx4a65c yJx4a65c_get_915e3 yJx4a65c_get_915e3, Cond.code yJx4a65c_get_915e3 cJx4a65c_get_915e3 2 (some (.object "java/lang/Object")), Cond.methodLink RJx4a65c 118 yJ15_checkIndex_7cf53, Cond.static yJ15_checkIndex_7cf53, Cond.initialized RJ15, Cond.code yJ15_checkIndex_7cf53 cJ15_checkIndex_7cf53 2 (some .int), Cond.methodLink RJ15 105 yJ3_checkIndex_8e157, Cond.static yJ3_checkIndex_8e157, Cond.initialized RJ3, Cond.code yJ3_checkIndex_8e157 cJ3_checkIndex_8e157 3 (some .int), Cond.methodLink RJx4a65c 123 yJx4a65c_elementData_915e3, Cond.instanceMethod yJx4a65c_elementData_915e3, Cond.selects RJx4a65c yJx4a65c_elementData_915e3 yJx4a65c_elementData_915e3, Cond.code yJx4a65c_elementData_915e3 cJx4a65c_elementData_915e3 2 (some (.object "java/lang/Object")), Cond.fieldLink RJx4a65c 9 "java/util/ArrayList" "elementData" "[Ljava/lang/Object;", Cond.methodLink RX7 46 yX7_requireRange, Cond.static yX7_requireRange]
def wsL_order_r3 : List Cond := [Cond.code yX7_requireRange cX7_requireRange 3 none, Cond.classLink RX7 85 "java/lang/IllegalArgumentException", Cond.initialized "java/lang/IllegalArgumentException", Cond.methodLink RX7 258 yX3_init, Cond.instanceMethod yX3_init, Cond.code yX3_init cX3_init 5 none, Cond.methodLink RX3 3 objectInit, Cond.instanceMethod objectInit, Cond.code objectInit ⟨#[0xb1]⟩ 1 none, Cond.fieldLink RX3 9 "ColdStore$Order" "status" "C", Cond.fieldLink RX3 15 "ColdStore$Order" "leastLife" "I", Cond.fieldLink RX3 19 "ColdStore$Order" "kind" "LColdStore$Kind;", Cond.fieldLink RX3 23 "ColdStore$Order" "count" "I", Cond.fieldLink RX3 26 "ColdStore$Order" "promise" "I", Cond.fieldLink RX3 29 "ColdStore$Order" "due" "I", Cond.methodLink RX7 71 yJx4a65c_add_9ea2d, Cond.instanceMethod yJx4a65c_add_9ea2d, Cond.selects RJx4a65c yJx4a65c_add_9ea2d yJx4a65c_add_9ea2d, Cond.code yJx4a65c_add_9ea2d cJx4a65c_add_9ea2d 2 (some .boolean), Cond.fieldLink RJx4a65c 63 "java/util/ArrayList" "modCount" "I", Cond.sameField "java/util/ArrayList" "java/util/AbstractList" "modCount" "I", Cond.methodLink RJx4a65c 131 yJx4a65c_add_72be8, Cond.instanceMethod yJx4a65c_add_72be8, Cond.selects RJx4a65c yJx4a65c_add_72be8 yJx4a65c_add_72be8]
def wsL_order_r4 : List Cond := [Cond.code yJx4a65c_add_72be8 cJx4a65c_add_72be8 4 none, Cond.methodLink RJx4a65c 129 yJx4a65c_grow_d5877, Cond.instanceMethod yJx4a65c_grow_d5877, Cond.selects RJx4a65c yJx4a65c_grow_d5877 yJx4a65c_grow_d5877, Cond.code yJx4a65c_grow_d5877 cJx4a65c_grow_d5877 1 (some (.array (.object "java/lang/Object"))), Cond.methodLink RJx4a65c 69 yJx4a65c_grow_92f84, Cond.instanceMethod yJx4a65c_grow_92f84, Cond.selects RJx4a65c yJx4a65c_grow_92f84 yJx4a65c_grow_92f84, Cond.code yJx4a65c_grow_92f84 cJx4a65c_grow_92f84 4 (some (.array (.object "java/lang/Object"))), Cond.fieldLink RJx4a65c 39 "java/util/ArrayList" "DEFAULTCAPACITY_EMPTY_ELEMENTDATA" "[Ljava/lang/Object;", Cond.methodLink RJx4a65c 79 Lib.Math.max.name, Cond.static Lib.Math.max.name, Cond.initialized "java/lang/Math", Cond.code Lib.Math.max.name Lib.Math.max.code 2 (some .int), Cond.classLink RJx4a65c 7 "java/lang/Object", Cond.methodLink RJx4a65c 73 yJ8_newLength_cabcc, Cond.static yJ8_newLength_cabcc, Cond.initialized RJ8, Cond.code yJ8_newLength_cabcc cJ8_newLength_cabcc 4 (some .int), Cond.methodLink RJ8 194 Lib.Math.max.name, Cond.constant RJ8 200 (2147483639), Cond.methodLink RJ8 201 yJ8_hugeLength_7cf53, Cond.static yJ8_hugeLength_7cf53, Cond.code yJ8_hugeLength_7cf53 cJ8_hugeLength_7cf53 3 (some .int)]
def wsL_order_r5 : List Cond := [Cond.methodLink RJx4a65c 66 yJ7_copyOf_1904c, Cond.static yJ7_copyOf_1904c, Cond.initialized RJ7, Cond.code yJ7_copyOf_1904c cJ7_copyOf_1904c 2 (some (.array (.object "java/lang/Object"))), Cond.methodLink RJ7 86 ⟨"java/lang/Object", "getClass", "()Ljava/lang/Class;"⟩, Cond.selects "[Ljava/lang/Object;" ⟨"java/lang/Object", "getClass", "()Ljava/lang/Class;"⟩ ⟨"java/lang/Object", "getClass", "()Ljava/lang/Class;"⟩, Cond.instanceMethod ⟨"java/lang/Object", "getClass", "()Ljava/lang/Class;"⟩, Cond.native ⟨"java/lang/Object", "getClass", "()Ljava/lang/Class;"⟩, Cond.methodLink RJ7 300 yJ7_copyOf_6403c, Cond.static yJ7_copyOf_6403c, Cond.code yJ7_copyOf_6403c cJ7_copyOf_6403c 4 (some (.array (.object "java/lang/Object"))), Cond.classLink RJ7 110 "[Ljava/lang/Object;", Cond.classLink RJ7 2 "java/lang/Object", Cond.methodLink RJ7 304 Lib.Math.min.name, Cond.static Lib.Math.min.name, Cond.code Lib.Math.min.name Lib.Math.min.code 2 (some .int), Cond.methodLink RJ7 150 arraycopyName, Cond.native arraycopyName, Cond.static arraycopyName, Cond.initialized "java/lang/System"]
def wsL_order : List Cond := .codeWith yL_order cL_order 7 (some .int) [(0, 14, 17, 27), (0, 14, 21, 13), (0, 14, 25, 15)] :: ((wsL_order_r1 ++ (wsL_order_r2 ++ (wsL_order_r3 ++ (wsL_order_r4 ++ wsL_order_r5)))) ++ wsX70 ++ wsX30 ++ wsJx4a65c0 ++ (vx_atM "java/lang/ArrayIndexOutOfBoundsException" ["java/lang/IndexOutOfBoundsException", "java/lang/RuntimeException", "java/lang/Exception"]).filter goodWord ++ (vx_atS RX7 54 "java/lang/IllegalStateException" ["java/lang/RuntimeException", "java/lang/Exception"]).filter goodWord ++ (vx_atS RX7 318 "java/lang/IndexOutOfBoundsException" ["java/lang/RuntimeException", "java/lang/Exception"]).filter goodWord ++ (vx_atS RX7 89 "java/lang/IllegalArgumentException" ["java/lang/RuntimeException", "java/lang/Exception"]).filter goodWord)
def wsL_cancel_r1 : List Cond := [Cond.classLink RL 27 "java/lang/IndexOutOfBoundsException", Cond.classLink RL 15 "java/lang/IllegalStateException", Cond.methodLink RL 107 yX7_cancel, Cond.instanceMethod yX7_cancel, Cond.selects RX7 yX7_cancel yX7_cancel, Cond.initialized RX7, Cond.code yX7_cancel cX7_cancel 3 (some .int), Cond.fieldLink RX7 269 "ColdStore$Order" "status" "C", Cond.methodLink RX7 261 yX7_findOrder, Cond.instanceMethod yX7_findOrder, Cond.selects RX7 yX7_findOrder yX7_findOrder, Cond.code yX7_findOrder cX7_findOrder 2 (some (.object "ColdStore$Order")), Cond.classLink RX7 314 "java/lang/IndexOutOfBoundsException", Cond.initialized "java/lang/IndexOutOfBoundsException", Cond.fieldLink RX7 22 "ColdStore" "orders" "Ljava/util/ArrayList;", Cond.classLink RX7 256 "ColdStore$Order", Cond.methodLink RX7 61 yJx4a65c_size_8abf5, Cond.instanceMethod yJx4a65c_size_8abf5, Cond.selects RJx4a65c yJx4a65c_size_8abf5 yJx4a65c_size_8abf5, Cond.initialized RJx4a65c, Cond.code yJx4a65c_size_8abf5 cJx4a65c_size_8abf5 1 (some .int), Cond.fieldLink RJx4a65c 48 "java/util/ArrayList" "size" "I", Cond.methodLink RX7 234 yJx4a65c_get_915e3, Cond.instanceMethod yJx4a65c_get_915e3]
def wsL_cancel_r2 : List Cond := [Cond.selects RJx4a65c yJx4a65c_get_915e3 yJx4a65c_get_915e3, Cond.code yJx4a65c_get_915e3 cJx4a65c_get_915e3 2 (some (.object "java/lang/Object")), Cond.methodLink RJx4a65c 118 yJ15_checkIndex_7cf53, Cond.static yJ15_checkIndex_7cf53, Cond.initialized RJ15, Cond.code yJ15_checkIndex_7cf53 cJ15_checkIndex_7cf53 2 (some .int), Cond.methodLink RJ15 105 yJ3_checkIndex_8e157, Cond.static yJ3_checkIndex_8e157, Cond.initialized RJ3, Cond.code yJ3_checkIndex_8e157 cJ3_checkIndex_8e157 3 (some .int), Cond.methodLink RJx4a65c 123 yJx4a65c_elementData_915e3, Cond.instanceMethod yJx4a65c_elementData_915e3, Cond.selects RJx4a65c yJx4a65c_elementData_915e3 yJx4a65c_elementData_915e3, Cond.code yJx4a65c_elementData_915e3 cJx4a65c_elementData_915e3 2 (some (.object "java/lang/Object")), Cond.fieldLink RJx4a65c 9 "java/util/ArrayList" "elementData" "[Ljava/lang/Object;", Cond.methodLink RX7 265 yX7_requireOpen, Cond.static yX7_requireOpen, Cond.code yX7_requireOpen cX7_requireOpen 1 none, Cond.classLink RX7 50 "java/lang/IllegalStateException", Cond.initialized "java/lang/IllegalStateException", Cond.methodLink RX7 270 yX7_countOpenOrders, Cond.instanceMethod yX7_countOpenOrders, Cond.selects RX7 yX7_countOpenOrders yX7_countOpenOrders, Cond.code yX7_countOpenOrders cX7_countOpenOrders 3 (some .int)]
def wsL_cancel : List Cond := .codeWith yL_cancel cL_cancel 4 (some .int) [(0, 9, 12, 27), (0, 9, 15, 15)] :: ((wsL_cancel_r1 ++ wsL_cancel_r2) ++ wsX30 ++ wsX70 ++ wsJx4a65c0 ++ (vx_atM "java/lang/ArrayIndexOutOfBoundsException" ["java/lang/IndexOutOfBoundsException", "java/lang/RuntimeException", "java/lang/Exception"]).filter goodWord ++ (vx_atS RX7 318 "java/lang/IndexOutOfBoundsException" ["java/lang/RuntimeException", "java/lang/Exception"]).filter goodWord ++ (vx_atS RX7 54 "java/lang/IllegalStateException" ["java/lang/RuntimeException", "java/lang/Exception"]).filter goodWord)
def wsL_candidates_r1 : List Cond := [Cond.classLink RL 27 "java/lang/IndexOutOfBoundsException", Cond.methodLink RL 110 yX7_candidates, Cond.instanceMethod yX7_candidates, Cond.selects RX7 yX7_candidates yX7_candidates, Cond.initialized RX7, Cond.code yX7_candidates cX7_candidates 2 (some .int), Cond.methodLink RX7 261 yX7_findOrder, Cond.instanceMethod yX7_findOrder, Cond.selects RX7 yX7_findOrder yX7_findOrder, Cond.code yX7_findOrder cX7_findOrder 2 (some (.object "ColdStore$Order")), Cond.classLink RX7 314 "java/lang/IndexOutOfBoundsException", Cond.initialized "java/lang/IndexOutOfBoundsException", Cond.fieldLink RX7 22 "ColdStore" "orders" "Ljava/util/ArrayList;", Cond.classLink RX7 256 "ColdStore$Order", Cond.methodLink RX7 61 yJx4a65c_size_8abf5, Cond.instanceMethod yJx4a65c_size_8abf5, Cond.selects RJx4a65c yJx4a65c_size_8abf5 yJx4a65c_size_8abf5, Cond.initialized RJx4a65c, Cond.code yJx4a65c_size_8abf5 cJx4a65c_size_8abf5 1 (some .int), Cond.fieldLink RJx4a65c 48 "java/util/ArrayList" "size" "I", Cond.methodLink RX7 234 yJx4a65c_get_915e3, Cond.instanceMethod yJx4a65c_get_915e3, Cond.selects RJx4a65c yJx4a65c_get_915e3 yJx4a65c_get_915e3, Cond.code yJx4a65c_get_915e3 cJx4a65c_get_915e3 2 (some (.object "java/lang/Object"))]
def wsL_candidates_r2 : List Cond := [Cond.methodLink RJx4a65c 118 yJ15_checkIndex_7cf53, Cond.static yJ15_checkIndex_7cf53, Cond.initialized RJ15, Cond.code yJ15_checkIndex_7cf53 cJ15_checkIndex_7cf53 2 (some .int), Cond.methodLink RJ15 105 yJ3_checkIndex_8e157, Cond.static yJ3_checkIndex_8e157, Cond.initialized RJ3, Cond.code yJ3_checkIndex_8e157 cJ3_checkIndex_8e157 3 (some .int), Cond.methodLink RJx4a65c 123 yJx4a65c_elementData_915e3, Cond.instanceMethod yJx4a65c_elementData_915e3, Cond.selects RJx4a65c yJx4a65c_elementData_915e3 yJx4a65c_elementData_915e3, Cond.code yJx4a65c_elementData_915e3 cJx4a65c_elementData_915e3 2 (some (.object "java/lang/Object")), Cond.fieldLink RJx4a65c 9 "java/util/ArrayList" "elementData" "[Ljava/lang/Object;", Cond.methodLink RX7 273 yX7_countCandidates, Cond.instanceMethod yX7_countCandidates, Cond.selects RX7 yX7_countCandidates yX7_countCandidates, Cond.code yX7_countCandidates cX7_countCandidates 4 (some .int), Cond.fieldLink RX7 19 "ColdStore" "pallets" "Ljava/util/ArrayList;", Cond.classLink RX7 178 "ColdStore$Pallet", Cond.methodLink RX7 373 yX3_accepts, Cond.instanceMethod yX3_accepts, Cond.selects RX3 yX3_accepts yX3_accepts, Cond.initialized RX3, Cond.code yX3_accepts cX3_accepts 2 (some .boolean)]
def wsL_candidates_r3 : List Cond := [Cond.fieldLink RX3 38 "ColdStore$Pallet" "kind" "LColdStore$Kind;", Cond.fieldLink RX3 19 "ColdStore$Order" "kind" "LColdStore$Kind;", Cond.fieldLink RX3 39 "ColdStore$Pallet" "lifeLeft" "I", Cond.fieldLink RX3 26 "ColdStore$Order" "promise" "I", Cond.methodLink RX3 32 yX4_isInRoom, Cond.instanceMethod yX4_isInRoom, Cond.selects RX4 yX4_isInRoom yX4_isInRoom, Cond.initialized RX4, Cond.code yX4_isInRoom cX4_isInRoom 1 (some .boolean), Cond.fieldLink RX4 9 "ColdStore$Pallet" "status" "C"]
def wsL_candidates : List Cond := .codeWith yL_candidates cL_candidates 4 (some .int) [(0, 9, 12, 27)] :: ((wsL_candidates_r1 ++ (wsL_candidates_r2 ++ wsL_candidates_r3)) ++ wsX70 ++ wsJx4a65c0 ++ wsX40 ++ wsX30 ++ (vx_atM "java/lang/ArrayIndexOutOfBoundsException" ["java/lang/IndexOutOfBoundsException", "java/lang/RuntimeException", "java/lang/Exception"]).filter goodWord ++ (vx_atS RX7 318 "java/lang/IndexOutOfBoundsException" ["java/lang/RuntimeException", "java/lang/Exception"]).filter goodWord)
def wsL_candidateAt_r1 : List Cond := [Cond.classLink RL 27 "java/lang/IndexOutOfBoundsException", Cond.classLink RL 46 "java/util/NoSuchElementException", Cond.methodLink RL 113 yX7_candidateAt, Cond.instanceMethod yX7_candidateAt, Cond.selects RX7 yX7_candidateAt yX7_candidateAt, Cond.initialized RX7, Cond.code yX7_candidateAt cX7_candidateAt 5 (some .int), Cond.classLink RX7 110 "java/util/NoSuchElementException", Cond.initialized "java/util/NoSuchElementException", Cond.fieldLink RX7 248 "ColdStore$Pallet" "number" "I", Cond.methodLink RX7 261 yX7_findOrder, Cond.instanceMethod yX7_findOrder, Cond.selects RX7 yX7_findOrder yX7_findOrder, Cond.code yX7_findOrder cX7_findOrder 2 (some (.object "ColdStore$Order")), Cond.classLink RX7 314 "java/lang/IndexOutOfBoundsException", Cond.initialized "java/lang/IndexOutOfBoundsException", Cond.fieldLink RX7 22 "ColdStore" "orders" "Ljava/util/ArrayList;", Cond.classLink RX7 256 "ColdStore$Order", Cond.methodLink RX7 61 yJx4a65c_size_8abf5, Cond.instanceMethod yJx4a65c_size_8abf5, Cond.selects RJx4a65c yJx4a65c_size_8abf5 yJx4a65c_size_8abf5, Cond.initialized RJx4a65c, Cond.code yJx4a65c_size_8abf5 cJx4a65c_size_8abf5 1 (some .int), Cond.fieldLink RJx4a65c 48 "java/util/ArrayList" "size" "I"]
def wsL_candidateAt_r2 : List Cond := [Cond.methodLink RX7 234 yJx4a65c_get_915e3, Cond.instanceMethod yJx4a65c_get_915e3, Cond.selects RJx4a65c yJx4a65c_get_915e3 yJx4a65c_get_915e3, Cond.code yJx4a65c_get_915e3 cJx4a65c_get_915e3 2 (some (.object "java/lang/Object")), Cond.methodLink RJx4a65c 118 yJ15_checkIndex_7cf53, Cond.static yJ15_checkIndex_7cf53, Cond.initialized RJ15, Cond.code yJ15_checkIndex_7cf53 cJ15_checkIndex_7cf53 2 (some .int), Cond.methodLink RJ15 105 yJ3_checkIndex_8e157, Cond.static yJ3_checkIndex_8e157, Cond.initialized RJ3, Cond.code yJ3_checkIndex_8e157 cJ3_checkIndex_8e157 3 (some .int), Cond.methodLink RJx4a65c 123 yJx4a65c_elementData_915e3, Cond.instanceMethod yJx4a65c_elementData_915e3, Cond.selects RJx4a65c yJx4a65c_elementData_915e3 yJx4a65c_elementData_915e3, Cond.code yJx4a65c_elementData_915e3 cJx4a65c_elementData_915e3 2 (some (.object "java/lang/Object")), Cond.fieldLink RJx4a65c 9 "java/util/ArrayList" "elementData" "[Ljava/lang/Object;", Cond.methodLink RX7 273 yX7_countCandidates, Cond.instanceMethod yX7_countCandidates, Cond.selects RX7 yX7_countCandidates yX7_countCandidates, Cond.code yX7_countCandidates cX7_countCandidates 4 (some .int), Cond.fieldLink RX7 19 "ColdStore" "pallets" "Ljava/util/ArrayList;", Cond.classLink RX7 178 "ColdStore$Pallet", Cond.methodLink RX7 373 yX3_accepts]
def wsL_candidateAt_r3 : List Cond := [Cond.instanceMethod yX3_accepts, Cond.selects RX3 yX3_accepts yX3_accepts, Cond.initialized RX3, Cond.code yX3_accepts cX3_accepts 2 (some .boolean), Cond.fieldLink RX3 38 "ColdStore$Pallet" "kind" "LColdStore$Kind;", Cond.fieldLink RX3 19 "ColdStore$Order" "kind" "LColdStore$Kind;", Cond.fieldLink RX3 39 "ColdStore$Pallet" "lifeLeft" "I", Cond.fieldLink RX3 26 "ColdStore$Order" "promise" "I", Cond.methodLink RX3 32 yX4_isInRoom, Cond.instanceMethod yX4_isInRoom, Cond.selects RX4 yX4_isInRoom yX4_isInRoom, Cond.initialized RX4, Cond.code yX4_isInRoom cX4_isInRoom 1 (some .boolean), Cond.fieldLink RX4 9 "ColdStore$Pallet" "status" "C", Cond.methodLink RX7 277 yX7_findCandidate, Cond.instanceMethod yX7_findCandidate, Cond.selects RX7 yX7_findCandidate yX7_findCandidate, Cond.code yX7_findCandidate cX7_findCandidate 5 (some (.object "ColdStore$Pallet")), Cond.methodLink RX7 379 yX7_nextCandidate, Cond.instanceMethod yX7_nextCandidate, Cond.selects RX7 yX7_nextCandidate yX7_nextCandidate, Cond.code yX7_nextCandidate cX7_nextCandidate 7 (some (.object "ColdStore$Pallet")), Cond.methodLink RX7 242 yX4_isAheadOf, Cond.instanceMethod yX4_isAheadOf]
def wsL_candidateAt_r4 : List Cond := [Cond.selects RX4 yX4_isAheadOf yX4_isAheadOf, Cond.code yX4_isAheadOf cX4_isAheadOf 2 (some .boolean), Cond.fieldLink RX4 40 "ColdStore$Pallet" "lifeLeft" "I", Cond.fieldLink RX4 19 "ColdStore$Pallet" "number" "I"]
def wsL_candidateAt : List Cond := .codeWith yL_candidateAt cL_candidateAt 5 (some .int) [(0, 10, 13, 27), (0, 10, 17, 46)] :: ((wsL_candidateAt_r1 ++ (wsL_candidateAt_r2 ++ (wsL_candidateAt_r3 ++ wsL_candidateAt_r4))) ++ wsX40 ++ wsX70 ++ wsJx4a65c0 ++ wsX30 ++ (vx_atM "java/lang/ArrayIndexOutOfBoundsException" ["java/lang/IndexOutOfBoundsException", "java/lang/RuntimeException", "java/lang/Exception"]).filter goodWord ++ (vx_atS RX7 114 "java/util/NoSuchElementException" ["java/lang/RuntimeException", "java/lang/Exception"]).filter goodWord ++ (vx_atS RX7 318 "java/lang/IndexOutOfBoundsException" ["java/lang/RuntimeException", "java/lang/Exception"]).filter goodWord)
def wsL_ship_r1 : List Cond := [Cond.classLink RL 27 "java/lang/IndexOutOfBoundsException", Cond.classLink RL 15 "java/lang/IllegalStateException", Cond.classLink RL 119 "java/lang/UnsupportedOperationException", Cond.methodLink RL 116 yX7_ship, Cond.instanceMethod yX7_ship, Cond.selects RX7 yX7_ship yX7_ship, Cond.initialized RX7, Cond.code yX7_ship cX7_ship 3 (some .int), Cond.classLink RX7 287 "java/lang/UnsupportedOperationException", Cond.initialized "java/lang/UnsupportedOperationException", Cond.methodLink RX7 261 yX7_findOrder, Cond.instanceMethod yX7_findOrder, Cond.selects RX7 yX7_findOrder yX7_findOrder, Cond.code yX7_findOrder cX7_findOrder 2 (some (.object "ColdStore$Order")), Cond.classLink RX7 314 "java/lang/IndexOutOfBoundsException", Cond.initialized "java/lang/IndexOutOfBoundsException", Cond.fieldLink RX7 22 "ColdStore" "orders" "Ljava/util/ArrayList;", Cond.classLink RX7 256 "ColdStore$Order", Cond.methodLink RX7 61 yJx4a65c_size_8abf5, Cond.instanceMethod yJx4a65c_size_8abf5, Cond.selects RJx4a65c yJx4a65c_size_8abf5 yJx4a65c_size_8abf5, Cond.initialized RJx4a65c, Cond.code yJx4a65c_size_8abf5 cJx4a65c_size_8abf5 1 (some .int), Cond.fieldLink RJx4a65c 48 "java/util/ArrayList" "size" "I"]
def wsL_ship_r2 : List Cond := [Cond.methodLink RX7 234 yJx4a65c_get_915e3, Cond.instanceMethod yJx4a65c_get_915e3, Cond.selects RJx4a65c yJx4a65c_get_915e3 yJx4a65c_get_915e3, Cond.code yJx4a65c_get_915e3 cJx4a65c_get_915e3 2 (some (.object "java/lang/Object")), Cond.methodLink RJx4a65c 118 yJ15_checkIndex_7cf53, Cond.static yJ15_checkIndex_7cf53, Cond.initialized RJ15, Cond.code yJ15_checkIndex_7cf53 cJ15_checkIndex_7cf53 2 (some .int), Cond.methodLink RJ15 105 yJ3_checkIndex_8e157, Cond.static yJ3_checkIndex_8e157, Cond.initialized RJ3, Cond.code yJ3_checkIndex_8e157 cJ3_checkIndex_8e157 3 (some .int), Cond.methodLink RJx4a65c 123 yJx4a65c_elementData_915e3, Cond.instanceMethod yJx4a65c_elementData_915e3, Cond.selects RJx4a65c yJx4a65c_elementData_915e3 yJx4a65c_elementData_915e3, Cond.code yJx4a65c_elementData_915e3 cJx4a65c_elementData_915e3 2 (some (.object "java/lang/Object")), Cond.fieldLink RJx4a65c 9 "java/util/ArrayList" "elementData" "[Ljava/lang/Object;", Cond.methodLink RX7 265 yX7_requireOpen, Cond.static yX7_requireOpen, Cond.code yX7_requireOpen cX7_requireOpen 1 none, Cond.classLink RX7 50 "java/lang/IllegalStateException", Cond.initialized "java/lang/IllegalStateException", Cond.fieldLink RX7 269 "ColdStore$Order" "status" "C", Cond.methodLink RX7 283 yX7_canBeShipped]
def wsL_ship_r3 : List Cond := [Cond.instanceMethod yX7_canBeShipped, Cond.selects RX7 yX7_canBeShipped yX7_canBeShipped, Cond.code yX7_canBeShipped cX7_canBeShipped 2 (some .boolean), Cond.fieldLink RX7 376 "ColdStore$Order" "count" "I", Cond.methodLink RX7 273 yX7_countCandidates, Cond.instanceMethod yX7_countCandidates, Cond.selects RX7 yX7_countCandidates yX7_countCandidates, Cond.code yX7_countCandidates cX7_countCandidates 4 (some .int), Cond.fieldLink RX7 19 "ColdStore" "pallets" "Ljava/util/ArrayList;", Cond.classLink RX7 178 "ColdStore$Pallet", Cond.methodLink RX7 373 yX3_accepts, Cond.instanceMethod yX3_accepts, Cond.selects RX3 yX3_accepts yX3_accepts, Cond.initialized RX3, Cond.code yX3_accepts cX3_accepts 2 (some .boolean), Cond.fieldLink RX3 38 "ColdStore$Pallet" "kind" "LColdStore$Kind;", Cond.fieldLink RX3 19 "ColdStore$Order" "kind" "LColdStore$Kind;", Cond.fieldLink RX3 39 "ColdStore$Pallet" "lifeLeft" "I", Cond.fieldLink RX3 26 "ColdStore$Order" "promise" "I", Cond.methodLink RX3 32 yX4_isInRoom, Cond.instanceMethod yX4_isInRoom, Cond.selects RX4 yX4_isInRoom yX4_isInRoom, Cond.initialized RX4, Cond.code yX4_isInRoom cX4_isInRoom 1 (some .boolean)]
def wsL_ship_r4 : List Cond := [Cond.fieldLink RX4 9 "ColdStore$Pallet" "status" "C", Cond.methodLink RX7 292 yX7_shipCandidates, Cond.instanceMethod yX7_shipCandidates, Cond.selects RX7 yX7_shipCandidates yX7_shipCandidates, Cond.code yX7_shipCandidates cX7_shipCandidates 5 (some .int), Cond.fieldLink RX7 212 "ColdStore$Pallet" "lifeLeft" "I", Cond.fieldLink RX7 297 "ColdStore$Order" "leastLife" "I", Cond.fieldLink RX7 39 "ColdStore" "time" "I", Cond.methodLink RX7 379 yX7_nextCandidate, Cond.instanceMethod yX7_nextCandidate, Cond.selects RX7 yX7_nextCandidate yX7_nextCandidate, Cond.code yX7_nextCandidate cX7_nextCandidate 7 (some (.object "ColdStore$Pallet")), Cond.methodLink RX7 242 yX4_isAheadOf, Cond.instanceMethod yX4_isAheadOf, Cond.selects RX4 yX4_isAheadOf yX4_isAheadOf, Cond.code yX4_isAheadOf cX4_isAheadOf 2 (some .boolean), Cond.fieldLink RX4 40 "ColdStore$Pallet" "lifeLeft" "I", Cond.fieldLink RX4 19 "ColdStore$Pallet" "number" "I", Cond.methodLink RX7 208 yX4_leave, Cond.instanceMethod yX4_leave, Cond.selects RX4 yX4_leave yX4_leave, Cond.code yX4_leave cX4_leave 3 none, Cond.fieldLink RX4 15 "ColdStore$Pallet" "leftAt" "I"]
def wsL_ship : List Cond := .codeWith yL_ship cL_ship 4 (some .int) [(0, 9, 12, 27), (0, 9, 15, 15), (0, 9, 18, 119)] :: ((wsL_ship_r1 ++ (wsL_ship_r2 ++ (wsL_ship_r3 ++ wsL_ship_r4))) ++ wsX70 ++ wsJx4a65c0 ++ wsX30 ++ wsX40 ++ (vx_atM "java/lang/ArrayIndexOutOfBoundsException" ["java/lang/IndexOutOfBoundsException", "java/lang/RuntimeException", "java/lang/Exception"]).filter goodWord ++ (vx_atS RX7 291 "java/lang/UnsupportedOperationException" ["java/lang/RuntimeException", "java/lang/Exception"]).filter goodWord ++ (vx_atS RX7 318 "java/lang/IndexOutOfBoundsException" ["java/lang/RuntimeException", "java/lang/Exception"]).filter goodWord ++ (vx_atS RX7 54 "java/lang/IllegalStateException" ["java/lang/RuntimeException", "java/lang/Exception"]).filter goodWord)
def wsL_orderState_r1 : List Cond := [Cond.classLink RL 27 "java/lang/IndexOutOfBoundsException", Cond.methodLink RL 121 yX7_orderState, Cond.instanceMethod yX7_orderState, Cond.selects RX7 yX7_orderState yX7_orderState, Cond.initialized RX7, Cond.code yX7_orderState cX7_orderState 2 (some .char), Cond.fieldLink RX7 269 "ColdStore$Order" "status" "C", Cond.methodLink RX7 261 yX7_findOrder, Cond.instanceMethod yX7_findOrder, Cond.selects RX7 yX7_findOrder yX7_findOrder, Cond.code yX7_findOrder cX7_findOrder 2 (some (.object "ColdStore$Order")), Cond.classLink RX7 314 "java/lang/IndexOutOfBoundsException", Cond.initialized "java/lang/IndexOutOfBoundsException", Cond.fieldLink RX7 22 "ColdStore" "orders" "Ljava/util/ArrayList;", Cond.classLink RX7 256 "ColdStore$Order", Cond.methodLink RX7 61 yJx4a65c_size_8abf5, Cond.instanceMethod yJx4a65c_size_8abf5, Cond.selects RJx4a65c yJx4a65c_size_8abf5 yJx4a65c_size_8abf5, Cond.initialized RJx4a65c, Cond.code yJx4a65c_size_8abf5 cJx4a65c_size_8abf5 1 (some .int), Cond.fieldLink RJx4a65c 48 "java/util/ArrayList" "size" "I", Cond.methodLink RX7 234 yJx4a65c_get_915e3, Cond.instanceMethod yJx4a65c_get_915e3, Cond.selects RJx4a65c yJx4a65c_get_915e3 yJx4a65c_get_915e3]
def wsL_orderState_r2 : List Cond := [Cond.code yJx4a65c_get_915e3 cJx4a65c_get_915e3 2 (some (.object "java/lang/Object")), Cond.methodLink RJx4a65c 118 yJ15_checkIndex_7cf53, Cond.static yJ15_checkIndex_7cf53, Cond.initialized RJ15, Cond.code yJ15_checkIndex_7cf53 cJ15_checkIndex_7cf53 2 (some .int), Cond.methodLink RJ15 105 yJ3_checkIndex_8e157, Cond.static yJ3_checkIndex_8e157, Cond.initialized RJ3, Cond.code yJ3_checkIndex_8e157 cJ3_checkIndex_8e157 3 (some .int), Cond.methodLink RJx4a65c 123 yJx4a65c_elementData_915e3, Cond.instanceMethod yJx4a65c_elementData_915e3, Cond.selects RJx4a65c yJx4a65c_elementData_915e3 yJx4a65c_elementData_915e3, Cond.code yJx4a65c_elementData_915e3 cJx4a65c_elementData_915e3 2 (some (.object "java/lang/Object")), Cond.fieldLink RJx4a65c 9 "java/util/ArrayList" "elementData" "[Ljava/lang/Object;"]
def wsL_orderState : List Cond := .codeWith yL_orderState cL_orderState 4 (some .int) [(0, 9, 12, 27)] :: ((wsL_orderState_r1 ++ wsL_orderState_r2) ++ wsX30 ++ wsX70 ++ wsJx4a65c0 ++ (vx_atM "java/lang/ArrayIndexOutOfBoundsException" ["java/lang/IndexOutOfBoundsException", "java/lang/RuntimeException", "java/lang/Exception"]).filter goodWord ++ (vx_atS RX7 318 "java/lang/IndexOutOfBoundsException" ["java/lang/RuntimeException", "java/lang/Exception"]).filter goodWord)
def wsL_leastShipped_r1 : List Cond := [Cond.classLink RL 27 "java/lang/IndexOutOfBoundsException", Cond.classLink RL 46 "java/util/NoSuchElementException", Cond.methodLink RL 124 yX7_leastShipped, Cond.instanceMethod yX7_leastShipped, Cond.selects RX7 yX7_leastShipped yX7_leastShipped, Cond.initialized RX7, Cond.code yX7_leastShipped cX7_leastShipped 3 (some .int), Cond.classLink RX7 110 "java/util/NoSuchElementException", Cond.initialized "java/util/NoSuchElementException", Cond.fieldLink RX7 269 "ColdStore$Order" "status" "C", Cond.fieldLink RX7 297 "ColdStore$Order" "leastLife" "I", Cond.methodLink RX7 261 yX7_findOrder, Cond.instanceMethod yX7_findOrder, Cond.selects RX7 yX7_findOrder yX7_findOrder, Cond.code yX7_findOrder cX7_findOrder 2 (some (.object "ColdStore$Order")), Cond.classLink RX7 314 "java/lang/IndexOutOfBoundsException", Cond.initialized "java/lang/IndexOutOfBoundsException", Cond.fieldLink RX7 22 "ColdStore" "orders" "Ljava/util/ArrayList;", Cond.classLink RX7 256 "ColdStore$Order", Cond.methodLink RX7 61 yJx4a65c_size_8abf5, Cond.instanceMethod yJx4a65c_size_8abf5, Cond.selects RJx4a65c yJx4a65c_size_8abf5 yJx4a65c_size_8abf5, Cond.initialized RJx4a65c, Cond.code yJx4a65c_size_8abf5 cJx4a65c_size_8abf5 1 (some .int)]
def wsL_leastShipped_r2 : List Cond := [Cond.fieldLink RJx4a65c 48 "java/util/ArrayList" "size" "I", Cond.methodLink RX7 234 yJx4a65c_get_915e3, Cond.instanceMethod yJx4a65c_get_915e3, Cond.selects RJx4a65c yJx4a65c_get_915e3 yJx4a65c_get_915e3, Cond.code yJx4a65c_get_915e3 cJx4a65c_get_915e3 2 (some (.object "java/lang/Object")), Cond.methodLink RJx4a65c 118 yJ15_checkIndex_7cf53, Cond.static yJ15_checkIndex_7cf53, Cond.initialized RJ15, Cond.code yJ15_checkIndex_7cf53 cJ15_checkIndex_7cf53 2 (some .int), Cond.methodLink RJ15 105 yJ3_checkIndex_8e157, Cond.static yJ3_checkIndex_8e157, Cond.initialized RJ3, Cond.code yJ3_checkIndex_8e157 cJ3_checkIndex_8e157 3 (some .int), Cond.methodLink RJx4a65c 123 yJx4a65c_elementData_915e3, Cond.instanceMethod yJx4a65c_elementData_915e3, Cond.selects RJx4a65c yJx4a65c_elementData_915e3 yJx4a65c_elementData_915e3, Cond.code yJx4a65c_elementData_915e3 cJx4a65c_elementData_915e3 2 (some (.object "java/lang/Object")), Cond.fieldLink RJx4a65c 9 "java/util/ArrayList" "elementData" "[Ljava/lang/Object;"]
def wsL_leastShipped : List Cond := .codeWith yL_leastShipped cL_leastShipped 4 (some .int) [(0, 9, 12, 27), (0, 9, 15, 46)] :: ((wsL_leastShipped_r1 ++ wsL_leastShipped_r2) ++ wsX30 ++ wsX70 ++ wsJx4a65c0 ++ (vx_atM "java/lang/ArrayIndexOutOfBoundsException" ["java/lang/IndexOutOfBoundsException", "java/lang/RuntimeException", "java/lang/Exception"]).filter goodWord ++ (vx_atS RX7 114 "java/util/NoSuchElementException" ["java/lang/RuntimeException", "java/lang/Exception"]).filter goodWord ++ (vx_atS RX7 318 "java/lang/IndexOutOfBoundsException" ["java/lang/RuntimeException", "java/lang/Exception"]).filter goodWord)
def wsL_law0_r1 : List Cond := [Cond.classLink RL 8 RX7, Cond.instantiable RX7 8, Cond.initialized RX7, Cond.classLink RL 128 RX8, Cond.instantiable RX8 44, Cond.initialized RX8, Cond.arrayClass .long, Cond.arrayClass .double, Cond.methodLink RL 127 yX7_init, Cond.instanceMethod yX7_init, Cond.code yX7_init cX7_init 1 none, Cond.methodLink RX7 1 objectInit, Cond.instanceMethod objectInit, Cond.code objectInit ⟨#[0xb1]⟩ 1 none, Cond.classLink RX7 7 RJx4a65c, Cond.instantiable RJx4a65c 3, Cond.initialized RJx4a65c, Cond.fieldLink RX7 10 "ColdStore" "rooms" "Ljava/util/ArrayList;", Cond.fieldLink RX7 16 "ColdStore" "kinds" "Ljava/util/ArrayList;", Cond.fieldLink RX7 19 "ColdStore" "pallets" "Ljava/util/ArrayList;", Cond.fieldLink RX7 22 "ColdStore" "orders" "Ljava/util/ArrayList;", Cond.classLink RX7 25 RX0, Cond.instantiable RX0 6, Cond.initialized RX0]
def wsL_law0_r2 : List Cond := [Cond.fieldLink RX7 28 "ColdStore" "contract" "LColdStore$Contract;", Cond.classLink RX7 32 RX2, Cond.instantiable RX2 5, Cond.initialized RX2, Cond.fieldLink RX7 35 "ColdStore" "meter" "LColdStore$Meter;", Cond.fieldLink RX7 39 "ColdStore" "time" "I", Cond.fieldLink RX7 43 "ColdStore" "outside" "I", Cond.methodLink RX7 9 yJx4a65c_init_da8c8, Cond.instanceMethod yJx4a65c_init_da8c8, Cond.code yJx4a65c_init_da8c8 cJx4a65c_init_da8c8 1 none, Cond.fieldLink RJx4a65c 39 "java/util/ArrayList" "DEFAULTCAPACITY_EMPTY_ELEMENTDATA" "[Ljava/lang/Object;", Cond.fieldLink RJx4a65c 9 "java/util/ArrayList" "elementData" "[Ljava/lang/Object;", Cond.methodLink RJx4a65c 1 yJxc12de_init_da8c8, Cond.instanceMethod yJxc12de_init_da8c8, Cond.initialized RJxc12de, Cond.code yJxc12de_init_da8c8 cJxc12de_init_da8c8 1 none, Cond.fieldLink RJxc12de 7 "java/util/AbstractList" "modCount" "I", Cond.methodLink RJxc12de 1 yJxa1e45_init_da8c8, Cond.instanceMethod yJxa1e45_init_da8c8, Cond.initialized RJxa1e45, Cond.code yJxa1e45_init_da8c8 cJxa1e45_init_da8c8 1 none, Cond.methodLink RJxa1e45 1 objectInit, Cond.instanceMethod yX0_init, Cond.code yX0_init cX0_init 1 none]
def wsL_law0_r3 : List Cond := [Cond.methodLink RX0 3 objectInit, Cond.fieldLink RX0 9 "ColdStore$Contract" "normalPrice" "I", Cond.fieldLink RX0 15 "ColdStore$Contract" "peakPrice" "I", Cond.fieldLink RX0 18 "ColdStore$Contract" "firstPeak" "I", Cond.fieldLink RX0 21 "ColdStore$Contract" "lastPeak" "I", Cond.fieldLink RX0 24 "ColdStore$Contract" "charge" "I", Cond.fieldLink RX0 27 "ColdStore$Contract" "limit" "I", Cond.instanceMethod yX2_init, Cond.code yX2_init cX2_init 1 none, Cond.methodLink RX2 3 objectInit, Cond.arrayClass .int, Cond.fieldLink RX2 9 "ColdStore$Meter" "powers" "[I", Cond.fieldLink RX2 15 "ColdStore$Meter" "prices" "[I", Cond.fieldLink RX2 18 "ColdStore$Meter" "latest" "I", Cond.fieldLink RX2 22 "ColdStore$Meter" "greatest" "I", Cond.fieldLink RX2 25 "ColdStore$Meter" "costs" "J", Cond.methodLink RL 130 yX8_init, Cond.instanceMethod yX8_init, Cond.code yX8_init cX8_init 1 none, Cond.methodLink RX8 1 objectInit, Cond.fieldLink RX8 7 "ColdStoreModel" "outside" "I", Cond.fieldLink RX8 13 "ColdStoreModel" "leaks" "[I", Cond.fieldLink RX8 17 "ColdStoreModel" "strengths" "[I", Cond.fieldLink RX8 20 "ColdStoreModel" "powers" "[I"]
def wsL_law0_r4 : List Cond := [Cond.fieldLink RX8 23 "ColdStoreModel" "lowers" "[I", Cond.fieldLink RX8 26 "ColdStoreModel" "uppers" "[I", Cond.fieldLink RX8 29 "ColdStoreModel" "leads" "[I", Cond.fieldLink RX8 32 "ColdStoreModel" "depths" "[I", Cond.arrayClass .char, Cond.fieldLink RX8 35 "ColdStoreModel" "modes" "[C", Cond.fieldLink RX8 39 "ColdStoreModel" "temps" "[I", Cond.arrayClass .boolean, Cond.fieldLink RX8 42 "ColdStoreModel" "wants" "[Z", Cond.fieldLink RX8 46 "ColdStoreModel" "cooled" "[Z", Cond.fieldLink RX8 49 "ColdStoreModel" "isGiven" "[Z", Cond.fieldLink RX8 52 "ColdStoreModel" "warmests" "[I", Cond.fieldLink RX8 55 "ColdStoreModel" "tempSums" "[J", Cond.fieldLink RX8 59 "ColdStoreModel" "ticks" "[I", Cond.fieldLink RX8 62 "ColdStoreModel" "normal" "I", Cond.fieldLink RX8 65 "ColdStoreModel" "peak" "I", Cond.fieldLink RX8 68 "ColdStoreModel" "first" "I", Cond.fieldLink RX8 71 "ColdStoreModel" "last" "I", Cond.fieldLink RX8 74 "ColdStoreModel" "limit" "I", Cond.fieldLink RX8 77 "ColdStoreModel" "lives" "[I", Cond.fieldLink RX8 80 "ColdStoreModel" "bests" "[I", Cond.fieldLink RX8 83 "ColdStoreModel" "lowests" "[I", Cond.fieldLink RX8 86 "ColdStoreModel" "kindOf" "[I", Cond.fieldLink RX8 89 "ColdStoreModel" "roomOf" "[I"]
def wsL_law0_r5 : List Cond := [Cond.fieldLink RX8 92 "ColdStoreModel" "lifeOf" "[I", Cond.fieldLink RX8 95 "ColdStoreModel" "states" "[C", Cond.fieldLink RX8 98 "ColdStoreModel" "orderKinds" "[I", Cond.fieldLink RX8 101 "ColdStoreModel" "counts" "[I", Cond.fieldLink RX8 104 "ColdStoreModel" "promises" "[I", Cond.fieldLink RX8 107 "ColdStoreModel" "dues" "[I", Cond.fieldLink RX8 110 "ColdStoreModel" "orderStates" "[C", Cond.fieldLink RX8 113 "ColdStoreModel" "leasts" "[I", Cond.methodLink RL 131 yX7_now, Cond.instanceMethod yX7_now, Cond.selects RX7 yX7_now yX7_now, Cond.code yX7_now cX7_now 1 (some .int), Cond.methodLink RL 134 yX8_now, Cond.instanceMethod yX8_now, Cond.selects RX8 yX8_now yX8_now, Cond.code yX8_now cX8_now 1 (some .int), Cond.fieldLink RX8 116 "ColdStoreModel" "thrown" "I", Cond.fieldLink RX8 132 "ColdStoreModel" "time" "I", Cond.methodLink RL 135 yL_pass, Cond.static yL_pass, Cond.initialized RL, Cond.codeWith yL_pass cL_pass 4 (some .int) [(0, 9, 12, 13), (0, 9, 15, 15)], Cond.classLink RL 13 "java/lang/IllegalArgumentException", Cond.classLink RL 15 "java/lang/IllegalStateException"]
def wsL_law0_r6 : List Cond := [Cond.methodLink RL 7 yX7_pass, Cond.instanceMethod yX7_pass, Cond.selects RX7 yX7_pass yX7_pass, Cond.code yX7_pass cX7_pass 4 (some .int), Cond.classLink RX7 50 "java/lang/IllegalStateException", Cond.initialized "java/lang/IllegalStateException", Cond.methodLink RX7 46 yX7_requireRange, Cond.static yX7_requireRange, Cond.code yX7_requireRange cX7_requireRange 3 none, Cond.classLink RX7 85 "java/lang/IllegalArgumentException", Cond.initialized "java/lang/IllegalArgumentException", Cond.methodLink RX7 57 yX7_passOneTick, Cond.instanceMethod yX7_passOneTick, Cond.selects RX7 yX7_passOneTick yX7_passOneTick, Cond.code yX7_passOneTick cX7_passOneTick 4 (some .int), Cond.classLink RX7 66 "ColdStore$Room", Cond.classLink RX7 178 "ColdStore$Pallet", Cond.methodLink RX7 61 yJx4a65c_size_8abf5, Cond.instanceMethod yJx4a65c_size_8abf5, Cond.selects RJx4a65c yJx4a65c_size_8abf5 yJx4a65c_size_8abf5, Cond.code yJx4a65c_size_8abf5 cJx4a65c_size_8abf5 1 (some .int), Cond.fieldLink RJx4a65c 48 "java/util/ArrayList" "size" "I", Cond.methodLink RX7 234 yJx4a65c_get_915e3, Cond.instanceMethod yJx4a65c_get_915e3]
def wsL_law0_r7 : List Cond := [Cond.selects RJx4a65c yJx4a65c_get_915e3 yJx4a65c_get_915e3, Cond.code yJx4a65c_get_915e3 cJx4a65c_get_915e3 2 (some (.object "java/lang/Object")), Cond.methodLink RJx4a65c 118 yJ15_checkIndex_7cf53, Cond.static yJ15_checkIndex_7cf53, Cond.initialized RJ15, Cond.code yJ15_checkIndex_7cf53 cJ15_checkIndex_7cf53 2 (some .int), Cond.methodLink RJ15 105 yJ3_checkIndex_8e157, Cond.static yJ3_checkIndex_8e157, Cond.initialized RJ3, Cond.code yJ3_checkIndex_8e157 cJ3_checkIndex_8e157 3 (some .int), Cond.methodLink RJx4a65c 123 yJx4a65c_elementData_915e3, Cond.instanceMethod yJx4a65c_elementData_915e3, Cond.selects RJx4a65c yJx4a65c_elementData_915e3 yJx4a65c_elementData_915e3, Cond.code yJx4a65c_elementData_915e3 cJx4a65c_elementData_915e3 2 (some (.object "java/lang/Object")), Cond.methodLink RX7 331 yX5_decide, Cond.instanceMethod yX5_decide, Cond.selects RX5 yX5_decide yX5_decide, Cond.initialized RX5, Cond.code yX5_decide cX5_decide 4 none, Cond.fieldLink RX5 22 "ColdStore$Room" "mode" "C", Cond.fieldLink RX5 32 "ColdStore$Room" "wanting" "Z", Cond.fieldLink RX5 63 "ColdStore$Room" "degrees" "I", Cond.fieldLink RX5 19 "ColdStore$Room" "upper" "I", Cond.fieldLink RX5 15 "ColdStore$Room" "lower" "I"]
def wsL_law0_r8 : List Cond := [Cond.methodLink RX5 66 yX5_shiftIn, Cond.instanceMethod yX5_shiftIn, Cond.selects RX5 yX5_shiftIn yX5_shiftIn, Cond.code yX5_shiftIn cX5_shiftIn 3 (some .int), Cond.fieldLink RX5 29 "ColdStore$Room" "leadDepth" "I", Cond.fieldLink RX5 26 "ColdStore$Room" "leadTicks" "I", Cond.methodLink RX5 70 yX0_isPeak, Cond.instanceMethod yX0_isPeak, Cond.selects RX0 yX0_isPeak yX0_isPeak, Cond.code yX0_isPeak cX0_isPeak 2 (some .boolean), Cond.methodLink RX5 76 yX0_isAheadOfPeak, Cond.instanceMethod yX0_isAheadOfPeak, Cond.selects RX0 yX0_isAheadOfPeak yX0_isAheadOfPeak, Cond.code yX0_isAheadOfPeak cX0_isAheadOfPeak 3 (some .boolean), Cond.methodLink RX7 335 yX7_givePower, Cond.instanceMethod yX7_givePower, Cond.selects RX7 yX7_givePower yX7_givePower, Cond.code yX7_givePower cX7_givePower 4 (some .int), Cond.fieldLink RX7 103 "ColdStore$Room" "cooled" "Z", Cond.fieldLink RX7 354 "ColdStore$Room" "wanting" "Z", Cond.fieldLink RX7 357 "ColdStore$Room" "waiting" "Z", Cond.fieldLink RX7 364 "ColdStore$Room" "kilowatts" "I", Cond.fieldLink RX7 143 "ColdStore$Contract" "limit" "I", Cond.methodLink RX7 360 yX7_nextWaitingRoom]
def wsL_law0_r9 : List Cond := [Cond.instanceMethod yX7_nextWaitingRoom, Cond.selects RX7 yX7_nextWaitingRoom yX7_nextWaitingRoom, Cond.code yX7_nextWaitingRoom cX7_nextWaitingRoom 4 (some (.object "ColdStore$Room")), Cond.methodLink RX7 367 yX5_excess, Cond.instanceMethod yX5_excess, Cond.selects RX5 yX5_excess yX5_excess, Cond.code yX5_excess cX5_excess 1 (some .int), Cond.methodLink RX7 338 yX5_changeTemperature, Cond.instanceMethod yX5_changeTemperature, Cond.selects RX5 yX5_changeTemperature yX5_changeTemperature, Cond.code yX5_changeTemperature cX5_changeTemperature 4 none, Cond.fieldLink RX5 54 "ColdStore$Room" "leak" "I", Cond.fieldLink RX5 39 "ColdStore$Room" "cooled" "Z", Cond.fieldLink RX5 57 "ColdStore$Room" "strength" "I", Cond.methodLink RX5 80 Lib.Math.max.name, Cond.static Lib.Math.max.name, Cond.initialized "java/lang/Math", Cond.code Lib.Math.max.name Lib.Math.max.code 2 (some .int), Cond.fieldLink RX5 9 "ColdStore$Room" "records" "[I", Cond.fieldLink RX5 42 "ColdStore$Room" "ticks" "I", Cond.fieldLink RX5 45 "ColdStore$Room" "sum" "I", Cond.fieldLink RX5 48 "ColdStore$Room" "greatest" "I", Cond.methodLink RX7 342 yX0_priceIn, Cond.instanceMethod yX0_priceIn]
def wsL_law0_r10 : List Cond := [Cond.selects RX0 yX0_priceIn yX0_priceIn, Cond.code yX0_priceIn cX0_priceIn 2 (some .int), Cond.methodLink RX0 30 yX0_isPeak, Cond.methodLink RX7 345 yX2_record, Cond.instanceMethod yX2_record, Cond.selects RX2 yX2_record yX2_record, Cond.code yX2_record cX2_record 4 none, Cond.methodLink RX2 29 Lib.Math.max.name, Cond.methodLink RX7 348 yX4_loseLife, Cond.instanceMethod yX4_loseLife, Cond.selects RX4 yX4_loseLife yX4_loseLife, Cond.initialized RX4, Cond.code yX4_loseLife cX4_loseLife 1 none, Cond.fieldLink RX4 40 "ColdStore$Pallet" "lifeLeft" "I", Cond.fieldLink RX4 22 "ColdStore$Pallet" "kind" "LColdStore$Kind;", Cond.fieldLink RX4 31 "ColdStore$Pallet" "stay" "LColdStore$Stay;", Cond.fieldLink RX4 53 "ColdStore$Stay" "room" "LColdStore$Room;", Cond.fieldLink RX4 57 "ColdStore$Room" "degrees" "I", Cond.methodLink RX4 66 Lib.Math.max.name, Cond.methodLink RX4 49 yX4_isInRoom, Cond.instanceMethod yX4_isInRoom, Cond.selects RX4 yX4_isInRoom yX4_isInRoom, Cond.code yX4_isInRoom cX4_isInRoom 1 (some .boolean), Cond.fieldLink RX4 9 "ColdStore$Pallet" "status" "C"]
def wsL_law0_r11 : List Cond := [Cond.methodLink RX4 62 yX1_lossAt, Cond.instanceMethod yX1_lossAt, Cond.selects RX1 yX1_lossAt yX1_lossAt, Cond.initialized RX1, Cond.code yX1_lossAt cX1_lossAt 2 (some .int), Cond.fieldLink RX1 16 "ColdStore$Kind" "lowest" "I", Cond.fieldLink RX1 13 "ColdStore$Kind" "best" "I", Cond.methodLink RX7 351 yX7_settleDueOrders, Cond.instanceMethod yX7_settleDueOrders, Cond.selects RX7 yX7_settleDueOrders yX7_settleDueOrders, Cond.code yX7_settleDueOrders cX7_settleDueOrders 4 (some .int), Cond.classLink RX7 256 "ColdStore$Order", Cond.fieldLink RX7 269 "ColdStore$Order" "status" "C", Cond.fieldLink RX7 370 "ColdStore$Order" "due" "I", Cond.methodLink RX7 283 yX7_canBeShipped, Cond.instanceMethod yX7_canBeShipped, Cond.selects RX7 yX7_canBeShipped yX7_canBeShipped, Cond.code yX7_canBeShipped cX7_canBeShipped 2 (some .boolean), Cond.fieldLink RX7 376 "ColdStore$Order" "count" "I", Cond.methodLink RX7 273 yX7_countCandidates, Cond.instanceMethod yX7_countCandidates, Cond.selects RX7 yX7_countCandidates yX7_countCandidates, Cond.code yX7_countCandidates cX7_countCandidates 4 (some .int), Cond.methodLink RX7 373 yX3_accepts]
def wsL_law0_r12 : List Cond := [Cond.instanceMethod yX3_accepts, Cond.selects RX3 yX3_accepts yX3_accepts, Cond.initialized RX3, Cond.code yX3_accepts cX3_accepts 2 (some .boolean), Cond.fieldLink RX3 38 "ColdStore$Pallet" "kind" "LColdStore$Kind;", Cond.fieldLink RX3 19 "ColdStore$Order" "kind" "LColdStore$Kind;", Cond.fieldLink RX3 39 "ColdStore$Pallet" "lifeLeft" "I", Cond.fieldLink RX3 26 "ColdStore$Order" "promise" "I", Cond.methodLink RX3 32 yX4_isInRoom, Cond.methodLink RX7 292 yX7_shipCandidates, Cond.instanceMethod yX7_shipCandidates, Cond.selects RX7 yX7_shipCandidates yX7_shipCandidates, Cond.code yX7_shipCandidates cX7_shipCandidates 5 (some .int), Cond.fieldLink RX7 212 "ColdStore$Pallet" "lifeLeft" "I", Cond.fieldLink RX7 297 "ColdStore$Order" "leastLife" "I", Cond.methodLink RX7 379 yX7_nextCandidate, Cond.instanceMethod yX7_nextCandidate, Cond.selects RX7 yX7_nextCandidate yX7_nextCandidate, Cond.code yX7_nextCandidate cX7_nextCandidate 7 (some (.object "ColdStore$Pallet")), Cond.methodLink RX7 242 yX4_isAheadOf, Cond.instanceMethod yX4_isAheadOf, Cond.selects RX4 yX4_isAheadOf yX4_isAheadOf, Cond.code yX4_isAheadOf cX4_isAheadOf 2 (some .boolean), Cond.fieldLink RX4 19 "ColdStore$Pallet" "number" "I"]
def wsL_law0_r13 : List Cond := [Cond.methodLink RX7 208 yX4_leave, Cond.instanceMethod yX4_leave, Cond.selects RX4 yX4_leave yX4_leave, Cond.code yX4_leave cX4_leave 3 none, Cond.fieldLink RX4 15 "ColdStore$Pallet" "leftAt" "I", Cond.methodLink RL 140 yX8_pass, Cond.instanceMethod yX8_pass, Cond.selects RX8 yX8_pass yX8_pass, Cond.code yX8_pass cX8_pass 4 (some .int), Cond.methodLink RX8 122 yX8_in, Cond.static yX8_in, Cond.code yX8_in cX8_in 3 (some .boolean), Cond.methodLink RX8 178 yX8_tick, Cond.instanceMethod yX8_tick, Cond.selects RX8 yX8_tick yX8_tick, Cond.code yX8_tick cX8_tick 4 (some .int), Cond.fieldLink RX8 119 "ColdStoreModel" "rooms" "I", Cond.fieldLink RX8 161 "ColdStoreModel" "powerMost" "I", Cond.fieldLink RX8 139 "ColdStoreModel" "powerNow" "I", Cond.methodLink RX8 146 Lib.Math.max.name, Cond.fieldLink RX8 164 "ColdStoreModel" "costs" "J", Cond.fieldLink RX8 126 "ColdStoreModel" "pallets" "I", Cond.fieldLink RX8 129 "ColdStoreModel" "orders" "I", Cond.methodLink RX8 152 yX8_wishes]
def wsL_law0_r14 : List Cond := [Cond.instanceMethod yX8_wishes, Cond.selects RX8 yX8_wishes yX8_wishes, Cond.code yX8_wishes cX8_wishes 3 none, Cond.methodLink RX8 135 yX8_isPeak, Cond.instanceMethod yX8_isPeak, Cond.selects RX8 yX8_isPeak yX8_isPeak, Cond.code yX8_isPeak cX8_isPeak 1 (some .boolean), Cond.methodLink RX8 156 yX8_powers, Cond.instanceMethod yX8_powers, Cond.selects RX8 yX8_powers yX8_powers, Cond.code yX8_powers cX8_powers 2 none, Cond.methodLink RX8 142 yX8_next, Cond.instanceMethod yX8_next, Cond.selects RX8 yX8_next yX8_next, Cond.code yX8_next cX8_next 4 (some .int), Cond.methodLink RX8 158 yX8_warms, Cond.instanceMethod yX8_warms, Cond.selects RX8 yX8_warms yX8_warms, Cond.code yX8_warms cX8_warms 2 none, Cond.methodLink RX8 168 yX8_loss, Cond.instanceMethod yX8_loss, Cond.selects RX8 yX8_loss yX8_loss, Cond.code yX8_loss cX8_loss 4 (some .int), Cond.methodLink RX8 171 yX8_candidatesOf]
def wsL_law0_r15 : List Cond := [Cond.instanceMethod yX8_candidatesOf, Cond.selects RX8 yX8_candidatesOf yX8_candidatesOf, Cond.code yX8_candidatesOf cX8_candidatesOf 4 (some .int), Cond.methodLink RX8 207 yX8_isCandidate, Cond.instanceMethod yX8_isCandidate, Cond.selects RX8 yX8_isCandidate yX8_isCandidate, Cond.code yX8_isCandidate cX8_isCandidate 3 (some .boolean), Cond.methodLink RX8 175 yX8_ships, Cond.instanceMethod yX8_ships, Cond.selects RX8 yX8_ships yX8_ships, Cond.code yX8_ships cX8_ships 5 (some .int), Cond.methodLink RX8 211 yX8_candidate, Cond.instanceMethod yX8_candidate, Cond.selects RX8 yX8_candidate yX8_candidate, Cond.code yX8_candidate cX8_candidate 6 (some .int), Cond.methodLink RL 141 yX8_thrown, Cond.instanceMethod yX8_thrown, Cond.selects RX8 yX8_thrown yX8_thrown, Cond.code yX8_thrown cX8_thrown 1 (some .int), Cond.methodLink RL 144 yL_setOutside, Cond.static yL_setOutside, Cond.codeWith yL_setOutside cL_setOutside 4 (some .int) [(0, 9, 12, 13)], Cond.methodLink RL 17 yX7_setOutside, Cond.instanceMethod yX7_setOutside]
def wsL_law0_r16 : List Cond := [Cond.selects RX7 yX7_setOutside yX7_setOutside, Cond.code yX7_setOutside cX7_setOutside 3 (some .int), Cond.methodLink RL 146 yX8_setOutside, Cond.instanceMethod yX8_setOutside, Cond.selects RX8 yX8_setOutside yX8_setOutside, Cond.code yX8_setOutside cX8_setOutside 3 (some .int), Cond.methodLink RL 147 yL_addRoom, Cond.static yL_addRoom, Cond.codeWith yL_addRoom cL_addRoom 6 (some .int) [(0, 12, 15, 13), (0, 12, 19, 15)], Cond.methodLink RL 20 yX7_addRoom, Cond.instanceMethod yX7_addRoom, Cond.selects RX7 yX7_addRoom yX7_addRoom, Cond.code yX7_addRoom cX7_addRoom 5 (some .int), Cond.classLink RX7 66 RX5, Cond.instantiable RX5 17, Cond.methodLink RX7 68 yX5_init, Cond.instanceMethod yX5_init, Cond.code yX5_init cX5_init 6 none, Cond.methodLink RX5 3 objectInit, Cond.fieldLink RX5 36 "ColdStore$Room" "waiting" "Z", Cond.fieldLink RX5 51 "ColdStore$Room" "number" "I", Cond.fieldLink RX5 60 "ColdStore$Room" "kilowatts" "I", Cond.methodLink RX7 71 yJx4a65c_add_9ea2d, Cond.instanceMethod yJx4a65c_add_9ea2d]
def wsL_law0_r17 : List Cond := [Cond.selects RJx4a65c yJx4a65c_add_9ea2d yJx4a65c_add_9ea2d, Cond.code yJx4a65c_add_9ea2d cJx4a65c_add_9ea2d 2 (some .boolean), Cond.fieldLink RJx4a65c 63 "java/util/ArrayList" "modCount" "I", Cond.sameField "java/util/ArrayList" "java/util/AbstractList" "modCount" "I", Cond.methodLink RJx4a65c 131 yJx4a65c_add_72be8, Cond.instanceMethod yJx4a65c_add_72be8, Cond.selects RJx4a65c yJx4a65c_add_72be8 yJx4a65c_add_72be8, Cond.code yJx4a65c_add_72be8 cJx4a65c_add_72be8 4 none, Cond.methodLink RJx4a65c 129 yJx4a65c_grow_d5877, Cond.instanceMethod yJx4a65c_grow_d5877, Cond.selects RJx4a65c yJx4a65c_grow_d5877 yJx4a65c_grow_d5877, Cond.code yJx4a65c_grow_d5877 cJx4a65c_grow_d5877 1 (some (.array (.object "java/lang/Object"))), Cond.methodLink RJx4a65c 69 yJx4a65c_grow_92f84, Cond.instanceMethod yJx4a65c_grow_92f84, Cond.selects RJx4a65c yJx4a65c_grow_92f84 yJx4a65c_grow_92f84, Cond.code yJx4a65c_grow_92f84 cJx4a65c_grow_92f84 4 (some (.array (.object "java/lang/Object"))), Cond.methodLink RJx4a65c 79 Lib.Math.max.name, Cond.classLink RJx4a65c 7 "java/lang/Object", Cond.methodLink RJx4a65c 73 yJ8_newLength_cabcc, Cond.static yJ8_newLength_cabcc, Cond.initialized RJ8, Cond.code yJ8_newLength_cabcc cJ8_newLength_cabcc 4 (some .int), Cond.methodLink RJ8 194 Lib.Math.max.name, Cond.constant RJ8 200 (2147483639)]
def wsL_law0_r18 : List Cond := [Cond.methodLink RJ8 201 yJ8_hugeLength_7cf53, Cond.static yJ8_hugeLength_7cf53, Cond.code yJ8_hugeLength_7cf53 cJ8_hugeLength_7cf53 3 (some .int), Cond.methodLink RJx4a65c 66 yJ7_copyOf_1904c, Cond.static yJ7_copyOf_1904c, Cond.initialized RJ7, Cond.code yJ7_copyOf_1904c cJ7_copyOf_1904c 2 (some (.array (.object "java/lang/Object"))), Cond.methodLink RJ7 86 ⟨"java/lang/Object", "getClass", "()Ljava/lang/Class;"⟩, Cond.selects "[Ljava/lang/Object;" ⟨"java/lang/Object", "getClass", "()Ljava/lang/Class;"⟩ ⟨"java/lang/Object", "getClass", "()Ljava/lang/Class;"⟩, Cond.instanceMethod ⟨"java/lang/Object", "getClass", "()Ljava/lang/Class;"⟩, Cond.native ⟨"java/lang/Object", "getClass", "()Ljava/lang/Class;"⟩, Cond.methodLink RJ7 300 yJ7_copyOf_6403c, Cond.static yJ7_copyOf_6403c, Cond.code yJ7_copyOf_6403c cJ7_copyOf_6403c 4 (some (.array (.object "java/lang/Object"))), Cond.classLink RJ7 110 "[Ljava/lang/Object;", Cond.classLink RJ7 2 "java/lang/Object", Cond.methodLink RJ7 304 Lib.Math.min.name, Cond.static Lib.Math.min.name, Cond.code Lib.Math.min.name Lib.Math.min.code 2 (some .int), Cond.methodLink RJ7 150 arraycopyName, Cond.native arraycopyName, Cond.static arraycopyName, Cond.initialized "java/lang/System", Cond.methodLink RL 150 yX8_addRoom]
def wsL_law0_r19 : List Cond := [Cond.instanceMethod yX8_addRoom, Cond.selects RX8 yX8_addRoom yX8_addRoom, Cond.code yX8_addRoom cX8_addRoom 4 (some .int), Cond.methodLink RL 151 yL_setLimits, Cond.static yL_setLimits, Cond.codeWith yL_setLimits cL_setLimits 6 (some .int) [(0, 12, 15, 27), (0, 12, 19, 13)], Cond.classLink RL 27 "java/lang/IndexOutOfBoundsException", Cond.methodLink RL 24 yX7_setLimits, Cond.instanceMethod yX7_setLimits, Cond.selects RX7 yX7_setLimits yX7_setLimits, Cond.code yX7_setLimits cX7_setLimits 6 (some .int), Cond.fieldLink RX7 79 "ColdStore$Room" "lower" "I", Cond.fieldLink RX7 82 "ColdStore$Room" "upper" "I", Cond.methodLink RX7 75 yX7_findRoom, Cond.instanceMethod yX7_findRoom, Cond.selects RX7 yX7_findRoom yX7_findRoom, Cond.code yX7_findRoom cX7_findRoom 2 (some (.object "ColdStore$Room")), Cond.classLink RX7 314 "java/lang/IndexOutOfBoundsException", Cond.initialized "java/lang/IndexOutOfBoundsException", Cond.methodLink RL 153 yX8_setLimits, Cond.instanceMethod yX8_setLimits, Cond.selects RX8 yX8_setLimits yX8_setLimits, Cond.code yX8_setLimits cX8_setLimits 5 (some .int), Cond.methodLink RX8 181 yX8_isRoom]
def wsL_law0_r20 : List Cond := [Cond.instanceMethod yX8_isRoom, Cond.selects RX8 yX8_isRoom yX8_isRoom, Cond.code yX8_isRoom cX8_isRoom 2 (some .boolean), Cond.methodLink RL 154 yL_setMode, Cond.static yL_setMode, Cond.codeWith yL_setMode cL_setMode 5 (some .int) [(0, 10, 13, 27), (0, 10, 17, 13)], Cond.methodLink RL 29 yX7_setMode, Cond.instanceMethod yX7_setMode, Cond.selects RX7 yX7_setMode yX7_setMode, Cond.code yX7_setMode cX7_setMode 5 (some .char), Cond.fieldLink RX7 90 "ColdStore$Room" "mode" "C", Cond.methodLink RL 157 yX8_setMode, Cond.instanceMethod yX8_setMode, Cond.selects RX8 yX8_setMode yX8_setMode, Cond.code yX8_setMode cX8_setMode 4 (some .char), Cond.methodLink RL 158 yL_setLead, Cond.static yL_setLead, Cond.codeWith yL_setLead cL_setLead 6 (some .int) [(0, 12, 15, 27), (0, 12, 19, 13)], Cond.methodLink RL 33 yX7_setLead, Cond.instanceMethod yX7_setLead, Cond.selects RX7 yX7_setLead yX7_setLead, Cond.code yX7_setLead cX7_setLead 6 (some .int), Cond.fieldLink RX7 94 "ColdStore$Room" "leadTicks" "I", Cond.fieldLink RX7 97 "ColdStore$Room" "leadDepth" "I"]
def wsL_law0_r21 : List Cond := [Cond.methodLink RL 160 yX8_setLead, Cond.instanceMethod yX8_setLead, Cond.selects RX8 yX8_setLead yX8_setLead, Cond.code yX8_setLead cX8_setLead 5 (some .int), Cond.methodLink RL 161 yL_temperature, Cond.static yL_temperature, Cond.codeWith yL_temperature cL_temperature 4 (some .int) [(0, 9, 12, 27)], Cond.methodLink RL 36 yX7_temperature, Cond.instanceMethod yX7_temperature, Cond.selects RX7 yX7_temperature yX7_temperature, Cond.code yX7_temperature cX7_temperature 2 (some .int), Cond.fieldLink RX7 100 "ColdStore$Room" "degrees" "I", Cond.methodLink RL 163 yX8_temperature, Cond.instanceMethod yX8_temperature, Cond.selects RX8 yX8_temperature yX8_temperature, Cond.code yX8_temperature cX8_temperature 2 (some .int), Cond.methodLink RL 164 yL_isCooled, Cond.static yL_isCooled, Cond.codeWith yL_isCooled cL_isCooled 4 (some .int) [(0, 16, 19, 27)], Cond.methodLink RL 39 yX7_isCooled, Cond.instanceMethod yX7_isCooled, Cond.selects RX7 yX7_isCooled yX7_isCooled, Cond.code yX7_isCooled cX7_isCooled 2 (some .boolean), Cond.methodLink RL 166 yX8_isCooled]
def wsL_law0_r22 : List Cond := [Cond.instanceMethod yX8_isCooled, Cond.selects RX8 yX8_isCooled yX8_isCooled, Cond.code yX8_isCooled cX8_isCooled 2 (some .boolean), Cond.methodLink RL 167 yL_warmest, Cond.static yL_warmest, Cond.codeWith yL_warmest cL_warmest 4 (some .int) [(0, 9, 12, 27), (0, 9, 15, 46)], Cond.classLink RL 46 "java/util/NoSuchElementException", Cond.methodLink RL 43 yX7_warmest, Cond.instanceMethod yX7_warmest, Cond.selects RX7 yX7_warmest yX7_warmest, Cond.code yX7_warmest cX7_warmest 3 (some .int), Cond.classLink RX7 110 "java/util/NoSuchElementException", Cond.initialized "java/util/NoSuchElementException", Cond.fieldLink RX7 107 "ColdStore$Room" "ticks" "I", Cond.fieldLink RX7 115 "ColdStore$Room" "greatest" "I", Cond.methodLink RL 169 yX8_warmest, Cond.instanceMethod yX8_warmest, Cond.selects RX8 yX8_warmest yX8_warmest, Cond.code yX8_warmest cX8_warmest 2 (some .int), Cond.methodLink RL 170 yL_meanTemperature, Cond.static yL_meanTemperature, Cond.codeWith yL_meanTemperature cL_meanTemperature 4 (some .int) [(0, 8, 11, 27), (0, 8, 14, 52)], Cond.classLink RL 52 "java/lang/ArithmeticException", Cond.methodLink RL 48 yX7_meanTemperature]
def wsL_law0_r23 : List Cond := [Cond.instanceMethod yX7_meanTemperature, Cond.selects RX7 yX7_meanTemperature yX7_meanTemperature, Cond.code yX7_meanTemperature cX7_meanTemperature 3 (some .double), Cond.classLink RX7 118 "java/lang/ArithmeticException", Cond.initialized "java/lang/ArithmeticException", Cond.fieldLink RX7 121 "ColdStore$Room" "sum" "I", Cond.methodLink RL 173 yX8_meanTemperature, Cond.instanceMethod yX8_meanTemperature, Cond.selects RX8 yX8_meanTemperature yX8_meanTemperature, Cond.code yX8_meanTemperature cX8_meanTemperature 2 (some .double), Cond.methodLink RL 174 yL_freeSpace, Cond.static yL_freeSpace, Cond.codeWith yL_freeSpace cL_freeSpace 4 (some .int) [(0, 9, 12, 27)], Cond.methodLink RL 54 yX7_freeSpace, Cond.instanceMethod yX7_freeSpace, Cond.selects RX7 yX7_freeSpace yX7_freeSpace, Cond.code yX7_freeSpace cX7_freeSpace 2 (some .int), Cond.methodLink RX7 124 yX7_spaceIn, Cond.instanceMethod yX7_spaceIn, Cond.selects RX7 yX7_spaceIn yX7_spaceIn, Cond.code yX7_spaceIn cX7_spaceIn 5 (some .int), Cond.fieldLink RX7 191 "ColdStore$Pallet" "stay" "LColdStore$Stay;", Cond.fieldLink RX7 195 "ColdStore$Stay" "room" "LColdStore$Room;", Cond.methodLink RX7 238 yX4_isInRoom]
def wsL_law0_r24 : List Cond := [Cond.methodLink RL 176 yX8_freeSpace, Cond.instanceMethod yX8_freeSpace, Cond.selects RX8 yX8_freeSpace yX8_freeSpace, Cond.code yX8_freeSpace cX8_freeSpace 2 (some .int), Cond.methodLink RX8 185 yX8_filled, Cond.instanceMethod yX8_filled, Cond.selects RX8 yX8_filled yX8_filled, Cond.code yX8_filled cX8_filled 4 (some .int), Cond.methodLink RL 177 yL_setPrices, Cond.static yL_setPrices, Cond.codeWith yL_setPrices cL_setPrices 7 (some .int) [(0, 14, 17, 13)], Cond.methodLink RL 57 yX7_setPrices, Cond.instanceMethod yX7_setPrices, Cond.selects RX7 yX7_setPrices yX7_setPrices, Cond.code yX7_setPrices cX7_setPrices 6 (some .int), Cond.fieldLink RX7 128 "ColdStore$Contract" "normalPrice" "I", Cond.fieldLink RX7 131 "ColdStore$Contract" "peakPrice" "I", Cond.fieldLink RX7 134 "ColdStore$Contract" "firstPeak" "I", Cond.fieldLink RX7 137 "ColdStore$Contract" "lastPeak" "I", Cond.methodLink RL 180 yX8_setPrices, Cond.instanceMethod yX8_setPrices, Cond.selects RX8 yX8_setPrices yX8_setPrices, Cond.code yX8_setPrices cX8_setPrices 6 (some .int), Cond.methodLink RL 181 yL_setCharge]
def wsL_law0_r25 : List Cond := [Cond.static yL_setCharge, Cond.codeWith yL_setCharge cL_setCharge 4 (some .int) [(0, 9, 12, 13)], Cond.methodLink RL 61 yX7_setCharge, Cond.instanceMethod yX7_setCharge, Cond.selects RX7 yX7_setCharge yX7_setCharge, Cond.code yX7_setCharge cX7_setCharge 3 (some .int), Cond.fieldLink RX7 140 "ColdStore$Contract" "charge" "I", Cond.methodLink RL 183 yX8_setCharge, Cond.instanceMethod yX8_setCharge, Cond.selects RX8 yX8_setCharge yX8_setCharge, Cond.code yX8_setCharge cX8_setCharge 3 (some .int), Cond.fieldLink RX8 188 "ColdStoreModel" "charge" "I", Cond.methodLink RL 184 yL_setPowerLimit, Cond.static yL_setPowerLimit, Cond.codeWith yL_setPowerLimit cL_setPowerLimit 4 (some .int) [(0, 9, 12, 13)], Cond.methodLink RL 64 yX7_setPowerLimit, Cond.instanceMethod yX7_setPowerLimit, Cond.selects RX7 yX7_setPowerLimit yX7_setPowerLimit, Cond.code yX7_setPowerLimit cX7_setPowerLimit 3 (some .int), Cond.methodLink RL 186 yX8_setPowerLimit, Cond.instanceMethod yX8_setPowerLimit, Cond.selects RX8 yX8_setPowerLimit yX8_setPowerLimit, Cond.code yX8_setPowerLimit cX8_setPowerLimit 3 (some .int), Cond.methodLink RL 187 yX7_power]
def wsL_law0_r26 : List Cond := [Cond.instanceMethod yX7_power, Cond.selects RX7 yX7_power yX7_power, Cond.code yX7_power cX7_power 1 (some .int), Cond.fieldLink RX7 146 "ColdStore$Meter" "latest" "I", Cond.methodLink RL 190 yX8_power, Cond.instanceMethod yX8_power, Cond.selects RX8 yX8_power yX8_power, Cond.code yX8_power cX8_power 1 (some .int), Cond.methodLink RL 191 yX7_greatestPower, Cond.instanceMethod yX7_greatestPower, Cond.selects RX7 yX7_greatestPower yX7_greatestPower, Cond.code yX7_greatestPower cX7_greatestPower 1 (some .int), Cond.fieldLink RX7 149 "ColdStore$Meter" "greatest" "I", Cond.methodLink RL 194 yX8_greatestPower, Cond.instanceMethod yX8_greatestPower, Cond.selects RX8 yX8_greatestPower yX8_greatestPower, Cond.code yX8_greatestPower cX8_greatestPower 1 (some .int), Cond.methodLink RL 195 yX7_bill, Cond.instanceMethod yX7_bill, Cond.selects RX7 yX7_bill yX7_bill, Cond.code yX7_bill cX7_bill 1 (some .long), Cond.fieldLink RX7 150 "ColdStore$Meter" "costs" "J", Cond.methodLink RL 199 yX8_bill, Cond.instanceMethod yX8_bill]
def wsL_law0_r27 : List Cond := [Cond.selects RX8 yX8_bill yX8_bill, Cond.code yX8_bill cX8_bill 1 (some .long), Cond.methodLink RL 200 yX7_billByRecords, Cond.instanceMethod yX7_billByRecords, Cond.selects RX7 yX7_billByRecords yX7_billByRecords, Cond.code yX7_billByRecords cX7_billByRecords 1 (some .long), Cond.methodLink RX7 154 yX2_recordedCosts, Cond.instanceMethod yX2_recordedCosts, Cond.selects RX2 yX2_recordedCosts yX2_recordedCosts, Cond.code yX2_recordedCosts cX2_recordedCosts 5 (some .long), Cond.methodLink RX7 158 yX2_recordedGreatest, Cond.instanceMethod yX2_recordedGreatest, Cond.selects RX2 yX2_recordedGreatest yX2_recordedGreatest, Cond.code yX2_recordedGreatest cX2_recordedGreatest 4 (some .int), Cond.methodLink RL 203 yX8_billByRecords, Cond.instanceMethod yX8_billByRecords, Cond.selects RX8 yX8_billByRecords yX8_billByRecords, Cond.code yX8_billByRecords cX8_billByRecords 1 (some .long), Cond.methodLink RX8 191 yX8_bill, Cond.methodLink RL 204 yL_addKind, Cond.static yL_addKind, Cond.codeWith yL_addKind cL_addKind 6 (some .int) [(0, 12, 15, 13), (0, 12, 19, 15)], Cond.methodLink RL 67 yX7_addKind, Cond.instanceMethod yX7_addKind]
def wsL_law0_r28 : List Cond := [Cond.selects RX7 yX7_addKind yX7_addKind, Cond.code yX7_addKind cX7_addKind 4 (some .int), Cond.classLink RX7 164 RX1, Cond.instantiable RX1 3, Cond.methodLink RX7 166 yX1_init, Cond.instanceMethod yX1_init, Cond.code yX1_init cX1_init 4 none, Cond.methodLink RX1 1 objectInit, Cond.fieldLink RX1 7 "ColdStore$Kind" "fullLife" "I", Cond.methodLink RL 206 yX8_addKind, Cond.instanceMethod yX8_addKind, Cond.selects RX8 yX8_addKind yX8_addKind, Cond.code yX8_addKind cX8_addKind 4 (some .int), Cond.fieldLink RX8 195 "ColdStoreModel" "kinds" "I", Cond.methodLink RL 207 yL_addPallet, Cond.static yL_addPallet, Cond.codeWith yL_addPallet cL_addPallet 5 (some .int) [(0, 10, 13, 27), (0, 10, 17, 15)], Cond.methodLink RL 70 yX7_addPallet, Cond.instanceMethod yX7_addPallet, Cond.selects RX7 yX7_addPallet yX7_addPallet, Cond.code yX7_addPallet cX7_addPallet 6 (some .int), Cond.classLink RX7 178 RX4, Cond.instantiable RX4 6, Cond.methodLink RX7 168 yX7_findKind]
def wsL_law0_r29 : List Cond := [Cond.instanceMethod yX7_findKind, Cond.selects RX7 yX7_findKind yX7_findKind, Cond.code yX7_findKind cX7_findKind 2 (some (.object "ColdStore$Kind")), Cond.classLink RX7 164 "ColdStore$Kind", Cond.methodLink RX7 174 yX7_requireSpace, Cond.instanceMethod yX7_requireSpace, Cond.selects RX7 yX7_requireSpace yX7_requireSpace, Cond.code yX7_requireSpace cX7_requireSpace 2 none, Cond.methodLink RX7 180 yX4_init, Cond.instanceMethod yX4_init, Cond.code yX4_init cX4_init 5 none, Cond.methodLink RX4 3 objectInit, Cond.classLink RX4 26 RX6, Cond.instantiable RX6 3, Cond.initialized RX6, Cond.fieldLink RX4 35 "ColdStore$Kind" "fullLife" "I", Cond.methodLink RX4 28 yX6_init, Cond.instanceMethod yX6_init, Cond.code yX6_init cX6_init 4 none, Cond.methodLink RX6 1 objectInit, Cond.fieldLink RX6 7 "ColdStore$Stay" "room" "LColdStore$Room;", Cond.fieldLink RX6 13 "ColdStore$Stay" "since" "I", Cond.fieldLink RX6 17 "ColdStore$Stay" "earlier" "LColdStore$Stay;", Cond.methodLink RL 210 yX8_addPallet]
def wsL_law0_r30 : List Cond := [Cond.instanceMethod yX8_addPallet, Cond.selects RX8 yX8_addPallet yX8_addPallet, Cond.code yX8_addPallet cX8_addPallet 3 (some .int), Cond.methodLink RL 211 yL_movePallet, Cond.static yL_movePallet, Cond.codeWith yL_movePallet cL_movePallet 5 (some .int) [(0, 10, 13, 27), (0, 10, 17, 46), (0, 10, 21, 15)], Cond.methodLink RL 74 yX7_movePallet, Cond.instanceMethod yX7_movePallet, Cond.selects RX7 yX7_movePallet yX7_movePallet, Cond.code yX7_movePallet cX7_movePallet 6 (some .int), Cond.fieldLink RX7 205 "ColdStore$Room" "number" "I", Cond.methodLink RX7 183 yX7_findPallet, Cond.instanceMethod yX7_findPallet, Cond.selects RX7 yX7_findPallet yX7_findPallet, Cond.code yX7_findPallet cX7_findPallet 2 (some (.object "ColdStore$Pallet")), Cond.methodLink RX7 187 yX7_requireInRoom, Cond.static yX7_requireInRoom, Cond.code yX7_requireInRoom cX7_requireInRoom 1 none, Cond.methodLink RX7 201 yX4_enter, Cond.instanceMethod yX4_enter, Cond.selects RX4 yX4_enter yX4_enter, Cond.code yX4_enter cX4_enter 4 none, Cond.fieldLink RX4 43 "ColdStore$Stay" "since" "I", Cond.fieldLink RX4 46 "ColdStore$Stay" "earlier" "LColdStore$Stay;"]
def wsL_law0_r31 : List Cond := [Cond.methodLink RL 213 yX8_movePallet, Cond.instanceMethod yX8_movePallet, Cond.selects RX8 yX8_movePallet yX8_movePallet, Cond.code yX8_movePallet cX8_movePallet 4 (some .int), Cond.methodLink RX8 198 yX8_isPallet, Cond.instanceMethod yX8_isPallet, Cond.selects RX8 yX8_isPallet yX8_isPallet, Cond.code yX8_isPallet cX8_isPallet 2 (some .boolean), Cond.methodLink RL 214 yL_scrap, Cond.static yL_scrap, Cond.codeWith yL_scrap cL_scrap 4 (some .int) [(0, 9, 12, 27), (0, 9, 15, 46)], Cond.methodLink RL 77 yX7_scrap, Cond.instanceMethod yX7_scrap, Cond.selects RX7 yX7_scrap yX7_scrap, Cond.code yX7_scrap cX7_scrap 3 (some .int), Cond.methodLink RL 216 yX8_scrap, Cond.instanceMethod yX8_scrap, Cond.selects RX8 yX8_scrap yX8_scrap, Cond.code yX8_scrap cX8_scrap 2 (some .int), Cond.methodLink RL 217 yX7_pallets, Cond.instanceMethod yX7_pallets, Cond.selects RX7 yX7_pallets yX7_pallets, Cond.code yX7_pallets cX7_pallets 1 (some .int), Cond.methodLink RL 220 yX8_pallets]
def wsL_law0_r32 : List Cond := [Cond.instanceMethod yX8_pallets, Cond.selects RX8 yX8_pallets yX8_pallets, Cond.code yX8_pallets cX8_pallets 1 (some .int), Cond.methodLink RL 221 yL_state, Cond.static yL_state, Cond.codeWith yL_state cL_state 4 (some .int) [(0, 9, 12, 27)], Cond.methodLink RL 80 yX7_state, Cond.instanceMethod yX7_state, Cond.selects RX7 yX7_state yX7_state, Cond.code yX7_state cX7_state 2 (some .char), Cond.fieldLink RX7 215 "ColdStore$Pallet" "status" "C", Cond.methodLink RL 223 yX8_state, Cond.instanceMethod yX8_state, Cond.selects RX8 yX8_state yX8_state, Cond.code yX8_state cX8_state 2 (some .char), Cond.methodLink RL 224 yL_roomOf, Cond.static yL_roomOf, Cond.codeWith yL_roomOf cL_roomOf 4 (some .int) [(0, 9, 12, 27), (0, 9, 15, 46)], Cond.methodLink RL 84 yX7_roomOf, Cond.instanceMethod yX7_roomOf, Cond.selects RX7 yX7_roomOf yX7_roomOf, Cond.code yX7_roomOf cX7_roomOf 3 (some .int), Cond.methodLink RL 226 yX8_roomOf, Cond.instanceMethod yX8_roomOf]
def wsL_law0_r33 : List Cond := [Cond.selects RX8 yX8_roomOf yX8_roomOf, Cond.code yX8_roomOf cX8_roomOf 2 (some .int), Cond.methodLink RL 227 yL_life, Cond.static yL_life, Cond.codeWith yL_life cL_life 4 (some .int) [(0, 9, 12, 27)], Cond.methodLink RL 87 yX7_life, Cond.instanceMethod yX7_life, Cond.selects RX7 yX7_life yX7_life, Cond.code yX7_life cX7_life 2 (some .int), Cond.methodLink RL 229 yX8_life, Cond.instanceMethod yX8_life, Cond.selects RX8 yX8_life yX8_life, Cond.code yX8_life cX8_life 2 (some .int), Cond.methodLink RL 230 yL_lifeByRecords, Cond.static yL_lifeByRecords, Cond.codeWith yL_lifeByRecords cL_lifeByRecords 4 (some .int) [(0, 9, 12, 27)], Cond.methodLink RL 90 yX7_lifeByRecords, Cond.instanceMethod yX7_lifeByRecords, Cond.selects RX7 yX7_lifeByRecords yX7_lifeByRecords, Cond.code yX7_lifeByRecords cX7_lifeByRecords 2 (some .int), Cond.methodLink RX7 218 yX4_recordedLife, Cond.instanceMethod yX4_recordedLife, Cond.selects RX4 yX4_recordedLife yX4_recordedLife, Cond.code yX4_recordedLife cX4_recordedLife 6 (some .int)]
def wsL_law0_r34 : List Cond := [Cond.methodLink RX4 72 yX5_recordedAt, Cond.instanceMethod yX5_recordedAt, Cond.selects RX5 yX5_recordedAt yX5_recordedAt, Cond.code yX5_recordedAt cX5_recordedAt 2 (some .int), Cond.methodLink RL 232 yX8_lifeByRecords, Cond.instanceMethod yX8_lifeByRecords, Cond.selects RX8 yX8_lifeByRecords yX8_lifeByRecords, Cond.code yX8_lifeByRecords cX8_lifeByRecords 2 (some .int), Cond.methodLink RX8 201 yX8_life, Cond.methodLink RL 233 yL_forecast, Cond.static yL_forecast, Cond.codeWith yL_forecast cL_forecast 5 (some .int) [(0, 10, 13, 27), (0, 10, 17, 46), (0, 10, 21, 13)], Cond.methodLink RL 93 yX7_forecast, Cond.instanceMethod yX7_forecast, Cond.selects RX7 yX7_forecast yX7_forecast, Cond.code yX7_forecast cX7_forecast 5 (some .int), Cond.fieldLink RX7 221 "ColdStore$Pallet" "kind" "LColdStore$Kind;", Cond.methodLink RX7 228 Lib.Math.max.name, Cond.methodLink RX7 225 yX1_lossAt, Cond.methodLink RL 235 yX8_forecast, Cond.instanceMethod yX8_forecast, Cond.selects RX8 yX8_forecast yX8_forecast, Cond.code yX8_forecast cX8_forecast 3 (some .int), Cond.methodLink RL 236 yL_soonest]
def wsL_law0_r35 : List Cond := [Cond.static yL_soonest, Cond.codeWith yL_soonest cL_soonest 3 (some .int) [(0, 8, 11, 46)], Cond.methodLink RL 96 yX7_soonest, Cond.instanceMethod yX7_soonest, Cond.selects RX7 yX7_soonest yX7_soonest, Cond.code yX7_soonest cX7_soonest 4 (some .int), Cond.fieldLink RX7 248 "ColdStore$Pallet" "number" "I", Cond.methodLink RL 239 yX8_soonest, Cond.instanceMethod yX8_soonest, Cond.selects RX8 yX8_soonest yX8_soonest, Cond.code yX8_soonest cX8_soonest 3 (some .int), Cond.methodLink RL 240 yL_lostShare, Cond.static yL_lostShare, Cond.codeWith yL_lostShare cL_lostShare 3 (some .int) [(0, 8, 11, 52)], Cond.methodLink RL 100 yX7_lostShare, Cond.instanceMethod yX7_lostShare, Cond.selects RX7 yX7_lostShare yX7_lostShare, Cond.code yX7_lostShare cX7_lostShare 4 (some .float), Cond.methodLink RX7 249 yJx4a65c_isEmpty_aae02, Cond.instanceMethod yJx4a65c_isEmpty_aae02, Cond.selects RJx4a65c yJx4a65c_isEmpty_aae02 yJx4a65c_isEmpty_aae02, Cond.code yJx4a65c_isEmpty_aae02 cJx4a65c_isEmpty_aae02 1 (some .boolean), Cond.methodLink RL 243 yX8_lostShare, Cond.instanceMethod yX8_lostShare]
def wsL_law0_r36 : List Cond := [Cond.selects RX8 yX8_lostShare yX8_lostShare, Cond.code yX8_lostShare cX8_lostShare 3 (some .float), Cond.methodLink RL 244 yL_order, Cond.static yL_order, Cond.codeWith yL_order cL_order 7 (some .int) [(0, 14, 17, 27), (0, 14, 21, 13), (0, 14, 25, 15)], Cond.methodLink RL 104 yX7_order, Cond.instanceMethod yX7_order, Cond.selects RX7 yX7_order yX7_order, Cond.code yX7_order cX7_order 6 (some .int), Cond.classLink RX7 256 RX3, Cond.instantiable RX3 6, Cond.methodLink RX7 258 yX3_init, Cond.instanceMethod yX3_init, Cond.code yX3_init cX3_init 5 none, Cond.methodLink RX3 3 objectInit, Cond.fieldLink RX3 9 "ColdStore$Order" "status" "C", Cond.fieldLink RX3 15 "ColdStore$Order" "leastLife" "I", Cond.fieldLink RX3 23 "ColdStore$Order" "count" "I", Cond.fieldLink RX3 29 "ColdStore$Order" "due" "I", Cond.methodLink RL 246 yX8_order, Cond.instanceMethod yX8_order, Cond.selects RX8 yX8_order yX8_order, Cond.code yX8_order cX8_order 6 (some .int), Cond.methodLink RL 247 yL_cancel]
def wsL_law0_r37 : List Cond := [Cond.static yL_cancel, Cond.codeWith yL_cancel cL_cancel 4 (some .int) [(0, 9, 12, 27), (0, 9, 15, 15)], Cond.methodLink RL 107 yX7_cancel, Cond.instanceMethod yX7_cancel, Cond.selects RX7 yX7_cancel yX7_cancel, Cond.code yX7_cancel cX7_cancel 3 (some .int), Cond.methodLink RX7 261 yX7_findOrder, Cond.instanceMethod yX7_findOrder, Cond.selects RX7 yX7_findOrder yX7_findOrder, Cond.code yX7_findOrder cX7_findOrder 2 (some (.object "ColdStore$Order")), Cond.methodLink RX7 265 yX7_requireOpen, Cond.static yX7_requireOpen, Cond.code yX7_requireOpen cX7_requireOpen 1 none, Cond.methodLink RX7 270 yX7_countOpenOrders, Cond.instanceMethod yX7_countOpenOrders, Cond.selects RX7 yX7_countOpenOrders yX7_countOpenOrders, Cond.code yX7_countOpenOrders cX7_countOpenOrders 3 (some .int), Cond.methodLink RL 249 yX8_cancel, Cond.instanceMethod yX8_cancel, Cond.selects RX8 yX8_cancel yX8_cancel, Cond.code yX8_cancel cX8_cancel 4 (some .int), Cond.methodLink RX8 204 yX8_isOrder, Cond.instanceMethod yX8_isOrder, Cond.selects RX8 yX8_isOrder yX8_isOrder]
def wsL_law0_r38 : List Cond := [Cond.code yX8_isOrder cX8_isOrder 2 (some .boolean), Cond.methodLink RL 250 yL_candidates, Cond.static yL_candidates, Cond.codeWith yL_candidates cL_candidates 4 (some .int) [(0, 9, 12, 27)], Cond.methodLink RL 110 yX7_candidates, Cond.instanceMethod yX7_candidates, Cond.selects RX7 yX7_candidates yX7_candidates, Cond.code yX7_candidates cX7_candidates 2 (some .int), Cond.methodLink RL 252 yX8_candidates, Cond.instanceMethod yX8_candidates, Cond.selects RX8 yX8_candidates yX8_candidates, Cond.code yX8_candidates cX8_candidates 2 (some .int), Cond.methodLink RL 253 yL_candidateAt, Cond.static yL_candidateAt, Cond.codeWith yL_candidateAt cL_candidateAt 5 (some .int) [(0, 10, 13, 27), (0, 10, 17, 46)], Cond.methodLink RL 113 yX7_candidateAt, Cond.instanceMethod yX7_candidateAt, Cond.selects RX7 yX7_candidateAt yX7_candidateAt, Cond.code yX7_candidateAt cX7_candidateAt 5 (some .int), Cond.methodLink RX7 277 yX7_findCandidate, Cond.instanceMethod yX7_findCandidate, Cond.selects RX7 yX7_findCandidate yX7_findCandidate, Cond.code yX7_findCandidate cX7_findCandidate 5 (some (.object "ColdStore$Pallet")), Cond.methodLink RL 255 yX8_candidateAt]
def wsL_law0_r39 : List Cond := [Cond.instanceMethod yX8_candidateAt, Cond.selects RX8 yX8_candidateAt yX8_candidateAt, Cond.code yX8_candidateAt cX8_candidateAt 4 (some .int), Cond.methodLink RX8 214 yX8_raises, Cond.instanceMethod yX8_raises, Cond.selects RX8 yX8_raises yX8_raises, Cond.code yX8_raises cX8_raises 2 (some .int), Cond.methodLink RL 256 yL_ship, Cond.static yL_ship, Cond.codeWith yL_ship cL_ship 4 (some .int) [(0, 9, 12, 27), (0, 9, 15, 15), (0, 9, 18, 119)], Cond.classLink RL 119 "java/lang/UnsupportedOperationException", Cond.methodLink RL 116 yX7_ship, Cond.instanceMethod yX7_ship, Cond.selects RX7 yX7_ship yX7_ship, Cond.code yX7_ship cX7_ship 3 (some .int), Cond.classLink RX7 287 "java/lang/UnsupportedOperationException", Cond.initialized "java/lang/UnsupportedOperationException", Cond.methodLink RL 258 yX8_ship, Cond.instanceMethod yX8_ship, Cond.selects RX8 yX8_ship yX8_ship, Cond.code yX8_ship cX8_ship 2 (some .int), Cond.methodLink RL 259 yL_orderState, Cond.static yL_orderState, Cond.codeWith yL_orderState cL_orderState 4 (some .int) [(0, 9, 12, 27)]]
def wsL_law0_r40 : List Cond := [Cond.methodLink RL 121 yX7_orderState, Cond.instanceMethod yX7_orderState, Cond.selects RX7 yX7_orderState yX7_orderState, Cond.code yX7_orderState cX7_orderState 2 (some .char), Cond.methodLink RL 261 yX8_orderState, Cond.instanceMethod yX8_orderState, Cond.selects RX8 yX8_orderState yX8_orderState, Cond.code yX8_orderState cX8_orderState 2 (some .char), Cond.methodLink RL 262 yL_leastShipped, Cond.static yL_leastShipped, Cond.codeWith yL_leastShipped cL_leastShipped 4 (some .int) [(0, 9, 12, 27), (0, 9, 15, 46)], Cond.methodLink RL 124 yX7_leastShipped, Cond.instanceMethod yX7_leastShipped, Cond.selects RX7 yX7_leastShipped yX7_leastShipped, Cond.code yX7_leastShipped cX7_leastShipped 3 (some .int), Cond.methodLink RL 264 yX8_leastShipped, Cond.instanceMethod yX8_leastShipped, Cond.selects RX8 yX8_leastShipped yX8_leastShipped, Cond.code yX8_leastShipped cX8_leastShipped 2 (some .int), Cond.methodLink RL 265 yX7_isConsistent, Cond.instanceMethod yX7_isConsistent, Cond.selects RX7 yX7_isConsistent yX7_isConsistent, Cond.code yX7_isConsistent cX7_isConsistent 1 (some .boolean), Cond.methodLink RX7 300 yX7_isMeterConsistent]
def wsL_law0_r41 : List Cond := [Cond.instanceMethod yX7_isMeterConsistent, Cond.selects RX7 yX7_isMeterConsistent yX7_isMeterConsistent, Cond.code yX7_isMeterConsistent cX7_isMeterConsistent 1 (some .boolean), Cond.methodLink RX7 383 yX7_bill, Cond.methodLink RX7 387 yX7_billByRecords, Cond.methodLink RX7 303 yX7_areRoomsConsistent, Cond.instanceMethod yX7_areRoomsConsistent, Cond.selects RX7 yX7_areRoomsConsistent yX7_areRoomsConsistent, Cond.code yX7_areRoomsConsistent cX7_areRoomsConsistent 4 (some .boolean), Cond.methodLink RX7 306 yX7_arePalletsConsistent, Cond.instanceMethod yX7_arePalletsConsistent, Cond.selects RX7 yX7_arePalletsConsistent yX7_arePalletsConsistent, Cond.code yX7_arePalletsConsistent cX7_arePalletsConsistent 4 (some .boolean), Cond.fieldLink RX7 390 "ColdStore$Kind" "fullLife" "I", Cond.methodLink RX7 309 yX7_areOrdersConsistent, Cond.instanceMethod yX7_areOrdersConsistent, Cond.selects RX7 yX7_areOrdersConsistent yX7_areOrdersConsistent, Cond.code yX7_areOrdersConsistent cX7_areOrdersConsistent 3 (some .boolean), Cond.methodLink RL 269 yX8_isConsistent, Cond.instanceMethod yX8_isConsistent, Cond.selects RX8 yX8_isConsistent yX8_isConsistent, Cond.code yX8_isConsistent cX8_isConsistent 1 (some .boolean)]
def wsL_law0 : List Cond := (wsL_law0_r1 ++ (wsL_law0_r2 ++ (wsL_law0_r3 ++ (wsL_law0_r4 ++ (wsL_law0_r5 ++ (wsL_law0_r6 ++ (wsL_law0_r7 ++ (wsL_law0_r8 ++ (wsL_law0_r9 ++ (wsL_law0_r10 ++ (wsL_law0_r11 ++ (wsL_law0_r12 ++ (wsL_law0_r13 ++ (wsL_law0_r14 ++ (wsL_law0_r15 ++ (wsL_law0_r16 ++ (wsL_law0_r17 ++ (wsL_law0_r18 ++ (wsL_law0_r19 ++ (wsL_law0_r20 ++ (wsL_law0_r21 ++ (wsL_law0_r22 ++ (wsL_law0_r23 ++ (wsL_law0_r24 ++ (wsL_law0_r25 ++ (wsL_law0_r26 ++ (wsL_law0_r27 ++ (wsL_law0_r28 ++ (wsL_law0_r29 ++ (wsL_law0_r30 ++ (wsL_law0_r31 ++ (wsL_law0_r32 ++ (wsL_law0_r33 ++ (wsL_law0_r34 ++ (wsL_law0_r35 ++ (wsL_law0_r36 ++ (wsL_law0_r37 ++ (wsL_law0_r38 ++ (wsL_law0_r39 ++ (wsL_law0_r40 ++ wsL_law0_r41)))))))))))))))))))))))))))))))))))))))) ++ wsX70 ++ wsX80 ++ wsJx4a65c0 ++ wsX00 ++ wsX20 ++ wsX50 ++ wsX40 ++ wsX60 ++ wsX10 ++ wsX30 ++ ([] : List Cond)
def wsL_law : List Cond := wsL_law0 ++ (vx_atM "java/lang/ArrayIndexOutOfBoundsException" ["java/lang/IndexOutOfBoundsException", "java/lang/RuntimeException", "java/lang/Exception"]).filter goodWord ++ (vx_atS RX7 54 "java/lang/IllegalStateException" ["java/lang/RuntimeException", "java/lang/Exception"]).filter goodWord ++ (vx_atS RX7 89 "java/lang/IllegalArgumentException" ["java/lang/RuntimeException", "java/lang/Exception"]).filter goodWord ++ (vx_atS RX7 318 "java/lang/IndexOutOfBoundsException" ["java/lang/RuntimeException", "java/lang/Exception"]).filter goodWord ++ (vx_atS RX7 114 "java/util/NoSuchElementException" ["java/lang/RuntimeException", "java/lang/Exception"]).filter goodWord ++ (vx_atS RX7 120 "java/lang/ArithmeticException" ["java/lang/RuntimeException", "java/lang/Exception"]).filter goodWord ++ (vx_atS RX7 291 "java/lang/UnsupportedOperationException" ["java/lang/RuntimeException", "java/lang/Exception"]).filter goodWord
set_option maxRecDepth 20000 in
abbrev vwCl : List vw_C := [(RJ0, TJ0, 2), (RJx00060, TJx00060, 6), (RJx4a65c, TJx4a65c, 3), (RX0, TX0, 6), (RX1, TX1, 3), (RX2, TX2, 5), (RX3, TX3, 6), (RX4, TX4, 6), (RX5, TX5, 17), (RX6, TX6, 3), (RX7, TX7, 8), (RX8, TX8, 44)]
end
section
/-! ===== BEGIN a constructor that throws (launches without stack traces) ===== -/
section VXIA
variable {p : Program} {l : Launch} {e : Env} {R : Room} {s : State} {m : MethodId} {args : Array Value} {below : List Frame} {meth : Method} {c : Code} {T : State} {locs : List Loc} {cells slots : Nat}
theorem vx_callI (X : Stand p l e R s m args below meth c T locs cells slots) (hexec : p.tables.exec = Jvm.exec) {own : String} {index : Nat} {y : MethodName} {bytes : ByteArray} {maxL : Nat}
    (hown : s.vm.findClass own = some m.cls) (hy1 : y.name = "<init>") (hlink : (Cond.methodLink own index y).before args s = true) (hinst : (Cond.instanceMethod y).before args s = true)
    (hcode : (Cond.code y bytes maxL none).before args s = true) (hy : y.cls ≠ "java/lang/invoke/MethodHandle" ∧ y.cls ≠ "java/lang/invoke/VarHandle")
    {W9 : Nat} {Pre : Pt → Array Value → Prop} {Post : Pt → Array Value → Option Value → Pt → Prop} {PostX : Pt → Array Value → Addr → Pt → Prop} (hK : vx_Back l R p e below s args y 3 W9 Pre Post PostX)
    {g : JFrame} (hg : g.method = m) (hsize : g.locals.size = c.maxLocals) {a : Addr} {argsL rest : List Value} (hlen : ∀ sig, parseMethodDescriptor y.desc = some sig → argsL.length = sig.parameters.length)
    (hstack : g.stack = argsL.reverse ++ .ref a :: rest) (hW : 2 * g.monitorRoom + (rest.map fun v => v.category).sum ≤ W9) (hdg : decode c.code g.pc = .ok (.invokespecial index, 3))
    (hpre : ∀ vm₁, s.WarmedH vm₁ → Pre ⟨T.setVm vm₁, locs, cells, slots⟩ (Value.ref a :: argsL).toArray) :
    (∃ (v : Option Value) (vm₁ : Vm) (B : Pt), s.WarmedH vm₁ ∧ Stand p l e R s m args below meth c B.U B.locs B.cells B.slots ∧ Post ⟨T.setVm vm₁, locs, cells, slots⟩ (Value.ref a :: argsL).toArray v B ∧
      ∀ target, Steps p.tables e below (B.U.setTop { g with pc := g.pc + 3, stack := v.toList ++ rest }) target → Steps p.tables e below (T.setTop g) target) ∨
    (∃ (q : Addr) (vm₁ : Vm) (B : Pt), s.WarmedH vm₁ ∧ Stand p l e R s m args below meth c B.U B.locs B.cells B.slots ∧ PostX ⟨T.setVm vm₁, locs, cells, slots⟩ (Value.ref a :: argsL).toArray q B ∧
      Steps p.tables e below (T.setTop g) ((B.U.setTop { g with stack := rest }).pushFrame (.throwing q))) := by
  subst hg
  have hpl : e.platform.magicAccessors = ({} : Platform).magicAccessors := by rw [X.admits.platform]
  obtain ⟨mk, methM, cM, kP, vm₁, hnamed, hmethM, hcodeM, -, hlocalsM, -, hkP, -, hW₁, hstep₁⟩ := Steps.initColdArgs (e := e) X.here hexec X.warmed hpl hown hy1 hy hlink hinst hcode (f := g) rfl hlen hstack hdg
  have X₁ := X.noted hW₁
  rcases hK g.method meth c ⟨T.setVm vm₁, locs, cells, slots⟩ { g with stack := rest } (.invokespecial index) mk (Value.ref a :: argsL).toArray X₁ rfl hsize hdg hW (X₁.named hnamed) (hpre vm₁ X₁.warmed) with ⟨v, B, X', hpost, hsteps⟩ | ⟨q, B, X', hpost, hsteps⟩
  · exact Or.inl ⟨v, vm₁, B, X₁.warmed, X', hpost, fun target h => hstep₁ _ fun acts => by rw [doInvoke_state]; exact hsteps.trans h⟩
  · exact Or.inr ⟨q, vm₁, B, X₁.warmed, X', hpost, hstep₁ _ fun acts => by rw [doInvoke_state]; exact hsteps⟩
end VXIA
section VXIB
variable {p : Program} {l : Launch} {e : Env} {R : Room} {s : State} {m : MethodId} {args : Array Value} {below : List Frame} {meth : Method} {c : Code} {H : Heap} {locs : List Loc} {cells slots : Nat}
variable {y : MethodName} {bytes cc : ByteArray} {maxL nL mc ms n index : Nat} {ret : Option FieldType} {ws : List Cond} {rm : Room} {Pc : Array Value → State → Prop} {Qc : Array Value → State → Outcome → State → Prop} {XC : String → State → State → Prop} {free : Addr → Prop} {Ts : List Cond} {own C : String} {b : Addr} {As rest : List Value} {g : JFrame}
theorem vx_runI (S : CallFix p m c cc nL s args Ts own) (hM : vx_Met l y ws rm Pc Qc XC mc ms free) (cw : CallB R s args own index y bytes maxL none ws rm mc ms n ∧ y.name = "<init>" ∧ (Cond.instanceMethod y).before args s = true) (hp : PreS s H Pc (.ref b :: As))
    (hg : g.method = m) (hn : As.length = n) (hsize : g.locals.size = nL) (hstack : g.stack = As.reverse ++ .ref b :: rest) (hW : 2 * g.monitorRoom + (rest.map fun v => v.category).sum ≤ 8) (hdg : decode cc g.pc = .ok (.invokespecial index, 3)) (hf : cells + mc ≤ R.cells ∧ slots + ms ≤ R.slots) :
    vx_Run p l e R s m args below meth c H locs cells slots mc ms g rest (Qc (Value.ref b :: As).toArray) XC free := by
  have hK : vx_Back l R p e below s args y 3 8 (PreOf R mc ms Pc) (PostOf Qc mc ms free) (vx_Post XC mc ms free) := vx_callBack cw.1 hM hp.1
  obtain ⟨⟨-, -, -, -, -, -, hcode, -, hy, hlen, hl⟩, hy1, hin⟩ := cw
  obtain ⟨hx, hb, hml, ho, -⟩ := S
  have hPc := hp.2
  intro T hT X
  rcases vx_callI X hx (bytes := bytes) (maxL := maxL) ho hy1 hl hin hcode hy hK hg (hsize.trans hml.symm) (a := b) (argsL := As) (rest := rest) (fun sig h => hn.trans (hlen sig h)) hstack hW (by rw [hb]; exact hdg)
    (fun vm₁ hW₁ => ⟨hf.1, hf.2, hPc (T.setVm vm₁) hT hW₁⟩) with ⟨v, vm₁, ⟨U', l2, c2, s2⟩, hW₁, X', ⟨g', mk, t, L, e1, e2, hq, h1, hL, h2, h3⟩, st⟩ | ⟨q, vm₁, ⟨U', l2, c2, s2⟩, hW₁, X', ⟨g', mk, t, L, E, ce, e1, e2, hq, hce, hcv, hcl, h1, hL, h2, h3⟩, st⟩
  · dsimp only [Pt.U, Pt.locs, Pt.cells, Pt.slots] at X' e1 e2 h1 h2 h3 st
    subst h1; subst h2; subst h3
    exact Or.inl ⟨v, (T.setVm vm₁).calling g' mk (Value.ref b :: As).toArray, t, U', L, hT, X', hL, e1, e2, hq, st⟩
  · dsimp only [Pt.U, Pt.locs, Pt.cells, Pt.slots] at X' e1 e2 h1 h2 h3 st hcl
    subst h1; subst h2; subst h3
    exact Or.inr ⟨q, (T.setVm vm₁).calling g' mk (Value.ref b :: As).toArray, t, U', L, E, ce, hT, X', hL, e1, e2, hq, hce, hcv, vx_cls hW₁ hcl, st⟩
end VXIB
/-! ===== END ===== -/
end
section
/-! PART 02: a typed memory over logical names (zMem), how a heap holds it (zrel), what the tables give (zKS), contracts (zS), the judgement zE. -/
abbrev zMem : Type := (Nat → Nat) × (Nat → Nat) × (Nat → Nat → Option Nat) × (Nat → Nat → Int32) × (Nat → Nat → Int64) × (Nat → Nat → UInt64)
/-- kind of a name: 0 none, 1.. objects of vwCl, 20.. rows -/
def zc (M : zMem) : Nat → Nat := M.1
/-- length of a row -/
def zn (M : zMem) : Nat → Nat := M.2.1
def zr (M : zMem) : Nat → Nat → Option Nat := M.2.2.1
def zi (M : zMem) : Nat → Nat → Int32 := M.2.2.2.1
def zl (M : zMem) : Nat → Nat → Int64 := M.2.2.2.2.1
def zd (M : zMem) : Nat → Nat → UInt64 := M.2.2.2.2.2
def zup {α : Type} (f : Nat → Nat → α) (a b : Nat) (x : α) : Nat → Nat → α := fun p q => if p = a ∧ q = b then x else f p q
theorem zup_s {α : Type} {f : Nat → Nat → α} {a b : Nat} {x : α} : zup f a b x a b = x := if_pos ⟨rfl, rfl⟩
theorem zup_n {α : Type} {f : Nat → Nat → α} {a b p q : Nat} {x : α} (h : ¬ (p = a ∧ q = b)) : zup f a b x p q = f p q := if_neg h
def zwi (M : zMem) (o k : Nat) (x : Int32) : zMem := (M.1, M.2.1, M.2.2.1, zup M.2.2.2.1 o k x, M.2.2.2.2.1, M.2.2.2.2.2)
def zwl (M : zMem) (o k : Nat) (x : Int64) : zMem := (M.1, M.2.1, M.2.2.1, M.2.2.2.1, zup M.2.2.2.2.1 o k x, M.2.2.2.2.2)
def zwd (M : zMem) (o k : Nat) (x : UInt64) : zMem := (M.1, M.2.1, M.2.2.1, M.2.2.2.1, M.2.2.2.2.1, zup M.2.2.2.2.2 o k x)
def zwr (M : zMem) (o k : Nat) (x : Option Nat) : zMem := (M.1, M.2.1, zup M.2.2.1 o k x, M.2.2.2.1, M.2.2.2.2.1, M.2.2.2.2.2)
/-- a new name o of kind t and length n, all cells at their defaults -/
def znew (M : zMem) (o t n : Nat) : zMem := (fun p => if p = o then t else M.1 p, fun p => if p = o then n else M.2.1 p, fun p q => if p = o then none else M.2.2.1 p q, fun p q => if p = o then 0 else M.2.2.2.1 p q, fun p q => if p = o then 0 else M.2.2.2.2.1 p q, fun p q => if p = o then 0 else M.2.2.2.2.2 p q)
/-- what the fields of the classes of vwCl are -/
def zct (ci : Nat) : Nat → FieldType := match ci with
  | 0 => tyJ0
  | 1 => tyJx00060
  | 2 => tyJx4a65c
  | 3 => tyX0
  | 4 => tyX1
  | 5 => tyX2
  | 6 => tyX3
  | 7 => tyX4
  | 8 => tyX5
  | 9 => tyX6
  | 10 => tyX7
  | _ => tyX8
/-- what rows hold: kind 20 + t -/
def zaty (t : Nat) : FieldType := match t with
  | 0 => .int
  | 1 => .long
  | 2 => .boolean
  | 3 => .char
  | 4 => .double
  | _ => .object "java/lang/Object"
def zmv (ad : Nat → Nat) (M : zMem) (ty : FieldType) (o k : Nat) : Value := match ty with
  | .int => .int (zi M o k)
  | .boolean => .int (zi M o k)
  | .char => .int (zi M o k)
  | .byte => .int (zi M o k)
  | .short => .int (zi M o k)
  | .long => .long (zl M o k)
  | .double => .double (zd M o k)
  | .float => .float 0
  | .object _ => va_rf ((zr M o k).map ad)
  | .array _ => va_rf ((zr M o k).map ad)
abbrev zG : Type := va_G × (Nat → ClassId)
def zat (D : zG) (ad : Nat → Nat) (M : zMem) (o : Nat) (H : Heap) : Prop :=
  (∀ (ci : Nat) (q : vw_C), zc M o = ci + 1 → vwCl[ci]? = some q → t_OB (ad o) (D.1.1 ci) q.2.2 (D.1.2 ci) H (fun k => zmv ad M (zct ci k) o k)) ∧
  (∀ t : Nat, zc M o = t + 20 → t ≤ 6 → H[ad o]? = some (arrV (D.2 (if t = 6 then 5 else t)) (zn M o) (fun j => zmv ad M (zaty t) o j)))
def zrel (D : zG) (ad : Nat → Nat) (M : zMem) (H : Heap) : Prop :=
  (∀ o o' : Nat, zc M o ≠ 0 → zc M o' ≠ 0 → ad o = ad o' → o = o') ∧ (∀ o : Nat, zc M o ≠ 0 → ad o < H.size) ∧
  (∀ o : Nat, zc M o ≠ 0 → zat D ad M o H) ∧ (∀ o k o' : Nat, zc M o ≠ 0 → zr M o k = some o' → zc M o' ≠ 0)
abbrev ztys (D : zG) : List (ClassId × FieldType) := [(D.2 0, .int), (D.2 1, .long), (D.2 2, .boolean), (D.2 3, .char), (D.2 4, .double), (D.2 5, .object "java/lang/Object")]
def zLay (U : State) : Prop := ∀ (ci : Nat) (q : vw_C), vwCl[ci]? = some q → ∀ w ∈ u_ws q.1 q.2.1 q.2.2, w.before #[] U = true
def zK (D : zG) (U : State) : Prop := va_K D.1 vwCl (ztys D) U ∧ zLay U
/-- the cells that a method may write: what its memory names, and new ones -/
def zA (ad : Nat → Nat) (M : zMem) (sz : Nat) : Nat → Prop := fun q => (∃ o : Nat, zc M o ≠ 0 ∧ zc M o ≠ 26 ∧ q = ad o) ∨ sz ≤ q
/-- the name of ArrayList's empty row, that nobody writes: kind 26 -/
def zE0 : Nat := 31
def zx (ad0 : Nat → Nat) (M0 : zMem) (sz : Nat) (ad : Nat → Nat) (M : zMem) : Prop :=
  (∀ o : Nat, zc M0 o ≠ 0 → ad o = ad0 o ∧ zc M o = zc M0 o) ∧ (∀ o : Nat, zc M o ≠ 0 → zc M0 o ≠ 0 ∨ sz ≤ ad o) ∧ (zc M zE0 = 26 → zc M0 zE0 ≠ 0)
def zSt (ad : Nat → Nat) (M : zMem) (A : Nat → Prop) (U : State) (H : Heap) : Prop :=
  vx_Zq Bundle.tN "UNASSIGNED_STACK" Bundle.steD A U H ∧ vx_Zq Bundle.tN "SUPPRESSED_SENTINEL" Bundle.listD A U H ∧
  (zc M zE0 = 26 → va_Z "java/util/ArrayList" "DEFAULTCAPACITY_EMPTY_ELEMENTDATA" "[Ljava/lang/Object;" (.ref (ad zE0)) A U H)
/-- the texts of the exceptions -/
def zstrs : List (Nat × String) := [(52, "the time would be greater than 960"), (64, "there are 4 rooms"), (87, "there is no such mode"), (112, "there was no tick since the room was added"), (162, "there are 5 kinds"), (172, "there are 24 pallets"), (246, "no pallet is in a room"), (252, "there are no pallets"), (254, "there are 12 orders"), (281, "there is no such candidate"), (289, "the order has too few candidates"), (295, "the order is not shipped"), (312, "a number is out of range"), (316, "there is no such room"), (319, "there is no such kind"), (321, "there is no such pallet"), (323, "there is no such order"), (325, "the room is full"), (327, "the pallet is not in a room"), (329, "the order is not open")]
/-- the exceptions -/
def zex : List String := ["java/lang/IllegalArgumentException", "java/lang/IllegalStateException", "java/lang/IndexOutOfBoundsException", "java/util/NoSuchElementException", "java/lang/ArithmeticException", "java/lang/UnsupportedOperationException"]
/-- the throws: the exception, its entry in ColdStore's pool, its constructor's -/
def zthr : List (String × Nat × Nat) := [("java/lang/IllegalStateException", 50, 54), ("java/lang/IllegalArgumentException", 85, 89), ("java/util/NoSuchElementException", 110, 114), ("java/lang/ArithmeticException", 118, 120), ("java/lang/UnsupportedOperationException", 287, 291), ("java/lang/IndexOutOfBoundsException", 314, 318)]
def zsup : List String := ["java/lang/RuntimeException", "java/lang/Exception"]
def zdcl : List Cond := [.declares (Bundle.initS "java/lang/RuntimeException"), .declares (Bundle.initS "java/lang/Exception"), .declares (Bundle.initS Bundle.tN)]
def zthw (q : String × Nat × Nat) : List Cond := Cond.classLink RX7 q.2.1 q.1 :: Cond.initialized q.1 :: vx_atS RX7 q.2.2 q.1 zsup
def zThr (U : State) : Prop := (∀ q ∈ zthr, ∀ w ∈ zthw q, goodWord w = true → w.before #[] U = true) ∧ ∀ w ∈ zdcl, va_Nw w U
/-- what the tables say of texts, nest mates and casts -/
def zStr (U : State) : Prop := zThr U ∧ (∀ q ∈ zstrs, ∃ a : Nat, vk_R RX7 q.1 q.2 a U) ∧ (va_Nw (.methodLinkNest RX7 27 yX0_init "ColdStore") U ∧ va_Nw (.methodLinkNest RX7 34 yX2_init "ColdStore") U) ∧
  (∀ E ∈ zex, va_Nw (.castable E E) U ∧ ∀ F ∈ zex, E ≠ F → va_Nc E F U) ∧ (∀ C ∈ [RX1, RX3, RX4, RX5], va_Nw (.castable C "java/lang/Object") U)
def zKS (D : zG) (ad : Nat → Nat) (M : zMem) (A : Nat → Prop) (U : State) (H : Heap) : Prop := zK D U ∧ zSt ad M A U H ∧ zStr U
theorem zalike {u U : State} (hv : u.vm = U.vm) : u.vm.Alike U.vm := hv ▸ Vm.Alike.refl u.vm
theorem zLay_good : ∀ q ∈ vwCl, ∀ w ∈ u_ws q.1 q.2.1 q.2.2, goodWord w = true := by decide +kernel
theorem zLay.warm {s U : State} (hW : s.WarmedH U.vm) (h : zLay s) : zLay U := fun ci q hq w hw =>
  word_at hW (good_of_word (zLay_good q (List.mem_of_getElem? hq) w hw)) (h ci q hq w hw)
theorem zK.warm {D : zG} {s U : State} (hW : s.WarmedH U.vm) (h : zK D s) : zK D U := ⟨va_K.moved hW.alike h.1, h.2.warm hW⟩
theorem zthw_tabs : ∀ q ∈ zthr, ∀ w ∈ zthw q, w.onTables = true := by decide +kernel
theorem zthw_good : ∀ q ∈ zthr, ∀ w ∈ zthw q, goodWord w = true ∨ w = .castable q.1 q.1 ∨ w ∈ zdcl := by decide +kernel
theorem zThr.warm {s U : State} (hW : s.WarmedH U.vm) (h : zThr s) : zThr U := by
  refine ⟨fun q hq w hw hg => word_at hW (good_of_word hg) (h.1 q hq w hw hg), fun w hw => ?_⟩
  have h1 := h.2 w hw
  simp only [zdcl, List.mem_cons, List.not_mem_nil, or_false] at hw
  rcases hw with rfl | rfl | rfl <;> exact h1.warmD hW
theorem zThr.same {u U : State} (hv : u.vm = U.vm) (h : zThr u) : zThr U := by
  refine ⟨fun q hq w hw hg => va_tabs (zthw_tabs q hq w hw) hv (h.1 q hq w hw hg), fun w hw => ?_⟩
  have h1 := h.2 w hw
  simp only [zdcl, List.mem_cons, List.not_mem_nil, or_false] at hw
  rcases hw with rfl | rfl | rfl <;> exact h1.same rfl hv
theorem zStr.warm {s U : State} (hW : s.WarmedH U.vm) (h : zStr s) : zStr U := by
  obtain ⟨h0, h1, ⟨h2, h3⟩, h4, h5⟩ := h
  refine ⟨h0.warm hW, fun q hq => ?_, ⟨h2.warmM hW, h3.warmM hW⟩, fun E hE => ⟨(h4 E hE).1.warmC hW, fun F hF hne => ((h4 E hE).2 F hF hne).moved hW.alike⟩, fun C hC => (h5 C hC).warmC hW⟩
  obtain ⟨a, ha⟩ := h1 q hq
  exact ⟨a, ha.warm hW⟩
theorem zLay_tabs : ∀ q ∈ vwCl, ∀ w ∈ u_ws q.1 q.2.1 q.2.2, w.onTables = true := by decide +kernel
theorem zLay.same {u U : State} (hv : u.vm = U.vm) (h : zLay u) : zLay U := fun ci q hq w hw => va_tabs (zLay_tabs q (List.mem_of_getElem? hq) w hw) hv (h ci q hq w hw)
theorem zK.same {D : zG} {u U : State} (hv : u.vm = U.vm) (h : zK D u) : zK D U := ⟨va_K.moved (zalike hv) h.1, h.2.same hv⟩
theorem zStr.same {u U : State} (hv : u.vm = U.vm) (h : zStr u) : zStr U := by
  obtain ⟨h0, h1, ⟨h2, h3⟩, h4, h5⟩ := h
  refine ⟨h0.same hv, fun q hq => ?_, ⟨h2.same rfl hv, h3.same rfl hv⟩, fun E hE => ⟨(h4 E hE).1.same rfl hv, fun F hF hne => ((h4 E hE).2 F hF hne).moved (zalike hv)⟩, fun C hC => (h5 C hC).same rfl hv⟩
  obtain ⟨a, ha⟩ := h1 q hq
  exact ⟨a, vk_R.same hv.symm ha⟩
theorem zSt.moved {ad : Nat → Nat} {M : zMem} {A : Nat → Prop} {u U : State} {H : Heap} (hvm : u.vm.Alike U.vm) (h : zSt ad M A u H) : zSt ad M A U H :=
  ⟨vx_Zq.moved hvm h.1, vx_Zq.moved hvm h.2.1, fun e => va_Z.moved hvm (h.2.2 e)⟩
theorem zKS.same {D : zG} {ad : Nat → Nat} {M : zMem} {A : Nat → Prop} {u U : State} {H : Heap} (hv : u.vm = U.vm) (h : zKS D ad M A u H) : zKS D ad M A U H :=
  ⟨h.1.same hv, h.2.1.moved (zalike hv), h.2.2.same hv⟩
theorem zKS.warm {D : zG} {ad : Nat → Nat} {M : zMem} {A : Nat → Prop} {s U : State} {H : Heap} (hW : s.WarmedH U.vm) (h : zKS D ad M A s H) : zKS D ad M A U H :=
  ⟨h.1.warm hW, h.2.1.moved hW.alike, h.2.2.warm hW⟩
/-- the logical value seen in the heap -/
def zph (ad : Nat → Nat) (v : Value) : Value := match v with
  | .ref a => .ref (ad a)
  | w => w
def zpl (ad : Nat → Nat) (q : Nat × Value) : Nat × Value := (q.1, zph ad q.2)
theorem zph_cat (ad : Nat → Nat) (v : Value) : (zph ad v).category = v.category := by cases v <;> rfl
def zlv (M : zMem) (v : Value) : Prop := ∀ o : Nat, v = .ref o → zc M o ≠ 0
theorem zlv_int {M : zMem} {x : Int32} : zlv M (.int x) := fun _ h => nomatch h
theorem zlv_long {M : zMem} {x : Int64} : zlv M (.long x) := fun _ h => nomatch h
theorem zlv_float {M : zMem} {x : UInt32} : zlv M (.float x) := fun _ h => nomatch h
theorem zlv_double {M : zMem} {x : UInt64} : zlv M (.double x) := fun _ h => nomatch h
theorem zlv_null {M : zMem} : zlv M .null := fun _ h => nomatch h
theorem zlv_ref {M : zMem} {o : Nat} (h : zc M o ≠ 0) : zlv M (.ref o) := fun _ e => by cases e; exact h
def zls (M : zMem) (st : List Value) : Prop := ∀ v ∈ st, zlv M v
theorem zls_c {M : zMem} {v : Value} {st : List Value} (h1 : zlv M v) (h : zls M st) : zls M (v :: st) := fun w hw => (List.mem_cons.mp hw).elim (fun e => by rw [e]; exact h1) (h w)
theorem zls_t {M : zMem} {v : Value} {st : List Value} (h : zls M (v :: st)) : zls M st := fun w hw => h w (List.mem_cons_of_mem _ hw)
theorem zls_h {M : zMem} {v : Value} {st : List Value} (h : zls M (v :: st)) : zlv M v := h v List.mem_cons_self
def zll (M : zMem) (ls : List (Nat × Value)) : Prop := ∀ q ∈ ls, zlv M q.2
theorem zls_mono {M M' : zMem} {st : List Value} (h : ∀ o, zc M o ≠ 0 → zc M' o ≠ 0) (k : zls M st) : zls M' st := fun v hv o e => h o (k v hv o e)
theorem zll_mono {M M' : zMem} {ls : List (Nat × Value)} (h : ∀ o, zc M o ≠ 0 → zc M' o ≠ 0) (k : zll M ls) : zll M' ls := fun v hv o e => h o (k v hv o e)
theorem zmv_congr {ad ad' : Nat → Nat} {M : zMem} {H : Heap} {D : zG} (hr : zrel D ad M H) (he : ∀ o, zc M o ≠ 0 → ad' o = ad o) {o : Nat} (ho : zc M o ≠ 0) (ty : FieldType) (k : Nat) : zmv ad' M ty o k = zmv ad M ty o k := by
  have h1 : (zr M o k).map ad' = (zr M o k).map ad := by
    cases h : zr M o k with
    | none => rfl
    | some o' => exact congrArg some (he o' (hr.2.2.2 o k o' ho h))
  cases ty <;> first | rfl | (show va_rf _ = va_rf _; rw [h1])
theorem zat_congr {ad ad' : Nat → Nat} {M : zMem} {H : Heap} {D : zG} (hr : zrel D ad M H) (he : ∀ o, zc M o ≠ 0 → ad' o = ad o) {o : Nat} (ho : zc M o ≠ 0) : zat D ad' M o H := by
  obtain ⟨h1, h2⟩ := hr.2.2.1 o ho
  refine ⟨fun ci q hc hq => ?_, fun t ht h6 => ?_⟩
  · rw [he o ho]
    exact (h1 ci q hc hq).to (fun k _ => (zmv_congr hr he ho _ k).symm)
  · rw [he o ho, h2 t ht h6]
    congr 2
    funext j
    exact (zmv_congr hr he ho _ j).symm
theorem zrel_congr {ad ad' : Nat → Nat} {M : zMem} {H : Heap} {D : zG} (hr : zrel D ad M H) (he : ∀ o, zc M o ≠ 0 → ad' o = ad o) : zrel D ad' M H :=
  ⟨fun o o' h h' e => hr.1 o o' h h' (by rw [← he o h, ← he o' h']; exact e), fun o h => by rw [he o h]; exact hr.2.1 o h, fun o h => zat_congr hr he h, hr.2.2.2⟩
theorem zph_congr {ad ad' : Nat → Nat} {M : zMem} (he : ∀ o, zc M o ≠ 0 → ad' o = ad o) {v : Value} (hv : zlv M v) : zph ad' v = zph ad v := by
  cases v with
  | ref o => exact congrArg Value.ref (he o (hv o rfl))
  | _ => rfl
theorem zst_congr {ad ad' : Nat → Nat} {M : zMem} (he : ∀ o, zc M o ≠ 0 → ad' o = ad o) {st : List Value} (hv : zls M st) : st.map (zph ad') = st.map (zph ad) :=
  List.map_congr_left fun v h => zph_congr he (hv v h)
theorem zll_congr {ad ad' : Nat → Nat} {M : zMem} (he : ∀ o, zc M o ≠ 0 → ad' o = ad o) {ls : List (Nat × Value)} (hv : zll M ls) : ls.map (zpl ad') = ls.map (zpl ad) :=
  List.map_congr_left fun q h => by show (q.1, zph ad' q.2) = (q.1, zph ad q.2); rw [zph_congr he (hv q h)]
theorem zx_rf {ad : Nat → Nat} {M : zMem} {sz : Nat} : zx ad M sz ad M := ⟨fun _ _ => ⟨rfl, rfl⟩, fun _ h => Or.inl h, fun e => by rw [e]; decide⟩
theorem zx_tr {ad0 ad ad' : Nat → Nat} {M0 M M' : zMem} {sz sz' : Nat} (h : zx ad0 M0 sz ad M) (hs : sz ≤ sz') (h' : zx ad M sz' ad' M') : zx ad0 M0 sz ad' M' := by
  refine ⟨fun o ho => ?_, fun o ho => ?_, fun e => ?_⟩
  · obtain ⟨a, b⟩ := h.1 o ho
    obtain ⟨a', b'⟩ := h'.1 o (by rw [b]; exact ho)
    exact ⟨a'.trans a, b'.trans b⟩
  · rcases h'.2.1 o ho with h1 | h1
    · rcases h.2.1 o h1 with h2 | h2
      · exact Or.inl h2
      · exact Or.inr (by rw [(h'.1 o h1).1]; exact h2)
    · exact Or.inr (Nat.le_trans hs h1)
  · have h1 := h'.2.2 e
    exact h.2.2 (by rw [← (h'.1 zE0 h1).2]; exact e)
/-- what the present memory lets be written, the first one lets, too -/
theorem zA_sub {ad0 ad : Nat → Nat} {M0 M : zMem} {sz sz' : Nat} (h : zx ad0 M0 sz ad M) (hs : sz ≤ sz') : ∀ q, zA ad M sz' q → zA ad0 M0 sz q := by
  intro q hq
  rcases hq with ⟨o, h1, h2, rfl⟩ | hq
  · rcases h.2.1 o h1 with h3 | h3
    · obtain ⟨a, b⟩ := h.1 o h3
      exact Or.inl ⟨o, h3, by rw [← b]; exact h2, a⟩
    · exact Or.inr h3
  · exact Or.inr (Nat.le_trans hs hq)
/-- the statics stay, seen from a later memory -/
theorem zSt.on {ad0 ad : Nat → Nat} {M0 M : zMem} {U : State} {H0 H : Heap} {locs : List Loc} (h : zSt ad0 M0 (zA ad0 M0 H0.size) U H0) (hz : zx ad0 M0 H0.size ad M) (hS : va_S (zA ad0 M0 H0.size) H0 H locs) : zSt ad M (zA ad M H.size) U H := by
  have hs := zA_sub hz hS.1
  have hk : ∀ a : Nat, a < H0.size → ¬ zA ad0 M0 H0.size a → H[a]? = H0[a]? := hS.2.1
  refine ⟨(vx_Zq.kept h.1 hk).narrow hs, (vx_Zq.kept h.2.1 hk).narrow hs, fun e => ?_⟩
  obtain ⟨a, b⟩ := hz.1 zE0 (hz.2.2 e)
  rw [a]
  exact (va_Z.kept (h.2.2 (by rw [← b]; exact e)) hk).narrow hs
/-! contracts -/
def zPc (D : zG) (ad : Nat → Nat) (M : zMem) (av : List Value) (sz : Nat) : Array Value → State → Prop := fun v U =>
  v = (av.map (zph ad)).toArray ∧ U.heap.size = sz ∧ zrel D ad M U.heap ∧ zls M av ∧ zKS D ad M (zA ad M sz) U U.heap
def zQc (D : zG) (ad : Nat → Nat) (M : zMem) (sz : Nat) (post : Option Value → zMem → Prop) : Array Value → State → Outcome → State → Prop := fun _ st oc t =>
  (∃ (v : Option Value) (ad' : Nat → Nat) (M' : zMem), oc = .returned (v.map (zph ad')) ∧ post v M' ∧ zrel D ad' M' t.heap ∧ zx ad M sz ad' M' ∧ (∀ w, v = some w → zlv M' w)) ∧ va_F (zA ad M sz) st t
def zXC (D : zG) (ad : Nat → Nat) (M : zMem) (sz : Nat) (xp : String → Prop) : String → State → State → Prop := fun E st t =>
  xp E ∧ zrel D ad M t.heap ∧ va_F (zA ad M sz) st t
/-- y, called with the values av in the memory M, ends: with an answer and a memory of post, or with an exception of xp, the memory unchanged -/
def zS (l : Launch) (y : MethodName) (ws : List Cond) (fr lo mc ms : Nat) (av : List Value) (M : zMem) (post : Option Value → zMem → Prop) (xp : String → Prop) : Prop :=
  ∀ (D : zG) (ad : Nat → Nat) (sz : Nat), vx_Met l y ws { frames := fr, cells := mc, slots := ms, locals := lo } (zPc D ad M av sz) (zQc D ad M sz post) (zXC D ad M sz xp) mc ms (zA ad M sz)
abbrev zCtx : Type := Program × Launch × Env × Room × State × MethodId × Array Value × List Frame × Method × Code × zG × (Nat → Nat) × zMem × (State → Prop)
def zCx (g : zCtx) (l0 : Launch) (cc : ByteArray) (nL : Nat) (ret : Option FieldType) (own nm : String) (Ts : List Cond) (fr lo mc ms : Nat) (M00 : zMem) (post : Option Value → zMem → Prop) (xp : String → Prop) (tab : List ExceptionTableEntry) : Prop := match g with
  | (p, l, e, R, s, m, args, below, meth, c, D, ad0, M0, Q) => l = l0 ∧ p.tables.exec = Jvm.exec ∧ c.code = cc ∧ c.maxLocals = nL ∧ meth.sig.returnType = ret ∧ s.vm.findClass own = some m.cls ∧ meth.name = nm ∧ (∀ w ∈ Ts, w.before args s = true) ∧ R = { frames := fr, cells := mc, slots := ms, locals := lo } ∧ M0 = M00 ∧
    Q = vx_MQ below (zQc D ad0 M0 s.heap.size post) (zXC D ad0 M0 s.heap.size xp) args s mc ms (zA ad0 M0 s.heap.size) ∧ meth.locks = false ∧ c.exceptionTable.toList = tab ∧ zKS D ad0 M0 (zA ad0 M0 s.heap.size) s s.heap
/-- the machine, at pc with these locals and this stack over the memory M, comes to the method's end -/
def zE (g : zCtx) (nL pc : Nat) (ls : List (Nat × Value)) (st : List Value) (M : zMem) (k n : Nat) : Prop := match g with
  | (p, l, e, R, s, m, args, below, meth, c, D, ad0, M0, Q) => ∀ (ad : Nat → Nat) (H : Heap) (locs : List Loc) (lss : Array Slot), zrel D ad M H → zx ad0 M0 s.heap.size ad M → va_S (zA ad0 M0 s.heap.size) s.heap H locs → lv_has lss nL (ls.map (zpl ad)) → zll M ls → zls M st →
    W p l e R s m args below meth c H locs k n Q (F0 m pc lss (st.map (zph ad)))
theorem zPc.blind {D : zG} {ad : Nat → Nat} {M : zMem} {av : List Value} {sz : Nat} : FrameBlind (zPc D ad M av sz) := fun a U g mk h =>
  ⟨h.1, h.2.1, h.2.2.1, h.2.2.2.1, zKS.same (u := U) (U := U.calling g mk a) rfl h.2.2.2.2⟩
theorem zargs0 (ad : Nat → Nat) : ∀ (vs : List Value) (i : Nat), lv_args i (vs.map (zph ad)) = (lv_args i vs).map (zpl ad)
  | [], _ => rfl
  | v :: vs, i => by
    show lv_args i (zph ad v :: vs.map (zph ad)) = _
    simp only [lv_args, zph_cat, List.map_cons, zargs0 ad vs]
    rfl
theorem zargs_mem : ∀ (vs : List Value) (i : Nat) (q : Nat × Value), q ∈ lv_args i vs → q.2 ∈ vs
  | [], _, q, h => by cases h
  | v :: vs, i, q, h => by
    simp only [lv_args, List.mem_cons] at h
    rcases h with h | h
    · rw [h]; exact List.mem_cons_self
    · exact List.mem_cons_of_mem _ (zargs_mem vs _ q h)
end
section
/-! PART 03: rows of zE: entry, ends, fields, rows of arrays. -/
theorem zsl_len (ad : Nat → Nat) (vs : List Value) : (lg_sl (vs.map (zph ad))).length = (lg_sl vs).length := by
  induction vs with
  | nil => rfl
  | cons v vs ih =>
    simp only [lg_sl, List.map_cons, List.flatMap_cons, List.length_append, zph_cat] at ih ⊢
    rw [ih]
    split <;> rfl
theorem z_intro {l : Launch} {y : MethodName} {ws ws' : List Cond} {fr lo mc ms : Nat} {av : List Value} {M : zMem} {post : Option Value → zMem → Prop} {xp : String → Prop} {cc : ByteArray} {maxL : Nat} {ret : Option FieldType}
    (hy : plainName y.cls = true) (hw : ws = Cond.code y cc maxL ret :: ws') (hlen : (lg_sl av).length ≤ maxL)
    (body : ∀ g : zCtx, zCx g l cc maxL ret y.cls y.name ws fr lo mc ms M post xp [] → zE g maxL 0 (lv_args 0 av) [] M 0 0) : zS l y ws fr lo mc ms av M post xp := by
  intro D ad sz
  refine vx_ofW hy hw ?_
  intro p e s m args below meth c s₁ B hml htab hv
  obtain ⟨hargs, hsz, hr, hlv, hks⟩ := hv
  subst hsz
  have htab' : c.exceptionTable.toList = [] := List.eq_nil_iff_forall_not_mem.mpr (fun x hx => htab x hx)
  have k := body (p, l, e, { frames := fr, cells := mc, slots := ms, locals := lo }, s, m, args, below, meth, c, D, ad, M, vx_MQ below (zQc D ad M s.heap.size post) (zXC D ad M s.heap.size xp) args s mc ms (zA ad M s.heap.size))
    ⟨rfl, B.exec, B.bytes, hml, B.returns, findClass_of_methodNamed B.named, (name_of_methodNamed B.named B.method).1, atoms_spec B.pre, rfl, rfl, rfl, B.notSynchronized, htab', hks⟩
    ad s.heap [] _ hr zx_rf va_S.rf (by rw [← zargs0]; exact lv_entry (av.map (zph ad)) (n := maxL) (by rw [zsl_len]; exact hlen)) (fun q hq => hlv _ (zargs_mem _ _ q hq)) (fun v hv => by cases hv)
  subst hargs
  rw [lg_entry_eq]
  exact k
theorem zlvq {M : zMem} {v : Value} (h : zlv M v) : ∀ w, some v = some w → zlv M w := fun w e => by cases e; exact h
section ZR
variable {g : zCtx} {l0 : Launch} {cc : ByteArray} {nL : Nat} {ret : Option FieldType} {own nm : String} {Ts : List Cond} {fr lo mc ms : Nat} {M00 : zMem} {post : Option Value → zMem → Prop} {xp : String → Prop} {tab : List ExceptionTableEntry}
variable {pc : Nat} {ls : List (Nat × Value)} {st rest : List Value} {M : zMem} {k n : Nat}
theorem z_nm {x : Int32} (kk : ∀ f : Int32, f = x → zE g nL pc ls (.int f :: st) M k n) : zE g nL pc ls (.int x :: st) M k n := kk x rfl
theorem z_mem {M' : zMem} (h : M = M') (kk : zE g nL pc ls st M' k n) : zE g nL pc ls st M k n := h ▸ kk
theorem z_top {v w : Value} (h : v = w) (kk : zE g nL pc ls (w :: st) M k n) : zE g nL pc ls (v :: st) M k n := h ▸ kk
theorem z_sub {ls' : List (Nat × Value)} (ks : List Nat) (hl : lv_pick ls ks = ls') (kk : zE g nL pc ls' st M k n) : zE g nL pc ls st M k n := by
  obtain ⟨p, l, e, R, s, m, args, below, meth, c, D, ad0, M0, Q⟩ := g
  intro ad H locs lss hr hz hS hl' hL hT
  refine kk ad H locs lss hr hz hS (lv_sub hl' ks ?_) (fun q hq => ?_) hT
  · rw [← hl]
    simp only [lv_pick, List.map_filterMap, List.getElem?_map]
  · rw [← hl] at hq
    obtain ⟨i, -, hi⟩ := List.mem_filterMap.mp hq
    exact hL q (List.mem_of_getElem? hi)
/-! ends -/
theorem z_iret (X : zCx g l0 cc nL ret own nm Ts fr lo mc ms M00 post xp tab) {ty : FieldType} {v : Int32} (hret : ret = some ty) (hn : narrow ty (.int v) = .int v) (hk : k ≤ mc) (hn' : n ≤ ms) (d : decode cc pc = .ok (.ireturn, 1)) (hp : post (some (.int v)) M) : zE g nL pc ls [.int v] M k n := by
  obtain ⟨p, l, e, R, s, m, args, below, meth, c, D, ad0, M0, Q⟩ := g
  obtain ⟨h0, hx, hb, hml, hrt, hown, hnm, hts, hR, hM0, hQ, hlk, htab, hks⟩ := X
  intro ad H locs lss hr hz hS hl hL hT
  subst hQ
  refine vx_ret (W.widen hk hn' ?_)
  exact W.zret hx hb (hrt.trans hret) hn (fun t ht hW => ⟨⟨some (.int v), ad, M, rfl, hp, by rw [ht]; exact hr, hz, zlvq zlv_int⟩, hS.F ht⟩) hS.2.2 d
theorem z_lret (X : zCx g l0 cc nL ret own nm Ts fr lo mc ms M00 post xp tab) {v : Int64} (hret : ret = some .long) (hk : k ≤ mc) (hn' : n ≤ ms) (d : decode cc pc = .ok (.lreturn, 1)) (hp : post (some (.long v)) M) : zE g nL pc ls [.long v] M k n := by
  obtain ⟨p, l, e, R, s, m, args, below, meth, c, D, ad0, M0, Q⟩ := g
  obtain ⟨h0, hx, hb, hml, hrt, hown, hnm, hts, hR, hM0, hQ, hlk, htab, hks⟩ := X
  intro ad H locs lss hr hz hS hl hL hT
  subst hQ
  refine vx_ret (W.widen hk hn' ?_)
  exact W.lret hx hb (hrt.trans hret) (fun t ht hW => ⟨⟨some (.long v), ad, M, rfl, hp, by rw [ht]; exact hr, hz, zlvq zlv_long⟩, hS.F ht⟩) hS.2.2 d
theorem z_fret (X : zCx g l0 cc nL ret own nm Ts fr lo mc ms M00 post xp tab) {v : UInt32} (hret : ret = some .float) (hk : k ≤ mc) (hn' : n ≤ ms) (d : decode cc pc = .ok (.freturn, 1)) (hp : post (some (.float v)) M) : zE g nL pc ls [.float v] M k n := by
  obtain ⟨p, l, e, R, s, m, args, below, meth, c, D, ad0, M0, Q⟩ := g
  obtain ⟨h0, hx, hb, hml, hrt, hown, hnm, hts, hR, hM0, hQ, hlk, htab, hks⟩ := X
  intro ad H locs lss hr hz hS hl hL hT
  subst hQ
  refine vx_ret (W.widen hk hn' ?_)
  exact W.fret hx hb (hrt.trans hret) (fun t ht hW => ⟨⟨some (.float v), ad, M, rfl, hp, by rw [ht]; exact hr, hz, zlvq zlv_float⟩, hS.F ht⟩) hS.2.2 d
theorem z_dret (X : zCx g l0 cc nL ret own nm Ts fr lo mc ms M00 post xp tab) {v : UInt64} (hret : ret = some .double) (hk : k ≤ mc) (hn' : n ≤ ms) (d : decode cc pc = .ok (.dreturn, 1)) (hp : post (some (.double v)) M) : zE g nL pc ls [.double v] M k n := by
  obtain ⟨p, l, e, R, s, m, args, below, meth, c, D, ad0, M0, Q⟩ := g
  obtain ⟨h0, hx, hb, hml, hrt, hown, hnm, hts, hR, hM0, hQ, hlk, htab, hks⟩ := X
  intro ad H locs lss hr hz hS hl hL hT
  subst hQ
  refine vx_ret (W.widen hk hn' ?_)
  exact W.dret hx hb (hrt.trans hret) (fun t ht hW => ⟨⟨some (.double v), ad, M, rfl, hp, by rw [ht]; exact hr, hz, zlvq zlv_double⟩, hS.F ht⟩) hS.2.2 d
theorem z_vret (X : zCx g l0 cc nL ret own nm Ts fr lo mc ms M00 post xp tab) (hret : ret = none) (hk : k ≤ mc) (hn' : n ≤ ms) (d : decode cc pc = .ok (.return_, 1)) (hp : post none M) : zE g nL pc ls [] M k n := by
  obtain ⟨p, l, e, R, s, m, args, below, meth, c, D, ad0, M0, Q⟩ := g
  obtain ⟨h0, hx, hb, hml, hrt, hown, hnm, hts, hR, hM0, hQ, hlk, htab, hks⟩ := X
  intro ad H locs lss hr hz hS hl hL hT
  subst hQ
  refine vx_ret (W.widen hk hn' ?_)
  exact W.vret hx hb (hrt.trans hret) (fun t ht hW => ⟨⟨none, ad, M, rfl, hp, by rw [ht]; exact hr, hz, fun w e => nomatch e⟩, hS.F ht⟩) hS.2.2 d
theorem z_aret (X : zCx g l0 cc nL ret own nm Ts fr lo mc ms M00 post xp tab) {v : Value} {rt : FieldType} (hret : ret = some rt) (hrt' : (∃ n, rt = .object n) ∨ ∃ t, rt = .array t) (hv : v = .null ∨ ∃ a, v = .ref a) (hk : k ≤ mc) (hn' : n ≤ ms) (d : decode cc pc = .ok (.areturn, 1)) (hp : post (some v) M) : zE g nL pc ls [v] M k n := by
  obtain ⟨p, l, e, R, s, m, args, below, meth, c, D, ad0, M0, Q⟩ := g
  obtain ⟨h0, hx, hb, hml, hrt, hown, hnm, hts, hR, hM0, hQ, hlk, htab, hks⟩ := X
  intro ad H locs lss hr hz hS hl hL hT
  subst hQ
  refine vx_ret (W.widen hk hn' ?_)
  refine W.aret hx hb (hrt.trans hret) hrt' ?_ (fun t ht hW => ⟨⟨some v, ad, M, rfl, hp, by rw [ht]; exact hr, hz, zlvq (zls_h hT)⟩, hS.F ht⟩) hS.2.2 d
  rcases hv with rfl | ⟨a, rfl⟩
  · exact Or.inl rfl
  · exact Or.inr ⟨_, rfl⟩
/-! fields -/
theorem z_get0 (X : zCx g l0 cc nL ret own nm Ts fr lo mc ms M00 post xp tab) {o ci j index N : Nat} {C ref : String} {T : u_T} (d : decode cc pc = .ok (.getfield index, 3)) (hc : zc M o = ci + 1) (hq : vwCl[ci]? = some (C, T, N)) (hj : j < N)
    (hlink : Cond.fieldLink own index ref (T j).2.1 (T j).2.2.1 ∈ Ts) (hsame : ref = (T j).1 ∨ Cond.sameField ref (T j).1 (T j).2.1 (T j).2.2.1 ∈ Ts) {v : Value} (hv : ∀ ad, zmv ad M (zct ci j) o j = zph ad v) (hlv : zlv M v)
    (kk : zE g nL (pc + 3) ls (v :: rest) M k n) : zE g nL pc ls (.ref o :: rest) M k n := by
  obtain ⟨p, l, e, R, s, m, args, below, meth, c, D, ad0, M0, Q⟩ := g
  obtain ⟨h0, hx, hb, hml, hrt, hown, hnm, hts, hR, hM0, hQ, hlk, htab, hks⟩ := X
  intro ad H locs lss hr hz hS hl hL hT
  have ho : zc M o ≠ 0 := by rw [hc]; exact Nat.succ_ne_zero _
  obtain ⟨cell, q1, q2, q3, q4⟩ := (hr.2.2.1 o ho).1 ci _ hc hq
  obtain ⟨hSl, hfc, kC, hkC, hkind⟩ := hks.1.1.1 ci _ hq
  obtain ⟨cf, kf, fi, f, hi, hsl⟩ := hSl j hj
  have hlay := hks.1.2 ci _ hq
  have hi' : s.fieldFound? ref (T j).2.1 (T j).2.2.1 = some (cf, kf, fi, f) := by
    rcases hsame with e | e
    · rw [e]; exact hi
    · exact u_same (hts _ e) _ hi
  refine W.getf hx hb hown (hts _ hlink) hi' (u_facts hfc hkC (u_lays hlay (fun _ h => h) hj) hi).1 q1 (by rw [q3]; exact fun h => by cases h) (v := zph ad v) ?_ rfl rfl d (kk ad H locs lss hr hz hS hl hL (zls_c hlv (zls_t hT)))
  rw [hsl, q4 j hj]
  exact congrArg some (hv ad)
theorem z_getI (X : zCx g l0 cc nL ret own nm Ts fr lo mc ms M00 post xp tab) {o ci j index N : Nat} {C ref : String} {T : u_T} (d : decode cc pc = .ok (.getfield index, 3)) (hc : zc M o = ci + 1) (hq : vwCl[ci]? = some (C, T, N)) (hj : j < N)
    (hlink : Cond.fieldLink own index ref (T j).2.1 (T j).2.2.1 ∈ Ts) (hsame : ref = (T j).1 ∨ Cond.sameField ref (T j).1 (T j).2.1 (T j).2.2.1 ∈ Ts) (hv : ∀ ad, zmv ad M (zct ci j) o j = .int (zi M o j)) {x : Int32} (hx : zi M o j = x)
    (kk : zE g nL (pc + 3) ls (.int x :: rest) M k n) : zE g nL pc ls (.ref o :: rest) M k n := by
  subst hx
  exact z_get0 (v := .int (zi M o j)) X d hc hq hj hlink hsame hv zlv_int kk
theorem z_getL (X : zCx g l0 cc nL ret own nm Ts fr lo mc ms M00 post xp tab) {o ci j index N : Nat} {C ref : String} {T : u_T} (d : decode cc pc = .ok (.getfield index, 3)) (hc : zc M o = ci + 1) (hq : vwCl[ci]? = some (C, T, N)) (hj : j < N)
    (hlink : Cond.fieldLink own index ref (T j).2.1 (T j).2.2.1 ∈ Ts) (hsame : ref = (T j).1 ∨ Cond.sameField ref (T j).1 (T j).2.1 (T j).2.2.1 ∈ Ts) (hv : ∀ ad, zmv ad M (zct ci j) o j = .long (zl M o j)) {x : Int64} (hx : zl M o j = x)
    (kk : zE g nL (pc + 3) ls (.long x :: rest) M k n) : zE g nL pc ls (.ref o :: rest) M k n := by
  subst hx
  exact z_get0 (v := .long (zl M o j)) X d hc hq hj hlink hsame hv zlv_long kk
theorem z_getR (X : zCx g l0 cc nL ret own nm Ts fr lo mc ms M00 post xp tab) {o ci j index N : Nat} {C ref : String} {T : u_T} (d : decode cc pc = .ok (.getfield index, 3)) (hc : zc M o = ci + 1) (hq : vwCl[ci]? = some (C, T, N)) (hj : j < N)
    (hlink : Cond.fieldLink own index ref (T j).2.1 (T j).2.2.1 ∈ Ts) (hsame : ref = (T j).1 ∨ Cond.sameField ref (T j).1 (T j).2.1 (T j).2.2.1 ∈ Ts) (hv : ∀ ad, zmv ad M (zct ci j) o j = va_rf ((zr M o j).map ad)) {o' : Nat} (hx : zr M o j = some o')
    (kk : zE g nL (pc + 3) ls (.ref o' :: rest) M k n) : zE g nL pc ls (.ref o :: rest) M k n := by
  obtain ⟨p, l, e, R, s, m, args, below, meth, c, D, ad0, M0, Q⟩ := g
  intro ad H locs lss hr hz hS hl hL hT
  refine z_get0 (g := (p, l, e, R, s, m, args, below, meth, c, D, ad0, M0, Q)) X d hc hq hj hlink hsame (v := .ref o') (fun ad => by rw [hv ad, hx]; rfl) (zlv_ref (hr.2.2.2 o j o' (by rw [hc]; exact Nat.succ_ne_zero _) hx)) kk ad H locs lss hr hz hS hl hL hT
theorem z_getN (X : zCx g l0 cc nL ret own nm Ts fr lo mc ms M00 post xp tab) {o ci j index N : Nat} {C ref : String} {T : u_T} (d : decode cc pc = .ok (.getfield index, 3)) (hc : zc M o = ci + 1) (hq : vwCl[ci]? = some (C, T, N)) (hj : j < N)
    (hlink : Cond.fieldLink own index ref (T j).2.1 (T j).2.2.1 ∈ Ts) (hsame : ref = (T j).1 ∨ Cond.sameField ref (T j).1 (T j).2.1 (T j).2.2.1 ∈ Ts) (hv : ∀ ad, zmv ad M (zct ci j) o j = va_rf ((zr M o j).map ad)) (hx : zr M o j = none)
    (kk : zE g nL (pc + 3) ls (.null :: rest) M k n) : zE g nL pc ls (.ref o :: rest) M k n :=
  z_get0 X d hc hq hj hlink hsame (v := .null) (fun ad => by rw [hv ad, hx]; rfl) zlv_null kk
end ZR
/-- M' is M but at the place (o, j) -/
def zoff (M M' : zMem) (o j : Nat) : Prop := zc M' = zc M ∧ zn M' = zn M ∧ ∀ p q, ¬ (p = o ∧ q = j) → zr M' p q = zr M p q ∧ zi M' p q = zi M p q ∧ zl M' p q = zl M p q ∧ zd M' p q = zd M p q
theorem zwi_off {M : zMem} {o j : Nat} {x : Int32} : zoff M (zwi M o j x) o j := ⟨rfl, rfl, fun _ _ h => ⟨rfl, zup_n h, rfl, rfl⟩⟩
theorem zwl_off {M : zMem} {o j : Nat} {x : Int64} : zoff M (zwl M o j x) o j := ⟨rfl, rfl, fun _ _ h => ⟨rfl, rfl, zup_n h, rfl⟩⟩
theorem zwd_off {M : zMem} {o j : Nat} {x : UInt64} : zoff M (zwd M o j x) o j := ⟨rfl, rfl, fun _ _ h => ⟨rfl, rfl, rfl, zup_n h⟩⟩
theorem zwr_off {M : zMem} {o j : Nat} {x : Option Nat} : zoff M (zwr M o j x) o j := ⟨rfl, rfl, fun _ _ h => ⟨zup_n h, rfl, rfl, rfl⟩⟩
theorem zmv_off {ad : Nat → Nat} {M M' : zMem} {o j : Nat} (h : zoff M M' o j) {p q : Nat} (hne : ¬ (p = o ∧ q = j)) (ty : FieldType) : zmv ad M' ty p q = zmv ad M ty p q := by
  obtain ⟨h1, h2, h3, h4⟩ := h.2.2 p q hne
  cases ty <;> simp only [zmv, h1, h2, h3, h4]
theorem zrel_off {D : zG} {ad : Nat → Nat} {M M' : zMem} {H H1 : Heap} {o j : Nat} (hr : zrel D ad M H) (hf : zoff M M' o j) (ho : zc M o ≠ 0) (hcl : ∀ o', zr M' o j = some o' → zc M o' ≠ 0) (e2 : H1.size = H.size) (e3 : ∀ q : Nat, q ≠ ad o → H1[q]? = H[q]?) (hat : zat D ad M' o H1) : zrel D ad M' H1 := by
  have hc : zc M' = zc M := hf.1
  refine ⟨fun a b h h' => by rw [hc] at h h'; exact hr.1 a b h h', fun a h => by rw [hc] at h; rw [e2]; exact hr.2.1 a h, fun a h => ?_, fun a q b h hb => ?_⟩
  · rw [hc] at h
    by_cases hao : a = o
    · rw [hao]; exact hat
    · have hne : ad a ≠ ad o := fun e => hao (hr.1 a o h ho e)
      have hm : ∀ ty q, zmv ad M' ty a q = zmv ad M ty a q := fun ty q => zmv_off hf (fun e => hao e.1) ty
      obtain ⟨h1, h2⟩ := hr.2.2.1 a h
      refine ⟨fun ci q hci hq => ?_, fun t ht h6 => ?_⟩
      · rw [hc] at hci
        exact ((h1 ci q hci hq).kept (e3 _ hne)).to (fun x _ => (hm _ _).symm)
      · rw [hc] at ht
        rw [e3 _ hne, h2 t ht h6, hf.2.1]
        congr 2
        funext x
        exact (hm _ _).symm
  · rw [hc] at h ⊢
    by_cases hne : a = o ∧ q = j
    · obtain ⟨rfl, rfl⟩ := hne
      exact hcl b hb
    · rw [(hf.2.2 a q hne).1] at hb
      exact hr.2.2.2 a q b h hb
theorem zx_off {ad0 ad : Nat → Nat} {M0 M M' : zMem} {sz o j : Nat} (h : zx ad0 M0 sz ad M) (hf : zoff M M' o j) : zx ad0 M0 sz ad M' :=
  ⟨fun a ha => by rw [hf.1]; exact h.1 a ha, fun a ha => h.2.1 a (by rw [← hf.1]; exact ha), fun e => h.2.2 (by rw [← hf.1]; exact e)⟩
theorem zA_in {ad0 ad : Nat → Nat} {M0 M : zMem} {sz o : Nat} (h : zx ad0 M0 sz ad M) (ho : zc M o ≠ 0) (h26 : zc M o ≠ 26) : zA ad0 M0 sz (ad o) := by
  rcases h.2.1 o ho with h1 | h1
  · obtain ⟨a, b⟩ := h.1 o h1
    exact Or.inl ⟨o, h1, by rw [← b]; exact h26, a⟩
  · exact Or.inr h1
theorem zls_off {M M' : zMem} {o j : Nat} (hf : zoff M M' o j) {st : List Value} (h : zls M st) : zls M' st := zls_mono (fun a ha => by rw [hf.1]; exact ha) h
theorem zll_off {M M' : zMem} {o j : Nat} (hf : zoff M M' o j) {ls : List (Nat × Value)} (h : zll M ls) : zll M' ls := zll_mono (fun a ha => by rw [hf.1]; exact ha) h
section ZP
variable {g : zCtx} {l0 : Launch} {cc : ByteArray} {nL : Nat} {ret : Option FieldType} {own nm : String} {Ts : List Cond} {fr lo mc ms : Nat} {M00 : zMem} {post : Option Value → zMem → Prop} {xp : String → Prop} {tab : List ExceptionTableEntry}
variable {pc : Nat} {ls : List (Nat × Value)} {st rest : List Value} {M : zMem} {k n : Nat}
/-- what the tables say of the slots: they lie apart -/
theorem z_apart {D : zG} {s : State} (hK : zK D s) {ci N : Nat} {C : String} {T : u_T} (hq : vwCl[ci]? = some (C, T, N)) (ty : Nat → FieldType) (hty : ∀ k, k < N → parseFieldDescriptor (T k).2.2.1 = some (ty k)) (hnm : ∀ a, a < N → ∀ b, b < N → a ≠ b → (T a).2.1 ≠ (T b).2.1) : ∀ x y, x < N → y < N → x ≠ y → (D.1.2 ci) x ≠ (D.1.2 ci) y := by
  intro x y hx hy hne
  obtain ⟨hS, -⟩ := hK.1.1 ci _ hq
  have hlay := hK.2 ci _ hq
  obtain ⟨_, _, _, fa, hia, ea⟩ := hS x hx
  obtain ⟨_, _, _, fb, hib, eb⟩ := hS y hy
  rw [← ea, ← eb]
  refine u_apart (u_lays hlay (fun _ h => h) hx) (u_lays hlay (fun _ h => h) hy) hia hib ?_
  rw [(State.fieldFound?_type hia (hty x hx)).1, (State.fieldFound?_type hib (hty y hy)).1]
  exact hnm x hx y hy hne
/-- the names and types of the fields of the classes of vwCl -/
def zokC (ci : Nat) (q : vw_C) : Prop := (∀ k, k < q.2.2 → parseFieldDescriptor (q.2.1 k).2.2.1 = some (zct ci k)) ∧ (∀ a, a < q.2.2 → ∀ b, b < q.2.2 → a ≠ b → (q.2.1 a).2.1 ≠ (q.2.1 b).2.1)
theorem zokC_all : ∀ ci : Nat, ∀ q, vwCl[ci]? = some q → zokC ci q := by
  intro ci q hq
  have hci : ci < 12 := (List.getElem?_eq_some_iff.mp hq).1
  rcases ci with _ | _ | _ | _ | _ | _ | _ | _ | _ | _ | _ | _ | ci
  · cases hq; exact ⟨tyJ0_ok, nmJ0⟩
  · cases hq; exact ⟨tyJx00060_ok, nmJx00060⟩
  · cases hq; exact ⟨tyJx4a65c_ok, nmJx4a65c⟩
  · cases hq; exact ⟨tyX0_ok, nmX0⟩
  · cases hq; exact ⟨tyX1_ok, nmX1⟩
  · cases hq; exact ⟨tyX2_ok, nmX2⟩
  · cases hq; exact ⟨tyX3_ok, nmX3⟩
  · cases hq; exact ⟨tyX4_ok, nmX4⟩
  · cases hq; exact ⟨tyX5_ok, nmX5⟩
  · cases hq; exact ⟨tyX6_ok, nmX6⟩
  · cases hq; exact ⟨tyX7_ok, nmX7⟩
  · cases hq; exact ⟨tyX8_ok, nmX8⟩
  · omega
/-- a field's new value -/
theorem z_put0 (X : zCx g l0 cc nL ret own nm Ts fr lo mc ms M00 post xp tab) {o ci j index N : Nat} {C ref : String} {T : u_T} (d : decode cc pc = .ok (.putfield index, 3)) (hc : zc M o = ci + 1) (hq : vwCl[ci]? = some (C, T, N)) (hj : j < N)
    (hlink : Cond.fieldLink own index ref (T j).2.1 (T j).2.2.1 ∈ Ts) (hsame : ref = (T j).1 ∨ Cond.sameField ref (T j).1 (T j).2.1 (T j).2.2.1 ∈ Ts) (hfin : (T j).2.2.2 = false ∨ ((T j).2.2.2 = true ∧ nm = "<init>" ∧ (T j).1 = own))
    {M' : zMem} {v : Value} (hoff : zoff M M' o j) (hcl : ∀ o', zr M' o j = some o' → zc M o' ≠ 0) (hv : ∀ ad, zmv ad M' (zct ci j) o j = zph ad v) (hn9 : ∀ ad, narrow (zct ci j) (zph ad v) = zph ad v) (hf9 : ∀ ad, fits (zct ci j) (zph ad v) = true)
    (kk : zE g nL (pc + 3) ls rest M' k n) : zE g nL pc ls (v :: .ref o :: rest) M k n := by
  obtain ⟨p, l, e, R, s, m, args, below, meth, c, D, ad0, M0, Q⟩ := g
  obtain ⟨h0, hx, hb, hml, hrt, hown, hnm, hts, hR, hM0, hQ, hlk, htab, hks⟩ := X
  intro ad H locs lss hr hz hS hl hL hT
  have ho : zc M o ≠ 0 := by rw [hc]; exact Nat.succ_ne_zero _
  have hci : ci < 12 := (List.getElem?_eq_some_iff.mp hq).1
  obtain ⟨hty, hnm9⟩ := zokC_all ci _ hq
  have hap := z_apart hks.1 hq (zct ci) hty hnm9
  obtain ⟨hat1, hat2⟩ := hr.2.2.1 o ho
  obtain ⟨cell, q1, q2, q3, q4⟩ := hat1 ci _ hc hq
  obtain ⟨hSl, hfc, kC, hkC, hkind⟩ := hks.1.1.1 ci _ hq
  obtain ⟨cf, kf, fi, f, hi, hsl⟩ := hSl j hj
  have hlay := hks.1.2 ci _ hq
  have hi' : s.fieldFound? ref (T j).2.1 (T j).2.2.1 = some (cf, kf, fi, f) := by
    rcases hsame with e | e
    · rw [e]; exact hi
    · exact u_same (hts _ e) _ hi
  have hst := (u_facts hfc hkC (u_lays hlay (fun _ h => h) hj) hi).1
  have hA := zA_in hz ho (by rw [hc]; omega)
  have key : ∀ H' : Heap, H'[ad o]? = some (cell.setSlot f.slot (zph ad v)) → H'.size = H.size → (∀ q, q ≠ ad o → H'[q]? = H[q]?) → W p l e R s m args below meth c H' (locs ++ [⟨ad o, f.slot⟩]) k n Q { F0 m pc lss (zph ad v :: .ref (ad o) :: rest.map (zph ad)) with pc := pc + 3, stack := rest.map (zph ad) } := by
    intro H' e1 e2 e3
    rw [hsl] at e1 ⊢
    refine kk ad H' _ lss (zrel_off hr hoff ho hcl e2 e3 ⟨fun ci' q' hc' hq' => ?_, fun t ht h6 => ?_⟩) (zx_off hz hoff) (hS.put e2 e3 hA) hl (zll_off hoff hL) (zls_off hoff (zls_t (zls_t hT)))
    · rw [hoff.1, hc] at hc'
      have hcc : ci = ci' := Nat.succ.inj hc'
      subst hcc
      rw [hq] at hq'
      cases hq'
      refine t_OB.to (V := updV (fun x => zmv ad M (zct ci x) o x) j (zph ad v)) ⟨_, e1, q2, q3, t_set q4 hap hj (zph ad v)⟩ (fun x _ => ?_)
      by_cases hxj : x = j
      · subst hxj
        show updV _ _ _ _ = _
        simp only [updV, if_pos rfl]
        exact (hv ad).symm
      · show updV _ _ _ _ = _
        simp only [updV, if_neg hxj]
        exact (zmv_off hoff (fun e => hxj e.2) _).symm
    · rw [hoff.1, hc] at ht
      omega
  rcases hfin with hfin | ⟨hfin, hin2, hdecl⟩
  · have hl9 := hlay _ (u_in_lay hj)
    unfold u_lay at hl9
    rw [if_neg (by rw [hfin]; decide)] at hl9
    have h6 := u_store hfc hkC hkind hl9 hi (hty j hj) (hn9 ad) (hf9 ad)
    exact W.putK hx hb (f := f) ⟨hown, hts _ hlink, ⟨_, _, _, hi'⟩, hst⟩ (by rw [q2]; exact h6) q1 q3 (by rw [hsl]; exact k2_hasslot (q4 j hj)) rfl rfl d key
  · have hl9 := hlay _ (u_in_lay hj)
    unfold u_lay at hl9
    rw [if_pos hfin] at hl9
    have hcf : m.cls = cf := by
      obtain ⟨_, _, c', _, _, _, -, -, hf', -, -, -, hown2, -⟩ := Cond.laysFinal_spec hl9
      have e1 : c' = cf := by have := hi.symm.trans hf'; simp at this; exact this.1.symm
      rw [hdecl] at hown2
      rw [← e1]; exact Option.some.inj (hown.symm.trans hown2)
    have h6 := u_fits hfc hkC hkind (Or.inr hl9) hi (hty j hj) (hn9 ad) (hf9 ad)
    exact W.putFinK hx hb hown (hts _ hlink) hi' hst hcf (hnm.trans hin2) (by rw [q2]; exact h6) q1 q3 (by rw [hsl]; exact k2_hasslot (q4 j hj)) rfl rfl d key
theorem z_putI (X : zCx g l0 cc nL ret own nm Ts fr lo mc ms M00 post xp tab) {o ci j index N : Nat} {C ref : String} {T : u_T} (d : decode cc pc = .ok (.putfield index, 3)) (hc : zc M o = ci + 1) (hq : vwCl[ci]? = some (C, T, N)) (hj : j < N)
    (hlink : Cond.fieldLink own index ref (T j).2.1 (T j).2.2.1 ∈ Ts) (hsame : ref = (T j).1 ∨ Cond.sameField ref (T j).1 (T j).2.1 (T j).2.2.1 ∈ Ts) (hfin : (T j).2.2.2 = false ∨ ((T j).2.2.2 = true ∧ nm = "<init>" ∧ (T j).1 = own))
    {x : Int32} (hv : ∀ ad, zmv ad (zwi M o j x) (zct ci j) o j = .int (zi (zwi M o j x) o j)) (hn9 : narrow (zct ci j) (.int x) = .int x) (hf9 : fits (zct ci j) (.int x) = true)
    (kk : zE g nL (pc + 3) ls rest (zwi M o j x) k n) : zE g nL pc ls (.int x :: .ref o :: rest) M k n := by
  obtain ⟨p, l, e, R, s, m, args, below, meth, c, D, ad0, M0, Q⟩ := g
  intro ad H locs lss hr hz hS hl hL hT
  exact z_put0 (g := (p, l, e, R, s, m, args, below, meth, c, D, ad0, M0, Q)) X d hc hq hj hlink hsame hfin (v := .int x) zwi_off (fun o' h => hr.2.2.2 o j o' (by rw [hc]; exact Nat.succ_ne_zero _) h) (fun ad => by rw [hv ad]; exact congrArg Value.int zup_s) (fun _ => hn9) (fun _ => hf9) kk ad H locs lss hr hz hS hl hL hT
theorem z_putL (X : zCx g l0 cc nL ret own nm Ts fr lo mc ms M00 post xp tab) {o ci j index N : Nat} {C ref : String} {T : u_T} (d : decode cc pc = .ok (.putfield index, 3)) (hc : zc M o = ci + 1) (hq : vwCl[ci]? = some (C, T, N)) (hj : j < N)
    (hlink : Cond.fieldLink own index ref (T j).2.1 (T j).2.2.1 ∈ Ts) (hsame : ref = (T j).1 ∨ Cond.sameField ref (T j).1 (T j).2.1 (T j).2.2.1 ∈ Ts) (hfin : (T j).2.2.2 = false ∨ ((T j).2.2.2 = true ∧ nm = "<init>" ∧ (T j).1 = own))
    {x : Int64} (hv : ∀ ad, zmv ad (zwl M o j x) (zct ci j) o j = .long (zl (zwl M o j x) o j)) (hn9 : narrow (zct ci j) (.long x) = .long x) (hf9 : fits (zct ci j) (.long x) = true)
    (kk : zE g nL (pc + 3) ls rest (zwl M o j x) k n) : zE g nL pc ls (.long x :: .ref o :: rest) M k n := by
  obtain ⟨p, l, e, R, s, m, args, below, meth, c, D, ad0, M0, Q⟩ := g
  intro ad H locs lss hr hz hS hl hL hT
  exact z_put0 (g := (p, l, e, R, s, m, args, below, meth, c, D, ad0, M0, Q)) X d hc hq hj hlink hsame hfin (v := .long x) zwl_off (fun o' h => hr.2.2.2 o j o' (by rw [hc]; exact Nat.succ_ne_zero _) h) (fun ad => by rw [hv ad]; exact congrArg Value.long zup_s) (fun _ => hn9) (fun _ => hf9) kk ad H locs lss hr hz hS hl hL hT
theorem z_putR (X : zCx g l0 cc nL ret own nm Ts fr lo mc ms M00 post xp tab) {o ci j index N : Nat} {C ref : String} {T : u_T} (d : decode cc pc = .ok (.putfield index, 3)) (hc : zc M o = ci + 1) (hq : vwCl[ci]? = some (C, T, N)) (hj : j < N)
    (hlink : Cond.fieldLink own index ref (T j).2.1 (T j).2.2.1 ∈ Ts) (hsame : ref = (T j).1 ∨ Cond.sameField ref (T j).1 (T j).2.1 (T j).2.2.1 ∈ Ts) (hfin : (T j).2.2.2 = false ∨ ((T j).2.2.2 = true ∧ nm = "<init>" ∧ (T j).1 = own))
    {x : Nat} (hv : ∀ ad, zmv ad (zwr M o j (some x)) (zct ci j) o j = va_rf ((zr (zwr M o j (some x)) o j).map ad)) (hn9 : ∀ a, narrow (zct ci j) (.ref a) = .ref a) (hf9 : ∀ a, fits (zct ci j) (.ref a) = true)
    (kk : zE g nL (pc + 3) ls rest (zwr M o j (some x)) k n) : zE g nL pc ls (.ref x :: .ref o :: rest) M k n := by
  obtain ⟨p, l, e, R, s, m, args, below, meth, c, D, ad0, M0, Q⟩ := g
  intro ad H locs lss hr hz hS hl hL hT
  have e9 : zr (zwr M o j (some x)) o j = some x := zup_s
  refine z_put0 (g := (p, l, e, R, s, m, args, below, meth, c, D, ad0, M0, Q)) X d hc hq hj hlink hsame hfin (v := .ref x) zwr_off (fun o' h => ?_) (fun ad => by rw [hv ad, e9]; rfl) (fun ad => hn9 _) (fun ad => hf9 _) kk ad H locs lss hr hz hS hl hL hT
  rw [e9] at h
  cases h
  exact zls_h hT _ rfl
theorem z_putN (X : zCx g l0 cc nL ret own nm Ts fr lo mc ms M00 post xp tab) {o ci j index N : Nat} {C ref : String} {T : u_T} (d : decode cc pc = .ok (.putfield index, 3)) (hc : zc M o = ci + 1) (hq : vwCl[ci]? = some (C, T, N)) (hj : j < N)
    (hlink : Cond.fieldLink own index ref (T j).2.1 (T j).2.2.1 ∈ Ts) (hsame : ref = (T j).1 ∨ Cond.sameField ref (T j).1 (T j).2.1 (T j).2.2.1 ∈ Ts) (hfin : (T j).2.2.2 = false ∨ ((T j).2.2.2 = true ∧ nm = "<init>" ∧ (T j).1 = own))
    (hv : ∀ ad, zmv ad (zwr M o j none) (zct ci j) o j = va_rf ((zr (zwr M o j none) o j).map ad)) (hn9 : narrow (zct ci j) .null = .null) (hf9 : fits (zct ci j) .null = true)
    (kk : zE g nL (pc + 3) ls rest (zwr M o j none) k n) : zE g nL pc ls (.null :: .ref o :: rest) M k n := by
  have e9 : zr (zwr M o j none) o j = none := zup_s
  exact z_put0 X d hc hq hj hlink hsame hfin (v := .null) zwr_off (fun o' h => by rw [e9] at h; cases h) (fun ad => by rw [hv ad, e9]; rfl) (fun _ => hn9) (fun _ => hf9) kk
end ZP
section ZA
variable {g : zCtx} {l0 : Launch} {cc : ByteArray} {nL : Nat} {ret : Option FieldType} {own nm : String} {Ts : List Cond} {fr lo mc ms : Nat} {M00 : zMem} {post : Option Value → zMem → Prop} {xp : String → Prop} {tab : List ExceptionTableEntry}
variable {pc : Nat} {ls : List (Nat × Value)} {st rest : List Value} {M : zMem} {k n : Nat}
theorem z_iald (X : zCx g l0 cc nL ret own nm Ts fr lo mc ms M00 post xp tab) {o : Nat} {i : Int32} {j : Nat} {x : Int32} (d : decode cc pc = .ok (.iaload, 1)) (hc : zc M o = 20) (hin : vp_in i (zn M o)) (hj : i.toNatClampNeg = j) (hx9 : zi M o j = x)
    (kk : zE g nL (pc + 1) ls (.int x :: rest) M k n) : zE g nL pc ls (.int i :: .ref o :: rest) M k n := by
  subst hj; subst hx9
  obtain ⟨p, l, e, R, s, m, args, below, meth, c, D, ad0, M0, Q⟩ := g
  obtain ⟨h0, hx, hb, hml, hrt, hown, hnm, hts, hR, hM0, hQ, hlk, htab, hks⟩ := X
  intro ad H locs lss hr hz hS hl hL hT
  have ho : zc M o ≠ 0 := by rw [hc]; decide
  have hlt : i.toNatClampNeg < zn M o := Nat.not_le.mp fun q => hin (Or.inr q)
  have hcell := (hr.2.2.1 o ho).2 0 hc (by decide)
  exact W.iald (v := .int (zi M o i.toNatClampNeg)) hx hb hcell ((hks.1.1.2 0 _ rfl).1 (zn M o) (fun j => .int (zi M o j))) (fun q => by cases q) (by rw [arrV_size]; exact hin) (by rw [arrV_read _ _ hlt]; rfl) rfl rfl d (kk ad H locs lss hr hz hS hl hL (zls_c zlv_int (zls_t (zls_t hT))))
theorem z_lald (X : zCx g l0 cc nL ret own nm Ts fr lo mc ms M00 post xp tab) {o : Nat} {i : Int32} {j : Nat} {x : Int64} (d : decode cc pc = .ok (.laload, 1)) (hc : zc M o = 21) (hin : vp_in i (zn M o)) (hj : i.toNatClampNeg = j) (hx9 : zl M o j = x)
    (kk : zE g nL (pc + 1) ls (.long x :: rest) M k n) : zE g nL pc ls (.int i :: .ref o :: rest) M k n := by
  subst hj; subst hx9
  obtain ⟨p, l, e, R, s, m, args, below, meth, c, D, ad0, M0, Q⟩ := g
  obtain ⟨h0, hx, hb, hml, hrt, hown, hnm, hts, hR, hM0, hQ, hlk, htab, hks⟩ := X
  intro ad H locs lss hr hz hS hl hL hT
  have ho : zc M o ≠ 0 := by rw [hc]; decide
  have hlt : i.toNatClampNeg < zn M o := Nat.not_le.mp fun q => hin (Or.inr q)
  have hcell := (hr.2.2.1 o ho).2 1 hc (by decide)
  exact W.lald (v := .long (zl M o i.toNatClampNeg)) hx hb hcell ((hks.1.1.2 1 _ rfl).1 (zn M o) (fun j => .long (zl M o j))) (fun q => by cases q) (by rw [arrV_size]; exact hin) (by rw [arrV_read _ _ hlt]; rfl) rfl rfl d (kk ad H locs lss hr hz hS hl hL (zls_c zlv_long (zls_t (zls_t hT))))
theorem z_zald (X : zCx g l0 cc nL ret own nm Ts fr lo mc ms M00 post xp tab) {o : Nat} {i : Int32} {j : Nat} {x : Int32} (d : decode cc pc = .ok (.baload, 1)) (hc : zc M o = 22) (hin : vp_in i (zn M o)) (hj : i.toNatClampNeg = j) (hx9 : zi M o j = x)
    (kk : zE g nL (pc + 1) ls (.int x :: rest) M k n) : zE g nL pc ls (.int i :: .ref o :: rest) M k n := by
  subst hj; subst hx9
  obtain ⟨p, l, e, R, s, m, args, below, meth, c, D, ad0, M0, Q⟩ := g
  obtain ⟨h0, hx, hb, hml, hrt, hown, hnm, hts, hR, hM0, hQ, hlk, htab, hks⟩ := X
  intro ad H locs lss hr hz hS hl hL hT
  have ho : zc M o ≠ 0 := by rw [hc]; decide
  have hlt : i.toNatClampNeg < zn M o := Nat.not_le.mp fun q => hin (Or.inr q)
  have hcell := (hr.2.2.1 o ho).2 2 hc (by decide)
  exact W.zald (v := .int (zi M o i.toNatClampNeg)) hx hb hcell ((hks.1.1.2 2 _ rfl).1 (zn M o) (fun j => .int (zi M o j))) (fun q => by cases q) (by rw [arrV_size]; exact hin) (by rw [arrV_read _ _ hlt]; rfl) rfl rfl d (kk ad H locs lss hr hz hS hl hL (zls_c zlv_int (zls_t (zls_t hT))))
theorem z_cald (X : zCx g l0 cc nL ret own nm Ts fr lo mc ms M00 post xp tab) {o : Nat} {i : Int32} {j : Nat} {x : Int32} (d : decode cc pc = .ok (.caload, 1)) (hc : zc M o = 23) (hin : vp_in i (zn M o)) (hj : i.toNatClampNeg = j) (hx9 : zi M o j = x)
    (kk : zE g nL (pc + 1) ls (.int x :: rest) M k n) : zE g nL pc ls (.int i :: .ref o :: rest) M k n := by
  subst hj; subst hx9
  obtain ⟨p, l, e, R, s, m, args, below, meth, c, D, ad0, M0, Q⟩ := g
  obtain ⟨h0, hx, hb, hml, hrt, hown, hnm, hts, hR, hM0, hQ, hlk, htab, hks⟩ := X
  intro ad H locs lss hr hz hS hl hL hT
  have ho : zc M o ≠ 0 := by rw [hc]; decide
  have hlt : i.toNatClampNeg < zn M o := Nat.not_le.mp fun q => hin (Or.inr q)
  have hcell := (hr.2.2.1 o ho).2 3 hc (by decide)
  exact W.cald (v := .int (zi M o i.toNatClampNeg)) hx hb hcell ((hks.1.1.2 3 _ rfl).1 (zn M o) (fun j => .int (zi M o j))) (fun q => by cases q) (by rw [arrV_size]; exact hin) (by rw [arrV_read _ _ hlt]; rfl) rfl rfl d (kk ad H locs lss hr hz hS hl hL (zls_c zlv_int (zls_t (zls_t hT))))
theorem z_dald (X : zCx g l0 cc nL ret own nm Ts fr lo mc ms M00 post xp tab) {o : Nat} {i : Int32} {j : Nat} {x : UInt64} (d : decode cc pc = .ok (.daload, 1)) (hc : zc M o = 24) (hin : vp_in i (zn M o)) (hj : i.toNatClampNeg = j) (hx9 : zd M o j = x)
    (kk : zE g nL (pc + 1) ls (.double x :: rest) M k n) : zE g nL pc ls (.int i :: .ref o :: rest) M k n := by
  subst hj; subst hx9
  obtain ⟨p, l, e, R, s, m, args, below, meth, c, D, ad0, M0, Q⟩ := g
  obtain ⟨h0, hx, hb, hml, hrt, hown, hnm, hts, hR, hM0, hQ, hlk, htab, hks⟩ := X
  intro ad H locs lss hr hz hS hl hL hT
  have ho : zc M o ≠ 0 := by rw [hc]; decide
  have hlt : i.toNatClampNeg < zn M o := Nat.not_le.mp fun q => hin (Or.inr q)
  have hcell := (hr.2.2.1 o ho).2 4 hc (by decide)
  exact W.dald (v := .double (zd M o i.toNatClampNeg)) hx hb hcell ((hks.1.1.2 4 _ rfl).1 (zn M o) (fun j => .double (zd M o j))) (fun q => by cases q) (by rw [arrV_size]; exact hin) (by rw [arrV_read _ _ hlt]; rfl) rfl rfl d (kk ad H locs lss hr hz hS hl hL (zls_c zlv_double (zls_t (zls_t hT))))
theorem z_iast (X : zCx g l0 cc nL ret own nm Ts fr lo mc ms M00 post xp tab) {o : Nat} {i : Int32} {j : Nat} {x : Int32} (d : decode cc pc = .ok (.iastore, 1)) (hc : zc M o = 20) (hin : vp_in i (zn M o)) (hj : i.toNatClampNeg = j)
    (kk : zE g nL (pc + 1) ls rest (zwi M o j x) k n) : zE g nL pc ls (.int x :: .int i :: .ref o :: rest) M k n := by
  subst hj
  obtain ⟨p, l, e, R, s, m, args, below, meth, c, D, ad0, M0, Q⟩ := g
  obtain ⟨h0, hx, hb, hml, hrt, hown, hnm, hts, hR, hM0, hQ, hlk, htab, hks⟩ := X
  intro ad H locs lss hr hz hS hl hL hT
  have ho : zc M o ≠ 0 := by rw [hc]; decide
  have hcell := (hr.2.2.1 o ho).2 0 hc (by decide)
  have hA := zA_in hz ho (by rw [hc]; decide)
  refine W.iast hx hb hcell ((hks.1.1.2 0 _ rfl).1 (zn M o) (fun j => .int (zi M o j))) (fun q => by cases q) (by rw [arrV_size]; exact hin) rfl rfl d fun H1 e1 e2 e3 => ?_
  have hoff : zoff M (zwi M o i.toNatClampNeg x) o i.toNatClampNeg := zwi_off
  refine kk ad H1 _ lss (zrel_off hr hoff ho (fun o' h => hr.2.2.2 o _ o' ho h) e2 e3 ⟨fun ci' q' hc' hq' => ?_, fun t ht h6 => ?_⟩) (zx_off hz hoff) (hS.put e2 e3 hA) hl (zll_off hoff hL) (zls_off hoff (zls_t (zls_t (zls_t hT))))
  · rw [hoff.1, hc] at hc'
    have h12 : ci' < 12 := (List.getElem?_eq_some_iff.mp hq').1
    omega
  · rw [hoff.1, hc] at ht
    have et : t = 0 := by omega
    subst et
    rw [e1, arrV_store]
    show some (arrV _ _ _) = some (arrV _ _ _)
    congr 2
    funext q
    by_cases hq : q = i.toNatClampNeg
    · subst hq
      simp only [updV, if_pos rfl]
      exact (congrArg Value.int zup_s).symm
    · simp only [updV, if_neg hq]
      exact (zmv_off hoff (fun e => hq e.2) _).symm
theorem z_last (X : zCx g l0 cc nL ret own nm Ts fr lo mc ms M00 post xp tab) {o : Nat} {i : Int32} {j : Nat} {x : Int64} (d : decode cc pc = .ok (.lastore, 1)) (hc : zc M o = 21) (hin : vp_in i (zn M o)) (hj : i.toNatClampNeg = j)
    (kk : zE g nL (pc + 1) ls rest (zwl M o j x) k n) : zE g nL pc ls (.long x :: .int i :: .ref o :: rest) M k n := by
  subst hj
  obtain ⟨p, l, e, R, s, m, args, below, meth, c, D, ad0, M0, Q⟩ := g
  obtain ⟨h0, hx, hb, hml, hrt, hown, hnm, hts, hR, hM0, hQ, hlk, htab, hks⟩ := X
  intro ad H locs lss hr hz hS hl hL hT
  have ho : zc M o ≠ 0 := by rw [hc]; decide
  have hcell := (hr.2.2.1 o ho).2 1 hc (by decide)
  have hA := zA_in hz ho (by rw [hc]; decide)
  refine W.last hx hb hcell ((hks.1.1.2 1 _ rfl).1 (zn M o) (fun j => .long (zl M o j))) (fun q => by cases q) (by rw [arrV_size]; exact hin) rfl rfl d fun H1 e1 e2 e3 => ?_
  have hoff : zoff M (zwl M o i.toNatClampNeg x) o i.toNatClampNeg := zwl_off
  refine kk ad H1 _ lss (zrel_off hr hoff ho (fun o' h => hr.2.2.2 o _ o' ho h) e2 e3 ⟨fun ci' q' hc' hq' => ?_, fun t ht h6 => ?_⟩) (zx_off hz hoff) (hS.put e2 e3 hA) hl (zll_off hoff hL) (zls_off hoff (zls_t (zls_t (zls_t hT))))
  · rw [hoff.1, hc] at hc'
    have h12 : ci' < 12 := (List.getElem?_eq_some_iff.mp hq').1
    omega
  · rw [hoff.1, hc] at ht
    have et : t = 1 := by omega
    subst et
    rw [e1, arrV_store]
    show some (arrV _ _ _) = some (arrV _ _ _)
    congr 2
    funext q
    by_cases hq : q = i.toNatClampNeg
    · subst hq
      simp only [updV, if_pos rfl]
      exact (congrArg Value.long zup_s).symm
    · simp only [updV, if_neg hq]
      exact (zmv_off hoff (fun e => hq e.2) _).symm
theorem z_zast (X : zCx g l0 cc nL ret own nm Ts fr lo mc ms M00 post xp tab) {o : Nat} {i : Int32} {j : Nat} {x : Int32} (d : decode cc pc = .ok (.bastore, 1)) (hc : zc M o = 22) (hin : vp_in i (zn M o)) (hj : i.toNatClampNeg = j) (hnar : narrow .boolean (.int x) = .int x)
    (kk : zE g nL (pc + 1) ls rest (zwi M o j x) k n) : zE g nL pc ls (.int x :: .int i :: .ref o :: rest) M k n := by
  subst hj
  obtain ⟨p, l, e, R, s, m, args, below, meth, c, D, ad0, M0, Q⟩ := g
  obtain ⟨h0, hx, hb, hml, hrt, hown, hnm, hts, hR, hM0, hQ, hlk, htab, hks⟩ := X
  intro ad H locs lss hr hz hS hl hL hT
  have ho : zc M o ≠ 0 := by rw [hc]; decide
  have hcell := (hr.2.2.1 o ho).2 2 hc (by decide)
  have hA := zA_in hz ho (by rw [hc]; decide)
  refine W.zast hx hb hcell ((hks.1.1.2 2 _ rfl).1 (zn M o) (fun j => .int (zi M o j))) (fun q => by cases q) (by rw [arrV_size]; exact hin) rfl rfl d fun H1 e1 e2 e3 => ?_
  have hoff : zoff M (zwi M o i.toNatClampNeg x) o i.toNatClampNeg := zwi_off
  refine kk ad H1 _ lss (zrel_off hr hoff ho (fun o' h => hr.2.2.2 o _ o' ho h) e2 e3 ⟨fun ci' q' hc' hq' => ?_, fun t ht h6 => ?_⟩) (zx_off hz hoff) (hS.put e2 e3 hA) hl (zll_off hoff hL) (zls_off hoff (zls_t (zls_t (zls_t hT))))
  · rw [hoff.1, hc] at hc'
    have h12 : ci' < 12 := (List.getElem?_eq_some_iff.mp hq').1
    omega
  · rw [hoff.1, hc] at ht
    have et : t = 2 := by omega
    subst et
    rw [e1, hnar, arrV_store]
    show some (arrV _ _ _) = some (arrV _ _ _)
    congr 2
    funext q
    by_cases hq : q = i.toNatClampNeg
    · subst hq
      simp only [updV, if_pos rfl]
      exact (congrArg Value.int zup_s).symm
    · simp only [updV, if_neg hq]
      exact (zmv_off hoff (fun e => hq e.2) _).symm
theorem z_cast (X : zCx g l0 cc nL ret own nm Ts fr lo mc ms M00 post xp tab) {o : Nat} {i : Int32} {j : Nat} {x : Int32} (d : decode cc pc = .ok (.castore, 1)) (hc : zc M o = 23) (hin : vp_in i (zn M o)) (hj : i.toNatClampNeg = j) (hnar : narrow .char (.int x) = .int x)
    (kk : zE g nL (pc + 1) ls rest (zwi M o j x) k n) : zE g nL pc ls (.int x :: .int i :: .ref o :: rest) M k n := by
  subst hj
  obtain ⟨p, l, e, R, s, m, args, below, meth, c, D, ad0, M0, Q⟩ := g
  obtain ⟨h0, hx, hb, hml, hrt, hown, hnm, hts, hR, hM0, hQ, hlk, htab, hks⟩ := X
  intro ad H locs lss hr hz hS hl hL hT
  have ho : zc M o ≠ 0 := by rw [hc]; decide
  have hcell := (hr.2.2.1 o ho).2 3 hc (by decide)
  have hA := zA_in hz ho (by rw [hc]; decide)
  refine W.cast hx hb hcell ((hks.1.1.2 3 _ rfl).1 (zn M o) (fun j => .int (zi M o j))) (fun q => by cases q) (by rw [arrV_size]; exact hin) rfl rfl d fun H1 e1 e2 e3 => ?_
  have hoff : zoff M (zwi M o i.toNatClampNeg x) o i.toNatClampNeg := zwi_off
  refine kk ad H1 _ lss (zrel_off hr hoff ho (fun o' h => hr.2.2.2 o _ o' ho h) e2 e3 ⟨fun ci' q' hc' hq' => ?_, fun t ht h6 => ?_⟩) (zx_off hz hoff) (hS.put e2 e3 hA) hl (zll_off hoff hL) (zls_off hoff (zls_t (zls_t (zls_t hT))))
  · rw [hoff.1, hc] at hc'
    have h12 : ci' < 12 := (List.getElem?_eq_some_iff.mp hq').1
    omega
  · rw [hoff.1, hc] at ht
    have et : t = 3 := by omega
    subst et
    rw [e1, hnar, arrV_store]
    show some (arrV _ _ _) = some (arrV _ _ _)
    congr 2
    funext q
    by_cases hq : q = i.toNatClampNeg
    · subst hq
      simp only [updV, if_pos rfl]
      exact (congrArg Value.int zup_s).symm
    · simp only [updV, if_neg hq]
      exact (zmv_off hoff (fun e => hq e.2) _).symm
theorem z_dast (X : zCx g l0 cc nL ret own nm Ts fr lo mc ms M00 post xp tab) {o : Nat} {i : Int32} {j : Nat} {x : UInt64} (d : decode cc pc = .ok (.dastore, 1)) (hc : zc M o = 24) (hin : vp_in i (zn M o)) (hj : i.toNatClampNeg = j)
    (kk : zE g nL (pc + 1) ls rest (zwd M o j x) k n) : zE g nL pc ls (.double x :: .int i :: .ref o :: rest) M k n := by
  subst hj
  obtain ⟨p, l, e, R, s, m, args, below, meth, c, D, ad0, M0, Q⟩ := g
  obtain ⟨h0, hx, hb, hml, hrt, hown, hnm, hts, hR, hM0, hQ, hlk, htab, hks⟩ := X
  intro ad H locs lss hr hz hS hl hL hT
  have ho : zc M o ≠ 0 := by rw [hc]; decide
  have hcell := (hr.2.2.1 o ho).2 4 hc (by decide)
  have hA := zA_in hz ho (by rw [hc]; decide)
  refine W.dast hx hb hcell ((hks.1.1.2 4 _ rfl).1 (zn M o) (fun j => .double (zd M o j))) (fun q => by cases q) (by rw [arrV_size]; exact hin) rfl rfl d fun H1 e1 e2 e3 => ?_
  have hoff : zoff M (zwd M o i.toNatClampNeg x) o i.toNatClampNeg := zwd_off
  refine kk ad H1 _ lss (zrel_off hr hoff ho (fun o' h => hr.2.2.2 o _ o' ho h) e2 e3 ⟨fun ci' q' hc' hq' => ?_, fun t ht h6 => ?_⟩) (zx_off hz hoff) (hS.put e2 e3 hA) hl (zll_off hoff hL) (zls_off hoff (zls_t (zls_t (zls_t hT))))
  · rw [hoff.1, hc] at hc'
    have h12 : ci' < 12 := (List.getElem?_eq_some_iff.mp hq').1
    omega
  · rw [hoff.1, hc] at ht
    have et : t = 4 := by omega
    subst et
    rw [e1, arrV_store]
    show some (arrV _ _ _) = some (arrV _ _ _)
    congr 2
    funext q
    by_cases hq : q = i.toNatClampNeg
    · subst hq
      simp only [updV, if_pos rfl]
      exact (congrArg Value.double zup_s).symm
    · simp only [updV, if_neg hq]
      exact (zmv_off hoff (fun e => hq e.2) _).symm
theorem z_alen (X : zCx g l0 cc nL ret own nm Ts fr lo mc ms M00 post xp tab) {o t : Nat} {v : Int32} (d : decode cc pc = .ok (.arraylength, 1)) (hc : zc M o = t + 20) (ht6 : t ≤ 6) (hv : Int32.ofNat (zn M o) = v)
    (kk : zE g nL (pc + 1) ls (.int v :: rest) M k n) : zE g nL pc ls (.ref o :: rest) M k n := by
  subst hv
  obtain ⟨p, l, e, R, s, m, args, below, meth, c, D, ad0, M0, Q⟩ := g
  obtain ⟨h0, hx, hb, hml, hrt, hown, hnm, hts, hR, hM0, hQ, hlk, htab, hks⟩ := X
  intro ad H locs lss hr hz hS hl hL hT
  have ho : zc M o ≠ 0 := by rw [hc]; omega
  have hcell := (hr.2.2.1 o ho).2 t hc ht6
  have ht7 : t < 7 := Nat.lt_succ_of_le ht6
  have harr : ∃ ty, s.isArrayOf (arrV (D.2 (if t = 6 then 5 else t)) (zn M o) (fun j => zmv ad M (zaty t) o j)) ty := by
    rcases t with _ | _ | _ | _ | _ | _ | _ | t
    · exact ⟨_, (hks.1.1.2 0 _ rfl).1 _ _⟩
    · exact ⟨_, (hks.1.1.2 1 _ rfl).1 _ _⟩
    · exact ⟨_, (hks.1.1.2 2 _ rfl).1 _ _⟩
    · exact ⟨_, (hks.1.1.2 3 _ rfl).1 _ _⟩
    · exact ⟨_, (hks.1.1.2 4 _ rfl).1 _ _⟩
    · exact ⟨_, (hks.1.1.2 5 _ rfl).1 _ _⟩
    · exact ⟨_, (hks.1.1.2 5 _ rfl).1 _ _⟩
    · omega
  obtain ⟨ty, harr⟩ := harr
  exact W.alen (n := Int32.ofNat (zn M o)) hx hb hcell harr (by rw [arrV_size]; try rfl) rfl rfl d (kk ad H locs lss hr hz hS hl hL (zls_c zlv_int (zls_t hT)))
theorem z_aald (X : zCx g l0 cc nL ret own nm Ts fr lo mc ms M00 post xp tab) {o : Nat} {i : Int32} {j o' : Nat} (d : decode cc pc = .ok (.aaload, 1)) (hc : zc M o = 25) (hin : vp_in i (zn M o)) (hj : i.toNatClampNeg = j) (hx9 : zr M o j = some o')
    (kk : zE g nL (pc + 1) ls (.ref o' :: rest) M k n) : zE g nL pc ls (.int i :: .ref o :: rest) M k n := by
  subst hj
  obtain ⟨p, l, e, R, s, m, args, below, meth, c, D, ad0, M0, Q⟩ := g
  obtain ⟨h0, hx, hb, hml, hrt, hown, hnm, hts, hR, hM0, hQ, hlk, htab, hks⟩ := X
  intro ad H locs lss hr hz hS hl hL hT
  have ho : zc M o ≠ 0 := by rw [hc]; decide
  have hlt : i.toNatClampNeg < zn M o := Nat.not_le.mp fun q => hin (Or.inr q)
  have hcell := (hr.2.2.1 o ho).2 5 hc (by decide)
  exact W.aald (v := .ref (ad o')) (ty := .object "java/lang/Object") hx hb hcell ((hks.1.1.2 5 _ rfl).1 (zn M o) (fun j => zmv ad M (zaty 5) o j)) rfl (fun q => by cases q) (by rw [arrV_size]; exact hin) (by rw [arrV_read _ _ hlt]; show some (va_rf ((zr M o _).map ad)) = _; rw [hx9]; rfl) rfl rfl d (kk ad H locs lss hr hz hS hl hL (zls_c (zlv_ref (hr.2.2.2 o _ o' ho hx9)) (zls_t (zls_t hT))))
end ZA
end
section
/-! PART 04: rows of zE that touch no heap (by program) -/
def zfl (i : Nat) (ls : List (Nat × Value)) : List (Nat × Value) := ls.filter (fun q => !(q.1 == i) && !(q.1 + 1 == i && q.2.category == 2))
def zfl2 (i : Nat) (ls : List (Nat × Value)) : List (Nat × Value) := ls.filter (fun q => !(q.1 == i) && (!(q.1 == i + 1) && !(q.1 + 1 == i && q.2.category == 2)))
theorem zfl_map (ad : Nat → Nat) (i : Nat) (ls : List (Nat × Value)) : (ls.map (zpl ad)).filter (fun q => !(q.1 == i) && !(q.1 + 1 == i && q.2.category == 2)) = (zfl i ls).map (zpl ad) := by
  unfold zfl
  rw [List.filter_map]
  congr 1
  congr 1
  funext q
  show (!(q.1 == i) && !(q.1 + 1 == i && (zph ad q.2).category == 2)) = _
  rw [zph_cat]
theorem zfl2_map (ad : Nat → Nat) (i : Nat) (ls : List (Nat × Value)) : (ls.map (zpl ad)).filter (fun q => !(q.1 == i) && (!(q.1 == i + 1) && !(q.1 + 1 == i && q.2.category == 2))) = (zfl2 i ls).map (zpl ad) := by
  unfold zfl2
  rw [List.filter_map]
  congr 1
  congr 1
  funext q
  show (!(q.1 == i) && (!(q.1 == i + 1) && !(q.1 + 1 == i && (zph ad q.2).category == 2))) = _
  rw [zph_cat]
theorem zat_l {ls : List (Nat × Value)} {j i : Nat} {v : Value} (ad : Nat → Nat) (h : ls[j]? = some (i, v)) : (ls.map (zpl ad))[j]? = some (i, zph ad v) := by
  rw [List.getElem?_map, h]
  rfl
theorem zll_st {M : zMem} {ls ls' : List (Nat × Value)} {i : Nat} {v : Value} (hL : zll M ls) (hv : zlv M v) (h : (i, v) :: zfl i ls = ls') : zll M ls' := by
  subst h
  intro q hq
  rcases List.mem_cons.mp hq with e | h
  · rw [e]; exact hv
  · exact hL q (List.mem_filter.mp h).1
theorem zll_st2 {M : zMem} {ls ls' : List (Nat × Value)} {i : Nat} {v : Value} (hL : zll M ls) (hv : zlv M v) (h : (i, v) :: zfl2 i ls = ls') : zll M ls' := by
  subst h
  intro q hq
  rcases List.mem_cons.mp hq with e | h
  · rw [e]; exact hv
  · exact hL q (List.mem_filter.mp h).1
section ZPR
variable {g : zCtx} {l0 : Launch} {cc : ByteArray} {nL : Nat} {ret : Option FieldType} {own nm : String} {Ts : List Cond} {fr lo mc ms : Nat} {M00 : zMem} {post : Option Value → zMem → Prop} {xp : String → Prop} {tab : List ExceptionTableEntry}
variable {pc : Nat} {ls ls' : List (Nat × Value)} {st rest : List Value} {M : zMem} {k n : Nat}
theorem z_iconst (X : zCx g l0 cc nL ret own nm Ts fr lo mc ms M00 post xp tab) {i : Int} {v : Int32} (d : decode cc pc = .ok (.iconst i, 1)) (hv : Int32.ofInt i = v)
    (kk : zE g nL (pc + 1) ls (.int v :: st) M k n) : zE g nL pc ls st M k n := by
  obtain ⟨p, l, e, R, s, m, args, below, meth, c, D, ad0, M0, Q⟩ := g
  obtain ⟨h0, hx, hb, hml, hrt, hown, hnm, hts, hR, hM0, hQ, hlk, htab, hks⟩ := X
  intro ad H locs lss hr hz hS hl hL hT
  exact lv_iconst hx hb d hv (kk ad H locs lss hr hz hS hl hL (zls_c zlv_int hT))
theorem z_bipush (X : zCx g l0 cc nL ret own nm Ts fr lo mc ms M00 post xp tab) {i : Int} {v : Int32} (d : decode cc pc = .ok (.bipush i, 2)) (hv : (Int8.ofInt i).toInt32 = v)
    (kk : zE g nL (pc + 2) ls (.int v :: st) M k n) : zE g nL pc ls st M k n := by
  obtain ⟨p, l, e, R, s, m, args, below, meth, c, D, ad0, M0, Q⟩ := g
  obtain ⟨h0, hx, hb, hml, hrt, hown, hnm, hts, hR, hM0, hQ, hlk, htab, hks⟩ := X
  intro ad H locs lss hr hz hS hl hL hT
  exact lv_bipush hx hb d hv (kk ad H locs lss hr hz hS hl hL (zls_c zlv_int hT))
theorem z_sipush (X : zCx g l0 cc nL ret own nm Ts fr lo mc ms M00 post xp tab) {i : Int} {v : Int32} (d : decode cc pc = .ok (.sipush i, 3)) (hv : (Int16.ofInt i).toInt32 = v)
    (kk : zE g nL (pc + 3) ls (.int v :: st) M k n) : zE g nL pc ls st M k n := by
  obtain ⟨p, l, e, R, s, m, args, below, meth, c, D, ad0, M0, Q⟩ := g
  obtain ⟨h0, hx, hb, hml, hrt, hown, hnm, hts, hR, hM0, hQ, hlk, htab, hks⟩ := X
  intro ad H locs lss hr hz hS hl hL hT
  exact lv_sipush hx hb d hv (kk ad H locs lss hr hz hS hl hL (zls_c zlv_int hT))
theorem z_lconst (X : zCx g l0 cc nL ret own nm Ts fr lo mc ms M00 post xp tab) {i : Fin 2} {v : Int64} (d : decode cc pc = .ok (.lconst i, 1)) (hv : Int64.ofNat (i : Nat) = v)
    (kk : zE g nL (pc + 1) ls (.long v :: st) M k n) : zE g nL pc ls st M k n := by
  obtain ⟨p, l, e, R, s, m, args, below, meth, c, D, ad0, M0, Q⟩ := g
  obtain ⟨h0, hx, hb, hml, hrt, hown, hnm, hts, hR, hM0, hQ, hlk, htab, hks⟩ := X
  intro ad H locs lss hr hz hS hl hL hT
  exact lv_lconst hx hb d hv (kk ad H locs lss hr hz hS hl hL (zls_c zlv_long hT))
theorem z_dconst0 (X : zCx g l0 cc nL ret own nm Ts fr lo mc ms M00 post xp tab) (d : decode cc pc = .ok (.dconst 0, 1))
    (kk : zE g nL (pc + 1) ls (.double FP.dconst0 :: st) M k n) : zE g nL pc ls st M k n := by
  obtain ⟨p, l, e, R, s, m, args, below, meth, c, D, ad0, M0, Q⟩ := g
  obtain ⟨h0, hx, hb, hml, hrt, hown, hnm, hts, hR, hM0, hQ, hlk, htab, hks⟩ := X
  intro ad H locs lss hr hz hS hl hL hT
  exact lv_dconst0 hx hb d (kk ad H locs lss hr hz hS hl hL (zls_c zlv_double hT))
theorem z_fconst0 (X : zCx g l0 cc nL ret own nm Ts fr lo mc ms M00 post xp tab) (d : decode cc pc = .ok (.fconst 0, 1))
    (kk : zE g nL (pc + 1) ls (.float FP.fconst0 :: st) M k n) : zE g nL pc ls st M k n := by
  obtain ⟨p, l, e, R, s, m, args, below, meth, c, D, ad0, M0, Q⟩ := g
  obtain ⟨h0, hx, hb, hml, hrt, hown, hnm, hts, hR, hM0, hQ, hlk, htab, hks⟩ := X
  intro ad H locs lss hr hz hS hl hL hT
  exact lv_fconst0 hx hb d (kk ad H locs lss hr hz hS hl hL (zls_c zlv_float hT))
theorem z_null (X : zCx g l0 cc nL ret own nm Ts fr lo mc ms M00 post xp tab) (d : decode cc pc = .ok (.aconst_null, 1))
    (kk : zE g nL (pc + 1) ls (.null :: st) M k n) : zE g nL pc ls st M k n := by
  obtain ⟨p, l, e, R, s, m, args, below, meth, c, D, ad0, M0, Q⟩ := g
  obtain ⟨h0, hx, hb, hml, hrt, hown, hnm, hts, hR, hM0, hQ, hlk, htab, hks⟩ := X
  intro ad H locs lss hr hz hS hl hL hT
  exact lv_null hx hb d (kk ad H locs lss hr hz hS hl hL (zls_c zlv_null hT))
theorem z_iload_n (X : zCx g l0 cc nL ret own nm Ts fr lo mc ms M00 post xp tab) {i : Nat} {f : Fin 4} {x : Int32} (j : Nat) (d : decode cc pc = .ok (.iload_n f, 1)) (hi : (f : Nat) = i) (hl9 : ls[j]? = some (i, .int x))
    (kk : zE g nL (pc + 1) ls (.int x :: st) M k n) : zE g nL pc ls st M k n := by
  obtain ⟨p, l, e, R, s, m, args, below, meth, c, D, ad0, M0, Q⟩ := g
  obtain ⟨h0, hx, hb, hml, hrt, hown, hnm, hts, hR, hM0, hQ, hlk, htab, hks⟩ := X
  intro ad H locs lss hr hz hS hl hL hT
  exact lv_iload_n hx hb d hi (lv_at hl j (zat_l ad hl9)) (kk ad H locs lss hr hz hS hl hL (zls_c zlv_int hT))
theorem z_iload (X : zCx g l0 cc nL ret own nm Ts fr lo mc ms M00 post xp tab) {i : Nat} {x : Int32} (j : Nat) (d : decode cc pc = .ok (.iload i, 2)) (hl9 : ls[j]? = some (i, .int x))
    (kk : zE g nL (pc + 2) ls (.int x :: st) M k n) : zE g nL pc ls st M k n := by
  obtain ⟨p, l, e, R, s, m, args, below, meth, c, D, ad0, M0, Q⟩ := g
  obtain ⟨h0, hx, hb, hml, hrt, hown, hnm, hts, hR, hM0, hQ, hlk, htab, hks⟩ := X
  intro ad H locs lss hr hz hS hl hL hT
  exact lv_iload hx hb d (lv_at hl j (zat_l ad hl9)) (kk ad H locs lss hr hz hS hl hL (zls_c zlv_int hT))
theorem z_lload_n (X : zCx g l0 cc nL ret own nm Ts fr lo mc ms M00 post xp tab) {i : Nat} {f : Fin 4} {x : Int64} (j : Nat) (d : decode cc pc = .ok (.lload_n f, 1)) (hi : (f : Nat) = i) (hl9 : ls[j]? = some (i, .long x))
    (kk : zE g nL (pc + 1) ls (.long x :: st) M k n) : zE g nL pc ls st M k n := by
  obtain ⟨p, l, e, R, s, m, args, below, meth, c, D, ad0, M0, Q⟩ := g
  obtain ⟨h0, hx, hb, hml, hrt, hown, hnm, hts, hR, hM0, hQ, hlk, htab, hks⟩ := X
  intro ad H locs lss hr hz hS hl hL hT
  exact lv_lload_n hx hb d hi (lv_at hl j (zat_l ad hl9)) (kk ad H locs lss hr hz hS hl hL (zls_c zlv_long hT))
theorem z_aload_n (X : zCx g l0 cc nL ret own nm Ts fr lo mc ms M00 post xp tab) {i : Nat} {f : Fin 4} {x : Nat} (j : Nat) (d : decode cc pc = .ok (.aload_n f, 1)) (hi : (f : Nat) = i) (hl9 : ls[j]? = some (i, .ref x))
    (kk : zE g nL (pc + 1) ls (.ref x :: st) M k n) : zE g nL pc ls st M k n := by
  obtain ⟨p, l, e, R, s, m, args, below, meth, c, D, ad0, M0, Q⟩ := g
  obtain ⟨h0, hx, hb, hml, hrt, hown, hnm, hts, hR, hM0, hQ, hlk, htab, hks⟩ := X
  intro ad H locs lss hr hz hS hl hL hT
  exact lv_aload_n hx hb d hi (lv_at hl j (zat_l ad hl9)) (kk ad H locs lss hr hz hS hl hL (zls_c (hL _ (List.mem_of_getElem? hl9)) hT))
theorem z_aload (X : zCx g l0 cc nL ret own nm Ts fr lo mc ms M00 post xp tab) {i : Nat} {x : Nat} (j : Nat) (d : decode cc pc = .ok (.aload i, 2)) (hl9 : ls[j]? = some (i, .ref x))
    (kk : zE g nL (pc + 2) ls (.ref x :: st) M k n) : zE g nL pc ls st M k n := by
  obtain ⟨p, l, e, R, s, m, args, below, meth, c, D, ad0, M0, Q⟩ := g
  obtain ⟨h0, hx, hb, hml, hrt, hown, hnm, hts, hR, hM0, hQ, hlk, htab, hks⟩ := X
  intro ad H locs lss hr hz hS hl hL hT
  exact lv_aload hx hb d (lv_at hl j (zat_l ad hl9)) (kk ad H locs lss hr hz hS hl hL (zls_c (hL _ (List.mem_of_getElem? hl9)) hT))
theorem z_aload_nN (X : zCx g l0 cc nL ret own nm Ts fr lo mc ms M00 post xp tab) {i : Nat} {f : Fin 4} (j : Nat) (d : decode cc pc = .ok (.aload_n f, 1)) (hi : (f : Nat) = i) (hl9 : ls[j]? = some (i, .null))
    (kk : zE g nL (pc + 1) ls (.null :: st) M k n) : zE g nL pc ls st M k n := by
  obtain ⟨p, l, e, R, s, m, args, below, meth, c, D, ad0, M0, Q⟩ := g
  obtain ⟨h0, hx, hb, hml, hrt, hown, hnm, hts, hR, hM0, hQ, hlk, htab, hks⟩ := X
  intro ad H locs lss hr hz hS hl hL hT
  exact lv_aload_nN hx hb d hi (lv_at hl j (zat_l ad hl9)) (kk ad H locs lss hr hz hS hl hL (zls_c zlv_null hT))
theorem z_aloadN (X : zCx g l0 cc nL ret own nm Ts fr lo mc ms M00 post xp tab) {i : Nat} (j : Nat) (d : decode cc pc = .ok (.aload i, 2)) (hl9 : ls[j]? = some (i, .null))
    (kk : zE g nL (pc + 2) ls (.null :: st) M k n) : zE g nL pc ls st M k n := by
  obtain ⟨p, l, e, R, s, m, args, below, meth, c, D, ad0, M0, Q⟩ := g
  obtain ⟨h0, hx, hb, hml, hrt, hown, hnm, hts, hR, hM0, hQ, hlk, htab, hks⟩ := X
  intro ad H locs lss hr hz hS hl hL hT
  exact lv_aloadN hx hb d (lv_at hl j (zat_l ad hl9)) (kk ad H locs lss hr hz hS hl hL (zls_c zlv_null hT))
theorem z_istore_n (X : zCx g l0 cc nL ret own nm Ts fr lo mc ms M00 post xp tab) {i : Nat} {f : Fin 4} {x : Int32} (d : decode cc pc = .ok (.istore_n f, 1)) (hi : (f : Nat) = i) (hn9 : i < nL) (hls : (i, .int x) :: zfl i ls = ls')
    (kk : zE g nL (pc + 1) ls' rest M k n) : zE g nL pc ls (.int x :: rest) M k n := by
  obtain ⟨p, l, e, R, s, m, args, below, meth, c, D, ad0, M0, Q⟩ := g
  obtain ⟨h0, hx, hb, hml, hrt, hown, hnm, hts, hR, hM0, hQ, hlk, htab, hks⟩ := X
  intro ad H locs lss hr hz hS hl hL hT
  exact lv_istore_n hx hb d hi hl hn9 (lv' := ls'.map (zpl ad)) (by rw [zfl_map, ← hls]; rfl) (fun lss' hl' => kk ad H locs lss' hr hz hS hl' (zll_st hL zlv_int hls) (zls_t hT))
theorem z_istore (X : zCx g l0 cc nL ret own nm Ts fr lo mc ms M00 post xp tab) {i : Nat} {x : Int32} (d : decode cc pc = .ok (.istore i, 2)) (hn9 : i < nL) (hls : (i, .int x) :: zfl i ls = ls')
    (kk : zE g nL (pc + 2) ls' rest M k n) : zE g nL pc ls (.int x :: rest) M k n := by
  obtain ⟨p, l, e, R, s, m, args, below, meth, c, D, ad0, M0, Q⟩ := g
  obtain ⟨h0, hx, hb, hml, hrt, hown, hnm, hts, hR, hM0, hQ, hlk, htab, hks⟩ := X
  intro ad H locs lss hr hz hS hl hL hT
  exact lv_istore hx hb d hl hn9 (lv' := ls'.map (zpl ad)) (by rw [zfl_map, ← hls]; rfl) (fun lss' hl' => kk ad H locs lss' hr hz hS hl' (zll_st hL zlv_int hls) (zls_t hT))
theorem z_lstore_n (X : zCx g l0 cc nL ret own nm Ts fr lo mc ms M00 post xp tab) {i : Nat} {f : Fin 4} {x : Int64} (d : decode cc pc = .ok (.lstore_n f, 1)) (hi : (f : Nat) = i) (hn9 : i + 1 < nL) (hls : (i, .long x) :: zfl2 i ls = ls')
    (kk : zE g nL (pc + 1) ls' rest M k n) : zE g nL pc ls (.long x :: rest) M k n := by
  obtain ⟨p, l, e, R, s, m, args, below, meth, c, D, ad0, M0, Q⟩ := g
  obtain ⟨h0, hx, hb, hml, hrt, hown, hnm, hts, hR, hM0, hQ, hlk, htab, hks⟩ := X
  intro ad H locs lss hr hz hS hl hL hT
  exact lv_lstore_n hx hb d hi hl hn9 (lv' := ls'.map (zpl ad)) (by rw [zfl2_map, ← hls]; rfl) (fun lss' hl' => kk ad H locs lss' hr hz hS hl' (zll_st2 hL zlv_long hls) (zls_t hT))
theorem z_astore_n (X : zCx g l0 cc nL ret own nm Ts fr lo mc ms M00 post xp tab) {i : Nat} {f : Fin 4} {x : Nat} (d : decode cc pc = .ok (.astore_n f, 1)) (hi : (f : Nat) = i) (hn9 : i < nL) (hls : (i, .ref x) :: zfl i ls = ls')
    (kk : zE g nL (pc + 1) ls' rest M k n) : zE g nL pc ls (.ref x :: rest) M k n := by
  obtain ⟨p, l, e, R, s, m, args, below, meth, c, D, ad0, M0, Q⟩ := g
  obtain ⟨h0, hx, hb, hml, hrt, hown, hnm, hts, hR, hM0, hQ, hlk, htab, hks⟩ := X
  intro ad H locs lss hr hz hS hl hL hT
  exact lv_astore_n hx hb d hi hl hn9 (lv' := ls'.map (zpl ad)) (by rw [zfl_map, ← hls]; rfl) (fun lss' hl' => kk ad H locs lss' hr hz hS hl' (zll_st hL (zls_h hT) hls) (zls_t hT))
theorem z_astore (X : zCx g l0 cc nL ret own nm Ts fr lo mc ms M00 post xp tab) {i : Nat} {x : Nat} (d : decode cc pc = .ok (.astore i, 2)) (hn9 : i < nL) (hls : (i, .ref x) :: zfl i ls = ls')
    (kk : zE g nL (pc + 2) ls' rest M k n) : zE g nL pc ls (.ref x :: rest) M k n := by
  obtain ⟨p, l, e, R, s, m, args, below, meth, c, D, ad0, M0, Q⟩ := g
  obtain ⟨h0, hx, hb, hml, hrt, hown, hnm, hts, hR, hM0, hQ, hlk, htab, hks⟩ := X
  intro ad H locs lss hr hz hS hl hL hT
  exact lv_astore hx hb d hl hn9 (lv' := ls'.map (zpl ad)) (by rw [zfl_map, ← hls]; rfl) (fun lss' hl' => kk ad H locs lss' hr hz hS hl' (zll_st hL (zls_h hT) hls) (zls_t hT))
theorem z_astore_nN (X : zCx g l0 cc nL ret own nm Ts fr lo mc ms M00 post xp tab) {i : Nat} {f : Fin 4} (d : decode cc pc = .ok (.astore_n f, 1)) (hi : (f : Nat) = i) (hn9 : i < nL) (hls : (i, .null) :: zfl i ls = ls')
    (kk : zE g nL (pc + 1) ls' rest M k n) : zE g nL pc ls (.null :: rest) M k n := by
  obtain ⟨p, l, e, R, s, m, args, below, meth, c, D, ad0, M0, Q⟩ := g
  obtain ⟨h0, hx, hb, hml, hrt, hown, hnm, hts, hR, hM0, hQ, hlk, htab, hks⟩ := X
  intro ad H locs lss hr hz hS hl hL hT
  exact lv_astore_nN hx hb d hi hl hn9 (lv' := ls'.map (zpl ad)) (by rw [zfl_map, ← hls]; rfl) (fun lss' hl' => kk ad H locs lss' hr hz hS hl' (zll_st hL zlv_null hls) (zls_t hT))
theorem z_astoreN (X : zCx g l0 cc nL ret own nm Ts fr lo mc ms M00 post xp tab) {i : Nat} (d : decode cc pc = .ok (.astore i, 2)) (hn9 : i < nL) (hls : (i, .null) :: zfl i ls = ls')
    (kk : zE g nL (pc + 2) ls' rest M k n) : zE g nL pc ls (.null :: rest) M k n := by
  obtain ⟨p, l, e, R, s, m, args, below, meth, c, D, ad0, M0, Q⟩ := g
  obtain ⟨h0, hx, hb, hml, hrt, hown, hnm, hts, hR, hM0, hQ, hlk, htab, hks⟩ := X
  intro ad H locs lss hr hz hS hl hL hT
  exact lv_astoreN hx hb d hl hn9 (lv' := ls'.map (zpl ad)) (by rw [zfl_map, ← hls]; rfl) (fun lss' hl' => kk ad H locs lss' hr hz hS hl' (zll_st hL zlv_null hls) (zls_t hT))
theorem z_iinc (X : zCx g l0 cc nL ret own nm Ts fr lo mc ms M00 post xp tab) {i : Nat} {a : Int} {x v : Int32} (j : Nat) (d : decode cc pc = .ok (.iinc i a, 3)) (hl9 : ls[j]? = some (i, .int x)) (hv : x + Int32.ofInt a = v) (hn9 : i < nL) (hls : (i, .int v) :: zfl i ls = ls')
    (kk : zE g nL (pc + 3) ls' st M k n) : zE g nL pc ls st M k n := by
  obtain ⟨p, l, e, R, s, m, args, below, meth, c, D, ad0, M0, Q⟩ := g
  obtain ⟨h0, hx, hb, hml, hrt, hown, hnm, hts, hR, hM0, hQ, hlk, htab, hks⟩ := X
  intro ad H locs lss hr hz hS hl hL hT
  exact lv_iinc hx hb d hl (k := j) (zat_l ad hl9) hv hn9 (lv' := ls'.map (zpl ad)) (by rw [zfl_map, ← hls]; rfl) (fun lss' hl' => kk ad H locs lss' hr hz hS hl' (zll_st hL zlv_int hls) hT)
theorem z_iadd (X : zCx g l0 cc nL ret own nm Ts fr lo mc ms M00 post xp tab) {x y : Int32} (d : decode cc pc = .ok (.iadd, 1))
    (kk : zE g nL (pc + 1) ls (.int (x + y) :: rest) M k n) : zE g nL pc ls (.int y :: .int x :: rest) M k n := by
  obtain ⟨p, l, e, R, s, m, args, below, meth, c, D, ad0, M0, Q⟩ := g
  obtain ⟨h0, hx, hb, hml, hrt, hown, hnm, hts, hR, hM0, hQ, hlk, htab, hks⟩ := X
  intro ad H locs lss hr hz hS hl hL hT
  exact lv_iadd hx hb d (kk ad H locs lss hr hz hS hl hL (zls_c zlv_int (zls_t (zls_t hT))))
theorem z_isub (X : zCx g l0 cc nL ret own nm Ts fr lo mc ms M00 post xp tab) {x y : Int32} (d : decode cc pc = .ok (.isub, 1))
    (kk : zE g nL (pc + 1) ls (.int (x - y) :: rest) M k n) : zE g nL pc ls (.int y :: .int x :: rest) M k n := by
  obtain ⟨p, l, e, R, s, m, args, below, meth, c, D, ad0, M0, Q⟩ := g
  obtain ⟨h0, hx, hb, hml, hrt, hown, hnm, hts, hR, hM0, hQ, hlk, htab, hks⟩ := X
  intro ad H locs lss hr hz hS hl hL hT
  exact lv_isub hx hb d (kk ad H locs lss hr hz hS hl hL (zls_c zlv_int (zls_t (zls_t hT))))
theorem z_imul (X : zCx g l0 cc nL ret own nm Ts fr lo mc ms M00 post xp tab) {x y : Int32} (d : decode cc pc = .ok (.imul, 1))
    (kk : zE g nL (pc + 1) ls (.int (x * y) :: rest) M k n) : zE g nL pc ls (.int y :: .int x :: rest) M k n := by
  obtain ⟨p, l, e, R, s, m, args, below, meth, c, D, ad0, M0, Q⟩ := g
  obtain ⟨h0, hx, hb, hml, hrt, hown, hnm, hts, hR, hM0, hQ, hlk, htab, hks⟩ := X
  intro ad H locs lss hr hz hS hl hL hT
  exact lv_imul hx hb d (kk ad H locs lss hr hz hS hl hL (zls_c zlv_int (zls_t (zls_t hT))))
theorem z_idiv (X : zCx g l0 cc nL ret own nm Ts fr lo mc ms M00 post xp tab) {x y : Int32} (d : decode cc pc = .ok (.idiv, 1)) (hne : ¬ y = 0)
    (kk : zE g nL (pc + 1) ls (.int (x / y) :: rest) M k n) : zE g nL pc ls (.int y :: .int x :: rest) M k n := by
  obtain ⟨p, l, e, R, s, m, args, below, meth, c, D, ad0, M0, Q⟩ := g
  obtain ⟨h0, hx, hb, hml, hrt, hown, hnm, hts, hR, hM0, hQ, hlk, htab, hks⟩ := X
  intro ad H locs lss hr hz hS hl hL hT
  exact lv_idiv hx hb d hne (kk ad H locs lss hr hz hS hl hL (zls_c zlv_int (zls_t (zls_t hT))))
theorem z_irem (X : zCx g l0 cc nL ret own nm Ts fr lo mc ms M00 post xp tab) {x y : Int32} (d : decode cc pc = .ok (.irem, 1)) (hne : ¬ y = 0)
    (kk : zE g nL (pc + 1) ls (.int (x - x / y * y) :: rest) M k n) : zE g nL pc ls (.int y :: .int x :: rest) M k n := by
  obtain ⟨p, l, e, R, s, m, args, below, meth, c, D, ad0, M0, Q⟩ := g
  obtain ⟨h0, hx, hb, hml, hrt, hown, hnm, hts, hR, hM0, hQ, hlk, htab, hks⟩ := X
  intro ad H locs lss hr hz hS hl hL hT
  exact lv_irem hx hb d hne (kk ad H locs lss hr hz hS hl hL (zls_c zlv_int (zls_t (zls_t hT))))
theorem z_ineg (X : zCx g l0 cc nL ret own nm Ts fr lo mc ms M00 post xp tab) {x : Int32} (d : decode cc pc = .ok (.ineg, 1))
    (kk : zE g nL (pc + 1) ls (.int (-x) :: rest) M k n) : zE g nL pc ls (.int x :: rest) M k n := by
  obtain ⟨p, l, e, R, s, m, args, below, meth, c, D, ad0, M0, Q⟩ := g
  obtain ⟨h0, hx, hb, hml, hrt, hown, hnm, hts, hR, hM0, hQ, hlk, htab, hks⟩ := X
  intro ad H locs lss hr hz hS hl hL hT
  exact lv_ineg hx hb d (kk ad H locs lss hr hz hS hl hL (zls_c zlv_int (zls_t hT)))
theorem z_ladd (X : zCx g l0 cc nL ret own nm Ts fr lo mc ms M00 post xp tab) {x y : Int64} (d : decode cc pc = .ok (.ladd, 1))
    (kk : zE g nL (pc + 1) ls (.long (x + y) :: rest) M k n) : zE g nL pc ls (.long y :: .long x :: rest) M k n := by
  obtain ⟨p, l, e, R, s, m, args, below, meth, c, D, ad0, M0, Q⟩ := g
  obtain ⟨h0, hx, hb, hml, hrt, hown, hnm, hts, hR, hM0, hQ, hlk, htab, hks⟩ := X
  intro ad H locs lss hr hz hS hl hL hT
  exact lv_ladd hx hb d (kk ad H locs lss hr hz hS hl hL (zls_c zlv_long (zls_t (zls_t hT))))
theorem z_lmul (X : zCx g l0 cc nL ret own nm Ts fr lo mc ms M00 post xp tab) {x y : Int64} (d : decode cc pc = .ok (.lmul, 1))
    (kk : zE g nL (pc + 1) ls (.long (x * y) :: rest) M k n) : zE g nL pc ls (.long y :: .long x :: rest) M k n := by
  obtain ⟨p, l, e, R, s, m, args, below, meth, c, D, ad0, M0, Q⟩ := g
  obtain ⟨h0, hx, hb, hml, hrt, hown, hnm, hts, hR, hM0, hQ, hlk, htab, hks⟩ := X
  intro ad H locs lss hr hz hS hl hL hT
  exact lv_lmul hx hb d (kk ad H locs lss hr hz hS hl hL (zls_c zlv_long (zls_t (zls_t hT))))
theorem z_i2l (X : zCx g l0 cc nL ret own nm Ts fr lo mc ms M00 post xp tab) {x : Int32} (d : decode cc pc = .ok (.i2l, 1))
    (kk : zE g nL (pc + 1) ls (.long x.toInt64 :: rest) M k n) : zE g nL pc ls (.int x :: rest) M k n := by
  obtain ⟨p, l, e, R, s, m, args, below, meth, c, D, ad0, M0, Q⟩ := g
  obtain ⟨h0, hx, hb, hml, hrt, hown, hnm, hts, hR, hM0, hQ, hlk, htab, hks⟩ := X
  intro ad H locs lss hr hz hS hl hL hT
  exact lv_i2l hx hb d rfl (kk ad H locs lss hr hz hS hl hL (zls_c zlv_long (zls_t hT)))
theorem z_i2c (X : zCx g l0 cc nL ret own nm Ts fr lo mc ms M00 post xp tab) {x : Int32} (d : decode cc pc = .ok (.i2c, 1))
    (kk : zE g nL (pc + 1) ls (.int (x.toUInt32 % 65536).toInt32 :: rest) M k n) : zE g nL pc ls (.int x :: rest) M k n := by
  obtain ⟨p, l, e, R, s, m, args, below, meth, c, D, ad0, M0, Q⟩ := g
  obtain ⟨h0, hx, hb, hml, hrt, hown, hnm, hts, hR, hM0, hQ, hlk, htab, hks⟩ := X
  intro ad H locs lss hr hz hS hl hL hT
  exact lv_i2c hx hb d rfl (kk ad H locs lss hr hz hS hl hL (zls_c zlv_int (zls_t hT)))
theorem z_i2d (X : zCx g l0 cc nL ret own nm Ts fr lo mc ms M00 post xp tab) {x : Int32} (d : decode cc pc = .ok (.i2d, 1))
    (kk : zE g nL (pc + 1) ls (.double (FP.i2d x) :: rest) M k n) : zE g nL pc ls (.int x :: rest) M k n := by
  obtain ⟨p, l, e, R, s, m, args, below, meth, c, D, ad0, M0, Q⟩ := g
  obtain ⟨h0, hx, hb, hml, hrt, hown, hnm, hts, hR, hM0, hQ, hlk, htab, hks⟩ := X
  intro ad H locs lss hr hz hS hl hL hT
  exact lv_i2d hx hb d (kk ad H locs lss hr hz hS hl hL (zls_c zlv_double (zls_t hT)))
theorem z_i2f (X : zCx g l0 cc nL ret own nm Ts fr lo mc ms M00 post xp tab) {x : Int32} (d : decode cc pc = .ok (.i2f, 1))
    (kk : zE g nL (pc + 1) ls (.float (FP.i2f x) :: rest) M k n) : zE g nL pc ls (.int x :: rest) M k n := by
  obtain ⟨p, l, e, R, s, m, args, below, meth, c, D, ad0, M0, Q⟩ := g
  obtain ⟨h0, hx, hb, hml, hrt, hown, hnm, hts, hR, hM0, hQ, hlk, htab, hks⟩ := X
  intro ad H locs lss hr hz hS hl hL hT
  exact lv_i2f hx hb d (kk ad H locs lss hr hz hS hl hL (zls_c zlv_float (zls_t hT)))
theorem z_l2d (X : zCx g l0 cc nL ret own nm Ts fr lo mc ms M00 post xp tab) {x : Int64} (d : decode cc pc = .ok (.l2d, 1))
    (kk : zE g nL (pc + 1) ls (.double (FP.l2d x) :: rest) M k n) : zE g nL pc ls (.long x :: rest) M k n := by
  obtain ⟨p, l, e, R, s, m, args, below, meth, c, D, ad0, M0, Q⟩ := g
  obtain ⟨h0, hx, hb, hml, hrt, hown, hnm, hts, hR, hM0, hQ, hlk, htab, hks⟩ := X
  intro ad H locs lss hr hz hS hl hL hT
  exact lv_l2d hx hb d (kk ad H locs lss hr hz hS hl hL (zls_c zlv_double (zls_t hT)))
theorem z_ddiv (X : zCx g l0 cc nL ret own nm Ts fr lo mc ms M00 post xp tab) {x y : UInt64} (d : decode cc pc = .ok (.ddiv, 1)) (hne : vf_n64 (FP.ddiv x y))
    (kk : zE g nL (pc + 1) ls (.double (FP.ddiv x y) :: rest) M k n) : zE g nL pc ls (.double y :: .double x :: rest) M k n := by
  obtain ⟨p, l, e, R, s, m, args, below, meth, c, D, ad0, M0, Q⟩ := g
  obtain ⟨h0, hx, hb, hml, hrt, hown, hnm, hts, hR, hM0, hQ, hlk, htab, hks⟩ := X
  intro ad H locs lss hr hz hS hl hL hT
  exact lv_ddiv hx hb d hne (kk ad H locs lss hr hz hS hl hL (zls_c zlv_double (zls_t (zls_t hT))))
theorem z_fdiv (X : zCx g l0 cc nL ret own nm Ts fr lo mc ms M00 post xp tab) {x y : UInt32} (d : decode cc pc = .ok (.fdiv, 1)) (hne : vf_n32 (FP.fdiv x y))
    (kk : zE g nL (pc + 1) ls (.float (FP.fdiv x y) :: rest) M k n) : zE g nL pc ls (.float y :: .float x :: rest) M k n := by
  obtain ⟨p, l, e, R, s, m, args, below, meth, c, D, ad0, M0, Q⟩ := g
  obtain ⟨h0, hx, hb, hml, hrt, hown, hnm, hts, hR, hM0, hQ, hlk, htab, hks⟩ := X
  intro ad H locs lss hr hz hS hl hL hT
  exact lv_fdiv hx hb d hne (kk ad H locs lss hr hz hS hl hL (zls_c zlv_float (zls_t (zls_t hT))))
theorem z_f2d (X : zCx g l0 cc nL ret own nm Ts fr lo mc ms M00 post xp tab) {x : UInt32} (d : decode cc pc = .ok (.f2d, 1)) (hne : vf_n64 (FP.f2d x))
    (kk : zE g nL (pc + 1) ls (.double (FP.f2d x) :: rest) M k n) : zE g nL pc ls (.float x :: rest) M k n := by
  obtain ⟨p, l, e, R, s, m, args, below, meth, c, D, ad0, M0, Q⟩ := g
  obtain ⟨h0, hx, hb, hml, hrt, hown, hnm, hts, hR, hM0, hQ, hlk, htab, hks⟩ := X
  intro ad H locs lss hr hz hS hl hL hT
  exact lv_f2d hx hb d hne (kk ad H locs lss hr hz hS hl hL (zls_c zlv_double (zls_t hT)))
theorem z_dup (X : zCx g l0 cc nL ret own nm Ts fr lo mc ms M00 post xp tab) {v : Value} (d : decode cc pc = .ok (.dup, 1)) (hv : v.category = 1)
    (kk : zE g nL (pc + 1) ls (v :: v :: rest) M k n) : zE g nL pc ls (v :: rest) M k n := by
  obtain ⟨p, l, e, R, s, m, args, below, meth, c, D, ad0, M0, Q⟩ := g
  obtain ⟨h0, hx, hb, hml, hrt, hown, hnm, hts, hR, hM0, hQ, hlk, htab, hks⟩ := X
  intro ad H locs lss hr hz hS hl hL hT
  exact lv_dup hx hb d ((zph_cat ad v).trans hv) (kk ad H locs lss hr hz hS hl hL (zls_c (zls_h hT) hT))
theorem z_dup2 (X : zCx g l0 cc nL ret own nm Ts fr lo mc ms M00 post xp tab) {v w : Value} (d : decode cc pc = .ok (.dup2, 1)) (hv : v.category = 1) (hw : w.category = 1)
    (kk : zE g nL (pc + 1) ls (v :: w :: v :: w :: rest) M k n) : zE g nL pc ls (v :: w :: rest) M k n := by
  obtain ⟨p, l, e, R, s, m, args, below, meth, c, D, ad0, M0, Q⟩ := g
  obtain ⟨h0, hx, hb, hml, hrt, hown, hnm, hts, hR, hM0, hQ, hlk, htab, hks⟩ := X
  intro ad H locs lss hr hz hS hl hL hT
  exact lv_dup2_11 hx hb d ((zph_cat ad v).trans hv) ((zph_cat ad w).trans hw) (kk ad H locs lss hr hz hS hl hL (zls_c (zls_h hT) (zls_c (zls_h (zls_t hT)) hT)))
theorem z_dup_x1 (X : zCx g l0 cc nL ret own nm Ts fr lo mc ms M00 post xp tab) {v w : Value} (d : decode cc pc = .ok (.dup_x1, 1)) (hv : v.category = 1) (hw : w.category = 1)
    (kk : zE g nL (pc + 1) ls (v :: w :: v :: rest) M k n) : zE g nL pc ls (v :: w :: rest) M k n := by
  obtain ⟨p, l, e, R, s, m, args, below, meth, c, D, ad0, M0, Q⟩ := g
  obtain ⟨h0, hx, hb, hml, hrt, hown, hnm, hts, hR, hM0, hQ, hlk, htab, hks⟩ := X
  intro ad H locs lss hr hz hS hl hL hT
  exact lv_dup_x1 hx hb d ((zph_cat ad v).trans hv) ((zph_cat ad w).trans hw) (kk ad H locs lss hr hz hS hl hL (zls_c (zls_h hT) (zls_c (zls_h (zls_t hT)) (zls_c (zls_h hT) (zls_t (zls_t hT))))))
theorem z_pop (X : zCx g l0 cc nL ret own nm Ts fr lo mc ms M00 post xp tab) {v : Value} (d : decode cc pc = .ok (.pop, 1)) (hv : v.category = 1)
    (kk : zE g nL (pc + 1) ls rest M k n) : zE g nL pc ls (v :: rest) M k n := by
  obtain ⟨p, l, e, R, s, m, args, below, meth, c, D, ad0, M0, Q⟩ := g
  obtain ⟨h0, hx, hb, hml, hrt, hown, hnm, hts, hR, hM0, hQ, hlk, htab, hks⟩ := X
  intro ad H locs lss hr hz hS hl hL hT
  exact lv_pop hx hb d ((zph_cat ad v).trans hv) (kk ad H locs lss hr hz hS hl hL (zls_t hT))
theorem z_goto (X : zCx g l0 cc nL ret own nm Ts fr lo mc ms M00 post xp tab) {off : Int} {tgt : Nat} (d : decode cc pc = .ok (.goto off, 3)) (ht : (pc : Int) + off = (tgt : Int))
    (kk : zE g nL tgt ls st M k n) : zE g nL pc ls st M k n := by
  obtain ⟨p, l, e, R, s, m, args, below, meth, c, D, ad0, M0, Q⟩ := g
  obtain ⟨h0, hx, hb, hml, hrt, hown, hnm, hts, hR, hM0, hQ, hlk, htab, hks⟩ := X
  intro ad H locs lss hr hz hS hl hL hT
  exact lv_goto hx hb d ht (kk ad H locs lss hr hz hS hl hL hT)
theorem z_icmp_eq (X : zCx g l0 cc nL ret own nm Ts fr lo mc ms M00 post xp tab) {x y : Int32} {off : Int} (tgt : Nat) (d : decode cc pc = .ok (.if_icmp .eq off, 3)) (ht : (pc : Int) + off = (tgt : Int))
    (kt : x = y → zE g nL tgt ls rest M k n) (kf : ¬ x = y → zE g nL (pc + 3) ls rest M k n) : zE g nL pc ls (.int y :: .int x :: rest) M k n := by
  obtain ⟨p, l, e, R, s, m, args, below, meth, c, D, ad0, M0, Q⟩ := g
  obtain ⟨h0, hx, hb, hml, hrt, hown, hnm, hts, hR, hM0, hQ, hlk, htab, hks⟩ := X
  intro ad H locs lss hr hz hS hl hL hT
  exact lv_icmp_eq hx hb d ht (fun q => kt q ad H locs lss hr hz hS hl hL (zls_t (zls_t hT))) (fun q => kf q ad H locs lss hr hz hS hl hL (zls_t (zls_t hT)))
theorem z_icmp_ne (X : zCx g l0 cc nL ret own nm Ts fr lo mc ms M00 post xp tab) {x y : Int32} {off : Int} (tgt : Nat) (d : decode cc pc = .ok (.if_icmp .ne off, 3)) (ht : (pc : Int) + off = (tgt : Int))
    (kt : ¬ x = y → zE g nL tgt ls rest M k n) (kf : x = y → zE g nL (pc + 3) ls rest M k n) : zE g nL pc ls (.int y :: .int x :: rest) M k n := by
  obtain ⟨p, l, e, R, s, m, args, below, meth, c, D, ad0, M0, Q⟩ := g
  obtain ⟨h0, hx, hb, hml, hrt, hown, hnm, hts, hR, hM0, hQ, hlk, htab, hks⟩ := X
  intro ad H locs lss hr hz hS hl hL hT
  exact lv_icmp_ne hx hb d ht (fun q => kt q ad H locs lss hr hz hS hl hL (zls_t (zls_t hT))) (fun q => kf q ad H locs lss hr hz hS hl hL (zls_t (zls_t hT)))
theorem z_icmp_lt (X : zCx g l0 cc nL ret own nm Ts fr lo mc ms M00 post xp tab) {x y : Int32} {off : Int} (tgt : Nat) (d : decode cc pc = .ok (.if_icmp .lt off, 3)) (ht : (pc : Int) + off = (tgt : Int))
    (kt : x < y → zE g nL tgt ls rest M k n) (kf : ¬ x < y → zE g nL (pc + 3) ls rest M k n) : zE g nL pc ls (.int y :: .int x :: rest) M k n := by
  obtain ⟨p, l, e, R, s, m, args, below, meth, c, D, ad0, M0, Q⟩ := g
  obtain ⟨h0, hx, hb, hml, hrt, hown, hnm, hts, hR, hM0, hQ, hlk, htab, hks⟩ := X
  intro ad H locs lss hr hz hS hl hL hT
  exact lv_icmp_lt hx hb d ht (fun q => kt q ad H locs lss hr hz hS hl hL (zls_t (zls_t hT))) (fun q => kf q ad H locs lss hr hz hS hl hL (zls_t (zls_t hT)))
theorem z_icmp_ge (X : zCx g l0 cc nL ret own nm Ts fr lo mc ms M00 post xp tab) {x y : Int32} {off : Int} (tgt : Nat) (d : decode cc pc = .ok (.if_icmp .ge off, 3)) (ht : (pc : Int) + off = (tgt : Int))
    (kt : y ≤ x → zE g nL tgt ls rest M k n) (kf : ¬ y ≤ x → zE g nL (pc + 3) ls rest M k n) : zE g nL pc ls (.int y :: .int x :: rest) M k n := by
  obtain ⟨p, l, e, R, s, m, args, below, meth, c, D, ad0, M0, Q⟩ := g
  obtain ⟨h0, hx, hb, hml, hrt, hown, hnm, hts, hR, hM0, hQ, hlk, htab, hks⟩ := X
  intro ad H locs lss hr hz hS hl hL hT
  exact lv_icmp_ge hx hb d ht (fun q => kt q ad H locs lss hr hz hS hl hL (zls_t (zls_t hT))) (fun q => kf q ad H locs lss hr hz hS hl hL (zls_t (zls_t hT)))
theorem z_icmp_gt (X : zCx g l0 cc nL ret own nm Ts fr lo mc ms M00 post xp tab) {x y : Int32} {off : Int} (tgt : Nat) (d : decode cc pc = .ok (.if_icmp .gt off, 3)) (ht : (pc : Int) + off = (tgt : Int))
    (kt : y < x → zE g nL tgt ls rest M k n) (kf : ¬ y < x → zE g nL (pc + 3) ls rest M k n) : zE g nL pc ls (.int y :: .int x :: rest) M k n := by
  obtain ⟨p, l, e, R, s, m, args, below, meth, c, D, ad0, M0, Q⟩ := g
  obtain ⟨h0, hx, hb, hml, hrt, hown, hnm, hts, hR, hM0, hQ, hlk, htab, hks⟩ := X
  intro ad H locs lss hr hz hS hl hL hT
  exact lv_icmp_gt hx hb d ht (fun q => kt q ad H locs lss hr hz hS hl hL (zls_t (zls_t hT))) (fun q => kf q ad H locs lss hr hz hS hl hL (zls_t (zls_t hT)))
theorem z_icmp_le (X : zCx g l0 cc nL ret own nm Ts fr lo mc ms M00 post xp tab) {x y : Int32} {off : Int} (tgt : Nat) (d : decode cc pc = .ok (.if_icmp .le off, 3)) (ht : (pc : Int) + off = (tgt : Int))
    (kt : x ≤ y → zE g nL tgt ls rest M k n) (kf : ¬ x ≤ y → zE g nL (pc + 3) ls rest M k n) : zE g nL pc ls (.int y :: .int x :: rest) M k n := by
  obtain ⟨p, l, e, R, s, m, args, below, meth, c, D, ad0, M0, Q⟩ := g
  obtain ⟨h0, hx, hb, hml, hrt, hown, hnm, hts, hR, hM0, hQ, hlk, htab, hks⟩ := X
  intro ad H locs lss hr hz hS hl hL hT
  exact lv_icmp_le hx hb d ht (fun q => kt q ad H locs lss hr hz hS hl hL (zls_t (zls_t hT))) (fun q => kf q ad H locs lss hr hz hS hl hL (zls_t (zls_t hT)))
theorem z_if_eq (X : zCx g l0 cc nL ret own nm Ts fr lo mc ms M00 post xp tab) {x : Int32} {off : Int} (tgt : Nat) (d : decode cc pc = .ok (.ifCond .eq off, 3)) (ht : (pc : Int) + off = (tgt : Int))
    (kt : x = 0 → zE g nL tgt ls rest M k n) (kf : ¬ x = 0 → zE g nL (pc + 3) ls rest M k n) : zE g nL pc ls (.int x :: rest) M k n := by
  obtain ⟨p, l, e, R, s, m, args, below, meth, c, D, ad0, M0, Q⟩ := g
  obtain ⟨h0, hx, hb, hml, hrt, hown, hnm, hts, hR, hM0, hQ, hlk, htab, hks⟩ := X
  intro ad H locs lss hr hz hS hl hL hT
  exact lv_if_eq hx hb d ht (fun q => kt q ad H locs lss hr hz hS hl hL (zls_t hT)) (fun q => kf q ad H locs lss hr hz hS hl hL (zls_t hT))
theorem z_if_ne (X : zCx g l0 cc nL ret own nm Ts fr lo mc ms M00 post xp tab) {x : Int32} {off : Int} (tgt : Nat) (d : decode cc pc = .ok (.ifCond .ne off, 3)) (ht : (pc : Int) + off = (tgt : Int))
    (kt : ¬ x = 0 → zE g nL tgt ls rest M k n) (kf : x = 0 → zE g nL (pc + 3) ls rest M k n) : zE g nL pc ls (.int x :: rest) M k n := by
  obtain ⟨p, l, e, R, s, m, args, below, meth, c, D, ad0, M0, Q⟩ := g
  obtain ⟨h0, hx, hb, hml, hrt, hown, hnm, hts, hR, hM0, hQ, hlk, htab, hks⟩ := X
  intro ad H locs lss hr hz hS hl hL hT
  exact lv_if_ne hx hb d ht (fun q => kt q ad H locs lss hr hz hS hl hL (zls_t hT)) (fun q => kf q ad H locs lss hr hz hS hl hL (zls_t hT))
theorem z_if_lt (X : zCx g l0 cc nL ret own nm Ts fr lo mc ms M00 post xp tab) {x : Int32} {off : Int} (tgt : Nat) (d : decode cc pc = .ok (.ifCond .lt off, 3)) (ht : (pc : Int) + off = (tgt : Int))
    (kt : x < 0 → zE g nL tgt ls rest M k n) (kf : ¬ x < 0 → zE g nL (pc + 3) ls rest M k n) : zE g nL pc ls (.int x :: rest) M k n := by
  obtain ⟨p, l, e, R, s, m, args, below, meth, c, D, ad0, M0, Q⟩ := g
  obtain ⟨h0, hx, hb, hml, hrt, hown, hnm, hts, hR, hM0, hQ, hlk, htab, hks⟩ := X
  intro ad H locs lss hr hz hS hl hL hT
  exact lv_if_lt hx hb d ht (fun q => kt q ad H locs lss hr hz hS hl hL (zls_t hT)) (fun q => kf q ad H locs lss hr hz hS hl hL (zls_t hT))
theorem z_if_ge (X : zCx g l0 cc nL ret own nm Ts fr lo mc ms M00 post xp tab) {x : Int32} {off : Int} (tgt : Nat) (d : decode cc pc = .ok (.ifCond .ge off, 3)) (ht : (pc : Int) + off = (tgt : Int))
    (kt : 0 ≤ x → zE g nL tgt ls rest M k n) (kf : ¬ 0 ≤ x → zE g nL (pc + 3) ls rest M k n) : zE g nL pc ls (.int x :: rest) M k n := by
  obtain ⟨p, l, e, R, s, m, args, below, meth, c, D, ad0, M0, Q⟩ := g
  obtain ⟨h0, hx, hb, hml, hrt, hown, hnm, hts, hR, hM0, hQ, hlk, htab, hks⟩ := X
  intro ad H locs lss hr hz hS hl hL hT
  exact lv_if_ge hx hb d ht (fun q => kt q ad H locs lss hr hz hS hl hL (zls_t hT)) (fun q => kf q ad H locs lss hr hz hS hl hL (zls_t hT))
theorem z_if_gt (X : zCx g l0 cc nL ret own nm Ts fr lo mc ms M00 post xp tab) {x : Int32} {off : Int} (tgt : Nat) (d : decode cc pc = .ok (.ifCond .gt off, 3)) (ht : (pc : Int) + off = (tgt : Int))
    (kt : 0 < x → zE g nL tgt ls rest M k n) (kf : ¬ 0 < x → zE g nL (pc + 3) ls rest M k n) : zE g nL pc ls (.int x :: rest) M k n := by
  obtain ⟨p, l, e, R, s, m, args, below, meth, c, D, ad0, M0, Q⟩ := g
  obtain ⟨h0, hx, hb, hml, hrt, hown, hnm, hts, hR, hM0, hQ, hlk, htab, hks⟩ := X
  intro ad H locs lss hr hz hS hl hL hT
  exact lv_if_gt hx hb d ht (fun q => kt q ad H locs lss hr hz hS hl hL (zls_t hT)) (fun q => kf q ad H locs lss hr hz hS hl hL (zls_t hT))
theorem z_if_le (X : zCx g l0 cc nL ret own nm Ts fr lo mc ms M00 post xp tab) {x : Int32} {off : Int} (tgt : Nat) (d : decode cc pc = .ok (.ifCond .le off, 3)) (ht : (pc : Int) + off = (tgt : Int))
    (kt : x ≤ 0 → zE g nL tgt ls rest M k n) (kf : ¬ x ≤ 0 → zE g nL (pc + 3) ls rest M k n) : zE g nL pc ls (.int x :: rest) M k n := by
  obtain ⟨p, l, e, R, s, m, args, below, meth, c, D, ad0, M0, Q⟩ := g
  obtain ⟨h0, hx, hb, hml, hrt, hown, hnm, hts, hR, hM0, hQ, hlk, htab, hks⟩ := X
  intro ad H locs lss hr hz hS hl hL hT
  exact lv_if_le hx hb d ht (fun q => kt q ad H locs lss hr hz hS hl hL (zls_t hT)) (fun q => kf q ad H locs lss hr hz hS hl hL (zls_t hT))
theorem z_acmp_eq (X : zCx g l0 cc nL ret own nm Ts fr lo mc ms M00 post xp tab) {x y : Nat} {off : Int} (tgt : Nat) (d : decode cc pc = .ok (.if_acmp .eq off, 3)) (ht : (pc : Int) + off = (tgt : Int))
    (kt : x = y → zE g nL tgt ls rest M k n) (kf : ¬ x = y → zE g nL (pc + 3) ls rest M k n) : zE g nL pc ls (.ref y :: .ref x :: rest) M k n := by
  obtain ⟨p, l, e, R, s, m, args, below, meth, c, D, ad0, M0, Q⟩ := g
  obtain ⟨h0, hx, hb, hml, hrt, hown, hnm, hts, hR, hM0, hQ, hlk, htab, hks⟩ := X
  intro ad H locs lss hr hz hS hl hL hT
  have hy := zls_h hT y rfl
  have hx9 := zls_h (zls_t hT) x rfl
  have hT' := zls_t (zls_t hT)
  exact lv_acmp_eq (rx := some (ad x)) (ry := some (ad y)) hx hb d ht (fun q => kt (hr.1 x y hx9 hy (Option.some.inj q)) ad H locs lss hr hz hS hl hL hT') (fun q => kf (fun e => q (by rw [e])) ad H locs lss hr hz hS hl hL hT')
theorem z_acmp_ne (X : zCx g l0 cc nL ret own nm Ts fr lo mc ms M00 post xp tab) {x y : Nat} {off : Int} (tgt : Nat) (d : decode cc pc = .ok (.if_acmp .ne off, 3)) (ht : (pc : Int) + off = (tgt : Int))
    (kt : ¬ x = y → zE g nL tgt ls rest M k n) (kf : x = y → zE g nL (pc + 3) ls rest M k n) : zE g nL pc ls (.ref y :: .ref x :: rest) M k n := by
  obtain ⟨p, l, e, R, s, m, args, below, meth, c, D, ad0, M0, Q⟩ := g
  obtain ⟨h0, hx, hb, hml, hrt, hown, hnm, hts, hR, hM0, hQ, hlk, htab, hks⟩ := X
  intro ad H locs lss hr hz hS hl hL hT
  have hy := zls_h hT y rfl
  have hx9 := zls_h (zls_t hT) x rfl
  have hT' := zls_t (zls_t hT)
  exact lv_acmp_ne (rx := some (ad x)) (ry := some (ad y)) hx hb d ht (fun q => kt (fun e => q (by rw [e])) ad H locs lss hr hz hS hl hL hT') (fun q => kf (hr.1 x y hx9 hy (Option.some.inj q)) ad H locs lss hr hz hS hl hL hT')
theorem z_ifnull (X : zCx g l0 cc nL ret own nm Ts fr lo mc ms M00 post xp tab) {x : Nat} {off : Int} (d : decode cc pc = .ok (.ifnull off, 3)) (kk : zE g nL (pc + 3) ls rest M k n) : zE g nL pc ls (.ref x :: rest) M k n := by
  obtain ⟨p, l, e, R, s, m, args, below, meth, c, D, ad0, M0, Q⟩ := g
  obtain ⟨h0, hx, hb, hml, hrt, hown, hnm, hts, hR, hM0, hQ, hlk, htab, hks⟩ := X
  intro ad H locs lss hr hz hS hl hL hT
  exact lv_ifnull hx hb d (kk ad H locs lss hr hz hS hl hL (zls_t hT))
theorem z_ifnullN (X : zCx g l0 cc nL ret own nm Ts fr lo mc ms M00 post xp tab) {off : Int} (tgt : Nat) (d : decode cc pc = .ok (.ifnull off, 3)) (ht : (pc : Int) + off = (tgt : Int)) (kk : zE g nL tgt ls rest M k n) : zE g nL pc ls (.null :: rest) M k n := by
  obtain ⟨p, l, e, R, s, m, args, below, meth, c, D, ad0, M0, Q⟩ := g
  obtain ⟨h0, hx, hb, hml, hrt, hown, hnm, hts, hR, hM0, hQ, hlk, htab, hks⟩ := X
  intro ad H locs lss hr hz hS hl hL hT
  exact lv_ifnullN hx hb d ht (kk ad H locs lss hr hz hS hl hL (zls_t hT))
theorem z_ifnonnull (X : zCx g l0 cc nL ret own nm Ts fr lo mc ms M00 post xp tab) {x : Nat} {off : Int} (tgt : Nat) (d : decode cc pc = .ok (.ifnonnull off, 3)) (ht : (pc : Int) + off = (tgt : Int)) (kk : zE g nL tgt ls rest M k n) : zE g nL pc ls (.ref x :: rest) M k n := by
  obtain ⟨p, l, e, R, s, m, args, below, meth, c, D, ad0, M0, Q⟩ := g
  obtain ⟨h0, hx, hb, hml, hrt, hown, hnm, hts, hR, hM0, hQ, hlk, htab, hks⟩ := X
  intro ad H locs lss hr hz hS hl hL hT
  exact lv_ifnonnull hx hb d ht (kk ad H locs lss hr hz hS hl hL (zls_t hT))
theorem z_ifnonnullN (X : zCx g l0 cc nL ret own nm Ts fr lo mc ms M00 post xp tab) {off : Int} (d : decode cc pc = .ok (.ifnonnull off, 3)) (kk : zE g nL (pc + 3) ls rest M k n) : zE g nL pc ls (.null :: rest) M k n := by
  obtain ⟨p, l, e, R, s, m, args, below, meth, c, D, ad0, M0, Q⟩ := g
  obtain ⟨h0, hx, hb, hml, hrt, hown, hnm, hts, hR, hM0, hQ, hlk, htab, hks⟩ := X
  intro ad H locs lss hr hz hS hl hL hT
  exact lv_ifnonnullN hx hb d (kk ad H locs lss hr hz hS hl hL (zls_t hT))
end ZPR
end
section
/-! PART 05: rows of zE: calls, throws, new objects (by program) -/
def zpv (P : zMem → Prop) : Option Value → zMem → Prop := fun v M' => v = none ∧ P M'
def zpi (P : Int32 → zMem → Prop) : Option Value → zMem → Prop := fun v M' => ∃ r : Int32, v = some (.int r) ∧ P r M'
def zpj (P : Int64 → zMem → Prop) : Option Value → zMem → Prop := fun v M' => ∃ r : Int64, v = some (.long r) ∧ P r M'
def zpf (P : UInt32 → zMem → Prop) : Option Value → zMem → Prop := fun v M' => ∃ r : UInt32, v = some (.float r) ∧ P r M'
def zpd (P : UInt64 → zMem → Prop) : Option Value → zMem → Prop := fun v M' => ∃ r : UInt64, v = some (.double r) ∧ P r M'
def zpr (P : Nat → zMem → Prop) : Option Value → zMem → Prop := fun v M' => ∃ r : Nat, v = some (.ref r) ∧ P r M'
def zpq (P : Option Nat → zMem → Prop) : Option Value → zMem → Prop := fun v M' => ∃ r : Option Nat, v = some (va_rf r) ∧ P r M'
def zno : String → Prop := fun _ => False
theorem zmp (ad : Nat → Nat) (v : Option Value) (rest : List Value) : (v.toList ++ rest).map (zph ad) = (v.map (zph ad)).toList ++ rest.map (zph ad) := by cases v <;> rfl
theorem zcats (ad : Nat → Nat) (rest : List Value) : ((rest.map (zph ad)).map fun v => v.category) = rest.map fun v => v.category := by
  rw [List.map_map]
  exact List.map_congr_left fun v _ => zph_cat ad v
theorem zrel_kept {D : zG} {ad : Nat → Nat} {M : zMem} {H H1 : Heap} (hr : zrel D ad M H) (hsz : H.size ≤ H1.size) (hs : ∀ q : Nat, q < H.size → H1[q]? = H[q]?) : zrel D ad M H1 := by
  refine ⟨hr.1, fun o ho => Nat.lt_of_lt_of_le (hr.2.1 o ho) hsz, fun o ho => ?_, hr.2.2.2⟩
  obtain ⟨h1, h2⟩ := hr.2.2.1 o ho
  have e := hs (ad o) (hr.2.1 o ho)
  exact ⟨fun ci q hc hq => (h1 ci q hc hq).kept e, fun t ht h6 => by rw [e]; exact h2 t ht h6⟩
theorem zc_new {M : zMem} {o a t n : Nat} (h : zc M a ≠ 0) (ho : zc M o = 0) : zc (znew M o t n) a ≠ 0 := by
  show (if a = o then t else zc M a) ≠ 0
  rw [if_neg (fun e => h (by rw [e]; exact ho))]
  exact h
theorem zmv_new {ad : Nat → Nat} {M : zMem} {o t n : Nat} (ty : FieldType) (j : Nat) : zmv ad (znew M o t n) ty o j = defaultValue ty := by
  cases ty <;> simp [zmv, znew, zi, zl, zd, zr, defaultValue, va_rf]
theorem zmv_old {ad ad' : Nat → Nat} {M : zMem} {o a t n j : Nat} (he : (zr M a j).map ad' = (zr M a j).map ad) (hne : a ≠ o) (ty : FieldType) : zmv ad' (znew M o t n) ty a j = zmv ad M ty a j := by
  have h1 : zr (znew M o t n) a j = zr M a j := if_neg hne
  have h2 : zi (znew M o t n) a j = zi M a j := if_neg hne
  have h3 : zl (znew M o t n) a j = zl M a j := if_neg hne
  have h4 : zd (znew M o t n) a j = zd M a j := if_neg hne
  cases ty <;> simp only [zmv, h1, h2, h3, h4, he]
theorem zrel_new {D : zG} {ad : Nat → Nat} {M : zMem} {H H1 : Heap} {o t n : Nat} (hr : zrel D ad M H) (ho : zc M o = 0) (ht0 : t ≠ 0) (z1 : H1.size = H.size + 1) (o1 : ∀ q : Nat, q < H.size → H1[q]? = H[q]?) (hat : zat D (fun a => if a = o then H.size else ad a) (znew M o t n) o H1) : zrel D (fun a => if a = o then H.size else ad a) (znew M o t n) H1 := by
  have hc : ∀ a, a ≠ o → zc (znew M o t n) a = zc M a := fun a h => if_neg h
  have hn : ∀ a, a ≠ o → zn (znew M o t n) a = zn M a := fun a h => if_neg h
  have hlt : ∀ a, a ≠ o → zc (znew M o t n) a ≠ 0 → ad a < H.size := fun a h h0 => hr.2.1 a (by rw [← hc a h]; exact h0)
  refine ⟨fun a b ha hb e => ?_, fun a ha => ?_, fun a ha => ?_, fun a j b ha hb => ?_⟩
  · by_cases h1 : a = o <;> by_cases h2 : b = o
    · rw [h1, h2]
    · simp only [h1, if_pos, if_neg h2] at e
      exact absurd e.symm (Nat.ne_of_lt (hlt b h2 hb))
    · simp only [h2, if_pos, if_neg h1] at e
      exact absurd e (Nat.ne_of_lt (hlt a h1 ha))
    · simp only [if_neg h1, if_neg h2] at e
      exact hr.1 a b (by rw [← hc a h1]; exact ha) (by rw [← hc b h2]; exact hb) e
  · by_cases h1 : a = o
    · simp only [h1, if_pos]
      omega
    · simp only [if_neg h1]
      have := hlt a h1 ha
      omega
  · by_cases h1 : a = o
    · rw [h1]; exact hat
    · have ha' : zc M a ≠ 0 := by rw [← hc a h1]; exact ha
      obtain ⟨g1, g2⟩ := hr.2.2.1 a ha'
      have hm : ∀ j, (zr M a j).map (fun a => if a = o then H.size else ad a) = (zr M a j).map ad := fun j => by
        cases hb : zr M a j with
        | none => rfl
        | some b => exact congrArg some (if_neg (fun e => hr.2.2.2 a j b ha' hb (by rw [e]; exact ho)))
      have ea : (if a = o then H.size else ad a) = ad a := if_neg h1
      refine ⟨fun ci q hci hq => ?_, fun t' ht' h6 => ?_⟩
      · show t_OB (if a = o then H.size else ad a) _ _ _ _ _
        rw [ea]
        rw [hc a h1] at hci
        exact ((g1 ci q hci hq).kept (o1 _ (hr.2.1 a ha'))).to (fun j _ => (zmv_old (hm j) h1 _).symm)
      · show H1[if a = o then H.size else ad a]? = _
        rw [ea, o1 _ (hr.2.1 a ha')]
        rw [hc a h1] at ht'
        rw [g2 t' ht' h6, hn a h1]
        congr 2
        funext j
        exact (zmv_old (hm j) h1 _).symm
  · by_cases h1 : a = o
    · have h2 : zr (znew M o t n) a j = none := if_pos h1
      rw [h2] at hb
      cases hb
    · have h2 : zr (znew M o t n) a j = zr M a j := if_neg h1
      rw [h2] at hb
      have h3 := hr.2.2.2 a j b (by rw [← hc a h1]; exact ha) hb
      exact zc_new h3 ho
theorem zx_new {ad0 ad : Nat → Nat} {M0 M : zMem} {sz o t n h : Nat} (hz : zx ad0 M0 sz ad M) (ho : zc M o = 0) (ht0 : t ≠ 0) (hs : sz ≤ h) (h31 : o ≠ zE0) : zx ad0 M0 sz (fun a => if a = o then h else ad a) (znew M o t n) := by
  refine ⟨fun a ha => ?_, fun a ha => ?_, fun e => ?_⟩
  · obtain ⟨x, y⟩ := hz.1 a ha
    have hne : a ≠ o := fun e => ha (by rw [← y, e]; exact ho)
    exact ⟨(if_neg hne).trans x, (if_neg hne).trans y⟩
  · by_cases h1 : a = o
    · exact Or.inr (by simp only [h1, if_pos]; exact hs)
    · have h2 : zc (znew M o t n) a = zc M a := if_neg h1
      rw [h2] at ha
      simp only [if_neg h1]
      exact hz.2.1 a ha
  · have h2 : zc (znew M o t n) zE0 = zc M zE0 := if_neg (Ne.symm h31)
    rw [h2] at e
    exact hz.2.2 e
section ZC
variable {g : zCtx} {l0 : Launch} {cc : ByteArray} {nL : Nat} {ret : Option FieldType} {own nm : String} {Ts : List Cond} {fr lo mc ms : Nat} {M00 : zMem} {post : Option Value → zMem → Prop} {xp : String → Prop}
variable {pc : Nat} {ls ls' : List (Nat × Value)} {st rest : List Value} {M : zMem} {k n : Nat}
/-- behind a call's run -/
theorem z_ofRun {p : Program} {l : Launch} {e : Env} {R : Room} {s : State} {m : MethodId} {args : Array Value} {below : List Frame} {meth : Method} {c : Code} {D : zG} {ad0 : Nat → Nat} {M0 : zMem} {Q : State → Prop} (hlk : meth.locks = false) (htab : c.exceptionTable.toList = []) (hQ : Q = vx_MQ below (zQc D ad0 M0 s.heap.size post) (zXC D ad0 M0 s.heap.size xp) args s mc ms (zA ad0 M0 s.heap.size))
    {ad : Nat → Nat} {H : Heap} {locs : List Loc} {lss : Array Slot} (hr : zrel D ad M H) (hz : zx ad0 M0 s.heap.size ad M) (hS : va_S (zA ad0 M0 s.heap.size) s.heap H locs) (hl : lv_has lss nL (ls.map (zpl ad))) (hL : zll M ls) (hT : zls M rest)
    {st0 : List Value} {a : Array Value} {mc1 ms1 : Nat} {post1 : Option Value → zMem → Prop} {xp1 : String → Prop}
    (hrun : vx_Run p l e R s m args below meth c H locs k n mc1 ms1 (F0 m pc lss st0) (rest.map (zph ad)) (zQc D ad M H.size post1 a) (zXC D ad M H.size xp1) (zA ad M H.size))
    (hk9 : k + mc1 ≤ mc ∧ n + ms1 ≤ ms) (hxp : ∀ E, xp1 E → xp E ∧ M = M0)
    (kk : ∀ (v : Option Value) (M1 : zMem), post1 v M1 → zE (p, l, e, R, s, m, args, below, meth, c, D, ad0, M0, Q) nL (pc + 3) ls (v.toList ++ rest) M1 (k + mc1) (n + ms1)) : W p l e R s m args below meth c H locs k n Q (F0 m pc lss st0) := by
  have hA := zA_sub hz hS.1
  intro T hT9 X
  rcases hrun T hT9 X with ⟨v, st₀, t, T', L, h0, X', hL', e1, e2, ⟨⟨v', ad', M', hv, hp, hr', hz', hlv⟩, hF⟩, stp⟩ | ⟨q, st₀, t, T', L, E, ce, h0, X', hL', e1, e2, ⟨hxe, hre, hFe⟩, hce, hcv, hcl, stp⟩
  · have hv9 : v = v'.map (zph ad') := by cases hv; rfl
    subst hv9
    obtain ⟨k1, k2, k3⟩ := vx_keep h0 e1 hS (fun q _ h => hA q h) hA hL' hF
    have he : ∀ o, zc M o ≠ 0 → ad' o = ad o := fun o ho => (hz'.1 o ho).1
    have hm : ∀ o, zc M o ≠ 0 → zc M' o ≠ 0 := fun o ho => by rw [(hz'.1 o ho).2]; exact ho
    have k9 := kk v' M' hp ad' T'.heap (locs ++ L) lss (by rw [e1]; exact hr') (zx_tr hz hS.1 hz') k3 (by rw [zll_congr he hL]; exact hl) (zll_mono hm hL) (fun w hw => by
      rcases List.mem_append.mp hw with h | h
      · exact hlv w (by cases v' with
          | none => cases h
          | some u => exact (congrArg some (List.mem_singleton.mp h)).symm)
      · exact zls_mono hm hT w h) T' rfl X'
    rw [zmp, zst_congr he hT] at k9
    obtain ⟨t2, a1, b1⟩ := k9
    exact ⟨t2, stp t2 a1, b1⟩
  · obtain ⟨k1, k2, k3⟩ := vx_keep h0 e1 hS (fun q _ h => hA q h) hA hL' hFe
    obtain ⟨hxe9, hM9⟩ := hxp E hxe
    subst hM9
    subst hQ
    have ho := vx_out (p := p) (l := l) (e := e) (R := R) (s := s) (m := m) (args := args) (below := below) (meth := meth) (c := c) (H := T'.heap) (locs := locs ++ L) (cells := k + mc1) (slots := n + ms1) (free := zA ad0 M s.heap.size) (ls := lss) (rest := rest.map (zph ad)) (Qc := zQc D ad0 M s.heap.size post) (XC := zXC D ad0 M s.heap.size xp) (pc := pc) (E := E) (ce := ce) (q := q) (mc := mc) (ms := ms) (fun x hx => by rw [htab] at hx; cases hx) hlk (by rw [e1]; exact hce) hcv hcl
      (fun t' ht' hal => ⟨hxe9, by rw [ht', e1]; exact zrel_congr hre (fun o ho => ((hz.1 o ho).1).symm), k3.F ht'⟩) k3.2.2 hk9.1 hk9.2
    obtain ⟨t2, a1, b1⟩ := ho T' rfl X'
    exact ⟨t2, stp.trans a1, b1⟩
theorem z_callVv (X : zCx g l0 cc nL ret own nm Ts fr lo mc ms M00 post xp []) {C : String} {o ci N : Nat} {T : u_T} {index : Nat} {y : MethodName} {bytes : ByteArray} {maxL : Nat} {ret1 : Option FieldType} {ws1 ws1' : List Cond} {fr1 lo1 mc1 ms1 : Nat} {As : List Value} {xp1 : String → Prop} {P : zMem → Prop} (d : decode cc pc = .ok (.invokevirtual index, 3)) (hM : zS l0 y ws1 fr1 lo1 mc1 ms1 (.ref o :: As) M (zpv P) xp1) (hT9 : GoodIn Ts (wsV own index C y ws1)) (hw : ws1 = Cond.code y bytes maxL ret1 :: ws1')
    (hd : y.cls = C ∧ y.cls ≠ "java/lang/invoke/MethodHandle" ∧ y.cls ≠ "java/lang/invoke/VarHandle" ∧ (parseMethodDescriptor y.desc).map (fun d => d.parameters.length) = some As.length) (hR9 : fr1 + 1 ≤ fr ∧ 8 + (maxL + 11) + lo1 ≤ lo) (hc : zc M o = ci + 1) (hq : vwCl[ci]? = some (C, T, N)) (hst : st = As.reverse ++ .ref o :: rest) (hcat : (rest.map fun v => v.category).sum ≤ 8) (hk9 : k + mc1 ≤ mc ∧ n + ms1 ≤ ms) (hxp : ∀ E, xp1 E → xp E ∧ M = M00)
    (kk : ∀ (M1 : zMem), P M1 → zE g nL (pc + 3) ls rest M1 (k + mc1) (n + ms1)) : zE g nL pc ls st M k n := by
  subst hst
  obtain ⟨p, l, e, R, s, m, args, below, meth, c, D, ad0, M0, Q⟩ := g
  obtain ⟨h0, hx, hb, hml, hrt, hown, hnm, hts, hR, hM0, hQ, hlk, htab, hks⟩ := X
  intro ad H locs lss hr hz hS hl hL hT
  subst h0; subst hR; subst hM0
  have ho : zc M o ≠ 0 := by rw [hc]; exact Nat.succ_ne_zero _
  obtain ⟨cell, q1, q2, q3, -⟩ := (hr.2.2.1 o ho).1 ci _ hc hq
  have hav : zls M (.ref o :: As) := zls_c (zlv_ref ho) (fun w hw => hT w (List.mem_append_left _ (List.mem_reverse.mpr hw)))
  have hrs : zls M rest := fun w hw => hT w (List.mem_append_right _ (List.mem_cons_of_mem _ hw))
  have hks' : zKS D ad M (zA ad M H.size) s H := ⟨hks.1, hks.2.1.on hz hS, hks.2.2⟩
  refine z_ofRun hlk htab hQ hr hz hS hl hL hrs (hrun := vx_runV (b := ad o) (As := As.map (zph ad)) (rest := rest.map (zph ad)) (H := H) (locs := locs) (cells := k) (slots := n) ⟨hx, hb, hml, hown, hts⟩ (hM D ad H.size) (cwV As.length hts hT9 hw rfl rfl hd hR9) ⟨zPc.blind, ⟨cell, q1, by rw [q3]; rfl, by rw [q2]; exact (hks.1.1.1 ci _ hq).2.1⟩, fun U hU hW => ⟨rfl, by rw [hU], by rw [hU]; exact hr, hav, by rw [hU]; exact hks'.warm hW⟩⟩ rfl (by rw [List.length_map]) hl.1 (by simp [zph]) (lv_room (by rw [zcats]; exact hcat)) d hk9) hk9 hxp ?_
  rintro v M1 ⟨rfl, hP⟩
  exact kk M1 hP
theorem z_callVi (X : zCx g l0 cc nL ret own nm Ts fr lo mc ms M00 post xp []) {C : String} {o ci N : Nat} {T : u_T} {index : Nat} {y : MethodName} {bytes : ByteArray} {maxL : Nat} {ret1 : Option FieldType} {ws1 ws1' : List Cond} {fr1 lo1 mc1 ms1 : Nat} {As : List Value} {xp1 : String → Prop} {P : Int32 → zMem → Prop} (d : decode cc pc = .ok (.invokevirtual index, 3)) (hM : zS l0 y ws1 fr1 lo1 mc1 ms1 (.ref o :: As) M (zpi P) xp1) (hT9 : GoodIn Ts (wsV own index C y ws1)) (hw : ws1 = Cond.code y bytes maxL ret1 :: ws1')
    (hd : y.cls = C ∧ y.cls ≠ "java/lang/invoke/MethodHandle" ∧ y.cls ≠ "java/lang/invoke/VarHandle" ∧ (parseMethodDescriptor y.desc).map (fun d => d.parameters.length) = some As.length) (hR9 : fr1 + 1 ≤ fr ∧ 8 + (maxL + 11) + lo1 ≤ lo) (hc : zc M o = ci + 1) (hq : vwCl[ci]? = some (C, T, N)) (hst : st = As.reverse ++ .ref o :: rest) (hcat : (rest.map fun v => v.category).sum ≤ 8) (hk9 : k + mc1 ≤ mc ∧ n + ms1 ≤ ms) (hxp : ∀ E, xp1 E → xp E ∧ M = M00)
    (kk : ∀ (r : Int32) (M1 : zMem), P r M1 → zE g nL (pc + 3) ls (.int r :: rest) M1 (k + mc1) (n + ms1)) : zE g nL pc ls st M k n := by
  subst hst
  obtain ⟨p, l, e, R, s, m, args, below, meth, c, D, ad0, M0, Q⟩ := g
  obtain ⟨h0, hx, hb, hml, hrt, hown, hnm, hts, hR, hM0, hQ, hlk, htab, hks⟩ := X
  intro ad H locs lss hr hz hS hl hL hT
  subst h0; subst hR; subst hM0
  have ho : zc M o ≠ 0 := by rw [hc]; exact Nat.succ_ne_zero _
  obtain ⟨cell, q1, q2, q3, -⟩ := (hr.2.2.1 o ho).1 ci _ hc hq
  have hav : zls M (.ref o :: As) := zls_c (zlv_ref ho) (fun w hw => hT w (List.mem_append_left _ (List.mem_reverse.mpr hw)))
  have hrs : zls M rest := fun w hw => hT w (List.mem_append_right _ (List.mem_cons_of_mem _ hw))
  have hks' : zKS D ad M (zA ad M H.size) s H := ⟨hks.1, hks.2.1.on hz hS, hks.2.2⟩
  refine z_ofRun hlk htab hQ hr hz hS hl hL hrs (hrun := vx_runV (b := ad o) (As := As.map (zph ad)) (rest := rest.map (zph ad)) (H := H) (locs := locs) (cells := k) (slots := n) ⟨hx, hb, hml, hown, hts⟩ (hM D ad H.size) (cwV As.length hts hT9 hw rfl rfl hd hR9) ⟨zPc.blind, ⟨cell, q1, by rw [q3]; rfl, by rw [q2]; exact (hks.1.1.1 ci _ hq).2.1⟩, fun U hU hW => ⟨rfl, by rw [hU], by rw [hU]; exact hr, hav, by rw [hU]; exact hks'.warm hW⟩⟩ rfl (by rw [List.length_map]) hl.1 (by simp [zph]) (lv_room (by rw [zcats]; exact hcat)) d hk9) hk9 hxp ?_
  rintro v M1 ⟨r, rfl, hP⟩
  exact kk r M1 hP
theorem z_callVl (X : zCx g l0 cc nL ret own nm Ts fr lo mc ms M00 post xp []) {C : String} {o ci N : Nat} {T : u_T} {index : Nat} {y : MethodName} {bytes : ByteArray} {maxL : Nat} {ret1 : Option FieldType} {ws1 ws1' : List Cond} {fr1 lo1 mc1 ms1 : Nat} {As : List Value} {xp1 : String → Prop} {P : Int64 → zMem → Prop} (d : decode cc pc = .ok (.invokevirtual index, 3)) (hM : zS l0 y ws1 fr1 lo1 mc1 ms1 (.ref o :: As) M (zpj P) xp1) (hT9 : GoodIn Ts (wsV own index C y ws1)) (hw : ws1 = Cond.code y bytes maxL ret1 :: ws1')
    (hd : y.cls = C ∧ y.cls ≠ "java/lang/invoke/MethodHandle" ∧ y.cls ≠ "java/lang/invoke/VarHandle" ∧ (parseMethodDescriptor y.desc).map (fun d => d.parameters.length) = some As.length) (hR9 : fr1 + 1 ≤ fr ∧ 8 + (maxL + 11) + lo1 ≤ lo) (hc : zc M o = ci + 1) (hq : vwCl[ci]? = some (C, T, N)) (hst : st = As.reverse ++ .ref o :: rest) (hcat : (rest.map fun v => v.category).sum ≤ 8) (hk9 : k + mc1 ≤ mc ∧ n + ms1 ≤ ms) (hxp : ∀ E, xp1 E → xp E ∧ M = M00)
    (kk : ∀ (r : Int64) (M1 : zMem), P r M1 → zE g nL (pc + 3) ls (.long r :: rest) M1 (k + mc1) (n + ms1)) : zE g nL pc ls st M k n := by
  subst hst
  obtain ⟨p, l, e, R, s, m, args, below, meth, c, D, ad0, M0, Q⟩ := g
  obtain ⟨h0, hx, hb, hml, hrt, hown, hnm, hts, hR, hM0, hQ, hlk, htab, hks⟩ := X
  intro ad H locs lss hr hz hS hl hL hT
  subst h0; subst hR; subst hM0
  have ho : zc M o ≠ 0 := by rw [hc]; exact Nat.succ_ne_zero _
  obtain ⟨cell, q1, q2, q3, -⟩ := (hr.2.2.1 o ho).1 ci _ hc hq
  have hav : zls M (.ref o :: As) := zls_c (zlv_ref ho) (fun w hw => hT w (List.mem_append_left _ (List.mem_reverse.mpr hw)))
  have hrs : zls M rest := fun w hw => hT w (List.mem_append_right _ (List.mem_cons_of_mem _ hw))
  have hks' : zKS D ad M (zA ad M H.size) s H := ⟨hks.1, hks.2.1.on hz hS, hks.2.2⟩
  refine z_ofRun hlk htab hQ hr hz hS hl hL hrs (hrun := vx_runV (b := ad o) (As := As.map (zph ad)) (rest := rest.map (zph ad)) (H := H) (locs := locs) (cells := k) (slots := n) ⟨hx, hb, hml, hown, hts⟩ (hM D ad H.size) (cwV As.length hts hT9 hw rfl rfl hd hR9) ⟨zPc.blind, ⟨cell, q1, by rw [q3]; rfl, by rw [q2]; exact (hks.1.1.1 ci _ hq).2.1⟩, fun U hU hW => ⟨rfl, by rw [hU], by rw [hU]; exact hr, hav, by rw [hU]; exact hks'.warm hW⟩⟩ rfl (by rw [List.length_map]) hl.1 (by simp [zph]) (lv_room (by rw [zcats]; exact hcat)) d hk9) hk9 hxp ?_
  rintro v M1 ⟨r, rfl, hP⟩
  exact kk r M1 hP
theorem z_callVf (X : zCx g l0 cc nL ret own nm Ts fr lo mc ms M00 post xp []) {C : String} {o ci N : Nat} {T : u_T} {index : Nat} {y : MethodName} {bytes : ByteArray} {maxL : Nat} {ret1 : Option FieldType} {ws1 ws1' : List Cond} {fr1 lo1 mc1 ms1 : Nat} {As : List Value} {xp1 : String → Prop} {P : UInt32 → zMem → Prop} (d : decode cc pc = .ok (.invokevirtual index, 3)) (hM : zS l0 y ws1 fr1 lo1 mc1 ms1 (.ref o :: As) M (zpf P) xp1) (hT9 : GoodIn Ts (wsV own index C y ws1)) (hw : ws1 = Cond.code y bytes maxL ret1 :: ws1')
    (hd : y.cls = C ∧ y.cls ≠ "java/lang/invoke/MethodHandle" ∧ y.cls ≠ "java/lang/invoke/VarHandle" ∧ (parseMethodDescriptor y.desc).map (fun d => d.parameters.length) = some As.length) (hR9 : fr1 + 1 ≤ fr ∧ 8 + (maxL + 11) + lo1 ≤ lo) (hc : zc M o = ci + 1) (hq : vwCl[ci]? = some (C, T, N)) (hst : st = As.reverse ++ .ref o :: rest) (hcat : (rest.map fun v => v.category).sum ≤ 8) (hk9 : k + mc1 ≤ mc ∧ n + ms1 ≤ ms) (hxp : ∀ E, xp1 E → xp E ∧ M = M00)
    (kk : ∀ (r : UInt32) (M1 : zMem), P r M1 → zE g nL (pc + 3) ls (.float r :: rest) M1 (k + mc1) (n + ms1)) : zE g nL pc ls st M k n := by
  subst hst
  obtain ⟨p, l, e, R, s, m, args, below, meth, c, D, ad0, M0, Q⟩ := g
  obtain ⟨h0, hx, hb, hml, hrt, hown, hnm, hts, hR, hM0, hQ, hlk, htab, hks⟩ := X
  intro ad H locs lss hr hz hS hl hL hT
  subst h0; subst hR; subst hM0
  have ho : zc M o ≠ 0 := by rw [hc]; exact Nat.succ_ne_zero _
  obtain ⟨cell, q1, q2, q3, -⟩ := (hr.2.2.1 o ho).1 ci _ hc hq
  have hav : zls M (.ref o :: As) := zls_c (zlv_ref ho) (fun w hw => hT w (List.mem_append_left _ (List.mem_reverse.mpr hw)))
  have hrs : zls M rest := fun w hw => hT w (List.mem_append_right _ (List.mem_cons_of_mem _ hw))
  have hks' : zKS D ad M (zA ad M H.size) s H := ⟨hks.1, hks.2.1.on hz hS, hks.2.2⟩
  refine z_ofRun hlk htab hQ hr hz hS hl hL hrs (hrun := vx_runV (b := ad o) (As := As.map (zph ad)) (rest := rest.map (zph ad)) (H := H) (locs := locs) (cells := k) (slots := n) ⟨hx, hb, hml, hown, hts⟩ (hM D ad H.size) (cwV As.length hts hT9 hw rfl rfl hd hR9) ⟨zPc.blind, ⟨cell, q1, by rw [q3]; rfl, by rw [q2]; exact (hks.1.1.1 ci _ hq).2.1⟩, fun U hU hW => ⟨rfl, by rw [hU], by rw [hU]; exact hr, hav, by rw [hU]; exact hks'.warm hW⟩⟩ rfl (by rw [List.length_map]) hl.1 (by simp [zph]) (lv_room (by rw [zcats]; exact hcat)) d hk9) hk9 hxp ?_
  rintro v M1 ⟨r, rfl, hP⟩
  exact kk r M1 hP
theorem z_callVd (X : zCx g l0 cc nL ret own nm Ts fr lo mc ms M00 post xp []) {C : String} {o ci N : Nat} {T : u_T} {index : Nat} {y : MethodName} {bytes : ByteArray} {maxL : Nat} {ret1 : Option FieldType} {ws1 ws1' : List Cond} {fr1 lo1 mc1 ms1 : Nat} {As : List Value} {xp1 : String → Prop} {P : UInt64 → zMem → Prop} (d : decode cc pc = .ok (.invokevirtual index, 3)) (hM : zS l0 y ws1 fr1 lo1 mc1 ms1 (.ref o :: As) M (zpd P) xp1) (hT9 : GoodIn Ts (wsV own index C y ws1)) (hw : ws1 = Cond.code y bytes maxL ret1 :: ws1')
    (hd : y.cls = C ∧ y.cls ≠ "java/lang/invoke/MethodHandle" ∧ y.cls ≠ "java/lang/invoke/VarHandle" ∧ (parseMethodDescriptor y.desc).map (fun d => d.parameters.length) = some As.length) (hR9 : fr1 + 1 ≤ fr ∧ 8 + (maxL + 11) + lo1 ≤ lo) (hc : zc M o = ci + 1) (hq : vwCl[ci]? = some (C, T, N)) (hst : st = As.reverse ++ .ref o :: rest) (hcat : (rest.map fun v => v.category).sum ≤ 8) (hk9 : k + mc1 ≤ mc ∧ n + ms1 ≤ ms) (hxp : ∀ E, xp1 E → xp E ∧ M = M00)
    (kk : ∀ (r : UInt64) (M1 : zMem), P r M1 → zE g nL (pc + 3) ls (.double r :: rest) M1 (k + mc1) (n + ms1)) : zE g nL pc ls st M k n := by
  subst hst
  obtain ⟨p, l, e, R, s, m, args, below, meth, c, D, ad0, M0, Q⟩ := g
  obtain ⟨h0, hx, hb, hml, hrt, hown, hnm, hts, hR, hM0, hQ, hlk, htab, hks⟩ := X
  intro ad H locs lss hr hz hS hl hL hT
  subst h0; subst hR; subst hM0
  have ho : zc M o ≠ 0 := by rw [hc]; exact Nat.succ_ne_zero _
  obtain ⟨cell, q1, q2, q3, -⟩ := (hr.2.2.1 o ho).1 ci _ hc hq
  have hav : zls M (.ref o :: As) := zls_c (zlv_ref ho) (fun w hw => hT w (List.mem_append_left _ (List.mem_reverse.mpr hw)))
  have hrs : zls M rest := fun w hw => hT w (List.mem_append_right _ (List.mem_cons_of_mem _ hw))
  have hks' : zKS D ad M (zA ad M H.size) s H := ⟨hks.1, hks.2.1.on hz hS, hks.2.2⟩
  refine z_ofRun hlk htab hQ hr hz hS hl hL hrs (hrun := vx_runV (b := ad o) (As := As.map (zph ad)) (rest := rest.map (zph ad)) (H := H) (locs := locs) (cells := k) (slots := n) ⟨hx, hb, hml, hown, hts⟩ (hM D ad H.size) (cwV As.length hts hT9 hw rfl rfl hd hR9) ⟨zPc.blind, ⟨cell, q1, by rw [q3]; rfl, by rw [q2]; exact (hks.1.1.1 ci _ hq).2.1⟩, fun U hU hW => ⟨rfl, by rw [hU], by rw [hU]; exact hr, hav, by rw [hU]; exact hks'.warm hW⟩⟩ rfl (by rw [List.length_map]) hl.1 (by simp [zph]) (lv_room (by rw [zcats]; exact hcat)) d hk9) hk9 hxp ?_
  rintro v M1 ⟨r, rfl, hP⟩
  exact kk r M1 hP
theorem z_callVr (X : zCx g l0 cc nL ret own nm Ts fr lo mc ms M00 post xp []) {C : String} {o ci N : Nat} {T : u_T} {index : Nat} {y : MethodName} {bytes : ByteArray} {maxL : Nat} {ret1 : Option FieldType} {ws1 ws1' : List Cond} {fr1 lo1 mc1 ms1 : Nat} {As : List Value} {xp1 : String → Prop} {P : Nat → zMem → Prop} (d : decode cc pc = .ok (.invokevirtual index, 3)) (hM : zS l0 y ws1 fr1 lo1 mc1 ms1 (.ref o :: As) M (zpr P) xp1) (hT9 : GoodIn Ts (wsV own index C y ws1)) (hw : ws1 = Cond.code y bytes maxL ret1 :: ws1')
    (hd : y.cls = C ∧ y.cls ≠ "java/lang/invoke/MethodHandle" ∧ y.cls ≠ "java/lang/invoke/VarHandle" ∧ (parseMethodDescriptor y.desc).map (fun d => d.parameters.length) = some As.length) (hR9 : fr1 + 1 ≤ fr ∧ 8 + (maxL + 11) + lo1 ≤ lo) (hc : zc M o = ci + 1) (hq : vwCl[ci]? = some (C, T, N)) (hst : st = As.reverse ++ .ref o :: rest) (hcat : (rest.map fun v => v.category).sum ≤ 8) (hk9 : k + mc1 ≤ mc ∧ n + ms1 ≤ ms) (hxp : ∀ E, xp1 E → xp E ∧ M = M00)
    (kk : ∀ (r : Nat) (M1 : zMem), P r M1 → zE g nL (pc + 3) ls (.ref r :: rest) M1 (k + mc1) (n + ms1)) : zE g nL pc ls st M k n := by
  subst hst
  obtain ⟨p, l, e, R, s, m, args, below, meth, c, D, ad0, M0, Q⟩ := g
  obtain ⟨h0, hx, hb, hml, hrt, hown, hnm, hts, hR, hM0, hQ, hlk, htab, hks⟩ := X
  intro ad H locs lss hr hz hS hl hL hT
  subst h0; subst hR; subst hM0
  have ho : zc M o ≠ 0 := by rw [hc]; exact Nat.succ_ne_zero _
  obtain ⟨cell, q1, q2, q3, -⟩ := (hr.2.2.1 o ho).1 ci _ hc hq
  have hav : zls M (.ref o :: As) := zls_c (zlv_ref ho) (fun w hw => hT w (List.mem_append_left _ (List.mem_reverse.mpr hw)))
  have hrs : zls M rest := fun w hw => hT w (List.mem_append_right _ (List.mem_cons_of_mem _ hw))
  have hks' : zKS D ad M (zA ad M H.size) s H := ⟨hks.1, hks.2.1.on hz hS, hks.2.2⟩
  refine z_ofRun hlk htab hQ hr hz hS hl hL hrs (hrun := vx_runV (b := ad o) (As := As.map (zph ad)) (rest := rest.map (zph ad)) (H := H) (locs := locs) (cells := k) (slots := n) ⟨hx, hb, hml, hown, hts⟩ (hM D ad H.size) (cwV As.length hts hT9 hw rfl rfl hd hR9) ⟨zPc.blind, ⟨cell, q1, by rw [q3]; rfl, by rw [q2]; exact (hks.1.1.1 ci _ hq).2.1⟩, fun U hU hW => ⟨rfl, by rw [hU], by rw [hU]; exact hr, hav, by rw [hU]; exact hks'.warm hW⟩⟩ rfl (by rw [List.length_map]) hl.1 (by simp [zph]) (lv_room (by rw [zcats]; exact hcat)) d hk9) hk9 hxp ?_
  rintro v M1 ⟨r, rfl, hP⟩
  exact kk r M1 hP
theorem z_callVq (X : zCx g l0 cc nL ret own nm Ts fr lo mc ms M00 post xp []) {C : String} {o ci N : Nat} {T : u_T} {index : Nat} {y : MethodName} {bytes : ByteArray} {maxL : Nat} {ret1 : Option FieldType} {ws1 ws1' : List Cond} {fr1 lo1 mc1 ms1 : Nat} {As : List Value} {xp1 : String → Prop} {P : Option Nat → zMem → Prop} (d : decode cc pc = .ok (.invokevirtual index, 3)) (hM : zS l0 y ws1 fr1 lo1 mc1 ms1 (.ref o :: As) M (zpq P) xp1) (hT9 : GoodIn Ts (wsV own index C y ws1)) (hw : ws1 = Cond.code y bytes maxL ret1 :: ws1')
    (hd : y.cls = C ∧ y.cls ≠ "java/lang/invoke/MethodHandle" ∧ y.cls ≠ "java/lang/invoke/VarHandle" ∧ (parseMethodDescriptor y.desc).map (fun d => d.parameters.length) = some As.length) (hR9 : fr1 + 1 ≤ fr ∧ 8 + (maxL + 11) + lo1 ≤ lo) (hc : zc M o = ci + 1) (hq : vwCl[ci]? = some (C, T, N)) (hst : st = As.reverse ++ .ref o :: rest) (hcat : (rest.map fun v => v.category).sum ≤ 8) (hk9 : k + mc1 ≤ mc ∧ n + ms1 ≤ ms) (hxp : ∀ E, xp1 E → xp E ∧ M = M00)
    (kk : ∀ (r : Option Nat) (M1 : zMem), P r M1 → zE g nL (pc + 3) ls (va_rf r :: rest) M1 (k + mc1) (n + ms1)) : zE g nL pc ls st M k n := by
  subst hst
  obtain ⟨p, l, e, R, s, m, args, below, meth, c, D, ad0, M0, Q⟩ := g
  obtain ⟨h0, hx, hb, hml, hrt, hown, hnm, hts, hR, hM0, hQ, hlk, htab, hks⟩ := X
  intro ad H locs lss hr hz hS hl hL hT
  subst h0; subst hR; subst hM0
  have ho : zc M o ≠ 0 := by rw [hc]; exact Nat.succ_ne_zero _
  obtain ⟨cell, q1, q2, q3, -⟩ := (hr.2.2.1 o ho).1 ci _ hc hq
  have hav : zls M (.ref o :: As) := zls_c (zlv_ref ho) (fun w hw => hT w (List.mem_append_left _ (List.mem_reverse.mpr hw)))
  have hrs : zls M rest := fun w hw => hT w (List.mem_append_right _ (List.mem_cons_of_mem _ hw))
  have hks' : zKS D ad M (zA ad M H.size) s H := ⟨hks.1, hks.2.1.on hz hS, hks.2.2⟩
  refine z_ofRun hlk htab hQ hr hz hS hl hL hrs (hrun := vx_runV (b := ad o) (As := As.map (zph ad)) (rest := rest.map (zph ad)) (H := H) (locs := locs) (cells := k) (slots := n) ⟨hx, hb, hml, hown, hts⟩ (hM D ad H.size) (cwV As.length hts hT9 hw rfl rfl hd hR9) ⟨zPc.blind, ⟨cell, q1, by rw [q3]; rfl, by rw [q2]; exact (hks.1.1.1 ci _ hq).2.1⟩, fun U hU hW => ⟨rfl, by rw [hU], by rw [hU]; exact hr, hav, by rw [hU]; exact hks'.warm hW⟩⟩ rfl (by rw [List.length_map]) hl.1 (by simp [zph]) (lv_room (by rw [zcats]; exact hcat)) d hk9) hk9 hxp ?_
  rintro v M1 ⟨r, rfl, hP⟩
  exact kk r M1 hP
theorem z_callSv (X : zCx g l0 cc nL ret own nm Ts fr lo mc ms M00 post xp []) {index : Nat} {y : MethodName} {bytes : ByteArray} {maxL : Nat} {ret1 : Option FieldType} {ws1 ws1' : List Cond} {fr1 lo1 mc1 ms1 : Nat} {As : List Value} {xp1 : String → Prop} {P : zMem → Prop} (d : decode cc pc = .ok (.invokestatic index, 3)) (hM : zS l0 y ws1 fr1 lo1 mc1 ms1 As M (zpv P) xp1) (hT9 : GoodIn Ts (va_wsS own index y ws1)) (hw : ws1 = Cond.code y bytes maxL ret1 :: ws1')
    (hd : y.cls ≠ "java/lang/invoke/MethodHandle" ∧ y.cls ≠ "java/lang/invoke/VarHandle" ∧ (parseMethodDescriptor y.desc).map (fun d => d.parameters.length) = some As.length) (hR9 : fr1 + 1 ≤ fr ∧ 8 + (maxL + 11) + lo1 ≤ lo) (hst : st = As.reverse ++ rest) (hcat : (rest.map fun v => v.category).sum ≤ 8) (hk9 : k + mc1 ≤ mc ∧ n + ms1 ≤ ms) (hxp : ∀ E, xp1 E → xp E ∧ M = M00)
    (kk : ∀ (M1 : zMem), P M1 → zE g nL (pc + 3) ls rest M1 (k + mc1) (n + ms1)) : zE g nL pc ls st M k n := by
  subst hst
  obtain ⟨p, l, e, R, s, m, args, below, meth, c, D, ad0, M0, Q⟩ := g
  obtain ⟨h0, hx, hb, hml, hrt, hown, hnm, hts, hR, hM0, hQ, hlk, htab, hks⟩ := X
  intro ad H locs lss hr hz hS hl hL hT
  subst h0; subst hR; subst hM0
  have hav : zls M As := fun w hw => hT w (List.mem_append_left _ (List.mem_reverse.mpr hw))
  have hrs : zls M rest := fun w hw => hT w (List.mem_append_right _ hw)
  have hks' : zKS D ad M (zA ad M H.size) s H := ⟨hks.1, hks.2.1.on hz hS, hks.2.2⟩
  refine z_ofRun hlk htab hQ hr hz hS hl hL hrs (hrun := vx_runS (As := As.map (zph ad)) (rest := rest.map (zph ad)) (H := H) (locs := locs) (cells := k) (slots := n) ⟨hx, hb, hml, hown, hts⟩ (hM D ad H.size) (va_cwS As.length hts hT9 hw rfl rfl hd hR9) ⟨zPc.blind, fun U hU hW => ⟨rfl, by rw [hU], by rw [hU]; exact hr, hav, by rw [hU]; exact hks'.warm hW⟩⟩ rfl (by rw [List.length_map]) hl.1 (by simp) (lv_room (by rw [zcats]; exact hcat)) d hk9) hk9 hxp ?_
  rintro v M1 ⟨rfl, hP⟩
  exact kk M1 hP
theorem z_callSi (X : zCx g l0 cc nL ret own nm Ts fr lo mc ms M00 post xp []) {index : Nat} {y : MethodName} {bytes : ByteArray} {maxL : Nat} {ret1 : Option FieldType} {ws1 ws1' : List Cond} {fr1 lo1 mc1 ms1 : Nat} {As : List Value} {xp1 : String → Prop} {P : Int32 → zMem → Prop} (d : decode cc pc = .ok (.invokestatic index, 3)) (hM : zS l0 y ws1 fr1 lo1 mc1 ms1 As M (zpi P) xp1) (hT9 : GoodIn Ts (va_wsS own index y ws1)) (hw : ws1 = Cond.code y bytes maxL ret1 :: ws1')
    (hd : y.cls ≠ "java/lang/invoke/MethodHandle" ∧ y.cls ≠ "java/lang/invoke/VarHandle" ∧ (parseMethodDescriptor y.desc).map (fun d => d.parameters.length) = some As.length) (hR9 : fr1 + 1 ≤ fr ∧ 8 + (maxL + 11) + lo1 ≤ lo) (hst : st = As.reverse ++ rest) (hcat : (rest.map fun v => v.category).sum ≤ 8) (hk9 : k + mc1 ≤ mc ∧ n + ms1 ≤ ms) (hxp : ∀ E, xp1 E → xp E ∧ M = M00)
    (kk : ∀ (r : Int32) (M1 : zMem), P r M1 → zE g nL (pc + 3) ls (.int r :: rest) M1 (k + mc1) (n + ms1)) : zE g nL pc ls st M k n := by
  subst hst
  obtain ⟨p, l, e, R, s, m, args, below, meth, c, D, ad0, M0, Q⟩ := g
  obtain ⟨h0, hx, hb, hml, hrt, hown, hnm, hts, hR, hM0, hQ, hlk, htab, hks⟩ := X
  intro ad H locs lss hr hz hS hl hL hT
  subst h0; subst hR; subst hM0
  have hav : zls M As := fun w hw => hT w (List.mem_append_left _ (List.mem_reverse.mpr hw))
  have hrs : zls M rest := fun w hw => hT w (List.mem_append_right _ hw)
  have hks' : zKS D ad M (zA ad M H.size) s H := ⟨hks.1, hks.2.1.on hz hS, hks.2.2⟩
  refine z_ofRun hlk htab hQ hr hz hS hl hL hrs (hrun := vx_runS (As := As.map (zph ad)) (rest := rest.map (zph ad)) (H := H) (locs := locs) (cells := k) (slots := n) ⟨hx, hb, hml, hown, hts⟩ (hM D ad H.size) (va_cwS As.length hts hT9 hw rfl rfl hd hR9) ⟨zPc.blind, fun U hU hW => ⟨rfl, by rw [hU], by rw [hU]; exact hr, hav, by rw [hU]; exact hks'.warm hW⟩⟩ rfl (by rw [List.length_map]) hl.1 (by simp) (lv_room (by rw [zcats]; exact hcat)) d hk9) hk9 hxp ?_
  rintro v M1 ⟨r, rfl, hP⟩
  exact kk r M1 hP
theorem z_callSl (X : zCx g l0 cc nL ret own nm Ts fr lo mc ms M00 post xp []) {index : Nat} {y : MethodName} {bytes : ByteArray} {maxL : Nat} {ret1 : Option FieldType} {ws1 ws1' : List Cond} {fr1 lo1 mc1 ms1 : Nat} {As : List Value} {xp1 : String → Prop} {P : Int64 → zMem → Prop} (d : decode cc pc = .ok (.invokestatic index, 3)) (hM : zS l0 y ws1 fr1 lo1 mc1 ms1 As M (zpj P) xp1) (hT9 : GoodIn Ts (va_wsS own index y ws1)) (hw : ws1 = Cond.code y bytes maxL ret1 :: ws1')
    (hd : y.cls ≠ "java/lang/invoke/MethodHandle" ∧ y.cls ≠ "java/lang/invoke/VarHandle" ∧ (parseMethodDescriptor y.desc).map (fun d => d.parameters.length) = some As.length) (hR9 : fr1 + 1 ≤ fr ∧ 8 + (maxL + 11) + lo1 ≤ lo) (hst : st = As.reverse ++ rest) (hcat : (rest.map fun v => v.category).sum ≤ 8) (hk9 : k + mc1 ≤ mc ∧ n + ms1 ≤ ms) (hxp : ∀ E, xp1 E → xp E ∧ M = M00)
    (kk : ∀ (r : Int64) (M1 : zMem), P r M1 → zE g nL (pc + 3) ls (.long r :: rest) M1 (k + mc1) (n + ms1)) : zE g nL pc ls st M k n := by
  subst hst
  obtain ⟨p, l, e, R, s, m, args, below, meth, c, D, ad0, M0, Q⟩ := g
  obtain ⟨h0, hx, hb, hml, hrt, hown, hnm, hts, hR, hM0, hQ, hlk, htab, hks⟩ := X
  intro ad H locs lss hr hz hS hl hL hT
  subst h0; subst hR; subst hM0
  have hav : zls M As := fun w hw => hT w (List.mem_append_left _ (List.mem_reverse.mpr hw))
  have hrs : zls M rest := fun w hw => hT w (List.mem_append_right _ hw)
  have hks' : zKS D ad M (zA ad M H.size) s H := ⟨hks.1, hks.2.1.on hz hS, hks.2.2⟩
  refine z_ofRun hlk htab hQ hr hz hS hl hL hrs (hrun := vx_runS (As := As.map (zph ad)) (rest := rest.map (zph ad)) (H := H) (locs := locs) (cells := k) (slots := n) ⟨hx, hb, hml, hown, hts⟩ (hM D ad H.size) (va_cwS As.length hts hT9 hw rfl rfl hd hR9) ⟨zPc.blind, fun U hU hW => ⟨rfl, by rw [hU], by rw [hU]; exact hr, hav, by rw [hU]; exact hks'.warm hW⟩⟩ rfl (by rw [List.length_map]) hl.1 (by simp) (lv_room (by rw [zcats]; exact hcat)) d hk9) hk9 hxp ?_
  rintro v M1 ⟨r, rfl, hP⟩
  exact kk r M1 hP
theorem z_callSf (X : zCx g l0 cc nL ret own nm Ts fr lo mc ms M00 post xp []) {index : Nat} {y : MethodName} {bytes : ByteArray} {maxL : Nat} {ret1 : Option FieldType} {ws1 ws1' : List Cond} {fr1 lo1 mc1 ms1 : Nat} {As : List Value} {xp1 : String → Prop} {P : UInt32 → zMem → Prop} (d : decode cc pc = .ok (.invokestatic index, 3)) (hM : zS l0 y ws1 fr1 lo1 mc1 ms1 As M (zpf P) xp1) (hT9 : GoodIn Ts (va_wsS own index y ws1)) (hw : ws1 = Cond.code y bytes maxL ret1 :: ws1')
    (hd : y.cls ≠ "java/lang/invoke/MethodHandle" ∧ y.cls ≠ "java/lang/invoke/VarHandle" ∧ (parseMethodDescriptor y.desc).map (fun d => d.parameters.length) = some As.length) (hR9 : fr1 + 1 ≤ fr ∧ 8 + (maxL + 11) + lo1 ≤ lo) (hst : st = As.reverse ++ rest) (hcat : (rest.map fun v => v.category).sum ≤ 8) (hk9 : k + mc1 ≤ mc ∧ n + ms1 ≤ ms) (hxp : ∀ E, xp1 E → xp E ∧ M = M00)
    (kk : ∀ (r : UInt32) (M1 : zMem), P r M1 → zE g nL (pc + 3) ls (.float r :: rest) M1 (k + mc1) (n + ms1)) : zE g nL pc ls st M k n := by
  subst hst
  obtain ⟨p, l, e, R, s, m, args, below, meth, c, D, ad0, M0, Q⟩ := g
  obtain ⟨h0, hx, hb, hml, hrt, hown, hnm, hts, hR, hM0, hQ, hlk, htab, hks⟩ := X
  intro ad H locs lss hr hz hS hl hL hT
  subst h0; subst hR; subst hM0
  have hav : zls M As := fun w hw => hT w (List.mem_append_left _ (List.mem_reverse.mpr hw))
  have hrs : zls M rest := fun w hw => hT w (List.mem_append_right _ hw)
  have hks' : zKS D ad M (zA ad M H.size) s H := ⟨hks.1, hks.2.1.on hz hS, hks.2.2⟩
  refine z_ofRun hlk htab hQ hr hz hS hl hL hrs (hrun := vx_runS (As := As.map (zph ad)) (rest := rest.map (zph ad)) (H := H) (locs := locs) (cells := k) (slots := n) ⟨hx, hb, hml, hown, hts⟩ (hM D ad H.size) (va_cwS As.length hts hT9 hw rfl rfl hd hR9) ⟨zPc.blind, fun U hU hW => ⟨rfl, by rw [hU], by rw [hU]; exact hr, hav, by rw [hU]; exact hks'.warm hW⟩⟩ rfl (by rw [List.length_map]) hl.1 (by simp) (lv_room (by rw [zcats]; exact hcat)) d hk9) hk9 hxp ?_
  rintro v M1 ⟨r, rfl, hP⟩
  exact kk r M1 hP
theorem z_callSd (X : zCx g l0 cc nL ret own nm Ts fr lo mc ms M00 post xp []) {index : Nat} {y : MethodName} {bytes : ByteArray} {maxL : Nat} {ret1 : Option FieldType} {ws1 ws1' : List Cond} {fr1 lo1 mc1 ms1 : Nat} {As : List Value} {xp1 : String → Prop} {P : UInt64 → zMem → Prop} (d : decode cc pc = .ok (.invokestatic index, 3)) (hM : zS l0 y ws1 fr1 lo1 mc1 ms1 As M (zpd P) xp1) (hT9 : GoodIn Ts (va_wsS own index y ws1)) (hw : ws1 = Cond.code y bytes maxL ret1 :: ws1')
    (hd : y.cls ≠ "java/lang/invoke/MethodHandle" ∧ y.cls ≠ "java/lang/invoke/VarHandle" ∧ (parseMethodDescriptor y.desc).map (fun d => d.parameters.length) = some As.length) (hR9 : fr1 + 1 ≤ fr ∧ 8 + (maxL + 11) + lo1 ≤ lo) (hst : st = As.reverse ++ rest) (hcat : (rest.map fun v => v.category).sum ≤ 8) (hk9 : k + mc1 ≤ mc ∧ n + ms1 ≤ ms) (hxp : ∀ E, xp1 E → xp E ∧ M = M00)
    (kk : ∀ (r : UInt64) (M1 : zMem), P r M1 → zE g nL (pc + 3) ls (.double r :: rest) M1 (k + mc1) (n + ms1)) : zE g nL pc ls st M k n := by
  subst hst
  obtain ⟨p, l, e, R, s, m, args, below, meth, c, D, ad0, M0, Q⟩ := g
  obtain ⟨h0, hx, hb, hml, hrt, hown, hnm, hts, hR, hM0, hQ, hlk, htab, hks⟩ := X
  intro ad H locs lss hr hz hS hl hL hT
  subst h0; subst hR; subst hM0
  have hav : zls M As := fun w hw => hT w (List.mem_append_left _ (List.mem_reverse.mpr hw))
  have hrs : zls M rest := fun w hw => hT w (List.mem_append_right _ hw)
  have hks' : zKS D ad M (zA ad M H.size) s H := ⟨hks.1, hks.2.1.on hz hS, hks.2.2⟩
  refine z_ofRun hlk htab hQ hr hz hS hl hL hrs (hrun := vx_runS (As := As.map (zph ad)) (rest := rest.map (zph ad)) (H := H) (locs := locs) (cells := k) (slots := n) ⟨hx, hb, hml, hown, hts⟩ (hM D ad H.size) (va_cwS As.length hts hT9 hw rfl rfl hd hR9) ⟨zPc.blind, fun U hU hW => ⟨rfl, by rw [hU], by rw [hU]; exact hr, hav, by rw [hU]; exact hks'.warm hW⟩⟩ rfl (by rw [List.length_map]) hl.1 (by simp) (lv_room (by rw [zcats]; exact hcat)) d hk9) hk9 hxp ?_
  rintro v M1 ⟨r, rfl, hP⟩
  exact kk r M1 hP
theorem z_callSr (X : zCx g l0 cc nL ret own nm Ts fr lo mc ms M00 post xp []) {index : Nat} {y : MethodName} {bytes : ByteArray} {maxL : Nat} {ret1 : Option FieldType} {ws1 ws1' : List Cond} {fr1 lo1 mc1 ms1 : Nat} {As : List Value} {xp1 : String → Prop} {P : Nat → zMem → Prop} (d : decode cc pc = .ok (.invokestatic index, 3)) (hM : zS l0 y ws1 fr1 lo1 mc1 ms1 As M (zpr P) xp1) (hT9 : GoodIn Ts (va_wsS own index y ws1)) (hw : ws1 = Cond.code y bytes maxL ret1 :: ws1')
    (hd : y.cls ≠ "java/lang/invoke/MethodHandle" ∧ y.cls ≠ "java/lang/invoke/VarHandle" ∧ (parseMethodDescriptor y.desc).map (fun d => d.parameters.length) = some As.length) (hR9 : fr1 + 1 ≤ fr ∧ 8 + (maxL + 11) + lo1 ≤ lo) (hst : st = As.reverse ++ rest) (hcat : (rest.map fun v => v.category).sum ≤ 8) (hk9 : k + mc1 ≤ mc ∧ n + ms1 ≤ ms) (hxp : ∀ E, xp1 E → xp E ∧ M = M00)
    (kk : ∀ (r : Nat) (M1 : zMem), P r M1 → zE g nL (pc + 3) ls (.ref r :: rest) M1 (k + mc1) (n + ms1)) : zE g nL pc ls st M k n := by
  subst hst
  obtain ⟨p, l, e, R, s, m, args, below, meth, c, D, ad0, M0, Q⟩ := g
  obtain ⟨h0, hx, hb, hml, hrt, hown, hnm, hts, hR, hM0, hQ, hlk, htab, hks⟩ := X
  intro ad H locs lss hr hz hS hl hL hT
  subst h0; subst hR; subst hM0
  have hav : zls M As := fun w hw => hT w (List.mem_append_left _ (List.mem_reverse.mpr hw))
  have hrs : zls M rest := fun w hw => hT w (List.mem_append_right _ hw)
  have hks' : zKS D ad M (zA ad M H.size) s H := ⟨hks.1, hks.2.1.on hz hS, hks.2.2⟩
  refine z_ofRun hlk htab hQ hr hz hS hl hL hrs (hrun := vx_runS (As := As.map (zph ad)) (rest := rest.map (zph ad)) (H := H) (locs := locs) (cells := k) (slots := n) ⟨hx, hb, hml, hown, hts⟩ (hM D ad H.size) (va_cwS As.length hts hT9 hw rfl rfl hd hR9) ⟨zPc.blind, fun U hU hW => ⟨rfl, by rw [hU], by rw [hU]; exact hr, hav, by rw [hU]; exact hks'.warm hW⟩⟩ rfl (by rw [List.length_map]) hl.1 (by simp) (lv_room (by rw [zcats]; exact hcat)) d hk9) hk9 hxp ?_
  rintro v M1 ⟨r, rfl, hP⟩
  exact kk r M1 hP
theorem z_callSq (X : zCx g l0 cc nL ret own nm Ts fr lo mc ms M00 post xp []) {index : Nat} {y : MethodName} {bytes : ByteArray} {maxL : Nat} {ret1 : Option FieldType} {ws1 ws1' : List Cond} {fr1 lo1 mc1 ms1 : Nat} {As : List Value} {xp1 : String → Prop} {P : Option Nat → zMem → Prop} (d : decode cc pc = .ok (.invokestatic index, 3)) (hM : zS l0 y ws1 fr1 lo1 mc1 ms1 As M (zpq P) xp1) (hT9 : GoodIn Ts (va_wsS own index y ws1)) (hw : ws1 = Cond.code y bytes maxL ret1 :: ws1')
    (hd : y.cls ≠ "java/lang/invoke/MethodHandle" ∧ y.cls ≠ "java/lang/invoke/VarHandle" ∧ (parseMethodDescriptor y.desc).map (fun d => d.parameters.length) = some As.length) (hR9 : fr1 + 1 ≤ fr ∧ 8 + (maxL + 11) + lo1 ≤ lo) (hst : st = As.reverse ++ rest) (hcat : (rest.map fun v => v.category).sum ≤ 8) (hk9 : k + mc1 ≤ mc ∧ n + ms1 ≤ ms) (hxp : ∀ E, xp1 E → xp E ∧ M = M00)
    (kk : ∀ (r : Option Nat) (M1 : zMem), P r M1 → zE g nL (pc + 3) ls (va_rf r :: rest) M1 (k + mc1) (n + ms1)) : zE g nL pc ls st M k n := by
  subst hst
  obtain ⟨p, l, e, R, s, m, args, below, meth, c, D, ad0, M0, Q⟩ := g
  obtain ⟨h0, hx, hb, hml, hrt, hown, hnm, hts, hR, hM0, hQ, hlk, htab, hks⟩ := X
  intro ad H locs lss hr hz hS hl hL hT
  subst h0; subst hR; subst hM0
  have hav : zls M As := fun w hw => hT w (List.mem_append_left _ (List.mem_reverse.mpr hw))
  have hrs : zls M rest := fun w hw => hT w (List.mem_append_right _ hw)
  have hks' : zKS D ad M (zA ad M H.size) s H := ⟨hks.1, hks.2.1.on hz hS, hks.2.2⟩
  refine z_ofRun hlk htab hQ hr hz hS hl hL hrs (hrun := vx_runS (As := As.map (zph ad)) (rest := rest.map (zph ad)) (H := H) (locs := locs) (cells := k) (slots := n) ⟨hx, hb, hml, hown, hts⟩ (hM D ad H.size) (va_cwS As.length hts hT9 hw rfl rfl hd hR9) ⟨zPc.blind, fun U hU hW => ⟨rfl, by rw [hU], by rw [hU]; exact hr, hav, by rw [hU]; exact hks'.warm hW⟩⟩ rfl (by rw [List.length_map]) hl.1 (by simp) (lv_room (by rw [zcats]; exact hcat)) d hk9) hk9 hxp ?_
  rintro v M1 ⟨r, rfl, hP⟩
  exact kk r M1 hP
theorem z_callIv (X : zCx g l0 cc nL ret own nm Ts fr lo mc ms M00 post xp []) {o : Nat} {index : Nat} {y : MethodName} {bytes : ByteArray} {maxL : Nat} {ws1 ws1' : List Cond} {fr1 lo1 mc1 ms1 : Nat} {As : List Value} {xp1 : String → Prop} {P : zMem → Prop} (d : decode cc pc = .ok (.invokespecial index, 3)) (hM : zS l0 y ws1 fr1 lo1 mc1 ms1 (.ref o :: As) M (zpv P) xp1) (hT9 : GoodIn Ts (ws1)) (hw : ws1 = Cond.code y bytes maxL none :: ws1') (hini : Cond.initialized y.cls ∈ Ts) (hlink : Cond.methodLink own index y ∈ Ts) (hins : Cond.instanceMethod y ∈ Ts) (hy1 : y.name = "<init>")
    (hd : y.cls ≠ "java/lang/invoke/MethodHandle" ∧ y.cls ≠ "java/lang/invoke/VarHandle" ∧ (parseMethodDescriptor y.desc).map (fun d => d.parameters.length) = some As.length) (hR9 : fr1 + 1 ≤ fr ∧ 8 + (maxL + 11) + lo1 ≤ lo) (hst : st = As.reverse ++ .ref o :: rest) (hcat : (rest.map fun v => v.category).sum ≤ 8) (hk9 : k + mc1 ≤ mc ∧ n + ms1 ≤ ms) (hxp : ∀ E, xp1 E → xp E ∧ M = M00)
    (kk : ∀ (M1 : zMem), P M1 → zE g nL (pc + 3) ls rest M1 (k + mc1) (n + ms1)) : zE g nL pc ls st M k n := by
  subst hst
  obtain ⟨p, l, e, R, s, m, args, below, meth, c, D, ad0, M0, Q⟩ := g
  obtain ⟨h0, hx, hb, hml, hrt, hown, hnm, hts, hR, hM0, hQ, hlk, htab, hks⟩ := X
  intro ad H locs lss hr hz hS hl hL hT
  subst h0; subst hR; subst hM0
  have hav : zls M (.ref o :: As) := zls_c (hT _ (List.mem_append_right _ List.mem_cons_self)) (fun w hw => hT w (List.mem_append_left _ (List.mem_reverse.mpr hw)))
  have hrs : zls M rest := fun w hw => hT w (List.mem_append_right _ (List.mem_cons_of_mem _ hw))
  have hks' : zKS D ad M (zA ad M H.size) s H := ⟨hks.1, hks.2.1.on hz hS, hks.2.2⟩
  refine z_ofRun hlk htab hQ hr hz hS hl hL hrs (hrun := vx_runI (b := ad o) (As := As.map (zph ad)) (rest := rest.map (zph ad)) (H := H) (locs := locs) (cells := k) (slots := n) ⟨hx, hb, hml, hown, hts⟩ (hM D ad H.size) (cwI As.length hts hT9 hw rfl rfl (hts _ hini) (hts _ hlink) (hts _ hins) hy1 hd hR9) ⟨zPc.blind, fun U hU hW => ⟨rfl, by rw [hU], by rw [hU]; exact hr, hav, by rw [hU]; exact hks'.warm hW⟩⟩ rfl (by rw [List.length_map]) hl.1 (by simp [zph]) (lv_room (by rw [zcats]; exact hcat)) d hk9) hk9 hxp ?_
  rintro v M1 ⟨rfl, hP⟩
  exact kk M1 hP
theorem z_throwS (X : zCx g l0 cc nL ret RX7 nm Ts fr lo mc ms M00 post xp []) (hl0 : l0.stackTraces = false) {cls text : String} {ik is ic : Nat} (hq : (cls, ik, ic) ∈ zthr) (hs9 : (is, text) ∈ zstrs) (hE : cls ∈ zex) (hfit : Bundle.fit cls = true)
    (d0 : decode cc pc = .ok (.new ik, 3)) (d3 : decode cc (pc + 3) = .ok (.dup, 1)) (d4 : decode cc (pc + 4) = .ok (.ldc is, 2)) (d6 : decode cc (pc + 6) = .ok (.invokespecial ic, 3)) (d9 : decode cc (pc + 9) = .ok (.athrow, 1))
    (hfr : 5 < fr) (hlo : (rest.map fun v => v.category).sum + 82 ≤ lo) (hk9 : k + 1 ≤ mc ∧ n + 6 ≤ ms) (hM9 : M = M00) (hxp : xp cls) : zE g nL pc ls rest M k n := by
  obtain ⟨p, l, e, R, s, m, args, below, meth, c, D, ad0, M0, Q⟩ := g
  obtain ⟨h0, hx, hb, hml, hrt, hown, hnm, hts, hR, hM0, hQ, hlk, htab, hks⟩ := X
  intro ad H locs lss hr hz hS hl hL hT
  subst h0; subst hR; subst hM0; subst hQ; subst hM9
  obtain ⟨sa, hsa⟩ := hks.2.2.2.1 (is, text) hs9
  have hthr := hks.2.2.1.1 _ hq
  have hall : ∀ w ∈ zthw (cls, ik, ic), w.before args s = true := fun w hw => by
    refine va_tabs (zthw_tabs _ hq w hw) rfl (A := #[]) ?_
    rcases zthw_good _ hq w hw with h | h | h
    · exact hthr w hw h
    · rw [h]; exact (hks.2.2.2.2.2.1 cls hE).1
    · exact hks.2.2.1.2 w h
  refine vx_throwS (names := zsup) (text := text) (A := zA ad0 M s.heap.size) hx hb hl0 hown hfit (by decide +kernel) (hall _ List.mem_cons_self) (hall _ (List.mem_cons_of_mem _ List.mem_cons_self)) hsa (fun w hw => hall w (List.mem_cons_of_mem _ (List.mem_cons_of_mem _ hw))) (fun w hw => by unfold vx_ot; rw [zthw_tabs _ hq w hw]; rfl) hks.2.1.1 hks.2.1.2.1 hS (hl.1.trans hml.symm) d0 d3 d4 d6 d9 (fun x hx => by rw [htab] at hx; cases hx) (show 2 + 3 < fr by omega) (by rw [zcats]; show _ + (13 * (2 + 1) + 43) ≤ lo; omega) hk9.1 hk9.2 hlk ?_ hS.2.2 hk9.1 hk9.2
  intro t hal hsz hsame
  have hr0 : zrel D ad0 M H := zrel_congr hr (fun o ho => ((hz.1 o ho).1).symm)
  refine ⟨hxp, zrel_kept hr0 hsz hsame, Nat.le_trans hS.1 hsz, fun q h1 h2 => ?_⟩
  rw [hsame q (Nat.lt_of_lt_of_le h1 hS.1)]
  exact hS.2.1 q h1 h2
theorem z_throwSW (X : zCx g l0 cc nL ret RX7 nm Ts fr lo mc ms M00 post xp []) (hl0 : l0.stackTraces = false) {cls text : String} {ik is ic : Nat} (hq : (cls, ik, ic) ∈ zthr) (hs9 : (is, text) ∈ zstrs) (hE : cls ∈ zex) (hfit : Bundle.fit cls = true)
    (d0 : decode cc pc = .ok (.new ik, 3)) (d3 : decode cc (pc + 3) = .ok (.dup, 1)) (d4 : decode cc (pc + 4) = .ok (.ldc_w is, 3)) (d6 : decode cc (pc + 7) = .ok (.invokespecial ic, 3)) (d9 : decode cc (pc + 10) = .ok (.athrow, 1))
    (hfr : 5 < fr) (hlo : (rest.map fun v => v.category).sum + 82 ≤ lo) (hk9 : k + 1 ≤ mc ∧ n + 6 ≤ ms) (hM9 : M = M00) (hxp : xp cls) : zE g nL pc ls rest M k n := by
  obtain ⟨p, l, e, R, s, m, args, below, meth, c, D, ad0, M0, Q⟩ := g
  obtain ⟨h0, hx, hb, hml, hrt, hown, hnm, hts, hR, hM0, hQ, hlk, htab, hks⟩ := X
  intro ad H locs lss hr hz hS hl hL hT
  subst h0; subst hR; subst hM0; subst hQ; subst hM9
  obtain ⟨sa, hsa⟩ := hks.2.2.2.1 (is, text) hs9
  have hthr := hks.2.2.1.1 _ hq
  have hall : ∀ w ∈ zthw (cls, ik, ic), w.before args s = true := fun w hw => by
    refine va_tabs (zthw_tabs _ hq w hw) rfl (A := #[]) ?_
    rcases zthw_good _ hq w hw with h | h | h
    · exact hthr w hw h
    · rw [h]; exact (hks.2.2.2.2.2.1 cls hE).1
    · exact hks.2.2.1.2 w h
  refine vx_throwSW (names := zsup) (text := text) (A := zA ad0 M s.heap.size) hx hb hl0 hown hfit (by decide +kernel) (hall _ List.mem_cons_self) (hall _ (List.mem_cons_of_mem _ List.mem_cons_self)) hsa (fun w hw => hall w (List.mem_cons_of_mem _ (List.mem_cons_of_mem _ hw))) (fun w hw => by unfold vx_ot; rw [zthw_tabs _ hq w hw]; rfl) hks.2.1.1 hks.2.1.2.1 hS (hl.1.trans hml.symm) d0 d3 d4 d6 d9 (fun x hx => by rw [htab] at hx; cases hx) (show 2 + 3 < fr by omega) (by rw [zcats]; show _ + (13 * (2 + 1) + 43) ≤ lo; omega) hk9.1 hk9.2 hlk ?_ hS.2.2 hk9.1 hk9.2
  intro t hal hsz hsame
  have hr0 : zrel D ad0 M H := zrel_congr hr (fun o ho => ((hz.1 o ho).1).symm)
  refine ⟨hxp, zrel_kept hr0 hsz hsame, Nat.le_trans hS.1 hsz, fun q h1 h2 => ?_⟩
  rw [hsame q (Nat.lt_of_lt_of_le h1 hS.1)]
  exact hS.2.1 q h1 h2
/-- a new object -/
theorem z_new (X : zCx g l0 cc nL ret own nm Ts fr lo mc ms M00 post xp []) {ci index N : Nat} {C : String} {T : u_T} (o : Nat) (d : decode cc pc = .ok (.new index, 3)) (hq : vwCl[ci]? = some (C, T, N)) (hcl : Cond.classLink own index C ∈ Ts) (hinst : Cond.instantiable C N ∈ Ts) (hini : Cond.initialized C ∈ Ts) (ho : zc M o = 0) (ho31 : o ≠ zE0) (hk9 : k + 1 ≤ mc ∧ n + N ≤ ms)
    (kk : zE g nL (pc + 3) ls (.ref o :: rest) (znew M o (ci + 1) 0) (k + 1) (n + N)) : zE g nL pc ls rest M k n := by
  obtain ⟨p, l, e, R, s, m, args, below, meth, c, D, ad0, M0, Q⟩ := g
  obtain ⟨h0, hx, hb, hml, hrt, hown, hnm, hts, hR, hM0, hQ, hlk, htab, hks⟩ := X
  intro ad H locs lss hr hz hS hl hL hT
  subst hR
  have hKn := hks.1.1.1 ci _ hq
  have hlay := hks.1.2 ci _ hq
  obtain ⟨hty, -⟩ := zokC_all ci _ hq
  have hci : ci < 12 := (List.getElem?_eq_some_iff.mp hq).1
  refine W.newcK hx hb hown (hts _ hcl) (hts _ hinst) (hts _ hini) rfl d hk9.1 hk9.2 hKn.2.1 rfl fun H1 kC hkC e1 z1 o1 => ?_
  have hb9 := u_born (zct ci) hlay (fun _ h => h) hKn hkC e1 hty
  have he : ∀ a, zc M a ≠ 0 → (fun a => if a = o then H.size else ad a) a = ad a := fun a ha => if_neg (fun e => ha (by rw [e]; exact ho))
  have hr9 : zrel D (fun a => if a = o then H.size else ad a) (znew M o (ci + 1) 0) H1 := zrel_new hr ho (Nat.succ_ne_zero _) z1 o1 ⟨fun ci' q' hc' hq' => (by
    have hcc : ci = ci' := by
      have h9 : zc (znew M o (ci + 1) 0) o = ci + 1 := if_pos rfl
      rw [h9] at hc'
      exact Nat.succ.inj hc'
    subst hcc
    rw [hq] at hq'
    cases hq'
    show t_OB (if o = o then H.size else ad o) _ _ _ _ _
    rw [if_pos rfl]
    exact hb9.to (fun j _ => (zmv_new _ _).symm)), fun t ht h6 => (by
    have h9 : zc (znew M o (ci + 1) 0) o = ci + 1 := if_pos rfl
    rw [h9] at ht
    omega)⟩
  have k9 := kk _ H1 locs lss hr9 (zx_new hz ho (Nat.succ_ne_zero _) hS.1 ho31) ⟨Nat.le_trans hS.1 (by omega), fun x h1 h2 => (o1 x (Nat.lt_of_lt_of_le h1 hS.1)).trans (hS.2.1 x h1 h2), hS.2.2⟩ (by rw [zll_congr he hL]; exact hl) (zll_mono (fun a ha => zc_new ha ho) hL) (zls_c (zlv_ref (by show zc (znew M o (ci + 1) 0) o ≠ 0; rw [show zc (znew M o (ci + 1) 0) o = ci + 1 from if_pos rfl]; exact Nat.succ_ne_zero _)) (zls_mono (fun a ha => zc_new ha ho) hT))
  have e9 : (Value.ref o :: rest).map (zph (fun a => if a = o then H.size else ad a)) = .ref H.size :: rest.map (zph ad) := by
    rw [List.map_cons, zst_congr he hT]
    show Value.ref (if o = o then H.size else ad o) :: _ = _
    rw [if_pos rfl]
  rw [e9] at k9
  exact k9
end ZC
end
section
theorem zz_probe : (1 : Nat) = 1 := rfl
end
