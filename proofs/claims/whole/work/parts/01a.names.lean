-- ===== PART A: goes FIRST, ahead of the names: the tables' words, and 'selects' of the private methods out of them =====
/-- a private method of a class that the tables say can be made, by its rows of tables_1 -/
def lw_okq (q : MethodName × Nat) : Prop := (q.1.cls ≠ "java/lang/invoke/MethodHandle" ∧ q.1.cls ≠ "java/lang/invoke/VarHandle") ∧ Cond.instantiable q.1.cls q.2 ∈ tables_1 ∧ Cond.privateMethod q.1 ∈ tables_1 ∧ Cond.instanceMethod q.1 ∈ tables_1
theorem lw_p0 : lw_okq (⟨"RoomKeeper$House", "nextRoom", "()I"⟩, 11) := ⟨⟨by decide +kernel, by decide +kernel⟩, List.mem_of_getElem? (i := 20) (by decide +kernel), List.mem_of_getElem? (i := 304) (by decide +kernel), List.mem_of_getElem? (i := 305) (by decide +kernel)⟩
theorem lw_p1 : lw_okq (⟨"RoomKeeper$House", "isImpatient", "(I)Z"⟩, 11) := ⟨⟨by decide +kernel, by decide +kernel⟩, List.mem_of_getElem? (i := 20) (by decide +kernel), List.mem_of_getElem? (i := 308) (by decide +kernel), List.mem_of_getElem? (i := 309) (by decide +kernel)⟩
theorem lw_p2 : lw_okq (⟨"RoomKeeper$House", "goesBefore", "(II)Z"⟩, 11) := ⟨⟨by decide +kernel, by decide +kernel⟩, List.mem_of_getElem? (i := 20) (by decide +kernel), List.mem_of_getElem? (i := 312) (by decide +kernel), List.mem_of_getElem? (i := 313) (by decide +kernel)⟩
theorem lw_p3 : lw_okq (⟨"RoomKeeper$House", "openRoom", "(I)V"⟩, 11) := ⟨⟨by decide +kernel, by decide +kernel⟩, List.mem_of_getElem? (i := 20) (by decide +kernel), List.mem_of_getElem? (i := 316) (by decide +kernel), List.mem_of_getElem? (i := 317) (by decide +kernel)⟩
theorem lw_p4 : lw_okq (⟨"RoomKeeper$House", "firstAtDoor", "()I"⟩, 11) := ⟨⟨by decide +kernel, by decide +kernel⟩, List.mem_of_getElem? (i := 20) (by decide +kernel), List.mem_of_getElem? (i := 328) (by decide +kernel), List.mem_of_getElem? (i := 329) (by decide +kernel)⟩
theorem lw_p5 : lw_okq (⟨"RoomKeeper$House", "isTurnOfOthers", "()Z"⟩, 11) := ⟨⟨by decide +kernel, by decide +kernel⟩, List.mem_of_getElem? (i := 20) (by decide +kernel), List.mem_of_getElem? (i := 336) (by decide +kernel), List.mem_of_getElem? (i := 337) (by decide +kernel)⟩
theorem lw_p6 : lw_okq (⟨"RoomKeeper$House", "closeDoor", "()V"⟩, 11) := ⟨⟨by decide +kernel, by decide +kernel⟩, List.mem_of_getElem? (i := 20) (by decide +kernel), List.mem_of_getElem? (i := 340) (by decide +kernel), List.mem_of_getElem? (i := 341) (by decide +kernel)⟩
theorem lw_p7 : lw_okq (⟨"RoomKeeper$House", "letIn", "(I)V"⟩, 11) := ⟨⟨by decide +kernel, by decide +kernel⟩, List.mem_of_getElem? (i := 20) (by decide +kernel), List.mem_of_getElem? (i := 344) (by decide +kernel), List.mem_of_getElem? (i := 345) (by decide +kernel)⟩
theorem lw_p8 : lw_okq (⟨"RoomKeeper$House", "spendTick", "(I)V"⟩, 11) := ⟨⟨by decide +kernel, by decide +kernel⟩, List.mem_of_getElem? (i := 20) (by decide +kernel), List.mem_of_getElem? (i := 386) (by decide +kernel), List.mem_of_getElem? (i := 387) (by decide +kernel)⟩
theorem lw_p9 : lw_okq (⟨"RoomKeeper$House", "ticksToChange", "(I)I"⟩, 11) := ⟨⟨by decide +kernel, by decide +kernel⟩, List.mem_of_getElem? (i := 20) (by decide +kernel), List.mem_of_getElem? (i := 396) (by decide +kernel), List.mem_of_getElem? (i := 397) (by decide +kernel)⟩
theorem lw_p10 : lw_okq (⟨"RoomKeeper", "ticksUntilEntry", "(III)I"⟩, 5) := ⟨⟨by decide +kernel, by decide +kernel⟩, List.mem_of_getElem? (i := 12) (by decide +kernel), List.mem_of_getElem? (i := 446) (by decide +kernel), List.mem_of_getElem? (i := 447) (by decide +kernel)⟩
theorem lw_p11 : lw_okq (⟨"RoomKeeper$Script", "skipBlanks", "()V"⟩, 14) := ⟨⟨by decide +kernel, by decide +kernel⟩, List.mem_of_getElem? (i := 180) (by decide +kernel), List.mem_of_getElem? (i := 508) (by decide +kernel), List.mem_of_getElem? (i := 509) (by decide +kernel)⟩
theorem lw_p12 : lw_okq (⟨"RoomKeeper$Script", "readStep", "()V"⟩, 14) := ⟨⟨by decide +kernel, by decide +kernel⟩, List.mem_of_getElem? (i := 180) (by decide +kernel), List.mem_of_getElem? (i := 512) (by decide +kernel), List.mem_of_getElem? (i := 513) (by decide +kernel)⟩
theorem lw_p13 : lw_okq (⟨"RoomKeeper$Script", "readOpening", "()V"⟩, 14) := ⟨⟨by decide +kernel, by decide +kernel⟩, List.mem_of_getElem? (i := 180) (by decide +kernel), List.mem_of_getElem? (i := 519) (by decide +kernel), List.mem_of_getElem? (i := 520) (by decide +kernel)⟩
theorem lw_p14 : lw_okq (⟨"RoomKeeper$Script", "readNumber", "(I)I"⟩, 14) := ⟨⟨by decide +kernel, by decide +kernel⟩, List.mem_of_getElem? (i := 180) (by decide +kernel), List.mem_of_getElem? (i := 523) (by decide +kernel), List.mem_of_getElem? (i := 524) (by decide +kernel)⟩
theorem lw_p15 : lw_okq (⟨"RoomKeeper$Script", "readByte", "(II)I"⟩, 14) := ⟨⟨by decide +kernel, by decide +kernel⟩, List.mem_of_getElem? (i := 180) (by decide +kernel), List.mem_of_getElem? (i := 527) (by decide +kernel), List.mem_of_getElem? (i := 528) (by decide +kernel)⟩
def lw_privs_1 : List (MethodName × Nat) := [(⟨"RoomKeeper$House", "nextRoom", "()I"⟩, 11), (⟨"RoomKeeper$House", "isImpatient", "(I)Z"⟩, 11), (⟨"RoomKeeper$House", "goesBefore", "(II)Z"⟩, 11), (⟨"RoomKeeper$House", "openRoom", "(I)V"⟩, 11), (⟨"RoomKeeper$House", "firstAtDoor", "()I"⟩, 11), (⟨"RoomKeeper$House", "isTurnOfOthers", "()Z"⟩, 11), (⟨"RoomKeeper$House", "closeDoor", "()V"⟩, 11), (⟨"RoomKeeper$House", "letIn", "(I)V"⟩, 11), (⟨"RoomKeeper$House", "spendTick", "(I)V"⟩, 11), (⟨"RoomKeeper$House", "ticksToChange", "(I)I"⟩, 11), (⟨"RoomKeeper", "ticksUntilEntry", "(III)I"⟩, 5), (⟨"RoomKeeper$Script", "skipBlanks", "()V"⟩, 14), (⟨"RoomKeeper$Script", "readStep", "()V"⟩, 14), (⟨"RoomKeeper$Script", "readOpening", "()V"⟩, 14), (⟨"RoomKeeper$Script", "readNumber", "(I)I"⟩, 14), (⟨"RoomKeeper$Script", "readByte", "(II)I"⟩, 14)]
theorem lw_r1 : ∀ q ∈ lw_privs_1, lw_okq q := List.forall_mem_cons.mpr ⟨lw_p0, List.forall_mem_cons.mpr ⟨lw_p1, List.forall_mem_cons.mpr ⟨lw_p2, List.forall_mem_cons.mpr ⟨lw_p3, List.forall_mem_cons.mpr ⟨lw_p4, List.forall_mem_cons.mpr ⟨lw_p5, List.forall_mem_cons.mpr ⟨lw_p6, List.forall_mem_cons.mpr ⟨lw_p7, List.forall_mem_cons.mpr ⟨lw_p8, List.forall_mem_cons.mpr ⟨lw_p9, List.forall_mem_cons.mpr ⟨lw_p10, List.forall_mem_cons.mpr ⟨lw_p11, List.forall_mem_cons.mpr ⟨lw_p12, List.forall_mem_cons.mpr ⟨lw_p13, List.forall_mem_cons.mpr ⟨lw_p14, List.forall_mem_cons.mpr ⟨lw_p15, fun _ h => absurd h List.not_mem_nil⟩⟩⟩⟩⟩⟩⟩⟩⟩⟩⟩⟩⟩⟩⟩⟩
theorem lw_p16 : lw_okq (⟨"RoomKeeper$Script", "addStep", "(IIII)V"⟩, 14) := ⟨⟨by decide +kernel, by decide +kernel⟩, List.mem_of_getElem? (i := 180) (by decide +kernel), List.mem_of_getElem? (i := 531) (by decide +kernel), List.mem_of_getElem? (i := 532) (by decide +kernel)⟩
theorem lw_p17 : lw_okq (⟨"RoomKeeper$Script", "readClosing", "()V"⟩, 14) := ⟨⟨by decide +kernel, by decide +kernel⟩, List.mem_of_getElem? (i := 180) (by decide +kernel), List.mem_of_getElem? (i := 535) (by decide +kernel), List.mem_of_getElem? (i := 536) (by decide +kernel)⟩
theorem lw_p18 : lw_okq (⟨"RoomKeeper$Script", "readRequest", "()V"⟩, 14) := ⟨⟨by decide +kernel, by decide +kernel⟩, List.mem_of_getElem? (i := 180) (by decide +kernel), List.mem_of_getElem? (i := 539) (by decide +kernel), List.mem_of_getElem? (i := 540) (by decide +kernel)⟩
theorem lw_p19 : lw_okq (⟨"RoomKeeper$Script", "endRepetition", "(I)V"⟩, 14) := ⟨⟨by decide +kernel, by decide +kernel⟩, List.mem_of_getElem? (i := 180) (by decide +kernel), List.mem_of_getElem? (i := 551) (by decide +kernel), List.mem_of_getElem? (i := 552) (by decide +kernel)⟩
theorem lw_p20 : lw_okq (⟨"RoomKeeper$Script", "useUnit", "()Z"⟩, 14) := ⟨⟨by decide +kernel, by decide +kernel⟩, List.mem_of_getElem? (i := 180) (by decide +kernel), List.mem_of_getElem? (i := 555) (by decide +kernel), List.mem_of_getElem? (i := 556) (by decide +kernel)⟩
theorem lw_p21 : lw_okq (⟨"RoomKeeper", "carryOut", "(I)I"⟩, 5) := ⟨⟨by decide +kernel, by decide +kernel⟩, List.mem_of_getElem? (i := 12) (by decide +kernel), List.mem_of_getElem? (i := 559) (by decide +kernel), List.mem_of_getElem? (i := 560) (by decide +kernel)⟩
theorem lw_p22 : lw_okq (⟨"RoomKeeperModel", "leaves", "(I)V"⟩, 14) := ⟨⟨by decide +kernel, by decide +kernel⟩, List.mem_of_getElem? (i := 601) (by decide +kernel), List.mem_of_getElem? (i := 607) (by decide +kernel), List.mem_of_getElem? (i := 608) (by decide +kernel)⟩
theorem lw_p23 : lw_okq (⟨"RoomKeeperModel", "inUse", "()I"⟩, 14) := ⟨⟨by decide +kernel, by decide +kernel⟩, List.mem_of_getElem? (i := 601) (by decide +kernel), List.mem_of_getElem? (i := 679) (by decide +kernel), List.mem_of_getElem? (i := 680) (by decide +kernel)⟩
theorem lw_p24 : lw_okq (⟨"RoomKeeperModel", "waitingFor", "(I)I"⟩, 14) := ⟨⟨by decide +kernel, by decide +kernel⟩, List.mem_of_getElem? (i := 601) (by decide +kernel), List.mem_of_getElem? (i := 683) (by decide +kernel), List.mem_of_getElem? (i := 684) (by decide +kernel)⟩
theorem lw_p25 : lw_okq (⟨"RoomKeeperModel", "acts", "()V"⟩, 14) := ⟨⟨by decide +kernel, by decide +kernel⟩, List.mem_of_getElem? (i := 601) (by decide +kernel), List.mem_of_getElem? (i := 687) (by decide +kernel), List.mem_of_getElem? (i := 688) (by decide +kernel)⟩
theorem lw_p26 : lw_okq (⟨"RoomKeeperModel", "actsOnce", "()Z"⟩, 14) := ⟨⟨by decide +kernel, by decide +kernel⟩, List.mem_of_getElem? (i := 601) (by decide +kernel), List.mem_of_getElem? (i := 691) (by decide +kernel), List.mem_of_getElem? (i := 692) (by decide +kernel)⟩
theorem lw_p27 : lw_okq (⟨"RoomKeeperModel", "nextRoom", "()I"⟩, 14) := ⟨⟨by decide +kernel, by decide +kernel⟩, List.mem_of_getElem? (i := 601) (by decide +kernel), List.mem_of_getElem? (i := 695) (by decide +kernel), List.mem_of_getElem? (i := 696) (by decide +kernel)⟩
theorem lw_p28 : lw_okq (⟨"RoomKeeperModel", "isImpatient", "(I)Z"⟩, 14) := ⟨⟨by decide +kernel, by decide +kernel⟩, List.mem_of_getElem? (i := 601) (by decide +kernel), List.mem_of_getElem? (i := 699) (by decide +kernel), List.mem_of_getElem? (i := 700) (by decide +kernel)⟩
theorem lw_p29 : lw_okq (⟨"RoomKeeperModel", "opens", "(I)V"⟩, 14) := ⟨⟨by decide +kernel, by decide +kernel⟩, List.mem_of_getElem? (i := 601) (by decide +kernel), List.mem_of_getElem? (i := 703) (by decide +kernel), List.mem_of_getElem? (i := 704) (by decide +kernel)⟩
theorem lw_p30 : lw_okq (⟨"RoomKeeperModel", "logs", "(III)V"⟩, 14) := ⟨⟨by decide +kernel, by decide +kernel⟩, List.mem_of_getElem? (i := 601) (by decide +kernel), List.mem_of_getElem? (i := 707) (by decide +kernel), List.mem_of_getElem? (i := 708) (by decide +kernel)⟩
theorem lw_p31 : lw_okq (⟨"RoomKeeperModel", "enters", "(I)V"⟩, 14) := ⟨⟨by decide +kernel, by decide +kernel⟩, List.mem_of_getElem? (i := 601) (by decide +kernel), List.mem_of_getElem? (i := 711) (by decide +kernel), List.mem_of_getElem? (i := 712) (by decide +kernel)⟩
def lw_privs_2 : List (MethodName × Nat) := [(⟨"RoomKeeper$Script", "addStep", "(IIII)V"⟩, 14), (⟨"RoomKeeper$Script", "readClosing", "()V"⟩, 14), (⟨"RoomKeeper$Script", "readRequest", "()V"⟩, 14), (⟨"RoomKeeper$Script", "endRepetition", "(I)V"⟩, 14), (⟨"RoomKeeper$Script", "useUnit", "()Z"⟩, 14), (⟨"RoomKeeper", "carryOut", "(I)I"⟩, 5), (⟨"RoomKeeperModel", "leaves", "(I)V"⟩, 14), (⟨"RoomKeeperModel", "inUse", "()I"⟩, 14), (⟨"RoomKeeperModel", "waitingFor", "(I)I"⟩, 14), (⟨"RoomKeeperModel", "acts", "()V"⟩, 14), (⟨"RoomKeeperModel", "actsOnce", "()Z"⟩, 14), (⟨"RoomKeeperModel", "nextRoom", "()I"⟩, 14), (⟨"RoomKeeperModel", "isImpatient", "(I)Z"⟩, 14), (⟨"RoomKeeperModel", "opens", "(I)V"⟩, 14), (⟨"RoomKeeperModel", "logs", "(III)V"⟩, 14), (⟨"RoomKeeperModel", "enters", "(I)V"⟩, 14)]
theorem lw_r2 : ∀ q ∈ lw_privs_2, lw_okq q := List.forall_mem_cons.mpr ⟨lw_p16, List.forall_mem_cons.mpr ⟨lw_p17, List.forall_mem_cons.mpr ⟨lw_p18, List.forall_mem_cons.mpr ⟨lw_p19, List.forall_mem_cons.mpr ⟨lw_p20, List.forall_mem_cons.mpr ⟨lw_p21, List.forall_mem_cons.mpr ⟨lw_p22, List.forall_mem_cons.mpr ⟨lw_p23, List.forall_mem_cons.mpr ⟨lw_p24, List.forall_mem_cons.mpr ⟨lw_p25, List.forall_mem_cons.mpr ⟨lw_p26, List.forall_mem_cons.mpr ⟨lw_p27, List.forall_mem_cons.mpr ⟨lw_p28, List.forall_mem_cons.mpr ⟨lw_p29, List.forall_mem_cons.mpr ⟨lw_p30, List.forall_mem_cons.mpr ⟨lw_p31, fun _ h => absurd h List.not_mem_nil⟩⟩⟩⟩⟩⟩⟩⟩⟩⟩⟩⟩⟩⟩⟩⟩
theorem lw_p32 : lw_okq (⟨"RoomKeeperModel", "inQueue", "(II)I"⟩, 14) := ⟨⟨by decide +kernel, by decide +kernel⟩, List.mem_of_getElem? (i := 601) (by decide +kernel), List.mem_of_getElem? (i := 715) (by decide +kernel), List.mem_of_getElem? (i := 716) (by decide +kernel)⟩
theorem lw_p33 : lw_okq (⟨"RoomKeeperModel", "before", "(I)I"⟩, 14) := ⟨⟨by decide +kernel, by decide +kernel⟩, List.mem_of_getElem? (i := 601) (by decide +kernel), List.mem_of_getElem? (i := 719) (by decide +kernel), List.mem_of_getElem? (i := 720) (by decide +kernel)⟩
theorem lw_p34 : lw_okq (⟨"RoomKeeperModel", "insideOf", "(I)I"⟩, 14) := ⟨⟨by decide +kernel, by decide +kernel⟩, List.mem_of_getElem? (i := 601) (by decide +kernel), List.mem_of_getElem? (i := 723) (by decide +kernel), List.mem_of_getElem? (i := 724) (by decide +kernel)⟩
theorem lw_p35 : lw_okq (⟨"RoomKeeperModel", "isDue", "(I)Z"⟩, 14) := ⟨⟨by decide +kernel, by decide +kernel⟩, List.mem_of_getElem? (i := 601) (by decide +kernel), List.mem_of_getElem? (i := 727) (by decide +kernel), List.mem_of_getElem? (i := 728) (by decide +kernel)⟩
theorem lw_p36 : lw_okq (⟨"RoomKeeperModel", "ticks", "()V"⟩, 14) := ⟨⟨by decide +kernel, by decide +kernel⟩, List.mem_of_getElem? (i := 601) (by decide +kernel), List.mem_of_getElem? (i := 747) (by decide +kernel), List.mem_of_getElem? (i := 748) (by decide +kernel)⟩
theorem lw_p37 : lw_okq (⟨"RoomKeeperModel", "entersIn", "(II)I"⟩, 14) := ⟨⟨by decide +kernel, by decide +kernel⟩, List.mem_of_getElem? (i := 601) (by decide +kernel), List.mem_of_getElem? (i := 775) (by decide +kernel), List.mem_of_getElem? (i := 776) (by decide +kernel)⟩
theorem lw_p38 : lw_okq (⟨"RoomKeeperModel", "keeps", "()V"⟩, 14) := ⟨⟨by decide +kernel, by decide +kernel⟩, List.mem_of_getElem? (i := 601) (by decide +kernel), List.mem_of_getElem? (i := 779) (by decide +kernel), List.mem_of_getElem? (i := 780) (by decide +kernel)⟩
theorem lw_p39 : lw_okq (⟨"RoomKeeperModel", "returns", "()V"⟩, 14) := ⟨⟨by decide +kernel, by decide +kernel⟩, List.mem_of_getElem? (i := 601) (by decide +kernel), List.mem_of_getElem? (i := 783) (by decide +kernel), List.mem_of_getElem? (i := 784) (by decide +kernel)⟩
theorem lw_p40 : lw_okq (⟨"RoomKeeperModel", "present", "()I"⟩, 14) := ⟨⟨by decide +kernel, by decide +kernel⟩, List.mem_of_getElem? (i := 601) (by decide +kernel), List.mem_of_getElem? (i := 791) (by decide +kernel), List.mem_of_getElem? (i := 792) (by decide +kernel)⟩
theorem lw_p41 : lw_okq (⟨"RoomKeeperModel", "reads", "()V"⟩, 14) := ⟨⟨by decide +kernel, by decide +kernel⟩, List.mem_of_getElem? (i := 601) (by decide +kernel), List.mem_of_getElem? (i := 811) (by decide +kernel), List.mem_of_getElem? (i := 812) (by decide +kernel)⟩
theorem lw_p42 : lw_okq (⟨"RoomKeeperModel", "skips", "()V"⟩, 14) := ⟨⟨by decide +kernel, by decide +kernel⟩, List.mem_of_getElem? (i := 601) (by decide +kernel), List.mem_of_getElem? (i := 815) (by decide +kernel), List.mem_of_getElem? (i := 816) (by decide +kernel)⟩
theorem lw_p43 : lw_okq (⟨"RoomKeeperModel", "next", "()I"⟩, 14) := ⟨⟨by decide +kernel, by decide +kernel⟩, List.mem_of_getElem? (i := 601) (by decide +kernel), List.mem_of_getElem? (i := 819) (by decide +kernel), List.mem_of_getElem? (i := 820) (by decide +kernel)⟩
theorem lw_p44 : lw_okq (⟨"RoomKeeperModel", "readsStep", "()V"⟩, 14) := ⟨⟨by decide +kernel, by decide +kernel⟩, List.mem_of_getElem? (i := 601) (by decide +kernel), List.mem_of_getElem? (i := 823) (by decide +kernel), List.mem_of_getElem? (i := 824) (by decide +kernel)⟩
theorem lw_p45 : lw_okq (⟨"RoomKeeperModel", "readsCall", "(I)V"⟩, 14) := ⟨⟨by decide +kernel, by decide +kernel⟩, List.mem_of_getElem? (i := 601) (by decide +kernel), List.mem_of_getElem? (i := 827) (by decide +kernel), List.mem_of_getElem? (i := 828) (by decide +kernel)⟩
theorem lw_p46 : lw_okq (⟨"RoomKeeperModel", "readsOne", "(II)I"⟩, 14) := ⟨⟨by decide +kernel, by decide +kernel⟩, List.mem_of_getElem? (i := 601) (by decide +kernel), List.mem_of_getElem? (i := 831) (by decide +kernel), List.mem_of_getElem? (i := 832) (by decide +kernel)⟩
theorem lw_p47 : lw_okq (⟨"RoomKeeperModel", "fails", "(I)V"⟩, 14) := ⟨⟨by decide +kernel, by decide +kernel⟩, List.mem_of_getElem? (i := 601) (by decide +kernel), List.mem_of_getElem? (i := 835) (by decide +kernel), List.mem_of_getElem? (i := 836) (by decide +kernel)⟩
def lw_privs_3 : List (MethodName × Nat) := [(⟨"RoomKeeperModel", "inQueue", "(II)I"⟩, 14), (⟨"RoomKeeperModel", "before", "(I)I"⟩, 14), (⟨"RoomKeeperModel", "insideOf", "(I)I"⟩, 14), (⟨"RoomKeeperModel", "isDue", "(I)Z"⟩, 14), (⟨"RoomKeeperModel", "ticks", "()V"⟩, 14), (⟨"RoomKeeperModel", "entersIn", "(II)I"⟩, 14), (⟨"RoomKeeperModel", "keeps", "()V"⟩, 14), (⟨"RoomKeeperModel", "returns", "()V"⟩, 14), (⟨"RoomKeeperModel", "present", "()I"⟩, 14), (⟨"RoomKeeperModel", "reads", "()V"⟩, 14), (⟨"RoomKeeperModel", "skips", "()V"⟩, 14), (⟨"RoomKeeperModel", "next", "()I"⟩, 14), (⟨"RoomKeeperModel", "readsStep", "()V"⟩, 14), (⟨"RoomKeeperModel", "readsCall", "(I)V"⟩, 14), (⟨"RoomKeeperModel", "readsOne", "(II)I"⟩, 14), (⟨"RoomKeeperModel", "fails", "(I)V"⟩, 14)]
theorem lw_r3 : ∀ q ∈ lw_privs_3, lw_okq q := List.forall_mem_cons.mpr ⟨lw_p32, List.forall_mem_cons.mpr ⟨lw_p33, List.forall_mem_cons.mpr ⟨lw_p34, List.forall_mem_cons.mpr ⟨lw_p35, List.forall_mem_cons.mpr ⟨lw_p36, List.forall_mem_cons.mpr ⟨lw_p37, List.forall_mem_cons.mpr ⟨lw_p38, List.forall_mem_cons.mpr ⟨lw_p39, List.forall_mem_cons.mpr ⟨lw_p40, List.forall_mem_cons.mpr ⟨lw_p41, List.forall_mem_cons.mpr ⟨lw_p42, List.forall_mem_cons.mpr ⟨lw_p43, List.forall_mem_cons.mpr ⟨lw_p44, List.forall_mem_cons.mpr ⟨lw_p45, List.forall_mem_cons.mpr ⟨lw_p46, List.forall_mem_cons.mpr ⟨lw_p47, fun _ h => absurd h List.not_mem_nil⟩⟩⟩⟩⟩⟩⟩⟩⟩⟩⟩⟩⟩⟩⟩⟩
theorem lw_p48 : lw_okq (⟨"RoomKeeperModel", "takes", "(I)V"⟩, 14) := ⟨⟨by decide +kernel, by decide +kernel⟩, List.mem_of_getElem? (i := 601) (by decide +kernel), List.mem_of_getElem? (i := 839) (by decide +kernel), List.mem_of_getElem? (i := 840) (by decide +kernel)⟩
theorem lw_p49 : lw_okq (⟨"RoomKeeperModel", "readsNumber", "(I)I"⟩, 14) := ⟨⟨by decide +kernel, by decide +kernel⟩, List.mem_of_getElem? (i := 601) (by decide +kernel), List.mem_of_getElem? (i := 843) (by decide +kernel), List.mem_of_getElem? (i := 844) (by decide +kernel)⟩
theorem lw_p50 : lw_okq (⟨"RoomKeeperModel", "calls", "(I)I"⟩, 14) := ⟨⟨by decide +kernel, by decide +kernel⟩, List.mem_of_getElem? (i := 601) (by decide +kernel), List.mem_of_getElem? (i := 847) (by decide +kernel), List.mem_of_getElem? (i := 848) (by decide +kernel)⟩
theorem lw_p51 : lw_okq (⟨"RoomKeeperModel", "number", "(I)I"⟩, 14) := ⟨⟨by decide +kernel, by decide +kernel⟩, List.mem_of_getElem? (i := 601) (by decide +kernel), List.mem_of_getElem? (i := 868) (by decide +kernel), List.mem_of_getElem? (i := 869) (by decide +kernel)⟩
theorem lw_p52 : lw_okq (⟨"RoomKeeperModel", "inState", "(I)I"⟩, 14) := ⟨⟨by decide +kernel, by decide +kernel⟩, List.mem_of_getElem? (i := 601) (by decide +kernel), List.mem_of_getElem? (i := 872) (by decide +kernel), List.mem_of_getElem? (i := 873) (by decide +kernel)⟩
theorem lw_p53 : lw_okq (⟨"RoomKeeperModel", "impatient", "()I"⟩, 14) := ⟨⟨by decide +kernel, by decide +kernel⟩, List.mem_of_getElem? (i := 601) (by decide +kernel), List.mem_of_getElem? (i := 876) (by decide +kernel), List.mem_of_getElem? (i := 877) (by decide +kernel)⟩
theorem lw_p54 : lw_okq (⟨"RoomKeeperModel", "mixes", "(J)V"⟩, 14) := ⟨⟨by decide +kernel, by decide +kernel⟩, List.mem_of_getElem? (i := 601) (by decide +kernel), List.mem_of_getElem? (i := 885) (by decide +kernel), List.mem_of_getElem? (i := 886) (by decide +kernel)⟩
def lw_privs_4 : List (MethodName × Nat) := [(⟨"RoomKeeperModel", "takes", "(I)V"⟩, 14), (⟨"RoomKeeperModel", "readsNumber", "(I)I"⟩, 14), (⟨"RoomKeeperModel", "calls", "(I)I"⟩, 14), (⟨"RoomKeeperModel", "number", "(I)I"⟩, 14), (⟨"RoomKeeperModel", "inState", "(I)I"⟩, 14), (⟨"RoomKeeperModel", "impatient", "()I"⟩, 14), (⟨"RoomKeeperModel", "mixes", "(J)V"⟩, 14)]
theorem lw_r4 : ∀ q ∈ lw_privs_4, lw_okq q := List.forall_mem_cons.mpr ⟨lw_p48, List.forall_mem_cons.mpr ⟨lw_p49, List.forall_mem_cons.mpr ⟨lw_p50, List.forall_mem_cons.mpr ⟨lw_p51, List.forall_mem_cons.mpr ⟨lw_p52, List.forall_mem_cons.mpr ⟨lw_p53, List.forall_mem_cons.mpr ⟨lw_p54, fun _ h => absurd h List.not_mem_nil⟩⟩⟩⟩⟩⟩⟩
def lw_privs : List (MethodName × Nat) := lw_privs_1 ++ (lw_privs_2 ++ (lw_privs_3 ++ (lw_privs_4)))
def lw_tbl : List Cond := k2_sels lw_privs ++ tables_1
theorem lw_privs_ok : ∀ q ∈ lw_privs, lw_okq q := by
  show ∀ q ∈ lw_privs_1 ++ (lw_privs_2 ++ (lw_privs_3 ++ (lw_privs_4))), lw_okq q
  exact List.forall_mem_append.mpr ⟨lw_r1, List.forall_mem_append.mpr ⟨lw_r2, List.forall_mem_append.mpr ⟨lw_r3, lw_r4⟩⟩⟩
-- ===== end of PART A; then your names; then what follows =====
def RX0 : String := "RoomKeeper$House"
def TX0 : u_T := fun k => match k with
  | 0 => ("RoomKeeper$House", "members", "[LRoomKeeper$Member;", true)
  | 1 => ("RoomKeeper$House", "rooms", "[LRoomKeeper$Room;", true)
  | 2 => ("RoomKeeper$House", "line", "LRoomKeeper$Line;", true)
  | 3 => ("RoomKeeper$House", "log", "LRoomKeeper$Log;", true)
  | 4 => ("RoomKeeper$House", "rules", "[I", true)
  | 5 => ("RoomKeeper$House", "time", "I", false)
  | 6 => ("RoomKeeper$House", "base", "I", false)
  | 7 => ("RoomKeeper$House", "units", "I", false)
  | 8 => ("RoomKeeper$House", "inUse", "I", false)
  | 9 => ("RoomKeeper$House", "doorOpen", "Z", false)
  | _ => ("RoomKeeper$House", "entries", "I", false)
def tyX0 : Nat → FieldType := fun k => match k with
  | 0 => .array (.object "RoomKeeper$Member")
  | 1 => .array (.object "RoomKeeper$Room")
  | 2 => .object "RoomKeeper$Line"
  | 3 => .object "RoomKeeper$Log"
  | 4 => .array .int
  | 5 => .int
  | 6 => .int
  | 7 => .int
  | 8 => .int
  | 9 => .boolean
  | _ => .int
theorem nmX0 : ∀ a, a < 11 → ∀ b, b < 11 → a ≠ b → (TX0 a).2.1 ≠ (TX0 b).2.1 := by decide +kernel
theorem tyX0_ok : ∀ k, k < 11 → parseFieldDescriptor (TX0 k).2.2.1 = some (tyX0 k) := by decide +kernel
abbrev cX0_init : ByteArray := prog_2_method_1_code
def yX0_init : MethodName := ⟨RX0, "<init>", "()V"⟩
abbrev cX0_queueUp : ByteArray := prog_2_method_2_code
def yX0_queueUp : MethodName := ⟨RX0, "queueUp", "(III)V"⟩
abbrev cX0_giveUp : ByteArray := prog_2_method_3_code
def yX0_giveUp : MethodName := ⟨RX0, "giveUp", "(I)V"⟩
abbrev cX0_goOut : ByteArray := prog_2_method_4_code
def yX0_goOut : MethodName := ⟨RX0, "goOut", "(II)V"⟩
abbrev cX0_tick : ByteArray := prog_2_method_5_code
def yX0_tick : MethodName := ⟨RX0, "tick", "()V"⟩
abbrev cX0_spendTick : ByteArray := prog_2_method_6_code
def yX0_spendTick : MethodName := ⟨RX0, "spendTick", "(I)V"⟩
abbrev cX0_skipQuietTicks : ByteArray := prog_2_method_7_code
def yX0_skipQuietTicks : MethodName := ⟨RX0, "skipQuietTicks", "(I)V"⟩
abbrev cX0_ticksToChange : ByteArray := prog_2_method_8_code
def yX0_ticksToChange : MethodName := ⟨RX0, "ticksToChange", "(I)I"⟩
abbrev cX0_act : ByteArray := prog_2_method_9_code
def yX0_act : MethodName := ⟨RX0, "act", "()V"⟩
abbrev cX0_nextRoom : ByteArray := prog_2_method_10_code
def yX0_nextRoom : MethodName := ⟨RX0, "nextRoom", "()I"⟩
abbrev cX0_goesBefore : ByteArray := prog_2_method_11_code
def yX0_goesBefore : MethodName := ⟨RX0, "goesBefore", "(II)Z"⟩
abbrev cX0_openRoom : ByteArray := prog_2_method_12_code
def yX0_openRoom : MethodName := ⟨RX0, "openRoom", "(I)V"⟩
abbrev cX0_closeDoor : ByteArray := prog_2_method_13_code
def yX0_closeDoor : MethodName := ⟨RX0, "closeDoor", "()V"⟩
abbrev cX0_firstAtDoor : ByteArray := prog_2_method_14_code
def yX0_firstAtDoor : MethodName := ⟨RX0, "firstAtDoor", "()I"⟩
abbrev cX0_isTurnOfOthers : ByteArray := prog_2_method_15_code
def yX0_isTurnOfOthers : MethodName := ⟨RX0, "isTurnOfOthers", "()Z"⟩
abbrev cX0_letIn : ByteArray := prog_2_method_16_code
def yX0_letIn : MethodName := ⟨RX0, "letIn", "(I)V"⟩
abbrev cX0_isImpatient : ByteArray := prog_2_method_17_code
def yX0_isImpatient : MethodName := ⟨RX0, "isImpatient", "(I)Z"⟩
abbrev cX0_countQueue : ByteArray := prog_2_method_18_code
def yX0_countQueue : MethodName := ⟨RX0, "countQueue", "(I)I"⟩
abbrev cX0_inQueue : ByteArray := prog_2_method_19_code
def yX0_inQueue : MethodName := ⟨RX0, "inQueue", "(II)I"⟩
abbrev cX0_countBefore : ByteArray := prog_2_method_20_code
def yX0_countBefore : MethodName := ⟨RX0, "countBefore", "(I)I"⟩
abbrev cX0_countImpatient : ByteArray := prog_2_method_21_code
def yX0_countImpatient : MethodName := ⟨RX0, "countImpatient", "()I"⟩
abbrev cX0_countCollapsed : ByteArray := prog_2_method_22_code
def yX0_countCollapsed : MethodName := ⟨RX0, "countCollapsed", "()I"⟩
abbrev cX0_isDeserted : ByteArray := prog_2_method_23_code
def yX0_isDeserted : MethodName := ⟨RX0, "isDeserted", "()Z"⟩
abbrev cX0_copyFrom : ByteArray := prog_2_method_24_code
def yX0_copyFrom : MethodName := ⟨RX0, "copyFrom", "(LRoomKeeper$House;)V"⟩
def RX1 : String := "RoomKeeper$Line"
def TX1 : u_T := fun k => match k with
  | 0 => ("RoomKeeper$Line", "places", "[I", true)
  | _ => ("RoomKeeper$Line", "length", "I", false)
def tyX1 : Nat → FieldType := fun k => match k with
  | 0 => .array .int
  | _ => .int
theorem nmX1 : ∀ a, a < 2 → ∀ b, b < 2 → a ≠ b → (TX1 a).2.1 ≠ (TX1 b).2.1 := by decide +kernel
theorem tyX1_ok : ∀ k, k < 2 → parseFieldDescriptor (TX1 k).2.2.1 = some (tyX1 k) := by decide +kernel
abbrev cX1_init : ByteArray := prog_3_method_1_code
def yX1_init : MethodName := ⟨RX1, "<init>", "()V"⟩
abbrev cX1_append : ByteArray := prog_3_method_2_code
def yX1_append : MethodName := ⟨RX1, "append", "(I)V"⟩
abbrev cX1_remove : ByteArray := prog_3_method_3_code
def yX1_remove : MethodName := ⟨RX1, "remove", "(I)V"⟩
abbrev cX1_copyFrom : ByteArray := prog_3_method_4_code
def yX1_copyFrom : MethodName := ⟨RX1, "copyFrom", "(LRoomKeeper$Line;)V"⟩
def RX2 : String := "RoomKeeper$Log"
def TX2 : u_T := fun k => match k with
  | 0 => ("RoomKeeper$Log", "parts", "[I", true)
  | _ => ("RoomKeeper$Log", "happened", "I", false)
def tyX2 : Nat → FieldType := fun k => match k with
  | 0 => .array .int
  | _ => .int
theorem nmX2 : ∀ a, a < 2 → ∀ b, b < 2 → a ≠ b → (TX2 a).2.1 ≠ (TX2 b).2.1 := by decide +kernel
theorem tyX2_ok : ∀ k, k < 2 → parseFieldDescriptor (TX2 k).2.2.1 = some (tyX2 k) := by decide +kernel
abbrev cX2_init : ByteArray := prog_4_method_1_code
def yX2_init : MethodName := ⟨RX2, "<init>", "()V"⟩
abbrev cX2_note : ByteArray := prog_4_method_2_code
def yX2_note : MethodName := ⟨RX2, "note", "(IIII)V"⟩
abbrev cX2_kept : ByteArray := prog_4_method_3_code
def yX2_kept : MethodName := ⟨RX2, "kept", "()I"⟩
abbrev cX2_part : ByteArray := prog_4_method_4_code
def yX2_part : MethodName := ⟨RX2, "part", "(II)I"⟩
abbrev cX2_copyFrom : ByteArray := prog_4_method_5_code
def yX2_copyFrom : MethodName := ⟨RX2, "copyFrom", "(LRoomKeeper$Log;)V"⟩
def RX3 : String := "RoomKeeper$Member"
def TX3 : u_T := fun k => match k with
  | 0 => ("RoomKeeper$Member", "state", "I", false)
  | 1 => ("RoomKeeper$Member", "room", "I", false)
  | 2 => ("RoomKeeper$Member", "since", "I", false)
  | _ => ("RoomKeeper$Member", "ticks", "I", false)
def tyX3 : Nat → FieldType := fun k => match k with
  | 0 => .int
  | 1 => .int
  | 2 => .int
  | _ => .int
theorem nmX3 : ∀ a, a < 4 → ∀ b, b < 4 → a ≠ b → (TX3 a).2.1 ≠ (TX3 b).2.1 := by decide +kernel
theorem tyX3_ok : ∀ k, k < 4 → parseFieldDescriptor (TX3 k).2.2.1 = some (tyX3 k) := by decide +kernel
abbrev cX3_init : ByteArray := prog_5_method_1_code
def yX3_init : MethodName := ⟨RX3, "<init>", "()V"⟩
abbrev cX3_become : ByteArray := prog_5_method_2_code
def yX3_become : MethodName := ⟨RX3, "become", "(IIII)V"⟩
abbrev cX3_copyFrom : ByteArray := prog_5_method_3_code
def yX3_copyFrom : MethodName := ⟨RX3, "copyFrom", "(LRoomKeeper$Member;)V"⟩
def RX4 : String := "RoomKeeper$Room"
def TX4 : u_T := fun k => match k with
  | 0 => ("RoomKeeper$Room", "capacity", "I", false)
  | 1 => ("RoomKeeper$Room", "share", "I", false)
  | 2 => ("RoomKeeper$Room", "score", "I", false)
  | 3 => ("RoomKeeper$Room", "inside", "I", false)
  | 4 => ("RoomKeeper$Room", "openings", "I", false)
  | 5 => ("RoomKeeper$Room", "entries", "I", false)
  | 6 => ("RoomKeeper$Room", "ticksInside", "I", false)
  | 7 => ("RoomKeeper$Room", "waitedInAll", "I", false)
  | _ => ("RoomKeeper$Room", "longestWait", "I", false)
def tyX4 : Nat → FieldType := fun k => match k with
  | 0 => .int
  | 1 => .int
  | 2 => .int
  | 3 => .int
  | 4 => .int
  | 5 => .int
  | 6 => .int
  | 7 => .int
  | _ => .int
theorem nmX4 : ∀ a, a < 9 → ∀ b, b < 9 → a ≠ b → (TX4 a).2.1 ≠ (TX4 b).2.1 := by decide +kernel
theorem tyX4_ok : ∀ k, k < 9 → parseFieldDescriptor (TX4 k).2.2.1 = some (tyX4 k) := by decide +kernel
abbrev cX4_init : ByteArray := prog_6_method_1_code
def yX4_init : MethodName := ⟨RX4, "<init>", "()V"⟩
abbrev cX4_byShare : ByteArray := prog_6_method_2_code
def yX4_byShare : MethodName := ⟨RX4, "byShare", "(I)I"⟩
abbrev cX4_countEntry : ByteArray := prog_6_method_3_code
def yX4_countEntry : MethodName := ⟨RX4, "countEntry", "(I)V"⟩
abbrev cX4_copyFrom : ByteArray := prog_6_method_4_code
def yX4_copyFrom : MethodName := ⟨RX4, "copyFrom", "(LRoomKeeper$Room;)V"⟩
def RX5 : String := "RoomKeeper$Script"
def TX5 : u_T := fun k => match k with
  | 0 => ("RoomKeeper$Script", "bytes", "[I", true)
  | 1 => ("RoomKeeper$Script", "length", "I", false)
  | 2 => ("RoomKeeper$Script", "kinds", "[I", true)
  | 3 => ("RoomKeeper$Script", "members", "[I", true)
  | 4 => ("RoomKeeper$Script", "rooms", "[I", true)
  | 5 => ("RoomKeeper$Script", "numbers", "[I", true)
  | 6 => ("RoomKeeper$Script", "steps", "I", false)
  | 7 => ("RoomKeeper$Script", "at", "I", false)
  | 8 => ("RoomKeeper$Script", "fault", "I", false)
  | 9 => ("RoomKeeper$Script", "depth", "I", false)
  | 10 => ("RoomKeeper$Script", "opened", "[I", true)
  | 11 => ("RoomKeeper$Script", "next", "I", false)
  | 12 => ("RoomKeeper$Script", "units", "I", false)
  | _ => ("RoomKeeper$Script", "timesLeft", "[I", true)
def tyX5 : Nat → FieldType := fun k => match k with
  | 0 => .array .int
  | 1 => .int
  | 2 => .array .int
  | 3 => .array .int
  | 4 => .array .int
  | 5 => .array .int
  | 6 => .int
  | 7 => .int
  | 8 => .int
  | 9 => .int
  | 10 => .array .int
  | 11 => .int
  | 12 => .int
  | _ => .array .int
theorem nmX5 : ∀ a, a < 14 → ∀ b, b < 14 → a ≠ b → (TX5 a).2.1 ≠ (TX5 b).2.1 := by decide +kernel
theorem tyX5_ok : ∀ k, k < 14 → parseFieldDescriptor (TX5 k).2.2.1 = some (tyX5 k) := by decide +kernel
abbrev cX5_init : ByteArray := prog_7_method_1_code
def yX5_init : MethodName := ⟨RX5, "<init>", "()V"⟩
abbrev cX5_append : ByteArray := prog_7_method_2_code
def yX5_append : MethodName := ⟨RX5, "append", "(I)V"⟩
abbrev cX5_read : ByteArray := prog_7_method_3_code
def yX5_read : MethodName := ⟨RX5, "read", "()I"⟩
abbrev cX5_readStep : ByteArray := prog_7_method_4_code
def yX5_readStep : MethodName := ⟨RX5, "readStep", "()V"⟩
abbrev cX5_readRequest : ByteArray := prog_7_method_5_code
def yX5_readRequest : MethodName := ⟨RX5, "readRequest", "()V"⟩
abbrev cX5_readOpening : ByteArray := prog_7_method_6_code
def yX5_readOpening : MethodName := ⟨RX5, "readOpening", "()V"⟩
abbrev cX5_readClosing : ByteArray := prog_7_method_7_code
def yX5_readClosing : MethodName := ⟨RX5, "readClosing", "()V"⟩
abbrev cX5_addStep : ByteArray := prog_7_method_8_code
def yX5_addStep : MethodName := ⟨RX5, "addStep", "(IIII)V"⟩
abbrev cX5_readByte : ByteArray := prog_7_method_9_code
def yX5_readByte : MethodName := ⟨RX5, "readByte", "(II)I"⟩
abbrev cX5_readNumber : ByteArray := prog_7_method_10_code
def yX5_readNumber : MethodName := ⟨RX5, "readNumber", "(I)I"⟩
abbrev cX5_skipBlanks : ByteArray := prog_7_method_11_code
def yX5_skipBlanks : MethodName := ⟨RX5, "skipBlanks", "()V"⟩
abbrev cX5_isDigit : ByteArray := prog_7_method_12_code
def yX5_isDigit : MethodName := ⟨RX5, "isDigit", "(I)Z"⟩
abbrev cX5_begin : ByteArray := prog_7_method_13_code
def yX5_begin : MethodName := ⟨RX5, "begin", "()V"⟩
abbrev cX5_nextCall : ByteArray := prog_7_method_14_code
def yX5_nextCall : MethodName := ⟨RX5, "nextCall", "()I"⟩
abbrev cX5_endRepetition : ByteArray := prog_7_method_15_code
def yX5_endRepetition : MethodName := ⟨RX5, "endRepetition", "(I)V"⟩
abbrev cX5_useUnit : ByteArray := prog_7_method_16_code
def yX5_useUnit : MethodName := ⟨RX5, "useUnit", "()Z"⟩
def RX6 : String := "RoomKeeper"
def TX6 : u_T := fun k => match k with
  | 0 => ("RoomKeeper", "now", "LRoomKeeper$House;", true)
  | 1 => ("RoomKeeper", "trial", "LRoomKeeper$House;", true)
  | 2 => ("RoomKeeper", "slots", "[LRoomKeeper$House;", true)
  | 3 => ("RoomKeeper", "saved", "[Z", true)
  | _ => ("RoomKeeper", "script", "LRoomKeeper$Script;", true)
def tyX6 : Nat → FieldType := fun k => match k with
  | 0 => .object "RoomKeeper$House"
  | 1 => .object "RoomKeeper$House"
  | 2 => .array (.object "RoomKeeper$House")
  | 3 => .array .boolean
  | _ => .object "RoomKeeper$Script"
theorem nmX6 : ∀ a, a < 5 → ∀ b, b < 5 → a ≠ b → (TX6 a).2.1 ≠ (TX6 b).2.1 := by decide +kernel
theorem tyX6_ok : ∀ k, k < 5 → parseFieldDescriptor (TX6 k).2.2.1 = some (tyX6 k) := by decide +kernel
abbrev cX6_init : ByteArray := prog_1_method_1_code
def yX6_init : MethodName := ⟨RX6, "<init>", "()V"⟩
abbrev cX6_setCapacity : ByteArray := prog_1_method_2_code
def yX6_setCapacity : MethodName := ⟨RX6, "setCapacity", "(II)I"⟩
abbrev cX6_setShare : ByteArray := prog_1_method_3_code
def yX6_setShare : MethodName := ⟨RX6, "setShare", "(II)I"⟩
abbrev cX6_setRule : ByteArray := prog_1_method_4_code
def yX6_setRule : MethodName := ⟨RX6, "setRule", "(II)I"⟩
abbrev cX6_request : ByteArray := prog_1_method_5_code
def yX6_request : MethodName := ⟨RX6, "request", "(III)I"⟩
abbrev cX6_withdraw : ByteArray := prog_1_method_6_code
def yX6_withdraw : MethodName := ⟨RX6, "withdraw", "(I)I"⟩
abbrev cX6_leave : ByteArray := prog_1_method_7_code
def yX6_leave : MethodName := ⟨RX6, "leave", "(I)I"⟩
abbrev cX6_collapse : ByteArray := prog_1_method_8_code
def yX6_collapse : MethodName := ⟨RX6, "collapse", "(I)I"⟩
abbrev cX6_pass : ByteArray := prog_1_method_9_code
def yX6_pass : MethodName := ⟨RX6, "pass", "(I)I"⟩
abbrev cX6_member : ByteArray := prog_1_method_10_code
def yX6_member : MethodName := ⟨RX6, "member", "(II)I"⟩
abbrev cX6_room : ByteArray := prog_1_method_11_code
def yX6_room : MethodName := ⟨RX6, "room", "(II)I"⟩
abbrev cX6_queue : ByteArray := prog_1_method_12_code
def yX6_queue : MethodName := ⟨RX6, "queue", "(II)I"⟩
abbrev cX6_event : ByteArray := prog_1_method_13_code
def yX6_event : MethodName := ⟨RX6, "event", "(II)I"⟩
abbrev cX6_unfairness : ByteArray := prog_1_method_14_code
def yX6_unfairness : MethodName := ⟨RX6, "unfairness", "()I"⟩
abbrev cX6_foretell : ByteArray := prog_1_method_15_code
def yX6_foretell : MethodName := ⟨RX6, "foretell", "(I)I"⟩
abbrev cX6_empties : ByteArray := prog_1_method_16_code
def yX6_empties : MethodName := ⟨RX6, "empties", "()I"⟩
abbrev cX6_bestQuota : ByteArray := prog_1_method_17_code
def yX6_bestQuota : MethodName := ⟨RX6, "bestQuota", "(II)I"⟩
abbrev cX6_type : ByteArray := prog_1_method_18_code
def yX6_type : MethodName := ⟨RX6, "type", "(I)I"⟩
abbrev cX6_clear : ByteArray := prog_1_method_19_code
def yX6_clear : MethodName := ⟨RX6, "clear", "()I"⟩
abbrev cX6_run : ByteArray := prog_1_method_20_code
def yX6_run : MethodName := ⟨RX6, "run", "()I"⟩
abbrev cX6_save : ByteArray := prog_1_method_21_code
def yX6_save : MethodName := ⟨RX6, "save", "(I)I"⟩
abbrev cX6_restore : ByteArray := prog_1_method_22_code
def yX6_restore : MethodName := ⟨RX6, "restore", "(I)I"⟩
abbrev cX6_count : ByteArray := prog_1_method_23_code
def yX6_count : MethodName := ⟨RX6, "count", "(I)I"⟩
abbrev cX6_digest : ByteArray := prog_1_method_24_code
def yX6_digest : MethodName := ⟨RX6, "digest", "()J"⟩
abbrev cX6_isWithin : ByteArray := prog_1_method_25_code
def yX6_isWithin : MethodName := ⟨RX6, "isWithin", "(III)Z"⟩
abbrev cX6_isMember : ByteArray := prog_1_method_26_code
def yX6_isMember : MethodName := ⟨RX6, "isMember", "(I)Z"⟩
abbrev cX6_isRoom : ByteArray := prog_1_method_27_code
def yX6_isRoom : MethodName := ⟨RX6, "isRoom", "(I)Z"⟩
abbrev cX6_greatestOfRule : ByteArray := prog_1_method_28_code
def yX6_greatestOfRule : MethodName := ⟨RX6, "greatestOfRule", "(I)I"⟩
abbrev cX6_ticksUntilEntry : ByteArray := prog_1_method_29_code
def yX6_ticksUntilEntry : MethodName := ⟨RX6, "ticksUntilEntry", "(III)I"⟩
abbrev cX6_carryOut : ByteArray := prog_1_method_30_code
def yX6_carryOut : MethodName := ⟨RX6, "carryOut", "(I)I"⟩
def RX7 : String := "RoomKeeperModel"
def TX7 : u_T := fun k => match k with
  | 0 => ("RoomKeeperModel", "m", "[I", true)
  | 1 => ("RoomKeeperModel", "aside", "[I", true)
  | 2 => ("RoomKeeperModel", "slots", "[I", true)
  | 3 => ("RoomKeeperModel", "isSaved", "[Z", true)
  | 4 => ("RoomKeeperModel", "text", "[I", true)
  | 5 => ("RoomKeeperModel", "textLength", "I", false)
  | 6 => ("RoomKeeperModel", "at", "I", false)
  | 7 => ("RoomKeeperModel", "fault", "I", false)
  | 8 => ("RoomKeeperModel", "step", "[I", true)
  | 9 => ("RoomKeeperModel", "steps", "I", false)
  | 10 => ("RoomKeeperModel", "open", "[I", true)
  | 11 => ("RoomKeeperModel", "depth", "I", false)
  | 12 => ("RoomKeeperModel", "left", "[I", true)
  | _ => ("RoomKeeperModel", "hash", "J", false)
def tyX7 : Nat → FieldType := fun k => match k with
  | 0 => .array .int
  | 1 => .array .int
  | 2 => .array .int
  | 3 => .array .boolean
  | 4 => .array .int
  | 5 => .int
  | 6 => .int
  | 7 => .int
  | 8 => .array .int
  | 9 => .int
  | 10 => .array .int
  | 11 => .int
  | 12 => .array .int
  | _ => .long
theorem nmX7 : ∀ a, a < 14 → ∀ b, b < 14 → a ≠ b → (TX7 a).2.1 ≠ (TX7 b).2.1 := by decide +kernel
theorem tyX7_ok : ∀ k, k < 14 → parseFieldDescriptor (TX7 k).2.2.1 = some (tyX7 k) := by decide +kernel
abbrev cX7_init : ByteArray := prog_9_method_1_code
def yX7_init : MethodName := ⟨RX7, "<init>", "()V"⟩
abbrev cX7_in : ByteArray := prog_9_method_2_code
def yX7_in : MethodName := ⟨RX7, "in", "(III)Z"⟩
abbrev cX7_isMember : ByteArray := prog_9_method_3_code
def yX7_isMember : MethodName := ⟨RX7, "isMember", "(I)Z"⟩
abbrev cX7_isRoom : ByteArray := prog_9_method_4_code
def yX7_isRoom : MethodName := ⟨RX7, "isRoom", "(I)Z"⟩
abbrev cX7_leaves : ByteArray := prog_9_method_5_code
def yX7_leaves : MethodName := ⟨RX7, "leaves", "(I)V"⟩
abbrev cX7_logs : ByteArray := prog_9_method_6_code
def yX7_logs : MethodName := ⟨RX7, "logs", "(III)V"⟩
abbrev cX7_inUse : ByteArray := prog_9_method_7_code
def yX7_inUse : MethodName := ⟨RX7, "inUse", "()I"⟩
abbrev cX7_insideOf : ByteArray := prog_9_method_8_code
def yX7_insideOf : MethodName := ⟨RX7, "insideOf", "(I)I"⟩
abbrev cX7_waitingFor : ByteArray := prog_9_method_9_code
def yX7_waitingFor : MethodName := ⟨RX7, "waitingFor", "(I)I"⟩
abbrev cX7_isImpatient : ByteArray := prog_9_method_10_code
def yX7_isImpatient : MethodName := ⟨RX7, "isImpatient", "(I)Z"⟩
abbrev cX7_before : ByteArray := prog_9_method_11_code
def yX7_before : MethodName := ⟨RX7, "before", "(I)I"⟩
abbrev cX7_inQueue : ByteArray := prog_9_method_12_code
def yX7_inQueue : MethodName := ⟨RX7, "inQueue", "(II)I"⟩
abbrev cX7_nextRoom : ByteArray := prog_9_method_13_code
def yX7_nextRoom : MethodName := ⟨RX7, "nextRoom", "()I"⟩
abbrev cX7_enters : ByteArray := prog_9_method_14_code
def yX7_enters : MethodName := ⟨RX7, "enters", "(I)V"⟩
abbrev cX7_opens : ByteArray := prog_9_method_15_code
def yX7_opens : MethodName := ⟨RX7, "opens", "(I)V"⟩
abbrev cX7_isDue : ByteArray := prog_9_method_16_code
def yX7_isDue : MethodName := ⟨RX7, "isDue", "(I)Z"⟩
abbrev cX7_actsOnce : ByteArray := prog_9_method_17_code
def yX7_actsOnce : MethodName := ⟨RX7, "actsOnce", "()Z"⟩
abbrev cX7_acts : ByteArray := prog_9_method_18_code
def yX7_acts : MethodName := ⟨RX7, "acts", "()V"⟩
abbrev cX7_ticks : ByteArray := prog_9_method_19_code
def yX7_ticks : MethodName := ⟨RX7, "ticks", "()V"⟩
abbrev cX7_setCapacity : ByteArray := prog_9_method_20_code
def yX7_setCapacity : MethodName := ⟨RX7, "setCapacity", "(II)I"⟩
abbrev cX7_setShare : ByteArray := prog_9_method_21_code
def yX7_setShare : MethodName := ⟨RX7, "setShare", "(II)I"⟩
abbrev cX7_setRule : ByteArray := prog_9_method_22_code
def yX7_setRule : MethodName := ⟨RX7, "setRule", "(II)I"⟩
abbrev cX7_request : ByteArray := prog_9_method_23_code
def yX7_request : MethodName := ⟨RX7, "request", "(III)I"⟩
abbrev cX7_withdraw : ByteArray := prog_9_method_24_code
def yX7_withdraw : MethodName := ⟨RX7, "withdraw", "(I)I"⟩
abbrev cX7_leave : ByteArray := prog_9_method_25_code
def yX7_leave : MethodName := ⟨RX7, "leave", "(I)I"⟩
abbrev cX7_collapse : ByteArray := prog_9_method_26_code
def yX7_collapse : MethodName := ⟨RX7, "collapse", "(I)I"⟩
abbrev cX7_pass : ByteArray := prog_9_method_27_code
def yX7_pass : MethodName := ⟨RX7, "pass", "(I)I"⟩
abbrev cX7_member : ByteArray := prog_9_method_28_code
def yX7_member : MethodName := ⟨RX7, "member", "(II)I"⟩
abbrev cX7_room : ByteArray := prog_9_method_29_code
def yX7_room : MethodName := ⟨RX7, "room", "(II)I"⟩
abbrev cX7_queue : ByteArray := prog_9_method_30_code
def yX7_queue : MethodName := ⟨RX7, "queue", "(II)I"⟩
abbrev cX7_event : ByteArray := prog_9_method_31_code
def yX7_event : MethodName := ⟨RX7, "event", "(II)I"⟩
abbrev cX7_unfairness : ByteArray := prog_9_method_32_code
def yX7_unfairness : MethodName := ⟨RX7, "unfairness", "()I"⟩
abbrev cX7_keeps : ByteArray := prog_9_method_33_code
def yX7_keeps : MethodName := ⟨RX7, "keeps", "()V"⟩
abbrev cX7_returns : ByteArray := prog_9_method_34_code
def yX7_returns : MethodName := ⟨RX7, "returns", "()V"⟩
abbrev cX7_entersIn : ByteArray := prog_9_method_35_code
def yX7_entersIn : MethodName := ⟨RX7, "entersIn", "(II)I"⟩
abbrev cX7_foretell : ByteArray := prog_9_method_36_code
def yX7_foretell : MethodName := ⟨RX7, "foretell", "(I)I"⟩
abbrev cX7_present : ByteArray := prog_9_method_37_code
def yX7_present : MethodName := ⟨RX7, "present", "()I"⟩
abbrev cX7_empties : ByteArray := prog_9_method_38_code
def yX7_empties : MethodName := ⟨RX7, "empties", "()I"⟩
abbrev cX7_bestQuota : ByteArray := prog_9_method_39_code
def yX7_bestQuota : MethodName := ⟨RX7, "bestQuota", "(II)I"⟩
abbrev cX7_type : ByteArray := prog_9_method_40_code
def yX7_type : MethodName := ⟨RX7, "type", "(I)I"⟩
abbrev cX7_clear : ByteArray := prog_9_method_41_code
def yX7_clear : MethodName := ⟨RX7, "clear", "()I"⟩
abbrev cX7_next : ByteArray := prog_9_method_42_code
def yX7_next : MethodName := ⟨RX7, "next", "()I"⟩
abbrev cX7_skips : ByteArray := prog_9_method_43_code
def yX7_skips : MethodName := ⟨RX7, "skips", "()V"⟩
abbrev cX7_fails : ByteArray := prog_9_method_44_code
def yX7_fails : MethodName := ⟨RX7, "fails", "(I)V"⟩
abbrev cX7_takes : ByteArray := prog_9_method_45_code
def yX7_takes : MethodName := ⟨RX7, "takes", "(I)V"⟩
abbrev cX7_readsNumber : ByteArray := prog_9_method_46_code
def yX7_readsNumber : MethodName := ⟨RX7, "readsNumber", "(I)I"⟩
abbrev cX7_readsOne : ByteArray := prog_9_method_47_code
def yX7_readsOne : MethodName := ⟨RX7, "readsOne", "(II)I"⟩
abbrev cX7_readsCall : ByteArray := prog_9_method_48_code
def yX7_readsCall : MethodName := ⟨RX7, "readsCall", "(I)V"⟩
abbrev cX7_readsStep : ByteArray := prog_9_method_49_code
def yX7_readsStep : MethodName := ⟨RX7, "readsStep", "()V"⟩
abbrev cX7_reads : ByteArray := prog_9_method_50_code
def yX7_reads : MethodName := ⟨RX7, "reads", "()V"⟩
abbrev cX7_calls : ByteArray := prog_9_method_51_code
def yX7_calls : MethodName := ⟨RX7, "calls", "(I)I"⟩
abbrev cX7_run : ByteArray := prog_9_method_52_code
def yX7_run : MethodName := ⟨RX7, "run", "()I"⟩
abbrev cX7_save : ByteArray := prog_9_method_53_code
def yX7_save : MethodName := ⟨RX7, "save", "(I)I"⟩
abbrev cX7_restore : ByteArray := prog_9_method_54_code
def yX7_restore : MethodName := ⟨RX7, "restore", "(I)I"⟩
abbrev cX7_impatient : ByteArray := prog_9_method_55_code
def yX7_impatient : MethodName := ⟨RX7, "impatient", "()I"⟩
abbrev cX7_inState : ByteArray := prog_9_method_56_code
def yX7_inState : MethodName := ⟨RX7, "inState", "(I)I"⟩
abbrev cX7_number : ByteArray := prog_9_method_57_code
def yX7_number : MethodName := ⟨RX7, "number", "(I)I"⟩
abbrev cX7_count : ByteArray := prog_9_method_58_code
def yX7_count : MethodName := ⟨RX7, "count", "(I)I"⟩
abbrev cX7_mixes : ByteArray := prog_9_method_59_code
def yX7_mixes : MethodName := ⟨RX7, "mixes", "(J)V"⟩
abbrev cX7_digest : ByteArray := prog_9_method_60_code
def yX7_digest : MethodName := ⟨RX7, "digest", "()J"⟩
def RL : String := "RoomKeeperLaw"
abbrev cL_law : ByteArray := code
def yL_law : MethodName := ⟨RL, "law", "([I)Z"⟩
abbrev vwCl : List vw_C := [(RX0, TX0, 11), (RX1, TX1, 2), (RX2, TX2, 2), (RX3, TX3, 4), (RX4, TX4, 9), (RX5, TX5, 14), (RX6, TX6, 5), (RX7, TX7, 14)]
