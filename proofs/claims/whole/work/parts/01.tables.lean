/-- a private method of a class that the tables say can be made, by its rows of tables_1 -/
def lw_okq (q : MethodName × Nat) : Prop := (q.1.cls ≠ "java/lang/invoke/MethodHandle" ∧ q.1.cls ≠ "java/lang/invoke/VarHandle") ∧ Cond.instantiable q.1.cls q.2 ∈ tables_1 ∧ Cond.privateMethod q.1 ∈ tables_1 ∧ Cond.instanceMethod q.1 ∈ tables_1
theorem lw_p0 : lw_okq (⟨"PromisedSlots$Reader", "readItem", "(LPromisedSlots$Layout;)V"⟩, 4) := ⟨⟨by decide +kernel, by decide +kernel⟩, List.mem_of_getElem? (i := 44) (by decide +kernel), List.mem_of_getElem? (i := 339) (by decide +kernel), List.mem_of_getElem? (i := 340) (by decide +kernel)⟩
theorem lw_p1 : lw_okq (⟨"PromisedSlots$Reader", "readOrders", "(LPromisedSlots$Layout;)V"⟩, 4) := ⟨⟨by decide +kernel, by decide +kernel⟩, List.mem_of_getElem? (i := 44) (by decide +kernel), List.mem_of_getElem? (i := 347) (by decide +kernel), List.mem_of_getElem? (i := 348) (by decide +kernel)⟩
theorem lw_p2 : lw_okq (⟨"PromisedSlots$Reader", "readNumber", "(III)I"⟩, 4) := ⟨⟨by decide +kernel, by decide +kernel⟩, List.mem_of_getElem? (i := 44) (by decide +kernel), List.mem_of_getElem? (i := 351) (by decide +kernel), List.mem_of_getElem? (i := 352) (by decide +kernel)⟩
theorem lw_p3 : lw_okq (⟨"PromisedSlots$Reader", "readEnd", "()V"⟩, 4) := ⟨⟨by decide +kernel, by decide +kernel⟩, List.mem_of_getElem? (i := 44) (by decide +kernel), List.mem_of_getElem? (i := 358) (by decide +kernel), List.mem_of_getElem? (i := 359) (by decide +kernel)⟩
theorem lw_p4 : lw_okq (⟨"PromisedSlots$Reader", "readCoordinator", "(LPromisedSlots$Layout;)V"⟩, 4) := ⟨⟨by decide +kernel, by decide +kernel⟩, List.mem_of_getElem? (i := 44) (by decide +kernel), List.mem_of_getElem? (i := 366) (by decide +kernel), List.mem_of_getElem? (i := 367) (by decide +kernel)⟩
theorem lw_p5 : lw_okq (⟨"PromisedSlots$Reader", "readDevice", "(LPromisedSlots$Layout;)V"⟩, 4) := ⟨⟨by decide +kernel, by decide +kernel⟩, List.mem_of_getElem? (i := 44) (by decide +kernel), List.mem_of_getElem? (i := 386) (by decide +kernel), List.mem_of_getElem? (i := 387) (by decide +kernel)⟩
theorem lw_p6 : lw_okq (⟨"PromisedSlots$Reader", "readLife", "(LPromisedSlots$Layout;)V"⟩, 4) := ⟨⟨by decide +kernel, by decide +kernel⟩, List.mem_of_getElem? (i := 44) (by decide +kernel), List.mem_of_getElem? (i := 394) (by decide +kernel), List.mem_of_getElem? (i := 395) (by decide +kernel)⟩
theorem lw_p7 : lw_okq (⟨"PromisedSlots", "takeLayout", "()V"⟩, 10) := ⟨⟨by decide +kernel, by decide +kernel⟩, List.mem_of_getElem? (i := 17) (by decide +kernel), List.mem_of_getElem? (i := 398) (by decide +kernel), List.mem_of_getElem? (i := 399) (by decide +kernel)⟩
theorem lw_p8 : lw_okq (⟨"PromisedSlots", "coordinatorAt", "(I)LPromisedSlots$Coordinator;"⟩, 10) := ⟨⟨by decide +kernel, by decide +kernel⟩, List.mem_of_getElem? (i := 17) (by decide +kernel), List.mem_of_getElem? (i := 431) (by decide +kernel), List.mem_of_getElem? (i := 432) (by decide +kernel)⟩
theorem lw_p9 : lw_okq (⟨"PromisedSlots", "faultOfText", "()I"⟩, 10) := ⟨⟨by decide +kernel, by decide +kernel⟩, List.mem_of_getElem? (i := 17) (by decide +kernel), List.mem_of_getElem? (i := 487) (by decide +kernel), List.mem_of_getElem? (i := 488) (by decide +kernel)⟩
theorem lw_p10 : lw_okq (⟨"PromisedSlots", "deviceAt", "(I)LPromisedSlots$Device;"⟩, 10) := ⟨⟨by decide +kernel, by decide +kernel⟩, List.mem_of_getElem? (i := 17) (by decide +kernel), List.mem_of_getElem? (i := 521) (by decide +kernel), List.mem_of_getElem? (i := 522) (by decide +kernel)⟩
theorem lw_p11 : lw_okq (⟨"PromisedSlots$Promises", "removeAt", "(I)V"⟩, 4) := ⟨⟨by decide +kernel, by decide +kernel⟩, List.mem_of_getElem? (i := 126) (by decide +kernel), List.mem_of_getElem? (i := 549) (by decide +kernel), List.mem_of_getElem? (i := 550) (by decide +kernel)⟩
theorem lw_p12 : lw_okq (⟨"PromisedSlots", "promiserOf", "(I)LPromisedSlots$Coordinator;"⟩, 10) := ⟨⟨by decide +kernel, by decide +kernel⟩, List.mem_of_getElem? (i := 17) (by decide +kernel), List.mem_of_getElem? (i := 581) (by decide +kernel), List.mem_of_getElem? (i := 582) (by decide +kernel)⟩
theorem lw_p13 : lw_okq (⟨"PromisedSlots", "nextToBeacon", "()I"⟩, 10) := ⟨⟨by decide +kernel, by decide +kernel⟩, List.mem_of_getElem? (i := 17) (by decide +kernel), List.mem_of_getElem? (i := 609) (by decide +kernel), List.mem_of_getElem? (i := 610) (by decide +kernel)⟩
theorem lw_p14 : lw_okq (⟨"PromisedSlots", "activePart", "(ILPromisedSlots$Coordinator;)I"⟩, 10) := ⟨⟨by decide +kernel, by decide +kernel⟩, List.mem_of_getElem? (i := 17) (by decide +kernel), List.mem_of_getElem? (i := 613) (by decide +kernel), List.mem_of_getElem? (i := 614) (by decide +kernel)⟩
theorem lw_p15 : lw_okq (⟨"PromisedSlots", "hearBeacon", "(I)V"⟩, 10) := ⟨⟨by decide +kernel, by decide +kernel⟩, List.mem_of_getElem? (i := 17) (by decide +kernel), List.mem_of_getElem? (i := 624) (by decide +kernel), List.mem_of_getElem? (i := 625) (by decide +kernel)⟩
def lw_privs_1 : List (MethodName × Nat) := [(⟨"PromisedSlots$Reader", "readItem", "(LPromisedSlots$Layout;)V"⟩, 4), (⟨"PromisedSlots$Reader", "readOrders", "(LPromisedSlots$Layout;)V"⟩, 4), (⟨"PromisedSlots$Reader", "readNumber", "(III)I"⟩, 4), (⟨"PromisedSlots$Reader", "readEnd", "()V"⟩, 4), (⟨"PromisedSlots$Reader", "readCoordinator", "(LPromisedSlots$Layout;)V"⟩, 4), (⟨"PromisedSlots$Reader", "readDevice", "(LPromisedSlots$Layout;)V"⟩, 4), (⟨"PromisedSlots$Reader", "readLife", "(LPromisedSlots$Layout;)V"⟩, 4), (⟨"PromisedSlots", "takeLayout", "()V"⟩, 10), (⟨"PromisedSlots", "coordinatorAt", "(I)LPromisedSlots$Coordinator;"⟩, 10), (⟨"PromisedSlots", "faultOfText", "()I"⟩, 10), (⟨"PromisedSlots", "deviceAt", "(I)LPromisedSlots$Device;"⟩, 10), (⟨"PromisedSlots$Promises", "removeAt", "(I)V"⟩, 4), (⟨"PromisedSlots", "promiserOf", "(I)LPromisedSlots$Coordinator;"⟩, 10), (⟨"PromisedSlots", "nextToBeacon", "()I"⟩, 10), (⟨"PromisedSlots", "activePart", "(ILPromisedSlots$Coordinator;)I"⟩, 10), (⟨"PromisedSlots", "hearBeacon", "(I)V"⟩, 10)]
theorem lw_r1 : ∀ q ∈ lw_privs_1, lw_okq q := List.forall_mem_cons.mpr ⟨lw_p0, List.forall_mem_cons.mpr ⟨lw_p1, List.forall_mem_cons.mpr ⟨lw_p2, List.forall_mem_cons.mpr ⟨lw_p3, List.forall_mem_cons.mpr ⟨lw_p4, List.forall_mem_cons.mpr ⟨lw_p5, List.forall_mem_cons.mpr ⟨lw_p6, List.forall_mem_cons.mpr ⟨lw_p7, List.forall_mem_cons.mpr ⟨lw_p8, List.forall_mem_cons.mpr ⟨lw_p9, List.forall_mem_cons.mpr ⟨lw_p10, List.forall_mem_cons.mpr ⟨lw_p11, List.forall_mem_cons.mpr ⟨lw_p12, List.forall_mem_cons.mpr ⟨lw_p13, List.forall_mem_cons.mpr ⟨lw_p14, List.forall_mem_cons.mpr ⟨lw_p15, fun _ h => absurd h List.not_mem_nil⟩⟩⟩⟩⟩⟩⟩⟩⟩⟩⟩⟩⟩⟩⟩⟩
theorem lw_p16 : lw_okq (⟨"PromisedSlots$Contention", "takeUp", "(II)Z"⟩, 4) := ⟨⟨by decide +kernel, by decide +kernel⟩, List.mem_of_getElem? (i := 254) (by decide +kernel), List.mem_of_getElem? (i := 636) (by decide +kernel), List.mem_of_getElem? (i := 637) (by decide +kernel)⟩
theorem lw_p17 : lw_okq (⟨"PromisedSlots$Contention", "begin", "(LPromisedSlots$Device;I)V"⟩, 4) := ⟨⟨by decide +kernel, by decide +kernel⟩, List.mem_of_getElem? (i := 254) (by decide +kernel), List.mem_of_getElem? (i := 640) (by decide +kernel), List.mem_of_getElem? (i := 641) (by decide +kernel)⟩
theorem lw_p18 : lw_okq (⟨"PromisedSlots$Contention", "draw", "(LPromisedSlots$Device;)V"⟩, 4) := ⟨⟨by decide +kernel, by decide +kernel⟩, List.mem_of_getElem? (i := 254) (by decide +kernel), List.mem_of_getElem? (i := 648) (by decide +kernel), List.mem_of_getElem? (i := 649) (by decide +kernel)⟩
theorem lw_p19 : lw_okq (⟨"PromisedSlots$Contention", "airNow", "()I"⟩, 4) := ⟨⟨by decide +kernel, by decide +kernel⟩, List.mem_of_getElem? (i := 254) (by decide +kernel), List.mem_of_getElem? (i := 665) (by decide +kernel), List.mem_of_getElem? (i := 666) (by decide +kernel)⟩
theorem lw_p20 : lw_okq (⟨"PromisedSlots$Contention", "listenAndWait", "()V"⟩, 4) := ⟨⟨by decide +kernel, by decide +kernel⟩, List.mem_of_getElem? (i := 254) (by decide +kernel), List.mem_of_getElem? (i := 669) (by decide +kernel), List.mem_of_getElem? (i := 670) (by decide +kernel)⟩
theorem lw_p21 : lw_okq (⟨"PromisedSlots$Device", "giveUp", "()V"⟩, 20) := ⟨⟨by decide +kernel, by decide +kernel⟩, List.mem_of_getElem? (i := 173) (by decide +kernel), List.mem_of_getElem? (i := 678) (by decide +kernel), List.mem_of_getElem? (i := 679) (by decide +kernel)⟩
theorem lw_p22 : lw_okq (⟨"PromisedSlots$Device", "endFrame", "()V"⟩, 20) := ⟨⟨by decide +kernel, by decide +kernel⟩, List.mem_of_getElem? (i := 173) (by decide +kernel), List.mem_of_getElem? (i := 682) (by decide +kernel), List.mem_of_getElem? (i := 683) (by decide +kernel)⟩
theorem lw_p23 : lw_okq (⟨"PromisedSlots$Contention", "endFrames", "()I"⟩, 4) := ⟨⟨by decide +kernel, by decide +kernel⟩, List.mem_of_getElem? (i := 254) (by decide +kernel), List.mem_of_getElem? (i := 691) (by decide +kernel), List.mem_of_getElem? (i := 692) (by decide +kernel)⟩
theorem lw_p24 : lw_okq (⟨"PromisedSlots$Contention", "endFrame", "(LPromisedSlots$Device;)I"⟩, 4) := ⟨⟨by decide +kernel, by decide +kernel⟩, List.mem_of_getElem? (i := 254) (by decide +kernel), List.mem_of_getElem? (i := 695) (by decide +kernel), List.mem_of_getElem? (i := 696) (by decide +kernel)⟩
theorem lw_p25 : lw_okq (⟨"PromisedSlots$Contention", "holdAll", "()V"⟩, 4) := ⟨⟨by decide +kernel, by decide +kernel⟩, List.mem_of_getElem? (i := 254) (by decide +kernel), List.mem_of_getElem? (i := 707) (by decide +kernel), List.mem_of_getElem? (i := 708) (by decide +kernel)⟩
theorem lw_p26 : lw_okq (⟨"PromisedSlots", "keepPromises", "(LPromisedSlots$Coordinator;)I"⟩, 10) := ⟨⟨by decide +kernel, by decide +kernel⟩, List.mem_of_getElem? (i := 17) (by decide +kernel), List.mem_of_getElem? (i := 711) (by decide +kernel), List.mem_of_getElem? (i := 712) (by decide +kernel)⟩
theorem lw_p27 : lw_okq (⟨"PromisedSlots", "orphans", "()I"⟩, 10) := ⟨⟨by decide +kernel, by decide +kernel⟩, List.mem_of_getElem? (i := 17) (by decide +kernel), List.mem_of_getElem? (i := 748) (by decide +kernel), List.mem_of_getElem? (i := 749) (by decide +kernel)⟩
theorem lw_p28 : lw_okq (⟨"PromisedSlotsModel", "empty", "()V"⟩, 58) := ⟨⟨by decide +kernel, by decide +kernel⟩, List.mem_of_getElem? (i := 752) (by decide +kernel), List.mem_of_getElem? (i := 758) (by decide +kernel), List.mem_of_getElem? (i := 759) (by decide +kernel)⟩
theorem lw_p29 : lw_okq (⟨"PromisedSlotsModel", "deviceIs", "(III)V"⟩, 58) := ⟨⟨by decide +kernel, by decide +kernel⟩, List.mem_of_getElem? (i := 752) (by decide +kernel), List.mem_of_getElem? (i := 762) (by decide +kernel), List.mem_of_getElem? (i := 763) (by decide +kernel)⟩
theorem lw_p30 : lw_okq (⟨"PromisedSlotsModel", "coordIs", "(II)V"⟩, 58) := ⟨⟨by decide +kernel, by decide +kernel⟩, List.mem_of_getElem? (i := 752) (by decide +kernel), List.mem_of_getElem? (i := 766) (by decide +kernel), List.mem_of_getElem? (i := 767) (by decide +kernel)⟩
theorem lw_p31 : lw_okq (⟨"PromisedSlotsModel", "begin", "()V"⟩, 58) := ⟨⟨by decide +kernel, by decide +kernel⟩, List.mem_of_getElem? (i := 752) (by decide +kernel), List.mem_of_getElem? (i := 770) (by decide +kernel), List.mem_of_getElem? (i := 771) (by decide +kernel)⟩
def lw_privs_2 : List (MethodName × Nat) := [(⟨"PromisedSlots$Contention", "takeUp", "(II)Z"⟩, 4), (⟨"PromisedSlots$Contention", "begin", "(LPromisedSlots$Device;I)V"⟩, 4), (⟨"PromisedSlots$Contention", "draw", "(LPromisedSlots$Device;)V"⟩, 4), (⟨"PromisedSlots$Contention", "airNow", "()I"⟩, 4), (⟨"PromisedSlots$Contention", "listenAndWait", "()V"⟩, 4), (⟨"PromisedSlots$Device", "giveUp", "()V"⟩, 20), (⟨"PromisedSlots$Device", "endFrame", "()V"⟩, 20), (⟨"PromisedSlots$Contention", "endFrames", "()I"⟩, 4), (⟨"PromisedSlots$Contention", "endFrame", "(LPromisedSlots$Device;)I"⟩, 4), (⟨"PromisedSlots$Contention", "holdAll", "()V"⟩, 4), (⟨"PromisedSlots", "keepPromises", "(LPromisedSlots$Coordinator;)I"⟩, 10), (⟨"PromisedSlots", "orphans", "()I"⟩, 10), (⟨"PromisedSlotsModel", "empty", "()V"⟩, 58), (⟨"PromisedSlotsModel", "deviceIs", "(III)V"⟩, 58), (⟨"PromisedSlotsModel", "coordIs", "(II)V"⟩, 58), (⟨"PromisedSlotsModel", "begin", "()V"⟩, 58)]
theorem lw_r2 : ∀ q ∈ lw_privs_2, lw_okq q := List.forall_mem_cons.mpr ⟨lw_p16, List.forall_mem_cons.mpr ⟨lw_p17, List.forall_mem_cons.mpr ⟨lw_p18, List.forall_mem_cons.mpr ⟨lw_p19, List.forall_mem_cons.mpr ⟨lw_p20, List.forall_mem_cons.mpr ⟨lw_p21, List.forall_mem_cons.mpr ⟨lw_p22, List.forall_mem_cons.mpr ⟨lw_p23, List.forall_mem_cons.mpr ⟨lw_p24, List.forall_mem_cons.mpr ⟨lw_p25, List.forall_mem_cons.mpr ⟨lw_p26, List.forall_mem_cons.mpr ⟨lw_p27, List.forall_mem_cons.mpr ⟨lw_p28, List.forall_mem_cons.mpr ⟨lw_p29, List.forall_mem_cons.mpr ⟨lw_p30, List.forall_mem_cons.mpr ⟨lw_p31, fun _ h => absurd h List.not_mem_nil⟩⟩⟩⟩⟩⟩⟩⟩⟩⟩⟩⟩⟩⟩⟩⟩
theorem lw_p32 : lw_okq (⟨"PromisedSlotsModel", "coordBegins", "(III)V"⟩, 58) := ⟨⟨by decide +kernel, by decide +kernel⟩, List.mem_of_getElem? (i := 752) (by decide +kernel), List.mem_of_getElem? (i := 777) (by decide +kernel), List.mem_of_getElem? (i := 778) (by decide +kernel)⟩
theorem lw_p33 : lw_okq (⟨"PromisedSlotsModel", "deviceBegins", "(I)V"⟩, 58) := ⟨⟨by decide +kernel, by decide +kernel⟩, List.mem_of_getElem? (i := 752) (by decide +kernel), List.mem_of_getElem? (i := 781) (by decide +kernel), List.mem_of_getElem? (i := 782) (by decide +kernel)⟩
theorem lw_p34 : lw_okq (⟨"PromisedSlotsModel", "readAll", "()I"⟩, 58) := ⟨⟨by decide +kernel, by decide +kernel⟩, List.mem_of_getElem? (i := 752) (by decide +kernel), List.mem_of_getElem? (i := 981) (by decide +kernel), List.mem_of_getElem? (i := 982) (by decide +kernel)⟩
theorem lw_p35 : lw_okq (⟨"PromisedSlotsModel", "letterAt", "(I)I"⟩, 58) := ⟨⟨by decide +kernel, by decide +kernel⟩, List.mem_of_getElem? (i := 752) (by decide +kernel), List.mem_of_getElem? (i := 985) (by decide +kernel), List.mem_of_getElem? (i := 986) (by decide +kernel)⟩
theorem lw_p36 : lw_okq (⟨"PromisedSlotsModel", "item", "(IZ)V"⟩, 58) := ⟨⟨by decide +kernel, by decide +kernel⟩, List.mem_of_getElem? (i := 752) (by decide +kernel), List.mem_of_getElem? (i := 989) (by decide +kernel), List.mem_of_getElem? (i := 990) (by decide +kernel)⟩
theorem lw_p37 : lw_okq (⟨"PromisedSlotsModel", "ordersItem", "()V"⟩, 58) := ⟨⟨by decide +kernel, by decide +kernel⟩, List.mem_of_getElem? (i := 752) (by decide +kernel), List.mem_of_getElem? (i := 993) (by decide +kernel), List.mem_of_getElem? (i := 994) (by decide +kernel)⟩
theorem lw_p38 : lw_okq (⟨"PromisedSlotsModel", "number", "(III)I"⟩, 58) := ⟨⟨by decide +kernel, by decide +kernel⟩, List.mem_of_getElem? (i := 752) (by decide +kernel), List.mem_of_getElem? (i := 997) (by decide +kernel), List.mem_of_getElem? (i := 998) (by decide +kernel)⟩
theorem lw_p39 : lw_okq (⟨"PromisedSlotsModel", "coordItem", "()V"⟩, 58) := ⟨⟨by decide +kernel, by decide +kernel⟩, List.mem_of_getElem? (i := 752) (by decide +kernel), List.mem_of_getElem? (i := 1003) (by decide +kernel), List.mem_of_getElem? (i := 1004) (by decide +kernel)⟩
theorem lw_p40 : lw_okq (⟨"PromisedSlotsModel", "deviceItem", "()V"⟩, 58) := ⟨⟨by decide +kernel, by decide +kernel⟩, List.mem_of_getElem? (i := 752) (by decide +kernel), List.mem_of_getElem? (i := 1010) (by decide +kernel), List.mem_of_getElem? (i := 1011) (by decide +kernel)⟩
theorem lw_p41 : lw_okq (⟨"PromisedSlotsModel", "refusesText", "(III)I"⟩, 58) := ⟨⟨by decide +kernel, by decide +kernel⟩, List.mem_of_getElem? (i := 752) (by decide +kernel), List.mem_of_getElem? (i := 1014) (by decide +kernel), List.mem_of_getElem? (i := 1015) (by decide +kernel)⟩
theorem lw_p42 : lw_okq (⟨"PromisedSlotsModel", "refuses", "(III)I"⟩, 58) := ⟨⟨by decide +kernel, by decide +kernel⟩, List.mem_of_getElem? (i := 752) (by decide +kernel), List.mem_of_getElem? (i := 1022) (by decide +kernel), List.mem_of_getElem? (i := 1023) (by decide +kernel)⟩
theorem lw_p43 : lw_okq (⟨"PromisedSlotsModel", "isCoord", "(I)Z"⟩, 58) := ⟨⟨by decide +kernel, by decide +kernel⟩, List.mem_of_getElem? (i := 752) (by decide +kernel), List.mem_of_getElem? (i := 1030) (by decide +kernel), List.mem_of_getElem? (i := 1031) (by decide +kernel)⟩
theorem lw_p44 : lw_okq (⟨"PromisedSlotsModel", "isDevice", "(I)Z"⟩, 58) := ⟨⟨by decide +kernel, by decide +kernel⟩, List.mem_of_getElem? (i := 752) (by decide +kernel), List.mem_of_getElem? (i := 1043) (by decide +kernel), List.mem_of_getElem? (i := 1044) (by decide +kernel)⟩
theorem lw_p45 : lw_okq (⟨"PromisedSlotsModel", "goesFrom", "(II)I"⟩, 58) := ⟨⟨by decide +kernel, by decide +kernel⟩, List.mem_of_getElem? (i := 752) (by decide +kernel), List.mem_of_getElem? (i := 1050) (by decide +kernel), List.mem_of_getElem? (i := 1051) (by decide +kernel)⟩
theorem lw_p46 : lw_okq (⟨"PromisedSlotsModel", "promiseOf", "(II)I"⟩, 58) := ⟨⟨by decide +kernel, by decide +kernel⟩, List.mem_of_getElem? (i := 752) (by decide +kernel), List.mem_of_getElem? (i := 1054) (by decide +kernel), List.mem_of_getElem? (i := 1055) (by decide +kernel)⟩
theorem lw_p47 : lw_okq (⟨"PromisedSlotsModel", "letGo", "(II)V"⟩, 58) := ⟨⟨by decide +kernel, by decide +kernel⟩, List.mem_of_getElem? (i := 752) (by decide +kernel), List.mem_of_getElem? (i := 1058) (by decide +kernel), List.mem_of_getElem? (i := 1059) (by decide +kernel)⟩
def lw_privs_3 : List (MethodName × Nat) := [(⟨"PromisedSlotsModel", "coordBegins", "(III)V"⟩, 58), (⟨"PromisedSlotsModel", "deviceBegins", "(I)V"⟩, 58), (⟨"PromisedSlotsModel", "readAll", "()I"⟩, 58), (⟨"PromisedSlotsModel", "letterAt", "(I)I"⟩, 58), (⟨"PromisedSlotsModel", "item", "(IZ)V"⟩, 58), (⟨"PromisedSlotsModel", "ordersItem", "()V"⟩, 58), (⟨"PromisedSlotsModel", "number", "(III)I"⟩, 58), (⟨"PromisedSlotsModel", "coordItem", "()V"⟩, 58), (⟨"PromisedSlotsModel", "deviceItem", "()V"⟩, 58), (⟨"PromisedSlotsModel", "refusesText", "(III)I"⟩, 58), (⟨"PromisedSlotsModel", "refuses", "(III)I"⟩, 58), (⟨"PromisedSlotsModel", "isCoord", "(I)Z"⟩, 58), (⟨"PromisedSlotsModel", "isDevice", "(I)Z"⟩, 58), (⟨"PromisedSlotsModel", "goesFrom", "(II)I"⟩, 58), (⟨"PromisedSlotsModel", "promiseOf", "(II)I"⟩, 58), (⟨"PromisedSlotsModel", "letGo", "(II)V"⟩, 58)]
theorem lw_r3 : ∀ q ∈ lw_privs_3, lw_okq q := List.forall_mem_cons.mpr ⟨lw_p32, List.forall_mem_cons.mpr ⟨lw_p33, List.forall_mem_cons.mpr ⟨lw_p34, List.forall_mem_cons.mpr ⟨lw_p35, List.forall_mem_cons.mpr ⟨lw_p36, List.forall_mem_cons.mpr ⟨lw_p37, List.forall_mem_cons.mpr ⟨lw_p38, List.forall_mem_cons.mpr ⟨lw_p39, List.forall_mem_cons.mpr ⟨lw_p40, List.forall_mem_cons.mpr ⟨lw_p41, List.forall_mem_cons.mpr ⟨lw_p42, List.forall_mem_cons.mpr ⟨lw_p43, List.forall_mem_cons.mpr ⟨lw_p44, List.forall_mem_cons.mpr ⟨lw_p45, List.forall_mem_cons.mpr ⟨lw_p46, List.forall_mem_cons.mpr ⟨lw_p47, fun _ h => absurd h List.not_mem_nil⟩⟩⟩⟩⟩⟩⟩⟩⟩⟩⟩⟩⟩⟩⟩⟩
theorem lw_p48 : lw_okq (⟨"PromisedSlotsModel", "hasPromise", "(I)Z"⟩, 58) := ⟨⟨by decide +kernel, by decide +kernel⟩, List.mem_of_getElem? (i := 752) (by decide +kernel), List.mem_of_getElem? (i := 1085) (by decide +kernel), List.mem_of_getElem? (i := 1086) (by decide +kernel)⟩
theorem lw_p49 : lw_okq (⟨"PromisedSlotsModel", "shared", "(I)I"⟩, 58) := ⟨⟨by decide +kernel, by decide +kernel⟩, List.mem_of_getElem? (i := 752) (by decide +kernel), List.mem_of_getElem? (i := 1089) (by decide +kernel), List.mem_of_getElem? (i := 1090) (by decide +kernel)⟩
theorem lw_p50 : lw_okq (⟨"PromisedSlotsModel", "taken", "(I)I"⟩, 58) := ⟨⟨by decide +kernel, by decide +kernel⟩, List.mem_of_getElem? (i := 752) (by decide +kernel), List.mem_of_getElem? (i := 1093) (by decide +kernel), List.mem_of_getElem? (i := 1094) (by decide +kernel)⟩
theorem lw_p51 : lw_okq (⟨"PromisedSlotsModel", "firstSlot", "(II)I"⟩, 58) := ⟨⟨by decide +kernel, by decide +kernel⟩, List.mem_of_getElem? (i := 752) (by decide +kernel), List.mem_of_getElem? (i := 1097) (by decide +kernel), List.mem_of_getElem? (i := 1098) (by decide +kernel)⟩
theorem lw_p52 : lw_okq (⟨"PromisedSlotsModel", "part", "(I)I"⟩, 58) := ⟨⟨by decide +kernel, by decide +kernel⟩, List.mem_of_getElem? (i := 752) (by decide +kernel), List.mem_of_getElem? (i := 1115) (by decide +kernel), List.mem_of_getElem? (i := 1116) (by decide +kernel)⟩
theorem lw_p53 : lw_okq (⟨"PromisedSlotsModel", "beacon", "(I)V"⟩, 58) := ⟨⟨by decide +kernel, by decide +kernel⟩, List.mem_of_getElem? (i := 752) (by decide +kernel), List.mem_of_getElem? (i := 1119) (by decide +kernel), List.mem_of_getElem? (i := 1120) (by decide +kernel)⟩
theorem lw_p54 : lw_okq (⟨"PromisedSlotsModel", "stepA", "(I)V"⟩, 58) := ⟨⟨by decide +kernel, by decide +kernel⟩, List.mem_of_getElem? (i := 752) (by decide +kernel), List.mem_of_getElem? (i := 1123) (by decide +kernel), List.mem_of_getElem? (i := 1124) (by decide +kernel)⟩
theorem lw_p55 : lw_okq (⟨"PromisedSlotsModel", "begins", "(I)V"⟩, 58) := ⟨⟨by decide +kernel, by decide +kernel⟩, List.mem_of_getElem? (i := 752) (by decide +kernel), List.mem_of_getElem? (i := 1127) (by decide +kernel), List.mem_of_getElem? (i := 1128) (by decide +kernel)⟩
theorem lw_p56 : lw_okq (⟨"PromisedSlotsModel", "draws", "(I)V"⟩, 58) := ⟨⟨by decide +kernel, by decide +kernel⟩, List.mem_of_getElem? (i := 752) (by decide +kernel), List.mem_of_getElem? (i := 1131) (by decide +kernel), List.mem_of_getElem? (i := 1132) (by decide +kernel)⟩
theorem lw_p57 : lw_okq (⟨"PromisedSlotsModel", "stepsBC", "(II)V"⟩, 58) := ⟨⟨by decide +kernel, by decide +kernel⟩, List.mem_of_getElem? (i := 752) (by decide +kernel), List.mem_of_getElem? (i := 1136) (by decide +kernel), List.mem_of_getElem? (i := 1137) (by decide +kernel)⟩
theorem lw_p58 : lw_okq (⟨"PromisedSlotsModel", "sending", "(II)I"⟩, 58) := ⟨⟨by decide +kernel, by decide +kernel⟩, List.mem_of_getElem? (i := 752) (by decide +kernel), List.mem_of_getElem? (i := 1140) (by decide +kernel), List.mem_of_getElem? (i := 1141) (by decide +kernel)⟩
theorem lw_p59 : lw_okq (⟨"PromisedSlotsModel", "stepD", "(Z)V"⟩, 58) := ⟨⟨by decide +kernel, by decide +kernel⟩, List.mem_of_getElem? (i := 752) (by decide +kernel), List.mem_of_getElem? (i := 1144) (by decide +kernel), List.mem_of_getElem? (i := 1145) (by decide +kernel)⟩
theorem lw_p60 : lw_okq (⟨"PromisedSlotsModel", "goneFrame", "(I)V"⟩, 58) := ⟨⟨by decide +kernel, by decide +kernel⟩, List.mem_of_getElem? (i := 752) (by decide +kernel), List.mem_of_getElem? (i := 1148) (by decide +kernel), List.mem_of_getElem? (i := 1149) (by decide +kernel)⟩
theorem lw_p61 : lw_okq (⟨"PromisedSlotsModel", "stepE", "()V"⟩, 58) := ⟨⟨by decide +kernel, by decide +kernel⟩, List.mem_of_getElem? (i := 752) (by decide +kernel), List.mem_of_getElem? (i := 1152) (by decide +kernel), List.mem_of_getElem? (i := 1153) (by decide +kernel)⟩
theorem lw_p62 : lw_okq (⟨"PromisedSlotsModel", "stepF", "()I"⟩, 58) := ⟨⟨by decide +kernel, by decide +kernel⟩, List.mem_of_getElem? (i := 752) (by decide +kernel), List.mem_of_getElem? (i := 1156) (by decide +kernel), List.mem_of_getElem? (i := 1157) (by decide +kernel)⟩
theorem lw_p63 : lw_okq (⟨"PromisedSlotsModel", "ends", "(I)I"⟩, 58) := ⟨⟨by decide +kernel, by decide +kernel⟩, List.mem_of_getElem? (i := 752) (by decide +kernel), List.mem_of_getElem? (i := 1160) (by decide +kernel), List.mem_of_getElem? (i := 1161) (by decide +kernel)⟩
def lw_privs_4 : List (MethodName × Nat) := [(⟨"PromisedSlotsModel", "hasPromise", "(I)Z"⟩, 58), (⟨"PromisedSlotsModel", "shared", "(I)I"⟩, 58), (⟨"PromisedSlotsModel", "taken", "(I)I"⟩, 58), (⟨"PromisedSlotsModel", "firstSlot", "(II)I"⟩, 58), (⟨"PromisedSlotsModel", "part", "(I)I"⟩, 58), (⟨"PromisedSlotsModel", "beacon", "(I)V"⟩, 58), (⟨"PromisedSlotsModel", "stepA", "(I)V"⟩, 58), (⟨"PromisedSlotsModel", "begins", "(I)V"⟩, 58), (⟨"PromisedSlotsModel", "draws", "(I)V"⟩, 58), (⟨"PromisedSlotsModel", "stepsBC", "(II)V"⟩, 58), (⟨"PromisedSlotsModel", "sending", "(II)I"⟩, 58), (⟨"PromisedSlotsModel", "stepD", "(Z)V"⟩, 58), (⟨"PromisedSlotsModel", "goneFrame", "(I)V"⟩, 58), (⟨"PromisedSlotsModel", "stepE", "()V"⟩, 58), (⟨"PromisedSlotsModel", "stepF", "()I"⟩, 58), (⟨"PromisedSlotsModel", "ends", "(I)I"⟩, 58)]
theorem lw_r4 : ∀ q ∈ lw_privs_4, lw_okq q := List.forall_mem_cons.mpr ⟨lw_p48, List.forall_mem_cons.mpr ⟨lw_p49, List.forall_mem_cons.mpr ⟨lw_p50, List.forall_mem_cons.mpr ⟨lw_p51, List.forall_mem_cons.mpr ⟨lw_p52, List.forall_mem_cons.mpr ⟨lw_p53, List.forall_mem_cons.mpr ⟨lw_p54, List.forall_mem_cons.mpr ⟨lw_p55, List.forall_mem_cons.mpr ⟨lw_p56, List.forall_mem_cons.mpr ⟨lw_p57, List.forall_mem_cons.mpr ⟨lw_p58, List.forall_mem_cons.mpr ⟨lw_p59, List.forall_mem_cons.mpr ⟨lw_p60, List.forall_mem_cons.mpr ⟨lw_p61, List.forall_mem_cons.mpr ⟨lw_p62, List.forall_mem_cons.mpr ⟨lw_p63, fun _ h => absurd h List.not_mem_nil⟩⟩⟩⟩⟩⟩⟩⟩⟩⟩⟩⟩⟩⟩⟩⟩
theorem lw_p64 : lw_okq (⟨"PromisedSlotsModel", "uses", "(I)I"⟩, 58) := ⟨⟨by decide +kernel, by decide +kernel⟩, List.mem_of_getElem? (i := 752) (by decide +kernel), List.mem_of_getElem? (i := 1164) (by decide +kernel), List.mem_of_getElem? (i := 1165) (by decide +kernel)⟩
theorem lw_p65 : lw_okq (⟨"PromisedSlotsModel", "orphans", "()I"⟩, 58) := ⟨⟨by decide +kernel, by decide +kernel⟩, List.mem_of_getElem? (i := 752) (by decide +kernel), List.mem_of_getElem? (i := 1186) (by decide +kernel), List.mem_of_getElem? (i := 1187) (by decide +kernel)⟩
def lw_privs_5 : List (MethodName × Nat) := [(⟨"PromisedSlotsModel", "uses", "(I)I"⟩, 58), (⟨"PromisedSlotsModel", "orphans", "()I"⟩, 58)]
theorem lw_r5 : ∀ q ∈ lw_privs_5, lw_okq q := List.forall_mem_cons.mpr ⟨lw_p64, List.forall_mem_cons.mpr ⟨lw_p65, fun _ h => absurd h List.not_mem_nil⟩⟩
def lw_privs : List (MethodName × Nat) := lw_privs_1 ++ (lw_privs_2 ++ (lw_privs_3 ++ (lw_privs_4 ++ (lw_privs_5))))
def lw_tbl : List Cond := k2_sels lw_privs ++ tables_1
theorem lw_privs_ok : ∀ q ∈ lw_privs, lw_okq q := by
  show ∀ q ∈ lw_privs_1 ++ (lw_privs_2 ++ (lw_privs_3 ++ (lw_privs_4 ++ (lw_privs_5)))), lw_okq q
  exact List.forall_mem_append.mpr ⟨lw_r1, List.forall_mem_append.mpr ⟨lw_r2, List.forall_mem_append.mpr ⟨lw_r3, List.forall_mem_append.mpr ⟨lw_r4, lw_r5⟩⟩⟩⟩
def RX0 : String := "PromisedSlots$Contention"
def TX0 : u_T := fun k => match k with
  | 0 => ("PromisedSlots$Contention", "devices", "[LPromisedSlots$Device;", true)
  | 1 => ("PromisedSlots$Contention", "seed", "I", false)
  | 2 => ("PromisedSlots$Contention", "senders", "I", false)
  | _ => ("PromisedSlots$Contention", "lastSender", "I", false)
def tyX0 : Nat → FieldType := fun k => match k with
  | 0 => .array (.object "PromisedSlots$Device")
  | 1 => .int
  | 2 => .int
  | _ => .int
abbrev wsX00 : List Cond := u_ws RX0 TX0 4
theorem nmX0 : ∀ a, a < 4 → ∀ b, b < 4 → a ≠ b → (TX0 a).2.1 ≠ (TX0 b).2.1 := by decide +kernel
theorem tyX0_ok : ∀ k, k < 4 → parseFieldDescriptor (TX0 k).2.2.1 = some (tyX0 k) := by decide +kernel
abbrev cX0_init : ByteArray := prog_2_method_1_code
def yX0_init : MethodName := ⟨RX0, "<init>", "([LPromisedSlots$Device;)V"⟩
abbrev cX0_play : ByteArray := prog_2_method_2_code
def yX0_play : MethodName := ⟨RX0, "play", "([II)I"⟩
abbrev cX0_takeUp : ByteArray := prog_2_method_3_code
def yX0_takeUp : MethodName := ⟨RX0, "takeUp", "(II)Z"⟩
abbrev cX0_begin : ByteArray := prog_2_method_4_code
def yX0_begin : MethodName := ⟨RX0, "begin", "(LPromisedSlots$Device;I)V"⟩
abbrev cX0_airNow : ByteArray := prog_2_method_5_code
def yX0_airNow : MethodName := ⟨RX0, "airNow", "()I"⟩
abbrev cX0_listenAndWait : ByteArray := prog_2_method_6_code
def yX0_listenAndWait : MethodName := ⟨RX0, "listenAndWait", "()V"⟩
abbrev cX0_endFrames : ByteArray := prog_2_method_7_code
def yX0_endFrames : MethodName := ⟨RX0, "endFrames", "()I"⟩
abbrev cX0_endFrame : ByteArray := prog_2_method_8_code
def yX0_endFrame : MethodName := ⟨RX0, "endFrame", "(LPromisedSlots$Device;)I"⟩
abbrev cX0_holdAll : ByteArray := prog_2_method_9_code
def yX0_holdAll : MethodName := ⟨RX0, "holdAll", "()V"⟩
abbrev cX0_draw : ByteArray := prog_2_method_10_code
def yX0_draw : MethodName := ⟨RX0, "draw", "(LPromisedSlots$Device;)V"⟩
def RX1 : String := "PromisedSlots$Coordinator"
def TX1 : u_T := fun k => match k with
  | 0 => ("PromisedSlots$Coordinator", "parent", "I", false)
  | 1 => ("PromisedSlots$Coordinator", "start", "I", false)
  | 2 => ("PromisedSlots$Coordinator", "list", "I", false)
  | 3 => ("PromisedSlots$Coordinator", "nextBeacon", "I", false)
  | 4 => ("PromisedSlots$Coordinator", "parts", "I", false)
  | 5 => ("PromisedSlots$Coordinator", "promises", "LPromisedSlots$Promises;", true)
  | _ => ("PromisedSlots$Coordinator", "air", "[I", true)
def tyX1 : Nat → FieldType := fun k => match k with
  | 0 => .int
  | 1 => .int
  | 2 => .int
  | 3 => .int
  | 4 => .int
  | 5 => .object "PromisedSlots$Promises"
  | _ => .array .int
abbrev wsX10 : List Cond := u_ws RX1 TX1 7
theorem nmX1 : ∀ a, a < 7 → ∀ b, b < 7 → a ≠ b → (TX1 a).2.1 ≠ (TX1 b).2.1 := by decide +kernel
theorem tyX1_ok : ∀ k, k < 7 → parseFieldDescriptor (TX1 k).2.2.1 = some (tyX1 k) := by decide +kernel
abbrev cX1_init : ByteArray := prog_3_method_1_code
def yX1_init : MethodName := ⟨RX1, "<init>", "()V"⟩
abbrev cX1_layAt : ByteArray := prog_3_method_2_code
def yX1_layAt : MethodName := ⟨RX1, "layAt", "(III)V"⟩
abbrev cX1_lists : ByteArray := prog_3_method_3_code
def yX1_lists : MethodName := ⟨RX1, "lists", "(I)Z"⟩
abbrev cX1_enlist : ByteArray := prog_3_method_4_code
def yX1_enlist : MethodName := ⟨RX1, "enlist", "(I)V"⟩
abbrev cX1_forget : ByteArray := prog_3_method_5_code
def yX1_forget : MethodName := ⟨RX1, "forget", "(I)V"⟩
abbrev cX1_tell : ByteArray := prog_3_method_6_code
def yX1_tell : MethodName := ⟨RX1, "tell", "(I)I"⟩
def RX2 : String := "PromisedSlots$Device"
def TX2 : u_T := fun k => match k with
  | 0 => ("PromisedSlots$Device", "number", "I", true)
  | 1 => ("PromisedSlots$Device", "home", "I", false)
  | 2 => ("PromisedSlots$Device", "length", "I", false)
  | 3 => ("PromisedSlots$Device", "firstExponent", "I", false)
  | 4 => ("PromisedSlots$Device", "toContend", "I", false)
  | 5 => ("PromisedSlots$Device", "toBePromised", "I", false)
  | 6 => ("PromisedSlots$Device", "sent", "I", false)
  | 7 => ("PromisedSlots$Device", "givenUp", "I", false)
  | 8 => ("PromisedSlots$Device", "missed", "I", false)
  | 9 => ("PromisedSlots$Device", "deaf", "I", false)
  | 10 => ("PromisedSlots$Device", "doing", "I", false)
  | 11 => ("PromisedSlots$Device", "exponent", "I", false)
  | 12 => ("PromisedSlots$Device", "busyLooks", "I", false)
  | 13 => ("PromisedSlots$Device", "tries", "I", false)
  | 14 => ("PromisedSlots$Device", "hurtFrames", "I", false)
  | 15 => ("PromisedSlots$Device", "heard", "Z", false)
  | 16 => ("PromisedSlots$Device", "wait", "I", false)
  | 17 => ("PromisedSlots$Device", "freeLooks", "I", false)
  | 18 => ("PromisedSlots$Device", "ticksToSend", "I", false)
  | _ => ("PromisedSlots$Device", "hurt", "Z", false)
def tyX2 : Nat → FieldType := fun k => match k with
  | 0 => .int
  | 1 => .int
  | 2 => .int
  | 3 => .int
  | 4 => .int
  | 5 => .int
  | 6 => .int
  | 7 => .int
  | 8 => .int
  | 9 => .int
  | 10 => .int
  | 11 => .int
  | 12 => .int
  | 13 => .int
  | 14 => .int
  | 15 => .boolean
  | 16 => .int
  | 17 => .int
  | 18 => .int
  | _ => .boolean
abbrev wsX20 : List Cond := u_ws RX2 TX2 20
theorem nmX2 : ∀ a, a < 20 → ∀ b, b < 20 → a ≠ b → (TX2 a).2.1 ≠ (TX2 b).2.1 := by decide +kernel
theorem tyX2_ok : ∀ k, k < 20 → parseFieldDescriptor (TX2 k).2.2.1 = some (tyX2 k) := by decide +kernel
abbrev cX2_init : ByteArray := prog_4_method_1_code
def yX2_init : MethodName := ⟨RX2, "<init>", "(I)V"⟩
abbrev cX2_layAt : ByteArray := prog_4_method_2_code
def yX2_layAt : MethodName := ⟨RX2, "layAt", "(III)V"⟩
abbrev cX2_isOrphan : ByteArray := prog_4_method_3_code
def yX2_isOrphan : MethodName := ⟨RX2, "isOrphan", "()Z"⟩
abbrev cX2_comeHome : ByteArray := prog_4_method_4_code
def yX2_comeHome : MethodName := ⟨RX2, "comeHome", "(I)V"⟩
abbrev cX2_hearsBeacon : ByteArray := prog_4_method_5_code
def yX2_hearsBeacon : MethodName := ⟨RX2, "hearsBeacon", "()Z"⟩
abbrev cX2_beginFrame : ByteArray := prog_4_method_6_code
def yX2_beginFrame : MethodName := ⟨RX2, "beginFrame", "()V"⟩
abbrev cX2_waitFor : ByteArray := prog_4_method_7_code
def yX2_waitFor : MethodName := ⟨RX2, "waitFor", "(I)V"⟩
abbrev cX2_waitLess : ByteArray := prog_4_method_8_code
def yX2_waitLess : MethodName := ⟨RX2, "waitLess", "()V"⟩
abbrev cX2_lookOrHold : ByteArray := prog_4_method_9_code
def yX2_lookOrHold : MethodName := ⟨RX2, "lookOrHold", "(II)V"⟩
abbrev cX2_startSending : ByteArray := prog_4_method_10_code
def yX2_startSending : MethodName := ⟨RX2, "startSending", "()V"⟩
abbrev cX2_foundBusy : ByteArray := prog_4_method_11_code
def yX2_foundBusy : MethodName := ⟨RX2, "foundBusy", "()Z"⟩
abbrev cX2_foundHurt : ByteArray := prog_4_method_12_code
def yX2_foundHurt : MethodName := ⟨RX2, "foundHurt", "()Z"⟩
abbrev cX2_frameSent : ByteArray := prog_4_method_13_code
def yX2_frameSent : MethodName := ⟨RX2, "frameSent", "()V"⟩
abbrev cX2_sendPromised : ByteArray := prog_4_method_14_code
def yX2_sendPromised : MethodName := ⟨RX2, "sendPromised", "([III)I"⟩
abbrev cX2_tell : ByteArray := prog_4_method_15_code
def yX2_tell : MethodName := ⟨RX2, "tell", "(I)I"⟩
abbrev cX2_giveUp : ByteArray := prog_4_method_16_code
def yX2_giveUp : MethodName := ⟨RX2, "giveUp", "()V"⟩
abbrev cX2_endFrame : ByteArray := prog_4_method_17_code
def yX2_endFrame : MethodName := ⟨RX2, "endFrame", "()V"⟩
def RX3 : String := "PromisedSlots$Layout"
def TX3 : u_T := fun k => match k with
  | 0 => ("PromisedSlots$Layout", "beat", "I", false)
  | 1 => ("PromisedSlots$Layout", "active", "I", false)
  | 2 => ("PromisedSlots$Layout", "slot", "I", false)
  | 3 => ("PromisedSlots$Layout", "least", "I", false)
  | 4 => ("PromisedSlots$Layout", "life", "I", false)
  | 5 => ("PromisedSlots$Layout", "coordinatorCount", "I", false)
  | 6 => ("PromisedSlots$Layout", "deviceCount", "I", false)
  | 7 => ("PromisedSlots$Layout", "parents", "[I", true)
  | 8 => ("PromisedSlots$Layout", "starts", "[I", true)
  | 9 => ("PromisedSlots$Layout", "homes", "[I", true)
  | 10 => ("PromisedSlots$Layout", "lengths", "[I", true)
  | _ => ("PromisedSlots$Layout", "exponents", "[I", true)
def tyX3 : Nat → FieldType := fun k => match k with
  | 0 => .int
  | 1 => .int
  | 2 => .int
  | 3 => .int
  | 4 => .int
  | 5 => .int
  | 6 => .int
  | 7 => .array .int
  | 8 => .array .int
  | 9 => .array .int
  | 10 => .array .int
  | _ => .array .int
abbrev wsX30 : List Cond := u_ws RX3 TX3 12
theorem nmX3 : ∀ a, a < 12 → ∀ b, b < 12 → a ≠ b → (TX3 a).2.1 ≠ (TX3 b).2.1 := by decide +kernel
theorem tyX3_ok : ∀ k, k < 12 → parseFieldDescriptor (TX3 k).2.2.1 = some (tyX3 k) := by decide +kernel
abbrev cX3_init : ByteArray := prog_5_method_1_code
def yX3_init : MethodName := ⟨RX3, "<init>", "()V"⟩
abbrev cX3_clear : ByteArray := prog_5_method_2_code
def yX3_clear : MethodName := ⟨RX3, "clear", "()V"⟩
abbrev cX3_setOrders : ByteArray := prog_5_method_3_code
def yX3_setOrders : MethodName := ⟨RX3, "setOrders", "(III)V"⟩
abbrev cX3_addCoordinator : ByteArray := prog_5_method_4_code
def yX3_addCoordinator : MethodName := ⟨RX3, "addCoordinator", "(II)V"⟩
abbrev cX3_addDevice : ByteArray := prog_5_method_5_code
def yX3_addDevice : MethodName := ⟨RX3, "addDevice", "(III)V"⟩
abbrev cX3_startBehind : ByteArray := prog_5_method_6_code
def yX3_startBehind : MethodName := ⟨RX3, "startBehind", "(II)I"⟩
abbrev cX3_clashOf : ByteArray := prog_5_method_7_code
def yX3_clashOf : MethodName := ⟨RX3, "clashOf", "(I)I"⟩
abbrev cX3_firstBeacon : ByteArray := prog_5_method_8_code
def yX3_firstBeacon : MethodName := ⟨RX3, "firstBeacon", "(II)I"⟩
abbrev cX3_parentAt : ByteArray := prog_5_method_9_code
def yX3_parentAt : MethodName := ⟨RX3, "parentAt", "(I)I"⟩
abbrev cX3_startAt : ByteArray := prog_5_method_10_code
def yX3_startAt : MethodName := ⟨RX3, "startAt", "(I)I"⟩
abbrev cX3_homeAt : ByteArray := prog_5_method_11_code
def yX3_homeAt : MethodName := ⟨RX3, "homeAt", "(I)I"⟩
abbrev cX3_lengthAt : ByteArray := prog_5_method_12_code
def yX3_lengthAt : MethodName := ⟨RX3, "lengthAt", "(I)I"⟩
abbrev cX3_exponentAt : ByteArray := prog_5_method_13_code
def yX3_exponentAt : MethodName := ⟨RX3, "exponentAt", "(I)I"⟩
def RX4 : String := "PromisedSlots$Promises"
def TX4 : u_T := fun k => match k with
  | 0 => ("PromisedSlots$Promises", "holders", "[I", true)
  | 1 => ("PromisedSlots$Promises", "slots", "[I", true)
  | 2 => ("PromisedSlots$Promises", "idle", "[I", true)
  | _ => ("PromisedSlots$Promises", "size", "I", false)
def tyX4 : Nat → FieldType := fun k => match k with
  | 0 => .array .int
  | 1 => .array .int
  | 2 => .array .int
  | _ => .int
abbrev wsX40 : List Cond := u_ws RX4 TX4 4
theorem nmX4 : ∀ a, a < 4 → ∀ b, b < 4 → a ≠ b → (TX4 a).2.1 ≠ (TX4 b).2.1 := by decide +kernel
theorem tyX4_ok : ∀ k, k < 4 → parseFieldDescriptor (TX4 k).2.2.1 = some (tyX4 k) := by decide +kernel
abbrev cX4_init : ByteArray := prog_6_method_1_code
def yX4_init : MethodName := ⟨RX4, "<init>", "()V"⟩
abbrev cX4_clear : ByteArray := prog_6_method_2_code
def yX4_clear : MethodName := ⟨RX4, "clear", "()V"⟩
abbrev cX4_add : ByteArray := prog_6_method_3_code
def yX4_add : MethodName := ⟨RX4, "add", "(II)V"⟩
abbrev cX4_firstSlot : ByteArray := prog_6_method_4_code
def yX4_firstSlot : MethodName := ⟨RX4, "firstSlot", "(I)I"⟩
abbrev cX4_sharedSlots : ByteArray := prog_6_method_5_code
def yX4_sharedSlots : MethodName := ⟨RX4, "sharedSlots", "()I"⟩
abbrev cX4_placeOf : ByteArray := prog_6_method_6_code
def yX4_placeOf : MethodName := ⟨RX4, "placeOf", "(I)I"⟩
abbrev cX4_removeOf : ByteArray := prog_6_method_7_code
def yX4_removeOf : MethodName := ⟨RX4, "removeOf", "(I)I"⟩
abbrev cX4_removeIdle : ByteArray := prog_6_method_8_code
def yX4_removeIdle : MethodName := ⟨RX4, "removeIdle", "(I)V"⟩
abbrev cX4_noteUse : ByteArray := prog_6_method_9_code
def yX4_noteUse : MethodName := ⟨RX4, "noteUse", "(IZ)V"⟩
abbrev cX4_tell : ByteArray := prog_6_method_10_code
def yX4_tell : MethodName := ⟨RX4, "tell", "(II)I"⟩
abbrev cX4_removeAt : ByteArray := prog_6_method_11_code
def yX4_removeAt : MethodName := ⟨RX4, "removeAt", "(I)V"⟩
def RX5 : String := "PromisedSlots$Reader"
def TX5 : u_T := fun k => match k with
  | 0 => ("PromisedSlots$Reader", "letters", "LPromisedSlots$Row;", true)
  | 1 => ("PromisedSlots$Reader", "place", "I", false)
  | 2 => ("PromisedSlots$Reader", "why", "I", false)
  | _ => ("PromisedSlots$Reader", "clash", "I", false)
def tyX5 : Nat → FieldType := fun k => match k with
  | 0 => .object "PromisedSlots$Row"
  | 1 => .int
  | 2 => .int
  | _ => .int
abbrev wsX50 : List Cond := u_ws RX5 TX5 4
theorem nmX5 : ∀ a, a < 4 → ∀ b, b < 4 → a ≠ b → (TX5 a).2.1 ≠ (TX5 b).2.1 := by decide +kernel
theorem tyX5_ok : ∀ k, k < 4 → parseFieldDescriptor (TX5 k).2.2.1 = some (tyX5 k) := by decide +kernel
abbrev cX5_init : ByteArray := prog_7_method_1_code
def yX5_init : MethodName := ⟨RX5, "<init>", "(LPromisedSlots$Row;)V"⟩
abbrev cX5_readInto : ByteArray := prog_7_method_2_code
def yX5_readInto : MethodName := ⟨RX5, "readInto", "(LPromisedSlots$Layout;)I"⟩
abbrev cX5_readItem : ByteArray := prog_7_method_3_code
def yX5_readItem : MethodName := ⟨RX5, "readItem", "(LPromisedSlots$Layout;)V"⟩
abbrev cX5_readOrders : ByteArray := prog_7_method_4_code
def yX5_readOrders : MethodName := ⟨RX5, "readOrders", "(LPromisedSlots$Layout;)V"⟩
abbrev cX5_readCoordinator : ByteArray := prog_7_method_5_code
def yX5_readCoordinator : MethodName := ⟨RX5, "readCoordinator", "(LPromisedSlots$Layout;)V"⟩
abbrev cX5_readDevice : ByteArray := prog_7_method_6_code
def yX5_readDevice : MethodName := ⟨RX5, "readDevice", "(LPromisedSlots$Layout;)V"⟩
abbrev cX5_readLife : ByteArray := prog_7_method_7_code
def yX5_readLife : MethodName := ⟨RX5, "readLife", "(LPromisedSlots$Layout;)V"⟩
abbrev cX5_readNumber : ByteArray := prog_7_method_8_code
def yX5_readNumber : MethodName := ⟨RX5, "readNumber", "(III)I"⟩
abbrev cX5_readEnd : ByteArray := prog_7_method_9_code
def yX5_readEnd : MethodName := ⟨RX5, "readEnd", "()V"⟩
def RX6 : String := "PromisedSlots$Row"
def TX6 : u_T := fun k => match k with
  | 0 => ("PromisedSlots$Row", "items", "[I", true)
  | _ => ("PromisedSlots$Row", "size", "I", false)
def tyX6 : Nat → FieldType := fun k => match k with
  | 0 => .array .int
  | _ => .int
abbrev wsX60 : List Cond := u_ws RX6 TX6 2
theorem nmX6 : ∀ a, a < 2 → ∀ b, b < 2 → a ≠ b → (TX6 a).2.1 ≠ (TX6 b).2.1 := by decide +kernel
theorem tyX6_ok : ∀ k, k < 2 → parseFieldDescriptor (TX6 k).2.2.1 = some (tyX6 k) := by decide +kernel
abbrev cX6_init : ByteArray := prog_8_method_1_code
def yX6_init : MethodName := ⟨RX6, "<init>", "(I)V"⟩
abbrev cX6_append : ByteArray := prog_8_method_2_code
def yX6_append : MethodName := ⟨RX6, "append", "(I)Z"⟩
abbrev cX6_clear : ByteArray := prog_8_method_3_code
def yX6_clear : MethodName := ⟨RX6, "clear", "()V"⟩
abbrev cX6_at : ByteArray := prog_8_method_4_code
def yX6_at : MethodName := ⟨RX6, "at", "(I)I"⟩
def RX7 : String := "PromisedSlots"
def TX7 : u_T := fun k => match k with
  | 0 => ("PromisedSlots", "letters", "LPromisedSlots$Row;", true)
  | 1 => ("PromisedSlots", "reader", "LPromisedSlots$Reader;", true)
  | 2 => ("PromisedSlots", "causes", "LPromisedSlots$Row;", true)
  | 3 => ("PromisedSlots", "coordinators", "[LPromisedSlots$Coordinator;", true)
  | 4 => ("PromisedSlots", "devices", "[LPromisedSlots$Device;", true)
  | 5 => ("PromisedSlots", "contention", "LPromisedSlots$Contention;", true)
  | 6 => ("PromisedSlots", "laid", "LPromisedSlots$Layout;", false)
  | 7 => ("PromisedSlots", "spare", "LPromisedSlots$Layout;", false)
  | 8 => ("PromisedSlots", "now", "I", false)
  | _ => ("PromisedSlots", "partsGone", "I", false)
def tyX7 : Nat → FieldType := fun k => match k with
  | 0 => .object "PromisedSlots$Row"
  | 1 => .object "PromisedSlots$Reader"
  | 2 => .object "PromisedSlots$Row"
  | 3 => .array (.object "PromisedSlots$Coordinator")
  | 4 => .array (.object "PromisedSlots$Device")
  | 5 => .object "PromisedSlots$Contention"
  | 6 => .object "PromisedSlots$Layout"
  | 7 => .object "PromisedSlots$Layout"
  | 8 => .int
  | _ => .int
abbrev wsX70 : List Cond := u_ws RX7 TX7 10
theorem nmX7 : ∀ a, a < 10 → ∀ b, b < 10 → a ≠ b → (TX7 a).2.1 ≠ (TX7 b).2.1 := by decide +kernel
theorem tyX7_ok : ∀ k, k < 10 → parseFieldDescriptor (TX7 k).2.2.1 = some (tyX7 k) := by decide +kernel
abbrev cX7_init : ByteArray := prog_1_method_1_code
def yX7_init : MethodName := ⟨RX7, "<init>", "()V"⟩
abbrev cX7_write : ByteArray := prog_1_method_2_code
def yX7_write : MethodName := ⟨RX7, "write", "(I)I"⟩
abbrev cX7_wipe : ByteArray := prog_1_method_3_code
def yX7_wipe : MethodName := ⟨RX7, "wipe", "()I"⟩
abbrev cX7_fault : ByteArray := prog_1_method_4_code
def yX7_fault : MethodName := ⟨RX7, "fault", "()I"⟩
abbrev cX7_lay : ByteArray := prog_1_method_5_code
def yX7_lay : MethodName := ⟨RX7, "lay", "()I"⟩
abbrev cX7_cause : ByteArray := prog_1_method_6_code
def yX7_cause : MethodName := ⟨RX7, "cause", "(I)I"⟩
abbrev cX7_nest : ByteArray := prog_1_method_7_code
def yX7_nest : MethodName := ⟨RX7, "nest", "(II)I"⟩
abbrev cX7_seed : ByteArray := prog_1_method_8_code
def yX7_seed : MethodName := ⟨RX7, "seed", "(I)I"⟩
abbrev cX7_join : ByteArray := prog_1_method_9_code
def yX7_join : MethodName := ⟨RX7, "join", "(II)I"⟩
abbrev cX7_drop : ByteArray := prog_1_method_10_code
def yX7_drop : MethodName := ⟨RX7, "drop", "(I)I"⟩
abbrev cX7_load : ByteArray := prog_1_method_11_code
def yX7_load : MethodName := ⟨RX7, "load", "(III)I"⟩
abbrev cX7_deafen : ByteArray := prog_1_method_12_code
def yX7_deafen : MethodName := ⟨RX7, "deafen", "(II)I"⟩
abbrev cX7_scan : ByteArray := prog_1_method_13_code
def yX7_scan : MethodName := ⟨RX7, "scan", "(I)I"⟩
abbrev cX7_ask : ByteArray := prog_1_method_14_code
def yX7_ask : MethodName := ⟨RX7, "ask", "(II)I"⟩
abbrev cX7_release : ByteArray := prog_1_method_15_code
def yX7_release : MethodName := ⟨RX7, "release", "(I)I"⟩
abbrev cX7_promise : ByteArray := prog_1_method_16_code
def yX7_promise : MethodName := ⟨RX7, "promise", "(III)I"⟩
abbrev cX7_run : ByteArray := prog_1_method_17_code
def yX7_run : MethodName := ⟨RX7, "run", "(I)I"⟩
abbrev cX7_air : ByteArray := prog_1_method_18_code
def yX7_air : MethodName := ⟨RX7, "air", "(II)I"⟩
abbrev cX7_coordinator : ByteArray := prog_1_method_19_code
def yX7_coordinator : MethodName := ⟨RX7, "coordinator", "(II)I"⟩
abbrev cX7_device : ByteArray := prog_1_method_20_code
def yX7_device : MethodName := ⟨RX7, "device", "(II)I"⟩
abbrev cX7_count : ByteArray := prog_1_method_21_code
def yX7_count : MethodName := ⟨RX7, "count", "(I)I"⟩
abbrev cX7_deviceAt : ByteArray := prog_1_method_22_code
def yX7_deviceAt : MethodName := ⟨RX7, "deviceAt", "(I)LPromisedSlots$Device;"⟩
abbrev cX7_coordinatorAt : ByteArray := prog_1_method_23_code
def yX7_coordinatorAt : MethodName := ⟨RX7, "coordinatorAt", "(I)LPromisedSlots$Coordinator;"⟩
abbrev cX7_faultOfText : ByteArray := prog_1_method_24_code
def yX7_faultOfText : MethodName := ⟨RX7, "faultOfText", "()I"⟩
abbrev cX7_takeLayout : ByteArray := prog_1_method_25_code
def yX7_takeLayout : MethodName := ⟨RX7, "takeLayout", "()V"⟩
abbrev cX7_promiserOf : ByteArray := prog_1_method_26_code
def yX7_promiserOf : MethodName := ⟨RX7, "promiserOf", "(I)LPromisedSlots$Coordinator;"⟩
abbrev cX7_orphans : ByteArray := prog_1_method_27_code
def yX7_orphans : MethodName := ⟨RX7, "orphans", "()I"⟩
abbrev cX7_nextToBeacon : ByteArray := prog_1_method_28_code
def yX7_nextToBeacon : MethodName := ⟨RX7, "nextToBeacon", "()I"⟩
abbrev cX7_activePart : ByteArray := prog_1_method_29_code
def yX7_activePart : MethodName := ⟨RX7, "activePart", "(ILPromisedSlots$Coordinator;)I"⟩
abbrev cX7_hearBeacon : ByteArray := prog_1_method_30_code
def yX7_hearBeacon : MethodName := ⟨RX7, "hearBeacon", "(I)V"⟩
abbrev cX7_keepPromises : ByteArray := prog_1_method_31_code
def yX7_keepPromises : MethodName := ⟨RX7, "keepPromises", "(LPromisedSlots$Coordinator;)I"⟩
def RX8 : String := "PromisedSlotsModel"
def TX8 : u_T := fun k => match k with
  | 0 => ("PromisedSlotsModel", "length", "I", false)
  | 1 => ("PromisedSlotsModel", "text", "[I", true)
  | 2 => ("PromisedSlotsModel", "spot", "I", false)
  | 3 => ("PromisedSlotsModel", "causeMany", "I", false)
  | 4 => ("PromisedSlotsModel", "causes", "[I", true)
  | 5 => ("PromisedSlotsModel", "readB", "I", false)
  | 6 => ("PromisedSlotsModel", "readS", "I", false)
  | 7 => ("PromisedSlotsModel", "readLeast", "I", false)
  | 8 => ("PromisedSlotsModel", "readLife", "I", false)
  | 9 => ("PromisedSlotsModel", "readCoords", "I", false)
  | 10 => ("PromisedSlotsModel", "readParent", "[I", true)
  | 11 => ("PromisedSlotsModel", "readStart", "[I", true)
  | 12 => ("PromisedSlotsModel", "readDevices", "I", false)
  | 13 => ("PromisedSlotsModel", "readHome", "[I", true)
  | 14 => ("PromisedSlotsModel", "readLength", "[I", true)
  | 15 => ("PromisedSlotsModel", "readExponent", "[I", true)
  | 16 => ("PromisedSlotsModel", "beat", "I", false)
  | 17 => ("PromisedSlotsModel", "active", "I", false)
  | 18 => ("PromisedSlotsModel", "slot", "I", false)
  | 19 => ("PromisedSlotsModel", "least", "I", false)
  | 20 => ("PromisedSlotsModel", "life", "I", false)
  | 21 => ("PromisedSlotsModel", "now", "I", false)
  | 22 => ("PromisedSlotsModel", "seed", "I", false)
  | 23 => ("PromisedSlotsModel", "went", "I", false)
  | 24 => ("PromisedSlotsModel", "coords", "I", false)
  | 25 => ("PromisedSlotsModel", "parent", "[I", true)
  | 26 => ("PromisedSlotsModel", "start", "[I", true)
  | 27 => ("PromisedSlotsModel", "next", "[I", true)
  | 28 => ("PromisedSlotsModel", "parts", "[I", true)
  | 29 => ("PromisedSlotsModel", "list", "[I", true)
  | 30 => ("PromisedSlotsModel", "promises", "[I", true)
  | 31 => ("PromisedSlotsModel", "promised", "[I", true)
  | 32 => ("PromisedSlotsModel", "slots", "[I", true)
  | 33 => ("PromisedSlotsModel", "idle", "[I", true)
  | 34 => ("PromisedSlotsModel", "air", "[I", true)
  | 35 => ("PromisedSlotsModel", "devices", "I", false)
  | 36 => ("PromisedSlotsModel", "home", "[I", true)
  | 37 => ("PromisedSlotsModel", "size", "[I", true)
  | 38 => ("PromisedSlotsModel", "first", "[I", true)
  | 39 => ("PromisedSlotsModel", "contend", "[I", true)
  | 40 => ("PromisedSlotsModel", "toPromise", "[I", true)
  | 41 => ("PromisedSlotsModel", "sent", "[I", true)
  | 42 => ("PromisedSlotsModel", "up", "[I", true)
  | 43 => ("PromisedSlotsModel", "missed", "[I", true)
  | 44 => ("PromisedSlotsModel", "deaf", "[I", true)
  | 45 => ("PromisedSlotsModel", "does", "[I", true)
  | 46 => ("PromisedSlotsModel", "exponent", "[I", true)
  | 47 => ("PromisedSlotsModel", "looks", "[I", true)
  | 48 => ("PromisedSlotsModel", "tries", "[I", true)
  | 49 => ("PromisedSlotsModel", "hurts", "[I", true)
  | 50 => ("PromisedSlotsModel", "heard", "[I", true)
  | 51 => ("PromisedSlotsModel", "waits", "[I", true)
  | 52 => ("PromisedSlotsModel", "looked", "[I", true)
  | 53 => ("PromisedSlotsModel", "left", "[I", true)
  | 54 => ("PromisedSlotsModel", "hurt", "[I", true)
  | 55 => ("PromisedSlotsModel", "drew", "[I", true)
  | 56 => ("PromisedSlotsModel", "why", "I", false)
  | _ => ("PromisedSlotsModel", "whyOther", "I", false)
def tyX8 : Nat → FieldType := fun k => match k with
  | 0 => .int
  | 1 => .array .int
  | 2 => .int
  | 3 => .int
  | 4 => .array .int
  | 5 => .int
  | 6 => .int
  | 7 => .int
  | 8 => .int
  | 9 => .int
  | 10 => .array .int
  | 11 => .array .int
  | 12 => .int
  | 13 => .array .int
  | 14 => .array .int
  | 15 => .array .int
  | 16 => .int
  | 17 => .int
  | 18 => .int
  | 19 => .int
  | 20 => .int
  | 21 => .int
  | 22 => .int
  | 23 => .int
  | 24 => .int
  | 25 => .array .int
  | 26 => .array .int
  | 27 => .array .int
  | 28 => .array .int
  | 29 => .array .int
  | 30 => .array .int
  | 31 => .array .int
  | 32 => .array .int
  | 33 => .array .int
  | 34 => .array .int
  | 35 => .int
  | 36 => .array .int
  | 37 => .array .int
  | 38 => .array .int
  | 39 => .array .int
  | 40 => .array .int
  | 41 => .array .int
  | 42 => .array .int
  | 43 => .array .int
  | 44 => .array .int
  | 45 => .array .int
  | 46 => .array .int
  | 47 => .array .int
  | 48 => .array .int
  | 49 => .array .int
  | 50 => .array .int
  | 51 => .array .int
  | 52 => .array .int
  | 53 => .array .int
  | 54 => .array .int
  | 55 => .array .int
  | 56 => .int
  | _ => .int
abbrev wsX80 : List Cond := u_ws RX8 TX8 58
theorem nmX8 : ∀ a, a < 58 → ∀ b, b < 58 → a ≠ b → (TX8 a).2.1 ≠ (TX8 b).2.1 := by decide +kernel
theorem tyX8_ok : ∀ k, k < 58 → parseFieldDescriptor (TX8 k).2.2.1 = some (tyX8 k) := by decide +kernel
abbrev cX8_init : ByteArray := prog_10_method_1_code
def yX8_init : MethodName := ⟨RX8, "<init>", "()V"⟩
abbrev cX8_in : ByteArray := prog_10_method_2_code
def yX8_in : MethodName := ⟨RX8, "in", "(JJJ)Z"⟩
abbrev cX8_has : ByteArray := prog_10_method_3_code
def yX8_has : MethodName := ⟨RX8, "has", "(II)Z"⟩
abbrev cX8_refuses : ByteArray := prog_10_method_4_code
def yX8_refuses : MethodName := ⟨RX8, "refuses", "(III)I"⟩
abbrev cX8_refusesText : ByteArray := prog_10_method_5_code
def yX8_refusesText : MethodName := ⟨RX8, "refusesText", "(III)I"⟩
abbrev cX8_cause : ByteArray := prog_10_method_6_code
def yX8_cause : MethodName := ⟨RX8, "cause", "(I)I"⟩
abbrev cX8_empty : ByteArray := prog_10_method_7_code
def yX8_empty : MethodName := ⟨RX8, "empty", "()V"⟩
abbrev cX8_beatOf : ByteArray := prog_10_method_8_code
def yX8_beatOf : MethodName := ⟨RX8, "beatOf", "(I)I"⟩
abbrev cX8_coordIs : ByteArray := prog_10_method_9_code
def yX8_coordIs : MethodName := ⟨RX8, "coordIs", "(II)V"⟩
abbrev cX8_deviceIs : ByteArray := prog_10_method_10_code
def yX8_deviceIs : MethodName := ⟨RX8, "deviceIs", "(III)V"⟩
abbrev cX8_write : ByteArray := prog_10_method_11_code
def yX8_write : MethodName := ⟨RX8, "write", "(I)I"⟩
abbrev cX8_wipe : ByteArray := prog_10_method_12_code
def yX8_wipe : MethodName := ⟨RX8, "wipe", "()I"⟩
abbrev cX8_letterAt : ByteArray := prog_10_method_13_code
def yX8_letterAt : MethodName := ⟨RX8, "letterAt", "(I)I"⟩
abbrev cX8_number : ByteArray := prog_10_method_14_code
def yX8_number : MethodName := ⟨RX8, "number", "(III)I"⟩
abbrev cX8_meets : ByteArray := prog_10_method_15_code
def yX8_meets : MethodName := ⟨RX8, "meets", "([IIIII)I"⟩
abbrev cX8_ordersItem : ByteArray := prog_10_method_16_code
def yX8_ordersItem : MethodName := ⟨RX8, "ordersItem", "()V"⟩
abbrev cX8_coordItem : ByteArray := prog_10_method_17_code
def yX8_coordItem : MethodName := ⟨RX8, "coordItem", "()V"⟩
abbrev cX8_deviceItem : ByteArray := prog_10_method_18_code
def yX8_deviceItem : MethodName := ⟨RX8, "deviceItem", "()V"⟩
abbrev cX8_item : ByteArray := prog_10_method_19_code
def yX8_item : MethodName := ⟨RX8, "item", "(IZ)V"⟩
abbrev cX8_readAll : ByteArray := prog_10_method_20_code
def yX8_readAll : MethodName := ⟨RX8, "readAll", "()I"⟩
abbrev cX8_fault : ByteArray := prog_10_method_21_code
def yX8_fault : MethodName := ⟨RX8, "fault", "()I"⟩
abbrev cX8_lay : ByteArray := prog_10_method_22_code
def yX8_lay : MethodName := ⟨RX8, "lay", "()I"⟩
abbrev cX8_begin : ByteArray := prog_10_method_23_code
def yX8_begin : MethodName := ⟨RX8, "begin", "()V"⟩
abbrev cX8_coordBegins : ByteArray := prog_10_method_24_code
def yX8_coordBegins : MethodName := ⟨RX8, "coordBegins", "(III)V"⟩
abbrev cX8_deviceBegins : ByteArray := prog_10_method_25_code
def yX8_deviceBegins : MethodName := ⟨RX8, "deviceBegins", "(I)V"⟩
abbrev cX8_isCoord : ByteArray := prog_10_method_26_code
def yX8_isCoord : MethodName := ⟨RX8, "isCoord", "(I)Z"⟩
abbrev cX8_isDevice : ByteArray := prog_10_method_27_code
def yX8_isDevice : MethodName := ⟨RX8, "isDevice", "(I)Z"⟩
abbrev cX8_nest : ByteArray := prog_10_method_28_code
def yX8_nest : MethodName := ⟨RX8, "nest", "(II)I"⟩
abbrev cX8_seed : ByteArray := prog_10_method_29_code
def yX8_seed : MethodName := ⟨RX8, "seed", "(I)I"⟩
abbrev cX8_taken : ByteArray := prog_10_method_30_code
def yX8_taken : MethodName := ⟨RX8, "taken", "(I)I"⟩
abbrev cX8_shared : ByteArray := prog_10_method_31_code
def yX8_shared : MethodName := ⟨RX8, "shared", "(I)I"⟩
abbrev cX8_firstSlot : ByteArray := prog_10_method_32_code
def yX8_firstSlot : MethodName := ⟨RX8, "firstSlot", "(II)I"⟩
abbrev cX8_promiseOf : ByteArray := prog_10_method_33_code
def yX8_promiseOf : MethodName := ⟨RX8, "promiseOf", "(II)I"⟩
abbrev cX8_letGo : ByteArray := prog_10_method_34_code
def yX8_letGo : MethodName := ⟨RX8, "letGo", "(II)V"⟩
abbrev cX8_goesFrom : ByteArray := prog_10_method_35_code
def yX8_goesFrom : MethodName := ⟨RX8, "goesFrom", "(II)I"⟩
abbrev cX8_join : ByteArray := prog_10_method_36_code
def yX8_join : MethodName := ⟨RX8, "join", "(II)I"⟩
abbrev cX8_drop : ByteArray := prog_10_method_37_code
def yX8_drop : MethodName := ⟨RX8, "drop", "(I)I"⟩
abbrev cX8_load : ByteArray := prog_10_method_38_code
def yX8_load : MethodName := ⟨RX8, "load", "(III)I"⟩
abbrev cX8_deafen : ByteArray := prog_10_method_39_code
def yX8_deafen : MethodName := ⟨RX8, "deafen", "(II)I"⟩
abbrev cX8_scan : ByteArray := prog_10_method_40_code
def yX8_scan : MethodName := ⟨RX8, "scan", "(I)I"⟩
abbrev cX8_hasPromise : ByteArray := prog_10_method_41_code
def yX8_hasPromise : MethodName := ⟨RX8, "hasPromise", "(I)Z"⟩
abbrev cX8_ask : ByteArray := prog_10_method_42_code
def yX8_ask : MethodName := ⟨RX8, "ask", "(II)I"⟩
abbrev cX8_release : ByteArray := prog_10_method_43_code
def yX8_release : MethodName := ⟨RX8, "release", "(I)I"⟩
abbrev cX8_promise : ByteArray := prog_10_method_44_code
def yX8_promise : MethodName := ⟨RX8, "promise", "(III)I"⟩
abbrev cX8_draws : ByteArray := prog_10_method_45_code
def yX8_draws : MethodName := ⟨RX8, "draws", "(I)V"⟩
abbrev cX8_begins : ByteArray := prog_10_method_46_code
def yX8_begins : MethodName := ⟨RX8, "begins", "(I)V"⟩
abbrev cX8_goneFrame : ByteArray := prog_10_method_47_code
def yX8_goneFrame : MethodName := ⟨RX8, "goneFrame", "(I)V"⟩
abbrev cX8_beacon : ByteArray := prog_10_method_48_code
def yX8_beacon : MethodName := ⟨RX8, "beacon", "(I)V"⟩
abbrev cX8_stepA : ByteArray := prog_10_method_49_code
def yX8_stepA : MethodName := ⟨RX8, "stepA", "(I)V"⟩
abbrev cX8_stepsBC : ByteArray := prog_10_method_50_code
def yX8_stepsBC : MethodName := ⟨RX8, "stepsBC", "(II)V"⟩
abbrev cX8_sending : ByteArray := prog_10_method_51_code
def yX8_sending : MethodName := ⟨RX8, "sending", "(II)I"⟩
abbrev cX8_stepD : ByteArray := prog_10_method_52_code
def yX8_stepD : MethodName := ⟨RX8, "stepD", "(Z)V"⟩
abbrev cX8_stepE : ByteArray := prog_10_method_53_code
def yX8_stepE : MethodName := ⟨RX8, "stepE", "()V"⟩
abbrev cX8_stepF : ByteArray := prog_10_method_54_code
def yX8_stepF : MethodName := ⟨RX8, "stepF", "()I"⟩
abbrev cX8_ends : ByteArray := prog_10_method_55_code
def yX8_ends : MethodName := ⟨RX8, "ends", "(I)I"⟩
abbrev cX8_uses : ByteArray := prog_10_method_56_code
def yX8_uses : MethodName := ⟨RX8, "uses", "(I)I"⟩
abbrev cX8_part : ByteArray := prog_10_method_57_code
def yX8_part : MethodName := ⟨RX8, "part", "(I)I"⟩
abbrev cX8_run : ByteArray := prog_10_method_58_code
def yX8_run : MethodName := ⟨RX8, "run", "(I)I"⟩
abbrev cX8_air : ByteArray := prog_10_method_59_code
def yX8_air : MethodName := ⟨RX8, "air", "(II)I"⟩
abbrev cX8_coordinator : ByteArray := prog_10_method_60_code
def yX8_coordinator : MethodName := ⟨RX8, "coordinator", "(II)I"⟩
abbrev cX8_device : ByteArray := prog_10_method_61_code
def yX8_device : MethodName := ⟨RX8, "device", "(II)I"⟩
abbrev cX8_count : ByteArray := prog_10_method_62_code
def yX8_count : MethodName := ⟨RX8, "count", "(I)I"⟩
abbrev cX8_orphans : ByteArray := prog_10_method_63_code
def yX8_orphans : MethodName := ⟨RX8, "orphans", "()I"⟩
def RJ7 : String := "java/util/Arrays"
abbrev cJ7_fill_53178 : ByteArray := prog_15_method_103_code
def yJ7_fill_53178 : MethodName := ⟨RJ7, "fill", "([II)V"⟩
/-- the tables' words that last over calls -/
def U0 : List Cond := lw_tbl.filter goodWord
theorem mkU (i : Nat) (w : Cond) (h : lw_tbl[i]? = some w) (g : goodWord w = true) : w ∈ U0 := List.mem_filter.mpr ⟨List.mem_of_getElem? h, g⟩
theorem U0_good {w : Cond} (h : w ∈ U0) : (w.onTables && w.keeps) = true ∨ ∃ ty, w = .arrayClass ty := good_of_word (List.mem_filter.mp h).2
theorem U0_tbl {w : Cond} (h : w ∈ U0) : w ∈ lw_tbl := (List.mem_filter.mp h).1
def isNest : Cond → Bool
  | .fieldLinkNest .. => true
  | .methodLinkNest .. => true
  | _ => false
/-- the tables' words on nest mates -/
def NW : List Cond := lw_tbl.filter isNest
theorem mkN (i : Nat) (w : Cond) (h : lw_tbl[i]? = some w) (g : isNest w = true) : w ∈ NW := List.mem_filter.mpr ⟨List.mem_of_getElem? h, g⟩
theorem NW_tbl {w : Cond} (h : w ∈ NW) : w ∈ lw_tbl := (List.mem_filter.mp h).1
def hasN (U : State) : Prop := ∀ w ∈ NW, va_Nw w U
theorem hasN.warm {s U : State} (hW : s.WarmedH U.vm) (h : hasN s) : hasN U := by
  intro w hw
  have h1 := h w hw
  have h2 := (List.mem_filter.mp hw).2
  cases w <;> first | exact va_Nw.warmF hW h1 | exact va_Nw.warmM hW h1 | (simp [isNest] at h2)
theorem hasN.same {u U : State} (h : u.vm = U.vm) (hz : hasN u) : hasN U := by
  intro w hw
  have h1 := hz w hw
  have h2 := (List.mem_filter.mp hw).2
  cases w <;> first | exact va_Nw.same rfl h h1 | (simp [isNest] at h2)
theorem inX0 : ∀ w ∈ u_ws RX0 TX0 4, w ∈ U0 := by decide +kernel
theorem inX1 : ∀ w ∈ u_ws RX1 TX1 7, w ∈ U0 := by decide +kernel
theorem inX2 : ∀ w ∈ u_ws RX2 TX2 20, w ∈ U0 := by decide +kernel
theorem inX3 : ∀ w ∈ u_ws RX3 TX3 12, w ∈ U0 := by decide +kernel
theorem inX4 : ∀ w ∈ u_ws RX4 TX4 4, w ∈ U0 := by decide +kernel
theorem inX5 : ∀ w ∈ u_ws RX5 TX5 4, w ∈ U0 := by decide +kernel
theorem inX6 : ∀ w ∈ u_ws RX6 TX6 2, w ∈ U0 := by decide +kernel
theorem inX7 : ∀ w ∈ u_ws RX7 TX7 10, w ∈ U0 := by decide +kernel
theorem inX8 : ∀ w ∈ u_ws RX8 TX8 58, w ∈ U0 := by decide +kernel
