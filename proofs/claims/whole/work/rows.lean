section
/-- a private method of a class that the tables say can be made, by its rows of tables_1 -/
def lw_okq (q : MethodName × Nat) : Prop := (q.1.cls ≠ "java/lang/invoke/MethodHandle" ∧ q.1.cls ≠ "java/lang/invoke/VarHandle") ∧ Cond.instantiable q.1.cls q.2 ∈ tables_1 ∧ Cond.privateMethod q.1 ∈ tables_1 ∧ Cond.instanceMethod q.1 ∈ tables_1
theorem lw_p0 : lw_okq (⟨"PromisedSlots$Reader", "readItem", "(LPromisedSlots$Layout;)V"⟩, 4) := ⟨⟨by decide +kernel, by decide +kernel⟩, List.mem_of_getElem? (i := 44) (by decide +kernel), List.mem_of_getElem? (i := 342) (by decide +kernel), List.mem_of_getElem? (i := 343) (by decide +kernel)⟩
theorem lw_p1 : lw_okq (⟨"PromisedSlots$Reader", "readOrders", "(LPromisedSlots$Layout;)V"⟩, 4) := ⟨⟨by decide +kernel, by decide +kernel⟩, List.mem_of_getElem? (i := 44) (by decide +kernel), List.mem_of_getElem? (i := 350) (by decide +kernel), List.mem_of_getElem? (i := 351) (by decide +kernel)⟩
theorem lw_p2 : lw_okq (⟨"PromisedSlots$Reader", "readNumber", "(III)I"⟩, 4) := ⟨⟨by decide +kernel, by decide +kernel⟩, List.mem_of_getElem? (i := 44) (by decide +kernel), List.mem_of_getElem? (i := 354) (by decide +kernel), List.mem_of_getElem? (i := 355) (by decide +kernel)⟩
theorem lw_p3 : lw_okq (⟨"PromisedSlots$Reader", "readEnd", "()V"⟩, 4) := ⟨⟨by decide +kernel, by decide +kernel⟩, List.mem_of_getElem? (i := 44) (by decide +kernel), List.mem_of_getElem? (i := 361) (by decide +kernel), List.mem_of_getElem? (i := 362) (by decide +kernel)⟩
theorem lw_p4 : lw_okq (⟨"PromisedSlots$Reader", "readCoordinator", "(LPromisedSlots$Layout;)V"⟩, 4) := ⟨⟨by decide +kernel, by decide +kernel⟩, List.mem_of_getElem? (i := 44) (by decide +kernel), List.mem_of_getElem? (i := 369) (by decide +kernel), List.mem_of_getElem? (i := 370) (by decide +kernel)⟩
theorem lw_p5 : lw_okq (⟨"PromisedSlots$Reader", "readDevice", "(LPromisedSlots$Layout;)V"⟩, 4) := ⟨⟨by decide +kernel, by decide +kernel⟩, List.mem_of_getElem? (i := 44) (by decide +kernel), List.mem_of_getElem? (i := 389) (by decide +kernel), List.mem_of_getElem? (i := 390) (by decide +kernel)⟩
theorem lw_p6 : lw_okq (⟨"PromisedSlots$Reader", "readLife", "(LPromisedSlots$Layout;)V"⟩, 4) := ⟨⟨by decide +kernel, by decide +kernel⟩, List.mem_of_getElem? (i := 44) (by decide +kernel), List.mem_of_getElem? (i := 397) (by decide +kernel), List.mem_of_getElem? (i := 398) (by decide +kernel)⟩
theorem lw_p7 : lw_okq (⟨"PromisedSlots", "takeLayout", "()V"⟩, 10) := ⟨⟨by decide +kernel, by decide +kernel⟩, List.mem_of_getElem? (i := 17) (by decide +kernel), List.mem_of_getElem? (i := 401) (by decide +kernel), List.mem_of_getElem? (i := 402) (by decide +kernel)⟩
theorem lw_p8 : lw_okq (⟨"PromisedSlots", "coordinatorAt", "(I)LPromisedSlots$Coordinator;"⟩, 10) := ⟨⟨by decide +kernel, by decide +kernel⟩, List.mem_of_getElem? (i := 17) (by decide +kernel), List.mem_of_getElem? (i := 434) (by decide +kernel), List.mem_of_getElem? (i := 435) (by decide +kernel)⟩
theorem lw_p9 : lw_okq (⟨"PromisedSlots", "faultOfText", "()I"⟩, 10) := ⟨⟨by decide +kernel, by decide +kernel⟩, List.mem_of_getElem? (i := 17) (by decide +kernel), List.mem_of_getElem? (i := 490) (by decide +kernel), List.mem_of_getElem? (i := 491) (by decide +kernel)⟩
theorem lw_p10 : lw_okq (⟨"PromisedSlots", "deviceAt", "(I)LPromisedSlots$Device;"⟩, 10) := ⟨⟨by decide +kernel, by decide +kernel⟩, List.mem_of_getElem? (i := 17) (by decide +kernel), List.mem_of_getElem? (i := 524) (by decide +kernel), List.mem_of_getElem? (i := 525) (by decide +kernel)⟩
theorem lw_p11 : lw_okq (⟨"PromisedSlots$Promises", "removeAt", "(I)V"⟩, 4) := ⟨⟨by decide +kernel, by decide +kernel⟩, List.mem_of_getElem? (i := 151) (by decide +kernel), List.mem_of_getElem? (i := 552) (by decide +kernel), List.mem_of_getElem? (i := 553) (by decide +kernel)⟩
theorem lw_p12 : lw_okq (⟨"PromisedSlots", "promiserOf", "(I)LPromisedSlots$Coordinator;"⟩, 10) := ⟨⟨by decide +kernel, by decide +kernel⟩, List.mem_of_getElem? (i := 17) (by decide +kernel), List.mem_of_getElem? (i := 584) (by decide +kernel), List.mem_of_getElem? (i := 585) (by decide +kernel)⟩
theorem lw_p13 : lw_okq (⟨"PromisedSlots", "nextToBeacon", "()I"⟩, 10) := ⟨⟨by decide +kernel, by decide +kernel⟩, List.mem_of_getElem? (i := 17) (by decide +kernel), List.mem_of_getElem? (i := 612) (by decide +kernel), List.mem_of_getElem? (i := 613) (by decide +kernel)⟩
theorem lw_p14 : lw_okq (⟨"PromisedSlots", "activePart", "(ILPromisedSlots$Coordinator;)I"⟩, 10) := ⟨⟨by decide +kernel, by decide +kernel⟩, List.mem_of_getElem? (i := 17) (by decide +kernel), List.mem_of_getElem? (i := 616) (by decide +kernel), List.mem_of_getElem? (i := 617) (by decide +kernel)⟩
theorem lw_p15 : lw_okq (⟨"PromisedSlots", "hearBeacon", "(I)V"⟩, 10) := ⟨⟨by decide +kernel, by decide +kernel⟩, List.mem_of_getElem? (i := 17) (by decide +kernel), List.mem_of_getElem? (i := 627) (by decide +kernel), List.mem_of_getElem? (i := 628) (by decide +kernel)⟩
def lw_privs_1 : List (MethodName × Nat) := [(⟨"PromisedSlots$Reader", "readItem", "(LPromisedSlots$Layout;)V"⟩, 4), (⟨"PromisedSlots$Reader", "readOrders", "(LPromisedSlots$Layout;)V"⟩, 4), (⟨"PromisedSlots$Reader", "readNumber", "(III)I"⟩, 4), (⟨"PromisedSlots$Reader", "readEnd", "()V"⟩, 4), (⟨"PromisedSlots$Reader", "readCoordinator", "(LPromisedSlots$Layout;)V"⟩, 4), (⟨"PromisedSlots$Reader", "readDevice", "(LPromisedSlots$Layout;)V"⟩, 4), (⟨"PromisedSlots$Reader", "readLife", "(LPromisedSlots$Layout;)V"⟩, 4), (⟨"PromisedSlots", "takeLayout", "()V"⟩, 10), (⟨"PromisedSlots", "coordinatorAt", "(I)LPromisedSlots$Coordinator;"⟩, 10), (⟨"PromisedSlots", "faultOfText", "()I"⟩, 10), (⟨"PromisedSlots", "deviceAt", "(I)LPromisedSlots$Device;"⟩, 10), (⟨"PromisedSlots$Promises", "removeAt", "(I)V"⟩, 4), (⟨"PromisedSlots", "promiserOf", "(I)LPromisedSlots$Coordinator;"⟩, 10), (⟨"PromisedSlots", "nextToBeacon", "()I"⟩, 10), (⟨"PromisedSlots", "activePart", "(ILPromisedSlots$Coordinator;)I"⟩, 10), (⟨"PromisedSlots", "hearBeacon", "(I)V"⟩, 10)]
theorem lw_r1 : ∀ q ∈ lw_privs_1, lw_okq q := List.forall_mem_cons.mpr ⟨lw_p0, List.forall_mem_cons.mpr ⟨lw_p1, List.forall_mem_cons.mpr ⟨lw_p2, List.forall_mem_cons.mpr ⟨lw_p3, List.forall_mem_cons.mpr ⟨lw_p4, List.forall_mem_cons.mpr ⟨lw_p5, List.forall_mem_cons.mpr ⟨lw_p6, List.forall_mem_cons.mpr ⟨lw_p7, List.forall_mem_cons.mpr ⟨lw_p8, List.forall_mem_cons.mpr ⟨lw_p9, List.forall_mem_cons.mpr ⟨lw_p10, List.forall_mem_cons.mpr ⟨lw_p11, List.forall_mem_cons.mpr ⟨lw_p12, List.forall_mem_cons.mpr ⟨lw_p13, List.forall_mem_cons.mpr ⟨lw_p14, List.forall_mem_cons.mpr ⟨lw_p15, fun _ h => absurd h List.not_mem_nil⟩⟩⟩⟩⟩⟩⟩⟩⟩⟩⟩⟩⟩⟩⟩⟩
theorem lw_p16 : lw_okq (⟨"PromisedSlots$Contention", "takeUp", "(II)Z"⟩, 5) := ⟨⟨by decide +kernel, by decide +kernel⟩, List.mem_of_getElem? (i := 65) (by decide +kernel), List.mem_of_getElem? (i := 647) (by decide +kernel), List.mem_of_getElem? (i := 648) (by decide +kernel)⟩
theorem lw_p17 : lw_okq (⟨"PromisedSlots$Contention", "begin", "(LPromisedSlots$Device;I)V"⟩, 5) := ⟨⟨by decide +kernel, by decide +kernel⟩, List.mem_of_getElem? (i := 65) (by decide +kernel), List.mem_of_getElem? (i := 651) (by decide +kernel), List.mem_of_getElem? (i := 652) (by decide +kernel)⟩
theorem lw_p18 : lw_okq (⟨"PromisedSlots$Contention", "draw", "(LPromisedSlots$Device;)V"⟩, 5) := ⟨⟨by decide +kernel, by decide +kernel⟩, List.mem_of_getElem? (i := 65) (by decide +kernel), List.mem_of_getElem? (i := 659) (by decide +kernel), List.mem_of_getElem? (i := 660) (by decide +kernel)⟩
theorem lw_p19 : lw_okq (⟨"PromisedSlots$Contention", "airNow", "()I"⟩, 5) := ⟨⟨by decide +kernel, by decide +kernel⟩, List.mem_of_getElem? (i := 65) (by decide +kernel), List.mem_of_getElem? (i := 676) (by decide +kernel), List.mem_of_getElem? (i := 677) (by decide +kernel)⟩
theorem lw_p20 : lw_okq (⟨"PromisedSlots$Contention", "listenAndWait", "()V"⟩, 5) := ⟨⟨by decide +kernel, by decide +kernel⟩, List.mem_of_getElem? (i := 65) (by decide +kernel), List.mem_of_getElem? (i := 680) (by decide +kernel), List.mem_of_getElem? (i := 681) (by decide +kernel)⟩
theorem lw_p21 : lw_okq (⟨"PromisedSlots$Device", "giveUp", "()V"⟩, 20) := ⟨⟨by decide +kernel, by decide +kernel⟩, List.mem_of_getElem? (i := 197) (by decide +kernel), List.mem_of_getElem? (i := 689) (by decide +kernel), List.mem_of_getElem? (i := 690) (by decide +kernel)⟩
theorem lw_p22 : lw_okq (⟨"PromisedSlots$Device", "endFrame", "()V"⟩, 20) := ⟨⟨by decide +kernel, by decide +kernel⟩, List.mem_of_getElem? (i := 197) (by decide +kernel), List.mem_of_getElem? (i := 693) (by decide +kernel), List.mem_of_getElem? (i := 694) (by decide +kernel)⟩
theorem lw_p23 : lw_okq (⟨"PromisedSlots$Contention", "endFrames", "()I"⟩, 5) := ⟨⟨by decide +kernel, by decide +kernel⟩, List.mem_of_getElem? (i := 65) (by decide +kernel), List.mem_of_getElem? (i := 702) (by decide +kernel), List.mem_of_getElem? (i := 703) (by decide +kernel)⟩
theorem lw_p24 : lw_okq (⟨"PromisedSlots$Contention", "endFrame", "(LPromisedSlots$Device;)I"⟩, 5) := ⟨⟨by decide +kernel, by decide +kernel⟩, List.mem_of_getElem? (i := 65) (by decide +kernel), List.mem_of_getElem? (i := 706) (by decide +kernel), List.mem_of_getElem? (i := 707) (by decide +kernel)⟩
theorem lw_p25 : lw_okq (⟨"PromisedSlots$Contention", "holdAll", "()V"⟩, 5) := ⟨⟨by decide +kernel, by decide +kernel⟩, List.mem_of_getElem? (i := 65) (by decide +kernel), List.mem_of_getElem? (i := 718) (by decide +kernel), List.mem_of_getElem? (i := 719) (by decide +kernel)⟩
theorem lw_p26 : lw_okq (⟨"PromisedSlots", "keepPromises", "(LPromisedSlots$Coordinator;)I"⟩, 10) := ⟨⟨by decide +kernel, by decide +kernel⟩, List.mem_of_getElem? (i := 17) (by decide +kernel), List.mem_of_getElem? (i := 722) (by decide +kernel), List.mem_of_getElem? (i := 723) (by decide +kernel)⟩
theorem lw_p27 : lw_okq (⟨"PromisedSlots", "orphans", "()I"⟩, 10) := ⟨⟨by decide +kernel, by decide +kernel⟩, List.mem_of_getElem? (i := 17) (by decide +kernel), List.mem_of_getElem? (i := 759) (by decide +kernel), List.mem_of_getElem? (i := 760) (by decide +kernel)⟩
theorem lw_p28 : lw_okq (⟨"PromisedSlotsModel", "empty", "()V"⟩, 58) := ⟨⟨by decide +kernel, by decide +kernel⟩, List.mem_of_getElem? (i := 763) (by decide +kernel), List.mem_of_getElem? (i := 769) (by decide +kernel), List.mem_of_getElem? (i := 770) (by decide +kernel)⟩
theorem lw_p29 : lw_okq (⟨"PromisedSlotsModel", "deviceIs", "(III)V"⟩, 58) := ⟨⟨by decide +kernel, by decide +kernel⟩, List.mem_of_getElem? (i := 763) (by decide +kernel), List.mem_of_getElem? (i := 773) (by decide +kernel), List.mem_of_getElem? (i := 774) (by decide +kernel)⟩
theorem lw_p30 : lw_okq (⟨"PromisedSlotsModel", "coordIs", "(II)V"⟩, 58) := ⟨⟨by decide +kernel, by decide +kernel⟩, List.mem_of_getElem? (i := 763) (by decide +kernel), List.mem_of_getElem? (i := 777) (by decide +kernel), List.mem_of_getElem? (i := 778) (by decide +kernel)⟩
theorem lw_p31 : lw_okq (⟨"PromisedSlotsModel", "begin", "()V"⟩, 58) := ⟨⟨by decide +kernel, by decide +kernel⟩, List.mem_of_getElem? (i := 763) (by decide +kernel), List.mem_of_getElem? (i := 781) (by decide +kernel), List.mem_of_getElem? (i := 782) (by decide +kernel)⟩
def lw_privs_2 : List (MethodName × Nat) := [(⟨"PromisedSlots$Contention", "takeUp", "(II)Z"⟩, 5), (⟨"PromisedSlots$Contention", "begin", "(LPromisedSlots$Device;I)V"⟩, 5), (⟨"PromisedSlots$Contention", "draw", "(LPromisedSlots$Device;)V"⟩, 5), (⟨"PromisedSlots$Contention", "airNow", "()I"⟩, 5), (⟨"PromisedSlots$Contention", "listenAndWait", "()V"⟩, 5), (⟨"PromisedSlots$Device", "giveUp", "()V"⟩, 20), (⟨"PromisedSlots$Device", "endFrame", "()V"⟩, 20), (⟨"PromisedSlots$Contention", "endFrames", "()I"⟩, 5), (⟨"PromisedSlots$Contention", "endFrame", "(LPromisedSlots$Device;)I"⟩, 5), (⟨"PromisedSlots$Contention", "holdAll", "()V"⟩, 5), (⟨"PromisedSlots", "keepPromises", "(LPromisedSlots$Coordinator;)I"⟩, 10), (⟨"PromisedSlots", "orphans", "()I"⟩, 10), (⟨"PromisedSlotsModel", "empty", "()V"⟩, 58), (⟨"PromisedSlotsModel", "deviceIs", "(III)V"⟩, 58), (⟨"PromisedSlotsModel", "coordIs", "(II)V"⟩, 58), (⟨"PromisedSlotsModel", "begin", "()V"⟩, 58)]
theorem lw_r2 : ∀ q ∈ lw_privs_2, lw_okq q := List.forall_mem_cons.mpr ⟨lw_p16, List.forall_mem_cons.mpr ⟨lw_p17, List.forall_mem_cons.mpr ⟨lw_p18, List.forall_mem_cons.mpr ⟨lw_p19, List.forall_mem_cons.mpr ⟨lw_p20, List.forall_mem_cons.mpr ⟨lw_p21, List.forall_mem_cons.mpr ⟨lw_p22, List.forall_mem_cons.mpr ⟨lw_p23, List.forall_mem_cons.mpr ⟨lw_p24, List.forall_mem_cons.mpr ⟨lw_p25, List.forall_mem_cons.mpr ⟨lw_p26, List.forall_mem_cons.mpr ⟨lw_p27, List.forall_mem_cons.mpr ⟨lw_p28, List.forall_mem_cons.mpr ⟨lw_p29, List.forall_mem_cons.mpr ⟨lw_p30, List.forall_mem_cons.mpr ⟨lw_p31, fun _ h => absurd h List.not_mem_nil⟩⟩⟩⟩⟩⟩⟩⟩⟩⟩⟩⟩⟩⟩⟩⟩
theorem lw_p32 : lw_okq (⟨"PromisedSlotsModel", "coordBegins", "(III)V"⟩, 58) := ⟨⟨by decide +kernel, by decide +kernel⟩, List.mem_of_getElem? (i := 763) (by decide +kernel), List.mem_of_getElem? (i := 788) (by decide +kernel), List.mem_of_getElem? (i := 789) (by decide +kernel)⟩
theorem lw_p33 : lw_okq (⟨"PromisedSlotsModel", "deviceBegins", "(I)V"⟩, 58) := ⟨⟨by decide +kernel, by decide +kernel⟩, List.mem_of_getElem? (i := 763) (by decide +kernel), List.mem_of_getElem? (i := 792) (by decide +kernel), List.mem_of_getElem? (i := 793) (by decide +kernel)⟩
theorem lw_p34 : lw_okq (⟨"PromisedSlotsModel", "readAll", "()I"⟩, 58) := ⟨⟨by decide +kernel, by decide +kernel⟩, List.mem_of_getElem? (i := 763) (by decide +kernel), List.mem_of_getElem? (i := 992) (by decide +kernel), List.mem_of_getElem? (i := 993) (by decide +kernel)⟩
theorem lw_p35 : lw_okq (⟨"PromisedSlotsModel", "letterAt", "(I)I"⟩, 58) := ⟨⟨by decide +kernel, by decide +kernel⟩, List.mem_of_getElem? (i := 763) (by decide +kernel), List.mem_of_getElem? (i := 996) (by decide +kernel), List.mem_of_getElem? (i := 997) (by decide +kernel)⟩
theorem lw_p36 : lw_okq (⟨"PromisedSlotsModel", "item", "(IZ)V"⟩, 58) := ⟨⟨by decide +kernel, by decide +kernel⟩, List.mem_of_getElem? (i := 763) (by decide +kernel), List.mem_of_getElem? (i := 1000) (by decide +kernel), List.mem_of_getElem? (i := 1001) (by decide +kernel)⟩
theorem lw_p37 : lw_okq (⟨"PromisedSlotsModel", "ordersItem", "()V"⟩, 58) := ⟨⟨by decide +kernel, by decide +kernel⟩, List.mem_of_getElem? (i := 763) (by decide +kernel), List.mem_of_getElem? (i := 1004) (by decide +kernel), List.mem_of_getElem? (i := 1005) (by decide +kernel)⟩
theorem lw_p38 : lw_okq (⟨"PromisedSlotsModel", "number", "(III)I"⟩, 58) := ⟨⟨by decide +kernel, by decide +kernel⟩, List.mem_of_getElem? (i := 763) (by decide +kernel), List.mem_of_getElem? (i := 1008) (by decide +kernel), List.mem_of_getElem? (i := 1009) (by decide +kernel)⟩
theorem lw_p39 : lw_okq (⟨"PromisedSlotsModel", "coordItem", "()V"⟩, 58) := ⟨⟨by decide +kernel, by decide +kernel⟩, List.mem_of_getElem? (i := 763) (by decide +kernel), List.mem_of_getElem? (i := 1014) (by decide +kernel), List.mem_of_getElem? (i := 1015) (by decide +kernel)⟩
theorem lw_p40 : lw_okq (⟨"PromisedSlotsModel", "deviceItem", "()V"⟩, 58) := ⟨⟨by decide +kernel, by decide +kernel⟩, List.mem_of_getElem? (i := 763) (by decide +kernel), List.mem_of_getElem? (i := 1021) (by decide +kernel), List.mem_of_getElem? (i := 1022) (by decide +kernel)⟩
theorem lw_p41 : lw_okq (⟨"PromisedSlotsModel", "refusesText", "(III)I"⟩, 58) := ⟨⟨by decide +kernel, by decide +kernel⟩, List.mem_of_getElem? (i := 763) (by decide +kernel), List.mem_of_getElem? (i := 1025) (by decide +kernel), List.mem_of_getElem? (i := 1026) (by decide +kernel)⟩
theorem lw_p42 : lw_okq (⟨"PromisedSlotsModel", "refuses", "(III)I"⟩, 58) := ⟨⟨by decide +kernel, by decide +kernel⟩, List.mem_of_getElem? (i := 763) (by decide +kernel), List.mem_of_getElem? (i := 1033) (by decide +kernel), List.mem_of_getElem? (i := 1034) (by decide +kernel)⟩
theorem lw_p43 : lw_okq (⟨"PromisedSlotsModel", "isCoord", "(I)Z"⟩, 58) := ⟨⟨by decide +kernel, by decide +kernel⟩, List.mem_of_getElem? (i := 763) (by decide +kernel), List.mem_of_getElem? (i := 1041) (by decide +kernel), List.mem_of_getElem? (i := 1042) (by decide +kernel)⟩
theorem lw_p44 : lw_okq (⟨"PromisedSlotsModel", "isDevice", "(I)Z"⟩, 58) := ⟨⟨by decide +kernel, by decide +kernel⟩, List.mem_of_getElem? (i := 763) (by decide +kernel), List.mem_of_getElem? (i := 1054) (by decide +kernel), List.mem_of_getElem? (i := 1055) (by decide +kernel)⟩
theorem lw_p45 : lw_okq (⟨"PromisedSlotsModel", "goesFrom", "(II)I"⟩, 58) := ⟨⟨by decide +kernel, by decide +kernel⟩, List.mem_of_getElem? (i := 763) (by decide +kernel), List.mem_of_getElem? (i := 1061) (by decide +kernel), List.mem_of_getElem? (i := 1062) (by decide +kernel)⟩
theorem lw_p46 : lw_okq (⟨"PromisedSlotsModel", "promiseOf", "(II)I"⟩, 58) := ⟨⟨by decide +kernel, by decide +kernel⟩, List.mem_of_getElem? (i := 763) (by decide +kernel), List.mem_of_getElem? (i := 1065) (by decide +kernel), List.mem_of_getElem? (i := 1066) (by decide +kernel)⟩
theorem lw_p47 : lw_okq (⟨"PromisedSlotsModel", "letGo", "(II)V"⟩, 58) := ⟨⟨by decide +kernel, by decide +kernel⟩, List.mem_of_getElem? (i := 763) (by decide +kernel), List.mem_of_getElem? (i := 1069) (by decide +kernel), List.mem_of_getElem? (i := 1070) (by decide +kernel)⟩
def lw_privs_3 : List (MethodName × Nat) := [(⟨"PromisedSlotsModel", "coordBegins", "(III)V"⟩, 58), (⟨"PromisedSlotsModel", "deviceBegins", "(I)V"⟩, 58), (⟨"PromisedSlotsModel", "readAll", "()I"⟩, 58), (⟨"PromisedSlotsModel", "letterAt", "(I)I"⟩, 58), (⟨"PromisedSlotsModel", "item", "(IZ)V"⟩, 58), (⟨"PromisedSlotsModel", "ordersItem", "()V"⟩, 58), (⟨"PromisedSlotsModel", "number", "(III)I"⟩, 58), (⟨"PromisedSlotsModel", "coordItem", "()V"⟩, 58), (⟨"PromisedSlotsModel", "deviceItem", "()V"⟩, 58), (⟨"PromisedSlotsModel", "refusesText", "(III)I"⟩, 58), (⟨"PromisedSlotsModel", "refuses", "(III)I"⟩, 58), (⟨"PromisedSlotsModel", "isCoord", "(I)Z"⟩, 58), (⟨"PromisedSlotsModel", "isDevice", "(I)Z"⟩, 58), (⟨"PromisedSlotsModel", "goesFrom", "(II)I"⟩, 58), (⟨"PromisedSlotsModel", "promiseOf", "(II)I"⟩, 58), (⟨"PromisedSlotsModel", "letGo", "(II)V"⟩, 58)]
theorem lw_r3 : ∀ q ∈ lw_privs_3, lw_okq q := List.forall_mem_cons.mpr ⟨lw_p32, List.forall_mem_cons.mpr ⟨lw_p33, List.forall_mem_cons.mpr ⟨lw_p34, List.forall_mem_cons.mpr ⟨lw_p35, List.forall_mem_cons.mpr ⟨lw_p36, List.forall_mem_cons.mpr ⟨lw_p37, List.forall_mem_cons.mpr ⟨lw_p38, List.forall_mem_cons.mpr ⟨lw_p39, List.forall_mem_cons.mpr ⟨lw_p40, List.forall_mem_cons.mpr ⟨lw_p41, List.forall_mem_cons.mpr ⟨lw_p42, List.forall_mem_cons.mpr ⟨lw_p43, List.forall_mem_cons.mpr ⟨lw_p44, List.forall_mem_cons.mpr ⟨lw_p45, List.forall_mem_cons.mpr ⟨lw_p46, List.forall_mem_cons.mpr ⟨lw_p47, fun _ h => absurd h List.not_mem_nil⟩⟩⟩⟩⟩⟩⟩⟩⟩⟩⟩⟩⟩⟩⟩⟩
theorem lw_p48 : lw_okq (⟨"PromisedSlotsModel", "hasPromise", "(I)Z"⟩, 58) := ⟨⟨by decide +kernel, by decide +kernel⟩, List.mem_of_getElem? (i := 763) (by decide +kernel), List.mem_of_getElem? (i := 1096) (by decide +kernel), List.mem_of_getElem? (i := 1097) (by decide +kernel)⟩
theorem lw_p49 : lw_okq (⟨"PromisedSlotsModel", "shared", "(I)I"⟩, 58) := ⟨⟨by decide +kernel, by decide +kernel⟩, List.mem_of_getElem? (i := 763) (by decide +kernel), List.mem_of_getElem? (i := 1100) (by decide +kernel), List.mem_of_getElem? (i := 1101) (by decide +kernel)⟩
theorem lw_p50 : lw_okq (⟨"PromisedSlotsModel", "taken", "(I)I"⟩, 58) := ⟨⟨by decide +kernel, by decide +kernel⟩, List.mem_of_getElem? (i := 763) (by decide +kernel), List.mem_of_getElem? (i := 1104) (by decide +kernel), List.mem_of_getElem? (i := 1105) (by decide +kernel)⟩
theorem lw_p51 : lw_okq (⟨"PromisedSlotsModel", "firstSlot", "(II)I"⟩, 58) := ⟨⟨by decide +kernel, by decide +kernel⟩, List.mem_of_getElem? (i := 763) (by decide +kernel), List.mem_of_getElem? (i := 1108) (by decide +kernel), List.mem_of_getElem? (i := 1109) (by decide +kernel)⟩
theorem lw_p52 : lw_okq (⟨"PromisedSlotsModel", "part", "(I)I"⟩, 58) := ⟨⟨by decide +kernel, by decide +kernel⟩, List.mem_of_getElem? (i := 763) (by decide +kernel), List.mem_of_getElem? (i := 1126) (by decide +kernel), List.mem_of_getElem? (i := 1127) (by decide +kernel)⟩
theorem lw_p53 : lw_okq (⟨"PromisedSlotsModel", "beacon", "(I)V"⟩, 58) := ⟨⟨by decide +kernel, by decide +kernel⟩, List.mem_of_getElem? (i := 763) (by decide +kernel), List.mem_of_getElem? (i := 1130) (by decide +kernel), List.mem_of_getElem? (i := 1131) (by decide +kernel)⟩
theorem lw_p54 : lw_okq (⟨"PromisedSlotsModel", "stepA", "(I)V"⟩, 58) := ⟨⟨by decide +kernel, by decide +kernel⟩, List.mem_of_getElem? (i := 763) (by decide +kernel), List.mem_of_getElem? (i := 1134) (by decide +kernel), List.mem_of_getElem? (i := 1135) (by decide +kernel)⟩
theorem lw_p55 : lw_okq (⟨"PromisedSlotsModel", "begins", "(I)V"⟩, 58) := ⟨⟨by decide +kernel, by decide +kernel⟩, List.mem_of_getElem? (i := 763) (by decide +kernel), List.mem_of_getElem? (i := 1138) (by decide +kernel), List.mem_of_getElem? (i := 1139) (by decide +kernel)⟩
theorem lw_p56 : lw_okq (⟨"PromisedSlotsModel", "draws", "(I)V"⟩, 58) := ⟨⟨by decide +kernel, by decide +kernel⟩, List.mem_of_getElem? (i := 763) (by decide +kernel), List.mem_of_getElem? (i := 1142) (by decide +kernel), List.mem_of_getElem? (i := 1143) (by decide +kernel)⟩
theorem lw_p57 : lw_okq (⟨"PromisedSlotsModel", "stepsBC", "(II)V"⟩, 58) := ⟨⟨by decide +kernel, by decide +kernel⟩, List.mem_of_getElem? (i := 763) (by decide +kernel), List.mem_of_getElem? (i := 1147) (by decide +kernel), List.mem_of_getElem? (i := 1148) (by decide +kernel)⟩
theorem lw_p58 : lw_okq (⟨"PromisedSlotsModel", "sending", "(II)I"⟩, 58) := ⟨⟨by decide +kernel, by decide +kernel⟩, List.mem_of_getElem? (i := 763) (by decide +kernel), List.mem_of_getElem? (i := 1151) (by decide +kernel), List.mem_of_getElem? (i := 1152) (by decide +kernel)⟩
theorem lw_p59 : lw_okq (⟨"PromisedSlotsModel", "stepD", "(Z)V"⟩, 58) := ⟨⟨by decide +kernel, by decide +kernel⟩, List.mem_of_getElem? (i := 763) (by decide +kernel), List.mem_of_getElem? (i := 1155) (by decide +kernel), List.mem_of_getElem? (i := 1156) (by decide +kernel)⟩
theorem lw_p60 : lw_okq (⟨"PromisedSlotsModel", "goneFrame", "(I)V"⟩, 58) := ⟨⟨by decide +kernel, by decide +kernel⟩, List.mem_of_getElem? (i := 763) (by decide +kernel), List.mem_of_getElem? (i := 1159) (by decide +kernel), List.mem_of_getElem? (i := 1160) (by decide +kernel)⟩
theorem lw_p61 : lw_okq (⟨"PromisedSlotsModel", "stepE", "()V"⟩, 58) := ⟨⟨by decide +kernel, by decide +kernel⟩, List.mem_of_getElem? (i := 763) (by decide +kernel), List.mem_of_getElem? (i := 1163) (by decide +kernel), List.mem_of_getElem? (i := 1164) (by decide +kernel)⟩
theorem lw_p62 : lw_okq (⟨"PromisedSlotsModel", "stepF", "()I"⟩, 58) := ⟨⟨by decide +kernel, by decide +kernel⟩, List.mem_of_getElem? (i := 763) (by decide +kernel), List.mem_of_getElem? (i := 1167) (by decide +kernel), List.mem_of_getElem? (i := 1168) (by decide +kernel)⟩
theorem lw_p63 : lw_okq (⟨"PromisedSlotsModel", "ends", "(I)I"⟩, 58) := ⟨⟨by decide +kernel, by decide +kernel⟩, List.mem_of_getElem? (i := 763) (by decide +kernel), List.mem_of_getElem? (i := 1171) (by decide +kernel), List.mem_of_getElem? (i := 1172) (by decide +kernel)⟩
def lw_privs_4 : List (MethodName × Nat) := [(⟨"PromisedSlotsModel", "hasPromise", "(I)Z"⟩, 58), (⟨"PromisedSlotsModel", "shared", "(I)I"⟩, 58), (⟨"PromisedSlotsModel", "taken", "(I)I"⟩, 58), (⟨"PromisedSlotsModel", "firstSlot", "(II)I"⟩, 58), (⟨"PromisedSlotsModel", "part", "(I)I"⟩, 58), (⟨"PromisedSlotsModel", "beacon", "(I)V"⟩, 58), (⟨"PromisedSlotsModel", "stepA", "(I)V"⟩, 58), (⟨"PromisedSlotsModel", "begins", "(I)V"⟩, 58), (⟨"PromisedSlotsModel", "draws", "(I)V"⟩, 58), (⟨"PromisedSlotsModel", "stepsBC", "(II)V"⟩, 58), (⟨"PromisedSlotsModel", "sending", "(II)I"⟩, 58), (⟨"PromisedSlotsModel", "stepD", "(Z)V"⟩, 58), (⟨"PromisedSlotsModel", "goneFrame", "(I)V"⟩, 58), (⟨"PromisedSlotsModel", "stepE", "()V"⟩, 58), (⟨"PromisedSlotsModel", "stepF", "()I"⟩, 58), (⟨"PromisedSlotsModel", "ends", "(I)I"⟩, 58)]
theorem lw_r4 : ∀ q ∈ lw_privs_4, lw_okq q := List.forall_mem_cons.mpr ⟨lw_p48, List.forall_mem_cons.mpr ⟨lw_p49, List.forall_mem_cons.mpr ⟨lw_p50, List.forall_mem_cons.mpr ⟨lw_p51, List.forall_mem_cons.mpr ⟨lw_p52, List.forall_mem_cons.mpr ⟨lw_p53, List.forall_mem_cons.mpr ⟨lw_p54, List.forall_mem_cons.mpr ⟨lw_p55, List.forall_mem_cons.mpr ⟨lw_p56, List.forall_mem_cons.mpr ⟨lw_p57, List.forall_mem_cons.mpr ⟨lw_p58, List.forall_mem_cons.mpr ⟨lw_p59, List.forall_mem_cons.mpr ⟨lw_p60, List.forall_mem_cons.mpr ⟨lw_p61, List.forall_mem_cons.mpr ⟨lw_p62, List.forall_mem_cons.mpr ⟨lw_p63, fun _ h => absurd h List.not_mem_nil⟩⟩⟩⟩⟩⟩⟩⟩⟩⟩⟩⟩⟩⟩⟩⟩
theorem lw_p64 : lw_okq (⟨"PromisedSlotsModel", "uses", "(I)I"⟩, 58) := ⟨⟨by decide +kernel, by decide +kernel⟩, List.mem_of_getElem? (i := 763) (by decide +kernel), List.mem_of_getElem? (i := 1175) (by decide +kernel), List.mem_of_getElem? (i := 1176) (by decide +kernel)⟩
theorem lw_p65 : lw_okq (⟨"PromisedSlotsModel", "orphans", "()I"⟩, 58) := ⟨⟨by decide +kernel, by decide +kernel⟩, List.mem_of_getElem? (i := 763) (by decide +kernel), List.mem_of_getElem? (i := 1197) (by decide +kernel), List.mem_of_getElem? (i := 1198) (by decide +kernel)⟩
def lw_privs_5 : List (MethodName × Nat) := [(⟨"PromisedSlotsModel", "uses", "(I)I"⟩, 58), (⟨"PromisedSlotsModel", "orphans", "()I"⟩, 58)]
theorem lw_r5 : ∀ q ∈ lw_privs_5, lw_okq q := List.forall_mem_cons.mpr ⟨lw_p64, List.forall_mem_cons.mpr ⟨lw_p65, fun _ h => absurd h List.not_mem_nil⟩⟩
def lw_privs : List (MethodName × Nat) := lw_privs_1 ++ (lw_privs_2 ++ (lw_privs_3 ++ (lw_privs_4 ++ (lw_privs_5))))
def lw_tbl : List Cond := k2_sels lw_privs ++ tables_1
theorem lw_privs_ok : ∀ q ∈ lw_privs, lw_okq q := by
  show ∀ q ∈ lw_privs_1 ++ (lw_privs_2 ++ (lw_privs_3 ++ (lw_privs_4 ++ (lw_privs_5)))), lw_okq q
  exact List.forall_mem_append.mpr ⟨lw_r1, List.forall_mem_append.mpr ⟨lw_r2, List.forall_mem_append.mpr ⟨lw_r3, List.forall_mem_append.mpr ⟨lw_r4, lw_r5⟩⟩⟩⟩
def RX0 : String := "PromisedSlots$Contention"
def TX0 : u_T := fun k => match k with
  | 0 => ("PromisedSlots$Contention", "party", "[LPromisedSlots$Device;", true)
  | 1 => ("PromisedSlots$Contention", "partySize", "I", false)
  | 2 => ("PromisedSlots$Contention", "seed", "I", false)
  | 3 => ("PromisedSlots$Contention", "senders", "I", false)
  | _ => ("PromisedSlots$Contention", "lastSender", "I", false)
def tyX0 : Nat → FieldType := fun k => match k with
  | 0 => .array (.object "PromisedSlots$Device")
  | 1 => .int
  | 2 => .int
  | 3 => .int
  | _ => .int
abbrev wsX00 : List Cond := u_ws RX0 TX0 5
theorem nmX0 : ∀ a, a < 5 → ∀ b, b < 5 → a ≠ b → (TX0 a).2.1 ≠ (TX0 b).2.1 := by decide +kernel
theorem tyX0_ok : ∀ k, k < 5 → parseFieldDescriptor (TX0 k).2.2.1 = some (tyX0 k) := by decide +kernel
abbrev cX0_init : ByteArray := prog_2_method_1_code
def yX0_init : MethodName := ⟨RX0, "<init>", "()V"⟩
abbrev cX0_clear : ByteArray := prog_2_method_2_code
def yX0_clear : MethodName := ⟨RX0, "clear", "()V"⟩
abbrev cX0_admit : ByteArray := prog_2_method_3_code
def yX0_admit : MethodName := ⟨RX0, "admit", "(LPromisedSlots$Device;)V"⟩
abbrev cX0_play : ByteArray := prog_2_method_4_code
def yX0_play : MethodName := ⟨RX0, "play", "([II)I"⟩
abbrev cX0_takeUp : ByteArray := prog_2_method_5_code
def yX0_takeUp : MethodName := ⟨RX0, "takeUp", "(II)Z"⟩
abbrev cX0_begin : ByteArray := prog_2_method_6_code
def yX0_begin : MethodName := ⟨RX0, "begin", "(LPromisedSlots$Device;I)V"⟩
abbrev cX0_airNow : ByteArray := prog_2_method_7_code
def yX0_airNow : MethodName := ⟨RX0, "airNow", "()I"⟩
abbrev cX0_listenAndWait : ByteArray := prog_2_method_8_code
def yX0_listenAndWait : MethodName := ⟨RX0, "listenAndWait", "()V"⟩
abbrev cX0_endFrames : ByteArray := prog_2_method_9_code
def yX0_endFrames : MethodName := ⟨RX0, "endFrames", "()I"⟩
abbrev cX0_endFrame : ByteArray := prog_2_method_10_code
def yX0_endFrame : MethodName := ⟨RX0, "endFrame", "(LPromisedSlots$Device;)I"⟩
abbrev cX0_holdAll : ByteArray := prog_2_method_11_code
def yX0_holdAll : MethodName := ⟨RX0, "holdAll", "()V"⟩
abbrev cX0_draw : ByteArray := prog_2_method_12_code
def yX0_draw : MethodName := ⟨RX0, "draw", "(LPromisedSlots$Device;)V"⟩
def RX1 : String := "PromisedSlots$Coordinator"
def TX1 : u_T := fun k => match k with
  | 0 => ("PromisedSlots$Coordinator", "parent", "I", false)
  | 1 => ("PromisedSlots$Coordinator", "start", "I", false)
  | 2 => ("PromisedSlots$Coordinator", "list", "I", false)
  | 3 => ("PromisedSlots$Coordinator", "nextBeacon", "I", false)
  | 4 => ("PromisedSlots$Coordinator", "parts", "I", false)
  | 5 => ("PromisedSlots$Coordinator", "promises", "LPromisedSlots$Promises;", true)
  | _ => ("PromisedSlots$Coordinator", "air", "[I", true)
def tyX1 : Nat → FieldType := fun k => match k with
  | 0 => .int
  | 1 => .int
  | 2 => .int
  | 3 => .int
  | 4 => .int
  | 5 => .object "PromisedSlots$Promises"
  | _ => .array .int
abbrev wsX10 : List Cond := u_ws RX1 TX1 7
theorem nmX1 : ∀ a, a < 7 → ∀ b, b < 7 → a ≠ b → (TX1 a).2.1 ≠ (TX1 b).2.1 := by decide +kernel
theorem tyX1_ok : ∀ k, k < 7 → parseFieldDescriptor (TX1 k).2.2.1 = some (tyX1 k) := by decide +kernel
abbrev cX1_init : ByteArray := prog_3_method_1_code
def yX1_init : MethodName := ⟨RX1, "<init>", "()V"⟩
abbrev cX1_layAt : ByteArray := prog_3_method_2_code
def yX1_layAt : MethodName := ⟨RX1, "layAt", "(III)V"⟩
abbrev cX1_lists : ByteArray := prog_3_method_3_code
def yX1_lists : MethodName := ⟨RX1, "lists", "(I)Z"⟩
abbrev cX1_enlist : ByteArray := prog_3_method_4_code
def yX1_enlist : MethodName := ⟨RX1, "enlist", "(I)V"⟩
abbrev cX1_forget : ByteArray := prog_3_method_5_code
def yX1_forget : MethodName := ⟨RX1, "forget", "(I)V"⟩
abbrev cX1_tell : ByteArray := prog_3_method_6_code
def yX1_tell : MethodName := ⟨RX1, "tell", "(I)I"⟩
def RX2 : String := "PromisedSlots$Device"
def TX2 : u_T := fun k => match k with
  | 0 => ("PromisedSlots$Device", "number", "I", true)
  | 1 => ("PromisedSlots$Device", "home", "I", false)
  | 2 => ("PromisedSlots$Device", "length", "I", false)
  | 3 => ("PromisedSlots$Device", "firstExponent", "I", false)
  | 4 => ("PromisedSlots$Device", "toContend", "I", false)
  | 5 => ("PromisedSlots$Device", "toBePromised", "I", false)
  | 6 => ("PromisedSlots$Device", "sent", "I", false)
  | 7 => ("PromisedSlots$Device", "givenUp", "I", false)
  | 8 => ("PromisedSlots$Device", "missed", "I", false)
  | 9 => ("PromisedSlots$Device", "deaf", "I", false)
  | 10 => ("PromisedSlots$Device", "doing", "I", false)
  | 11 => ("PromisedSlots$Device", "exponent", "I", false)
  | 12 => ("PromisedSlots$Device", "busyLooks", "I", false)
  | 13 => ("PromisedSlots$Device", "tries", "I", false)
  | 14 => ("PromisedSlots$Device", "hurtFrames", "I", false)
  | 15 => ("PromisedSlots$Device", "heard", "Z", false)
  | 16 => ("PromisedSlots$Device", "wait", "I", false)
  | 17 => ("PromisedSlots$Device", "freeLooks", "I", false)
  | 18 => ("PromisedSlots$Device", "ticksToSend", "I", false)
  | _ => ("PromisedSlots$Device", "hurt", "Z", false)
def tyX2 : Nat → FieldType := fun k => match k with
  | 0 => .int
  | 1 => .int
  | 2 => .int
  | 3 => .int
  | 4 => .int
  | 5 => .int
  | 6 => .int
  | 7 => .int
  | 8 => .int
  | 9 => .int
  | 10 => .int
  | 11 => .int
  | 12 => .int
  | 13 => .int
  | 14 => .int
  | 15 => .boolean
  | 16 => .int
  | 17 => .int
  | 18 => .int
  | _ => .boolean
abbrev wsX20 : List Cond := u_ws RX2 TX2 20
theorem nmX2 : ∀ a, a < 20 → ∀ b, b < 20 → a ≠ b → (TX2 a).2.1 ≠ (TX2 b).2.1 := by decide +kernel
theorem tyX2_ok : ∀ k, k < 20 → parseFieldDescriptor (TX2 k).2.2.1 = some (tyX2 k) := by decide +kernel
abbrev cX2_init : ByteArray := prog_4_method_1_code
def yX2_init : MethodName := ⟨RX2, "<init>", "(I)V"⟩
abbrev cX2_layAt : ByteArray := prog_4_method_2_code
def yX2_layAt : MethodName := ⟨RX2, "layAt", "(III)V"⟩
abbrev cX2_isOrphan : ByteArray := prog_4_method_3_code
def yX2_isOrphan : MethodName := ⟨RX2, "isOrphan", "()Z"⟩
abbrev cX2_comeHome : ByteArray := prog_4_method_4_code
def yX2_comeHome : MethodName := ⟨RX2, "comeHome", "(I)V"⟩
abbrev cX2_hearsBeacon : ByteArray := prog_4_method_5_code
def yX2_hearsBeacon : MethodName := ⟨RX2, "hearsBeacon", "()Z"⟩
abbrev cX2_beginFrame : ByteArray := prog_4_method_6_code
def yX2_beginFrame : MethodName := ⟨RX2, "beginFrame", "()V"⟩
abbrev cX2_waitFor : ByteArray := prog_4_method_7_code
def yX2_waitFor : MethodName := ⟨RX2, "waitFor", "(I)V"⟩
abbrev cX2_waitLess : ByteArray := prog_4_method_8_code
def yX2_waitLess : MethodName := ⟨RX2, "waitLess", "()V"⟩
abbrev cX2_lookOrHold : ByteArray := prog_4_method_9_code
def yX2_lookOrHold : MethodName := ⟨RX2, "lookOrHold", "(II)V"⟩
abbrev cX2_startSending : ByteArray := prog_4_method_10_code
def yX2_startSending : MethodName := ⟨RX2, "startSending", "()V"⟩
abbrev cX2_foundBusy : ByteArray := prog_4_method_11_code
def yX2_foundBusy : MethodName := ⟨RX2, "foundBusy", "()Z"⟩
abbrev cX2_foundHurt : ByteArray := prog_4_method_12_code
def yX2_foundHurt : MethodName := ⟨RX2, "foundHurt", "()Z"⟩
abbrev cX2_frameSent : ByteArray := prog_4_method_13_code
def yX2_frameSent : MethodName := ⟨RX2, "frameSent", "()V"⟩
abbrev cX2_sendPromised : ByteArray := prog_4_method_14_code
def yX2_sendPromised : MethodName := ⟨RX2, "sendPromised", "([III)I"⟩
abbrev cX2_tell : ByteArray := prog_4_method_15_code
def yX2_tell : MethodName := ⟨RX2, "tell", "(I)I"⟩
abbrev cX2_giveUp : ByteArray := prog_4_method_16_code
def yX2_giveUp : MethodName := ⟨RX2, "giveUp", "()V"⟩
abbrev cX2_endFrame : ByteArray := prog_4_method_17_code
def yX2_endFrame : MethodName := ⟨RX2, "endFrame", "()V"⟩
def RX3 : String := "PromisedSlots$Layout"
def TX3 : u_T := fun k => match k with
  | 0 => ("PromisedSlots$Layout", "beat", "I", false)
  | 1 => ("PromisedSlots$Layout", "active", "I", false)
  | 2 => ("PromisedSlots$Layout", "slot", "I", false)
  | 3 => ("PromisedSlots$Layout", "least", "I", false)
  | 4 => ("PromisedSlots$Layout", "life", "I", false)
  | 5 => ("PromisedSlots$Layout", "coordinatorCount", "I", false)
  | 6 => ("PromisedSlots$Layout", "deviceCount", "I", false)
  | 7 => ("PromisedSlots$Layout", "parents", "[I", true)
  | 8 => ("PromisedSlots$Layout", "starts", "[I", true)
  | 9 => ("PromisedSlots$Layout", "homes", "[I", true)
  | 10 => ("PromisedSlots$Layout", "lengths", "[I", true)
  | _ => ("PromisedSlots$Layout", "exponents", "[I", true)
def tyX3 : Nat → FieldType := fun k => match k with
  | 0 => .int
  | 1 => .int
  | 2 => .int
  | 3 => .int
  | 4 => .int
  | 5 => .int
  | 6 => .int
  | 7 => .array .int
  | 8 => .array .int
  | 9 => .array .int
  | 10 => .array .int
  | _ => .array .int
abbrev wsX30 : List Cond := u_ws RX3 TX3 12
theorem nmX3 : ∀ a, a < 12 → ∀ b, b < 12 → a ≠ b → (TX3 a).2.1 ≠ (TX3 b).2.1 := by decide +kernel
theorem tyX3_ok : ∀ k, k < 12 → parseFieldDescriptor (TX3 k).2.2.1 = some (tyX3 k) := by decide +kernel
abbrev cX3_init : ByteArray := prog_5_method_1_code
def yX3_init : MethodName := ⟨RX3, "<init>", "()V"⟩
abbrev cX3_clear : ByteArray := prog_5_method_2_code
def yX3_clear : MethodName := ⟨RX3, "clear", "()V"⟩
abbrev cX3_setOrders : ByteArray := prog_5_method_3_code
def yX3_setOrders : MethodName := ⟨RX3, "setOrders", "(III)V"⟩
abbrev cX3_addCoordinator : ByteArray := prog_5_method_4_code
def yX3_addCoordinator : MethodName := ⟨RX3, "addCoordinator", "(II)V"⟩
abbrev cX3_addDevice : ByteArray := prog_5_method_5_code
def yX3_addDevice : MethodName := ⟨RX3, "addDevice", "(III)V"⟩
abbrev cX3_startBehind : ByteArray := prog_5_method_6_code
def yX3_startBehind : MethodName := ⟨RX3, "startBehind", "(II)I"⟩
abbrev cX3_clashOf : ByteArray := prog_5_method_7_code
def yX3_clashOf : MethodName := ⟨RX3, "clashOf", "(I)I"⟩
abbrev cX3_firstBeacon : ByteArray := prog_5_method_8_code
def yX3_firstBeacon : MethodName := ⟨RX3, "firstBeacon", "(II)I"⟩
abbrev cX3_parentAt : ByteArray := prog_5_method_9_code
def yX3_parentAt : MethodName := ⟨RX3, "parentAt", "(I)I"⟩
abbrev cX3_startAt : ByteArray := prog_5_method_10_code
def yX3_startAt : MethodName := ⟨RX3, "startAt", "(I)I"⟩
abbrev cX3_homeAt : ByteArray := prog_5_method_11_code
def yX3_homeAt : MethodName := ⟨RX3, "homeAt", "(I)I"⟩
abbrev cX3_lengthAt : ByteArray := prog_5_method_12_code
def yX3_lengthAt : MethodName := ⟨RX3, "lengthAt", "(I)I"⟩
abbrev cX3_exponentAt : ByteArray := prog_5_method_13_code
def yX3_exponentAt : MethodName := ⟨RX3, "exponentAt", "(I)I"⟩
def RX4 : String := "PromisedSlots$Promises"
def TX4 : u_T := fun k => match k with
  | 0 => ("PromisedSlots$Promises", "holders", "[I", true)
  | 1 => ("PromisedSlots$Promises", "slots", "[I", true)
  | 2 => ("PromisedSlots$Promises", "idle", "[I", true)
  | _ => ("PromisedSlots$Promises", "size", "I", false)
def tyX4 : Nat → FieldType := fun k => match k with
  | 0 => .array .int
  | 1 => .array .int
  | 2 => .array .int
  | _ => .int
abbrev wsX40 : List Cond := u_ws RX4 TX4 4
theorem nmX4 : ∀ a, a < 4 → ∀ b, b < 4 → a ≠ b → (TX4 a).2.1 ≠ (TX4 b).2.1 := by decide +kernel
theorem tyX4_ok : ∀ k, k < 4 → parseFieldDescriptor (TX4 k).2.2.1 = some (tyX4 k) := by decide +kernel
abbrev cX4_init : ByteArray := prog_6_method_1_code
def yX4_init : MethodName := ⟨RX4, "<init>", "()V"⟩
abbrev cX4_clear : ByteArray := prog_6_method_2_code
def yX4_clear : MethodName := ⟨RX4, "clear", "()V"⟩
abbrev cX4_add : ByteArray := prog_6_method_3_code
def yX4_add : MethodName := ⟨RX4, "add", "(II)V"⟩
abbrev cX4_firstSlot : ByteArray := prog_6_method_4_code
def yX4_firstSlot : MethodName := ⟨RX4, "firstSlot", "(I)I"⟩
abbrev cX4_sharedSlots : ByteArray := prog_6_method_5_code
def yX4_sharedSlots : MethodName := ⟨RX4, "sharedSlots", "()I"⟩
abbrev cX4_placeOf : ByteArray := prog_6_method_6_code
def yX4_placeOf : MethodName := ⟨RX4, "placeOf", "(I)I"⟩
abbrev cX4_removeOf : ByteArray := prog_6_method_7_code
def yX4_removeOf : MethodName := ⟨RX4, "removeOf", "(I)I"⟩
abbrev cX4_removeIdle : ByteArray := prog_6_method_8_code
def yX4_removeIdle : MethodName := ⟨RX4, "removeIdle", "(I)V"⟩
abbrev cX4_noteUse : ByteArray := prog_6_method_9_code
def yX4_noteUse : MethodName := ⟨RX4, "noteUse", "(IZ)V"⟩
abbrev cX4_tell : ByteArray := prog_6_method_10_code
def yX4_tell : MethodName := ⟨RX4, "tell", "(II)I"⟩
abbrev cX4_removeAt : ByteArray := prog_6_method_11_code
def yX4_removeAt : MethodName := ⟨RX4, "removeAt", "(I)V"⟩
def RX5 : String := "PromisedSlots$Reader"
def TX5 : u_T := fun k => match k with
  | 0 => ("PromisedSlots$Reader", "letters", "LPromisedSlots$Row;", true)
  | 1 => ("PromisedSlots$Reader", "place", "I", false)
  | 2 => ("PromisedSlots$Reader", "why", "I", false)
  | _ => ("PromisedSlots$Reader", "clash", "I", false)
def tyX5 : Nat → FieldType := fun k => match k with
  | 0 => .object "PromisedSlots$Row"
  | 1 => .int
  | 2 => .int
  | _ => .int
abbrev wsX50 : List Cond := u_ws RX5 TX5 4
theorem nmX5 : ∀ a, a < 4 → ∀ b, b < 4 → a ≠ b → (TX5 a).2.1 ≠ (TX5 b).2.1 := by decide +kernel
theorem tyX5_ok : ∀ k, k < 4 → parseFieldDescriptor (TX5 k).2.2.1 = some (tyX5 k) := by decide +kernel
abbrev cX5_init : ByteArray := prog_7_method_1_code
def yX5_init : MethodName := ⟨RX5, "<init>", "(LPromisedSlots$Row;)V"⟩
abbrev cX5_readInto : ByteArray := prog_7_method_2_code
def yX5_readInto : MethodName := ⟨RX5, "readInto", "(LPromisedSlots$Layout;)I"⟩
abbrev cX5_readItem : ByteArray := prog_7_method_3_code
def yX5_readItem : MethodName := ⟨RX5, "readItem", "(LPromisedSlots$Layout;)V"⟩
abbrev cX5_readOrders : ByteArray := prog_7_method_4_code
def yX5_readOrders : MethodName := ⟨RX5, "readOrders", "(LPromisedSlots$Layout;)V"⟩
abbrev cX5_readCoordinator : ByteArray := prog_7_method_5_code
def yX5_readCoordinator : MethodName := ⟨RX5, "readCoordinator", "(LPromisedSlots$Layout;)V"⟩
abbrev cX5_readDevice : ByteArray := prog_7_method_6_code
def yX5_readDevice : MethodName := ⟨RX5, "readDevice", "(LPromisedSlots$Layout;)V"⟩
abbrev cX5_readLife : ByteArray := prog_7_method_7_code
def yX5_readLife : MethodName := ⟨RX5, "readLife", "(LPromisedSlots$Layout;)V"⟩
abbrev cX5_readNumber : ByteArray := prog_7_method_8_code
def yX5_readNumber : MethodName := ⟨RX5, "readNumber", "(III)I"⟩
abbrev cX5_readEnd : ByteArray := prog_7_method_9_code
def yX5_readEnd : MethodName := ⟨RX5, "readEnd", "()V"⟩
def RX6 : String := "PromisedSlots$Row"
def TX6 : u_T := fun k => match k with
  | 0 => ("PromisedSlots$Row", "items", "[I", true)
  | _ => ("PromisedSlots$Row", "size", "I", false)
def tyX6 : Nat → FieldType := fun k => match k with
  | 0 => .array .int
  | _ => .int
abbrev wsX60 : List Cond := u_ws RX6 TX6 2
theorem nmX6 : ∀ a, a < 2 → ∀ b, b < 2 → a ≠ b → (TX6 a).2.1 ≠ (TX6 b).2.1 := by decide +kernel
theorem tyX6_ok : ∀ k, k < 2 → parseFieldDescriptor (TX6 k).2.2.1 = some (tyX6 k) := by decide +kernel
abbrev cX6_init : ByteArray := prog_8_method_1_code
def yX6_init : MethodName := ⟨RX6, "<init>", "(I)V"⟩
abbrev cX6_append : ByteArray := prog_8_method_2_code
def yX6_append : MethodName := ⟨RX6, "append", "(I)Z"⟩
abbrev cX6_clear : ByteArray := prog_8_method_3_code
def yX6_clear : MethodName := ⟨RX6, "clear", "()V"⟩
abbrev cX6_at : ByteArray := prog_8_method_4_code
def yX6_at : MethodName := ⟨RX6, "at", "(I)I"⟩
def RX7 : String := "PromisedSlots"
def TX7 : u_T := fun k => match k with
  | 0 => ("PromisedSlots", "letters", "LPromisedSlots$Row;", true)
  | 1 => ("PromisedSlots", "reader", "LPromisedSlots$Reader;", true)
  | 2 => ("PromisedSlots", "causes", "LPromisedSlots$Row;", true)
  | 3 => ("PromisedSlots", "coordinators", "[LPromisedSlots$Coordinator;", true)
  | 4 => ("PromisedSlots", "devices", "[LPromisedSlots$Device;", true)
  | 5 => ("PromisedSlots", "contention", "LPromisedSlots$Contention;", true)
  | 6 => ("PromisedSlots", "laid", "LPromisedSlots$Layout;", false)
  | 7 => ("PromisedSlots", "spare", "LPromisedSlots$Layout;", false)
  | 8 => ("PromisedSlots", "now", "I", false)
  | _ => ("PromisedSlots", "partsGone", "I", false)
def tyX7 : Nat → FieldType := fun k => match k with
  | 0 => .object "PromisedSlots$Row"
  | 1 => .object "PromisedSlots$Reader"
  | 2 => .object "PromisedSlots$Row"
  | 3 => .array (.object "PromisedSlots$Coordinator")
  | 4 => .array (.object "PromisedSlots$Device")
  | 5 => .object "PromisedSlots$Contention"
  | 6 => .object "PromisedSlots$Layout"
  | 7 => .object "PromisedSlots$Layout"
  | 8 => .int
  | _ => .int
abbrev wsX70 : List Cond := u_ws RX7 TX7 10
theorem nmX7 : ∀ a, a < 10 → ∀ b, b < 10 → a ≠ b → (TX7 a).2.1 ≠ (TX7 b).2.1 := by decide +kernel
theorem tyX7_ok : ∀ k, k < 10 → parseFieldDescriptor (TX7 k).2.2.1 = some (tyX7 k) := by decide +kernel
abbrev cX7_init : ByteArray := prog_1_method_1_code
def yX7_init : MethodName := ⟨RX7, "<init>", "()V"⟩
abbrev cX7_write : ByteArray := prog_1_method_2_code
def yX7_write : MethodName := ⟨RX7, "write", "(I)I"⟩
abbrev cX7_wipe : ByteArray := prog_1_method_3_code
def yX7_wipe : MethodName := ⟨RX7, "wipe", "()I"⟩
abbrev cX7_fault : ByteArray := prog_1_method_4_code
def yX7_fault : MethodName := ⟨RX7, "fault", "()I"⟩
abbrev cX7_lay : ByteArray := prog_1_method_5_code
def yX7_lay : MethodName := ⟨RX7, "lay", "()I"⟩
abbrev cX7_cause : ByteArray := prog_1_method_6_code
def yX7_cause : MethodName := ⟨RX7, "cause", "(I)I"⟩
abbrev cX7_nest : ByteArray := prog_1_method_7_code
def yX7_nest : MethodName := ⟨RX7, "nest", "(II)I"⟩
abbrev cX7_seed : ByteArray := prog_1_method_8_code
def yX7_seed : MethodName := ⟨RX7, "seed", "(I)I"⟩
abbrev cX7_join : ByteArray := prog_1_method_9_code
def yX7_join : MethodName := ⟨RX7, "join", "(II)I"⟩
abbrev cX7_drop : ByteArray := prog_1_method_10_code
def yX7_drop : MethodName := ⟨RX7, "drop", "(I)I"⟩
abbrev cX7_load : ByteArray := prog_1_method_11_code
def yX7_load : MethodName := ⟨RX7, "load", "(III)I"⟩
abbrev cX7_deafen : ByteArray := prog_1_method_12_code
def yX7_deafen : MethodName := ⟨RX7, "deafen", "(II)I"⟩
abbrev cX7_scan : ByteArray := prog_1_method_13_code
def yX7_scan : MethodName := ⟨RX7, "scan", "(I)I"⟩
abbrev cX7_ask : ByteArray := prog_1_method_14_code
def yX7_ask : MethodName := ⟨RX7, "ask", "(II)I"⟩
abbrev cX7_release : ByteArray := prog_1_method_15_code
def yX7_release : MethodName := ⟨RX7, "release", "(I)I"⟩
abbrev cX7_promise : ByteArray := prog_1_method_16_code
def yX7_promise : MethodName := ⟨RX7, "promise", "(III)I"⟩
abbrev cX7_run : ByteArray := prog_1_method_17_code
def yX7_run : MethodName := ⟨RX7, "run", "(I)I"⟩
abbrev cX7_air : ByteArray := prog_1_method_18_code
def yX7_air : MethodName := ⟨RX7, "air", "(II)I"⟩
abbrev cX7_coordinator : ByteArray := prog_1_method_19_code
def yX7_coordinator : MethodName := ⟨RX7, "coordinator", "(II)I"⟩
abbrev cX7_device : ByteArray := prog_1_method_20_code
def yX7_device : MethodName := ⟨RX7, "device", "(II)I"⟩
abbrev cX7_count : ByteArray := prog_1_method_21_code
def yX7_count : MethodName := ⟨RX7, "count", "(I)I"⟩
abbrev cX7_deviceAt : ByteArray := prog_1_method_22_code
def yX7_deviceAt : MethodName := ⟨RX7, "deviceAt", "(I)LPromisedSlots$Device;"⟩
abbrev cX7_coordinatorAt : ByteArray := prog_1_method_23_code
def yX7_coordinatorAt : MethodName := ⟨RX7, "coordinatorAt", "(I)LPromisedSlots$Coordinator;"⟩
abbrev cX7_faultOfText : ByteArray := prog_1_method_24_code
def yX7_faultOfText : MethodName := ⟨RX7, "faultOfText", "()I"⟩
abbrev cX7_takeLayout : ByteArray := prog_1_method_25_code
def yX7_takeLayout : MethodName := ⟨RX7, "takeLayout", "()V"⟩
abbrev cX7_promiserOf : ByteArray := prog_1_method_26_code
def yX7_promiserOf : MethodName := ⟨RX7, "promiserOf", "(I)LPromisedSlots$Coordinator;"⟩
abbrev cX7_orphans : ByteArray := prog_1_method_27_code
def yX7_orphans : MethodName := ⟨RX7, "orphans", "()I"⟩
abbrev cX7_nextToBeacon : ByteArray := prog_1_method_28_code
def yX7_nextToBeacon : MethodName := ⟨RX7, "nextToBeacon", "()I"⟩
abbrev cX7_activePart : ByteArray := prog_1_method_29_code
def yX7_activePart : MethodName := ⟨RX7, "activePart", "(ILPromisedSlots$Coordinator;)I"⟩
abbrev cX7_hearBeacon : ByteArray := prog_1_method_30_code
def yX7_hearBeacon : MethodName := ⟨RX7, "hearBeacon", "(I)V"⟩
abbrev cX7_keepPromises : ByteArray := prog_1_method_31_code
def yX7_keepPromises : MethodName := ⟨RX7, "keepPromises", "(LPromisedSlots$Coordinator;)I"⟩
def RX8 : String := "PromisedSlotsModel"
def TX8 : u_T := fun k => match k with
  | 0 => ("PromisedSlotsModel", "length", "I", false)
  | 1 => ("PromisedSlotsModel", "text", "[I", true)
  | 2 => ("PromisedSlotsModel", "spot", "I", false)
  | 3 => ("PromisedSlotsModel", "causeMany", "I", false)
  | 4 => ("PromisedSlotsModel", "causes", "[I", true)
  | 5 => ("PromisedSlotsModel", "readB", "I", false)
  | 6 => ("PromisedSlotsModel", "readS", "I", false)
  | 7 => ("PromisedSlotsModel", "readLeast", "I", false)
  | 8 => ("PromisedSlotsModel", "readLife", "I", false)
  | 9 => ("PromisedSlotsModel", "readCoords", "I", false)
  | 10 => ("PromisedSlotsModel", "readParent", "[I", true)
  | 11 => ("PromisedSlotsModel", "readStart", "[I", true)
  | 12 => ("PromisedSlotsModel", "readDevices", "I", false)
  | 13 => ("PromisedSlotsModel", "readHome", "[I", true)
  | 14 => ("PromisedSlotsModel", "readLength", "[I", true)
  | 15 => ("PromisedSlotsModel", "readExponent", "[I", true)
  | 16 => ("PromisedSlotsModel", "beat", "I", false)
  | 17 => ("PromisedSlotsModel", "active", "I", false)
  | 18 => ("PromisedSlotsModel", "slot", "I", false)
  | 19 => ("PromisedSlotsModel", "least", "I", false)
  | 20 => ("PromisedSlotsModel", "life", "I", false)
  | 21 => ("PromisedSlotsModel", "now", "I", false)
  | 22 => ("PromisedSlotsModel", "seed", "I", false)
  | 23 => ("PromisedSlotsModel", "went", "I", false)
  | 24 => ("PromisedSlotsModel", "coords", "I", false)
  | 25 => ("PromisedSlotsModel", "parent", "[I", true)
  | 26 => ("PromisedSlotsModel", "start", "[I", true)
  | 27 => ("PromisedSlotsModel", "next", "[I", true)
  | 28 => ("PromisedSlotsModel", "parts", "[I", true)
  | 29 => ("PromisedSlotsModel", "list", "[I", true)
  | 30 => ("PromisedSlotsModel", "promises", "[I", true)
  | 31 => ("PromisedSlotsModel", "promised", "[I", true)
  | 32 => ("PromisedSlotsModel", "slots", "[I", true)
  | 33 => ("PromisedSlotsModel", "idle", "[I", true)
  | 34 => ("PromisedSlotsModel", "air", "[I", true)
  | 35 => ("PromisedSlotsModel", "devices", "I", false)
  | 36 => ("PromisedSlotsModel", "home", "[I", true)
  | 37 => ("PromisedSlotsModel", "size", "[I", true)
  | 38 => ("PromisedSlotsModel", "first", "[I", true)
  | 39 => ("PromisedSlotsModel", "contend", "[I", true)
  | 40 => ("PromisedSlotsModel", "toPromise", "[I", true)
  | 41 => ("PromisedSlotsModel", "sent", "[I", true)
  | 42 => ("PromisedSlotsModel", "up", "[I", true)
  | 43 => ("PromisedSlotsModel", "missed", "[I", true)
  | 44 => ("PromisedSlotsModel", "deaf", "[I", true)
  | 45 => ("PromisedSlotsModel", "does", "[I", true)
  | 46 => ("PromisedSlotsModel", "exponent", "[I", true)
  | 47 => ("PromisedSlotsModel", "looks", "[I", true)
  | 48 => ("PromisedSlotsModel", "tries", "[I", true)
  | 49 => ("PromisedSlotsModel", "hurts", "[I", true)
  | 50 => ("PromisedSlotsModel", "heard", "[I", true)
  | 51 => ("PromisedSlotsModel", "waits", "[I", true)
  | 52 => ("PromisedSlotsModel", "looked", "[I", true)
  | 53 => ("PromisedSlotsModel", "left", "[I", true)
  | 54 => ("PromisedSlotsModel", "hurt", "[I", true)
  | 55 => ("PromisedSlotsModel", "drew", "[I", true)
  | 56 => ("PromisedSlotsModel", "why", "I", false)
  | _ => ("PromisedSlotsModel", "whyOther", "I", false)
def tyX8 : Nat → FieldType := fun k => match k with
  | 0 => .int
  | 1 => .array .int
  | 2 => .int
  | 3 => .int
  | 4 => .array .int
  | 5 => .int
  | 6 => .int
  | 7 => .int
  | 8 => .int
  | 9 => .int
  | 10 => .array .int
  | 11 => .array .int
  | 12 => .int
  | 13 => .array .int
  | 14 => .array .int
  | 15 => .array .int
  | 16 => .int
  | 17 => .int
  | 18 => .int
  | 19 => .int
  | 20 => .int
  | 21 => .int
  | 22 => .int
  | 23 => .int
  | 24 => .int
  | 25 => .array .int
  | 26 => .array .int
  | 27 => .array .int
  | 28 => .array .int
  | 29 => .array .int
  | 30 => .array .int
  | 31 => .array .int
  | 32 => .array .int
  | 33 => .array .int
  | 34 => .array .int
  | 35 => .int
  | 36 => .array .int
  | 37 => .array .int
  | 38 => .array .int
  | 39 => .array .int
  | 40 => .array .int
  | 41 => .array .int
  | 42 => .array .int
  | 43 => .array .int
  | 44 => .array .int
  | 45 => .array .int
  | 46 => .array .int
  | 47 => .array .int
  | 48 => .array .int
  | 49 => .array .int
  | 50 => .array .int
  | 51 => .array .int
  | 52 => .array .int
  | 53 => .array .int
  | 54 => .array .int
  | 55 => .array .int
  | 56 => .int
  | _ => .int
abbrev wsX80 : List Cond := u_ws RX8 TX8 58
theorem nmX8 : ∀ a, a < 58 → ∀ b, b < 58 → a ≠ b → (TX8 a).2.1 ≠ (TX8 b).2.1 := by decide +kernel
theorem tyX8_ok : ∀ k, k < 58 → parseFieldDescriptor (TX8 k).2.2.1 = some (tyX8 k) := by decide +kernel
abbrev cX8_init : ByteArray := prog_10_method_1_code
def yX8_init : MethodName := ⟨RX8, "<init>", "()V"⟩
abbrev cX8_in : ByteArray := prog_10_method_2_code
def yX8_in : MethodName := ⟨RX8, "in", "(JJJ)Z"⟩
abbrev cX8_has : ByteArray := prog_10_method_3_code
def yX8_has : MethodName := ⟨RX8, "has", "(II)Z"⟩
abbrev cX8_refuses : ByteArray := prog_10_method_4_code
def yX8_refuses : MethodName := ⟨RX8, "refuses", "(III)I"⟩
abbrev cX8_refusesText : ByteArray := prog_10_method_5_code
def yX8_refusesText : MethodName := ⟨RX8, "refusesText", "(III)I"⟩
abbrev cX8_cause : ByteArray := prog_10_method_6_code
def yX8_cause : MethodName := ⟨RX8, "cause", "(I)I"⟩
abbrev cX8_empty : ByteArray := prog_10_method_7_code
def yX8_empty : MethodName := ⟨RX8, "empty", "()V"⟩
abbrev cX8_beatOf : ByteArray := prog_10_method_8_code
def yX8_beatOf : MethodName := ⟨RX8, "beatOf", "(I)I"⟩
abbrev cX8_coordIs : ByteArray := prog_10_method_9_code
def yX8_coordIs : MethodName := ⟨RX8, "coordIs", "(II)V"⟩
abbrev cX8_deviceIs : ByteArray := prog_10_method_10_code
def yX8_deviceIs : MethodName := ⟨RX8, "deviceIs", "(III)V"⟩
abbrev cX8_write : ByteArray := prog_10_method_11_code
def yX8_write : MethodName := ⟨RX8, "write", "(I)I"⟩
abbrev cX8_wipe : ByteArray := prog_10_method_12_code
def yX8_wipe : MethodName := ⟨RX8, "wipe", "()I"⟩
abbrev cX8_letterAt : ByteArray := prog_10_method_13_code
def yX8_letterAt : MethodName := ⟨RX8, "letterAt", "(I)I"⟩
abbrev cX8_number : ByteArray := prog_10_method_14_code
def yX8_number : MethodName := ⟨RX8, "number", "(III)I"⟩
abbrev cX8_meets : ByteArray := prog_10_method_15_code
def yX8_meets : MethodName := ⟨RX8, "meets", "([IIIII)I"⟩
abbrev cX8_ordersItem : ByteArray := prog_10_method_16_code
def yX8_ordersItem : MethodName := ⟨RX8, "ordersItem", "()V"⟩
abbrev cX8_coordItem : ByteArray := prog_10_method_17_code
def yX8_coordItem : MethodName := ⟨RX8, "coordItem", "()V"⟩
abbrev cX8_deviceItem : ByteArray := prog_10_method_18_code
def yX8_deviceItem : MethodName := ⟨RX8, "deviceItem", "()V"⟩
abbrev cX8_item : ByteArray := prog_10_method_19_code
def yX8_item : MethodName := ⟨RX8, "item", "(IZ)V"⟩
abbrev cX8_readAll : ByteArray := prog_10_method_20_code
def yX8_readAll : MethodName := ⟨RX8, "readAll", "()I"⟩
abbrev cX8_fault : ByteArray := prog_10_method_21_code
def yX8_fault : MethodName := ⟨RX8, "fault", "()I"⟩
abbrev cX8_lay : ByteArray := prog_10_method_22_code
def yX8_lay : MethodName := ⟨RX8, "lay", "()I"⟩
abbrev cX8_begin : ByteArray := prog_10_method_23_code
def yX8_begin : MethodName := ⟨RX8, "begin", "()V"⟩
abbrev cX8_coordBegins : ByteArray := prog_10_method_24_code
def yX8_coordBegins : MethodName := ⟨RX8, "coordBegins", "(III)V"⟩
abbrev cX8_deviceBegins : ByteArray := prog_10_method_25_code
def yX8_deviceBegins : MethodName := ⟨RX8, "deviceBegins", "(I)V"⟩
abbrev cX8_isCoord : ByteArray := prog_10_method_26_code
def yX8_isCoord : MethodName := ⟨RX8, "isCoord", "(I)Z"⟩
abbrev cX8_isDevice : ByteArray := prog_10_method_27_code
def yX8_isDevice : MethodName := ⟨RX8, "isDevice", "(I)Z"⟩
abbrev cX8_nest : ByteArray := prog_10_method_28_code
def yX8_nest : MethodName := ⟨RX8, "nest", "(II)I"⟩
abbrev cX8_seed : ByteArray := prog_10_method_29_code
def yX8_seed : MethodName := ⟨RX8, "seed", "(I)I"⟩
abbrev cX8_taken : ByteArray := prog_10_method_30_code
def yX8_taken : MethodName := ⟨RX8, "taken", "(I)I"⟩
abbrev cX8_shared : ByteArray := prog_10_method_31_code
def yX8_shared : MethodName := ⟨RX8, "shared", "(I)I"⟩
abbrev cX8_firstSlot : ByteArray := prog_10_method_32_code
def yX8_firstSlot : MethodName := ⟨RX8, "firstSlot", "(II)I"⟩
abbrev cX8_promiseOf : ByteArray := prog_10_method_33_code
def yX8_promiseOf : MethodName := ⟨RX8, "promiseOf", "(II)I"⟩
abbrev cX8_letGo : ByteArray := prog_10_method_34_code
def yX8_letGo : MethodName := ⟨RX8, "letGo", "(II)V"⟩
abbrev cX8_goesFrom : ByteArray := prog_10_method_35_code
def yX8_goesFrom : MethodName := ⟨RX8, "goesFrom", "(II)I"⟩
abbrev cX8_join : ByteArray := prog_10_method_36_code
def yX8_join : MethodName := ⟨RX8, "join", "(II)I"⟩
abbrev cX8_drop : ByteArray := prog_10_method_37_code
def yX8_drop : MethodName := ⟨RX8, "drop", "(I)I"⟩
abbrev cX8_load : ByteArray := prog_10_method_38_code
def yX8_load : MethodName := ⟨RX8, "load", "(III)I"⟩
abbrev cX8_deafen : ByteArray := prog_10_method_39_code
def yX8_deafen : MethodName := ⟨RX8, "deafen", "(II)I"⟩
abbrev cX8_scan : ByteArray := prog_10_method_40_code
def yX8_scan : MethodName := ⟨RX8, "scan", "(I)I"⟩
abbrev cX8_hasPromise : ByteArray := prog_10_method_41_code
def yX8_hasPromise : MethodName := ⟨RX8, "hasPromise", "(I)Z"⟩
abbrev cX8_ask : ByteArray := prog_10_method_42_code
def yX8_ask : MethodName := ⟨RX8, "ask", "(II)I"⟩
abbrev cX8_release : ByteArray := prog_10_method_43_code
def yX8_release : MethodName := ⟨RX8, "release", "(I)I"⟩
abbrev cX8_promise : ByteArray := prog_10_method_44_code
def yX8_promise : MethodName := ⟨RX8, "promise", "(III)I"⟩
abbrev cX8_draws : ByteArray := prog_10_method_45_code
def yX8_draws : MethodName := ⟨RX8, "draws", "(I)V"⟩
abbrev cX8_begins : ByteArray := prog_10_method_46_code
def yX8_begins : MethodName := ⟨RX8, "begins", "(I)V"⟩
abbrev cX8_goneFrame : ByteArray := prog_10_method_47_code
def yX8_goneFrame : MethodName := ⟨RX8, "goneFrame", "(I)V"⟩
abbrev cX8_beacon : ByteArray := prog_10_method_48_code
def yX8_beacon : MethodName := ⟨RX8, "beacon", "(I)V"⟩
abbrev cX8_stepA : ByteArray := prog_10_method_49_code
def yX8_stepA : MethodName := ⟨RX8, "stepA", "(I)V"⟩
abbrev cX8_stepsBC : ByteArray := prog_10_method_50_code
def yX8_stepsBC : MethodName := ⟨RX8, "stepsBC", "(II)V"⟩
abbrev cX8_sending : ByteArray := prog_10_method_51_code
def yX8_sending : MethodName := ⟨RX8, "sending", "(II)I"⟩
abbrev cX8_stepD : ByteArray := prog_10_method_52_code
def yX8_stepD : MethodName := ⟨RX8, "stepD", "(Z)V"⟩
abbrev cX8_stepE : ByteArray := prog_10_method_53_code
def yX8_stepE : MethodName := ⟨RX8, "stepE", "()V"⟩
abbrev cX8_stepF : ByteArray := prog_10_method_54_code
def yX8_stepF : MethodName := ⟨RX8, "stepF", "()I"⟩
abbrev cX8_ends : ByteArray := prog_10_method_55_code
def yX8_ends : MethodName := ⟨RX8, "ends", "(I)I"⟩
abbrev cX8_uses : ByteArray := prog_10_method_56_code
def yX8_uses : MethodName := ⟨RX8, "uses", "(I)I"⟩
abbrev cX8_part : ByteArray := prog_10_method_57_code
def yX8_part : MethodName := ⟨RX8, "part", "(I)I"⟩
abbrev cX8_run : ByteArray := prog_10_method_58_code
def yX8_run : MethodName := ⟨RX8, "run", "(I)I"⟩
abbrev cX8_air : ByteArray := prog_10_method_59_code
def yX8_air : MethodName := ⟨RX8, "air", "(II)I"⟩
abbrev cX8_coordinator : ByteArray := prog_10_method_60_code
def yX8_coordinator : MethodName := ⟨RX8, "coordinator", "(II)I"⟩
abbrev cX8_device : ByteArray := prog_10_method_61_code
def yX8_device : MethodName := ⟨RX8, "device", "(II)I"⟩
abbrev cX8_count : ByteArray := prog_10_method_62_code
def yX8_count : MethodName := ⟨RX8, "count", "(I)I"⟩
abbrev cX8_orphans : ByteArray := prog_10_method_63_code
def yX8_orphans : MethodName := ⟨RX8, "orphans", "()I"⟩
def RJ7 : String := "java/util/Arrays"
abbrev cJ7_fill_53178 : ByteArray := prog_15_method_103_code
def yJ7_fill_53178 : MethodName := ⟨RJ7, "fill", "([II)V"⟩
/-- the tables' words that last over calls -/
def U0 : List Cond := lw_tbl.filter goodWord
theorem mkU (i : Nat) (w : Cond) (h : lw_tbl[i]? = some w) (g : goodWord w = true) : w ∈ U0 := List.mem_filter.mpr ⟨List.mem_of_getElem? h, g⟩
theorem U0_good {w : Cond} (h : w ∈ U0) : (w.onTables && w.keeps) = true ∨ ∃ ty, w = .arrayClass ty := good_of_word (List.mem_filter.mp h).2
theorem U0_tbl {w : Cond} (h : w ∈ U0) : w ∈ lw_tbl := (List.mem_filter.mp h).1
def isNest : Cond → Bool
  | .fieldLinkNest .. => true
  | .methodLinkNest .. => true
  | _ => false
/-- the tables' words on nest mates -/
def NW : List Cond := lw_tbl.filter isNest
theorem mkN (i : Nat) (w : Cond) (h : lw_tbl[i]? = some w) (g : isNest w = true) : w ∈ NW := List.mem_filter.mpr ⟨List.mem_of_getElem? h, g⟩
theorem NW_tbl {w : Cond} (h : w ∈ NW) : w ∈ lw_tbl := (List.mem_filter.mp h).1
def hasN (U : State) : Prop := ∀ w ∈ NW, va_Nw w U
theorem hasN.warm {s U : State} (hW : s.WarmedH U.vm) (h : hasN s) : hasN U := by
  intro w hw
  have h1 := h w hw
  have h2 := (List.mem_filter.mp hw).2
  cases w <;> first | exact va_Nw.warmF hW h1 | exact va_Nw.warmM hW h1 | (simp [isNest] at h2)
theorem hasN.same {u U : State} (h : u.vm = U.vm) (hz : hasN u) : hasN U := by
  intro w hw
  have h1 := hz w hw
  have h2 := (List.mem_filter.mp hw).2
  cases w <;> first | exact va_Nw.same rfl h h1 | (simp [isNest] at h2)
theorem inX0 : ∀ w ∈ u_ws RX0 TX0 5, w ∈ U0 := by decide +kernel
theorem inX1 : ∀ w ∈ u_ws RX1 TX1 7, w ∈ U0 := by decide +kernel
theorem inX2 : ∀ w ∈ u_ws RX2 TX2 20, w ∈ U0 := by decide +kernel
theorem inX3 : ∀ w ∈ u_ws RX3 TX3 12, w ∈ U0 := by decide +kernel
theorem inX4 : ∀ w ∈ u_ws RX4 TX4 4, w ∈ U0 := by decide +kernel
theorem inX5 : ∀ w ∈ u_ws RX5 TX5 4, w ∈ U0 := by decide +kernel
theorem inX6 : ∀ w ∈ u_ws RX6 TX6 2, w ∈ U0 := by decide +kernel
theorem inX7 : ∀ w ∈ u_ws RX7 TX7 10, w ∈ U0 := by decide +kernel
theorem inX8 : ∀ w ∈ u_ws RX8 TX8 58, w ∈ U0 := by decide +kernel
end
section
theorem tw_0 : (Jvm.Cond.initialized "PromisedSlotsLaw") ∈ U0 := mkU 66 _ (by decide +kernel) rfl
theorem tw_1 : (Jvm.Cond.initialized "PromisedSlots") ∈ U0 := mkU 67 _ (by decide +kernel) rfl
theorem tw_2 : (Jvm.Cond.initialized "PromisedSlots$Row") ∈ U0 := mkU 68 _ (by decide +kernel) rfl
theorem tw_3 : (Jvm.Cond.initialized "java/lang/Math") ∈ U0 := mkU 69 _ (by decide +kernel) rfl
theorem tw_4 : (Jvm.Cond.initialized "PromisedSlots$Reader") ∈ U0 := mkU 70 _ (by decide +kernel) rfl
theorem tw_5 : (Jvm.Cond.initialized "PromisedSlots$Contention") ∈ U0 := mkU 71 _ (by decide +kernel) rfl
theorem tw_6 : (Jvm.Cond.initialized "PromisedSlots$Layout") ∈ U0 := mkU 72 _ (by decide +kernel) rfl
theorem tw_7 : (Jvm.Cond.initialized "PromisedSlots$Coordinator") ∈ U0 := mkU 73 _ (by decide +kernel) rfl
theorem tw_8 : (Jvm.Cond.initialized "PromisedSlots$Promises") ∈ U0 := mkU 74 _ (by decide +kernel) rfl
theorem tw_9 : (Jvm.Cond.initialized "PromisedSlots$Device") ∈ U0 := mkU 75 _ (by decide +kernel) rfl
theorem tw_10 : (Jvm.Cond.initialized "java/lang/String") ∈ U0 := mkU 76 _ (by decide +kernel) rfl
theorem tw_11 : (Jvm.Cond.initialized "java/lang/StringLatin1") ∈ U0 := mkU 77 _ (by decide +kernel) rfl
theorem tw_12 : (Jvm.Cond.initialized "jdk/internal/util/Preconditions") ∈ U0 := mkU 78 _ (by decide +kernel) rfl
theorem tw_13 : (Jvm.Cond.initialized "java/lang/StringUTF16") ∈ U0 := mkU 79 _ (by decide +kernel) rfl
theorem tw_14 : (Jvm.Cond.initialized "PromisedSlotsModel") ∈ U0 := mkU 80 _ (by decide +kernel) rfl
theorem tw_15 : (Jvm.Cond.initialized "java/util/Arrays") ∈ U0 := mkU 81 _ (by decide +kernel) rfl
theorem tw_16 : (Jvm.Cond.classLink "PromisedSlotsLaw" (7 : Nat) "PromisedSlots") ∈ U0 := mkU 82 _ (by decide +kernel) rfl
theorem tw_18 : (Jvm.Cond.methodLink "PromisedSlotsLaw" (9 : Nat) ({ cls := "PromisedSlots", name := "<init>", desc := "()V" } : Jvm.MethodName)) ∈ U0 := mkU 84 _ (by decide +kernel) rfl
theorem tw_19 : (Jvm.Cond.instanceMethod ({ cls := "PromisedSlots", name := "<init>", desc := "()V" } : Jvm.MethodName)) ∈ U0 := mkU 85 _ (by decide +kernel) rfl
theorem tw_20 : (Jvm.Cond.code ({ cls := "PromisedSlots", name := "<init>", desc := "()V" } : Jvm.MethodName) prog_1_method_1_code (2 : Nat) (Option.none : Option Jvm.ClassFile.FieldType)) ∈ U0 := mkU 86 _ (by decide +kernel) rfl
theorem tw_21 : (Jvm.Cond.methodLink "PromisedSlots" (1 : Nat) ({ cls := "java/lang/Object", name := "<init>", desc := "()V" } : Jvm.MethodName)) ∈ U0 := mkU 87 _ (by decide +kernel) rfl
theorem tw_22 : (Jvm.Cond.instanceMethod ({ cls := "java/lang/Object", name := "<init>", desc := "()V" } : Jvm.MethodName)) ∈ U0 := mkU 88 _ (by decide +kernel) rfl
theorem tw_23 : (Jvm.Cond.code ({ cls := "java/lang/Object", name := "<init>", desc := "()V" } : Jvm.MethodName) object_method_1_code (1 : Nat) (Option.none : Option Jvm.ClassFile.FieldType)) ∈ U0 := mkU 89 _ (by decide +kernel) rfl
theorem tw_24 : (Jvm.Cond.classLink "PromisedSlots" (7 : Nat) "PromisedSlots$Row") ∈ U0 := mkU 90 _ (by decide +kernel) rfl
theorem tw_26 : (Jvm.Cond.methodLink "PromisedSlots" (11 : Nat) ({ cls := "PromisedSlots$Row", name := "<init>", desc := "(I)V" } : Jvm.MethodName)) ∈ U0 := mkU 92 _ (by decide +kernel) rfl
theorem tw_27 : (Jvm.Cond.instanceMethod ({ cls := "PromisedSlots$Row", name := "<init>", desc := "(I)V" } : Jvm.MethodName)) ∈ U0 := mkU 93 _ (by decide +kernel) rfl
theorem tw_28 : (Jvm.Cond.code ({ cls := "PromisedSlots$Row", name := "<init>", desc := "(I)V" } : Jvm.MethodName) prog_8_method_1_code (2 : Nat) (Option.none : Option Jvm.ClassFile.FieldType)) ∈ U0 := mkU 94 _ (by decide +kernel) rfl
theorem tw_29 : (Jvm.Cond.methodLink "PromisedSlots$Row" (3 : Nat) ({ cls := "java/lang/Object", name := "<init>", desc := "()V" } : Jvm.MethodName)) ∈ U0 := mkU 95 _ (by decide +kernel) rfl
theorem tw_30 : (Jvm.Cond.methodLink "PromisedSlots$Row" (9 : Nat) ({ cls := "java/lang/Math", name := "max", desc := "(II)I" } : Jvm.MethodName)) ∈ U0 := mkU 96 _ (by decide +kernel) rfl
theorem tw_31 : (Jvm.Cond.static ({ cls := "java/lang/Math", name := "max", desc := "(II)I" } : Jvm.MethodName)) ∈ U0 := mkU 97 _ (by decide +kernel) rfl
theorem tw_32 : (Jvm.Cond.code ({ cls := "java/lang/Math", name := "max", desc := "(II)I" } : Jvm.MethodName) prog_11_method_65_code (2 : Nat) (Option.some Jvm.ClassFile.FieldType.int)) ∈ U0 := mkU 98 _ (by decide +kernel) rfl
theorem tw_33 : (Jvm.Cond.fieldLink "PromisedSlots$Row" (15 : Nat) "PromisedSlots$Row" "items" "[I") ∈ U0 := mkU 99 _ (by decide +kernel) rfl
theorem tw_34 : (Jvm.Cond.fieldLink "PromisedSlots$Row" (21 : Nat) "PromisedSlots$Row" "size" "I") ∈ U0 := mkU 100 _ (by decide +kernel) rfl
theorem tw_35 : (Jvm.Cond.fieldLinkNest "PromisedSlots" (87 : Nat) "PromisedSlots$Row" "size" "I" "PromisedSlots") ∈ NW := mkN 101 _ (by decide +kernel) rfl
theorem tw_36 : (Jvm.Cond.fieldLinkNest "PromisedSlots$Reader" (27 : Nat) "PromisedSlots$Row" "size" "I" "PromisedSlots") ∈ NW := mkN 102 _ (by decide +kernel) rfl
theorem tw_42 : (Jvm.Cond.arrayClass Jvm.ClassFile.FieldType.int) ∈ U0 := mkU 108 _ (by decide +kernel) rfl
theorem tw_43 : (Jvm.Cond.classLink "PromisedSlots" (18 : Nat) "PromisedSlots$Reader") ∈ U0 := mkU 109 _ (by decide +kernel) rfl
theorem tw_45 : (Jvm.Cond.methodLink "PromisedSlots" (20 : Nat) ({ cls := "PromisedSlots$Reader", name := "<init>", desc := "(LPromisedSlots$Row;)V" } : Jvm.MethodName)) ∈ U0 := mkU 111 _ (by decide +kernel) rfl
theorem tw_46 : (Jvm.Cond.instanceMethod ({ cls := "PromisedSlots$Reader", name := "<init>", desc := "(LPromisedSlots$Row;)V" } : Jvm.MethodName)) ∈ U0 := mkU 112 _ (by decide +kernel) rfl
theorem tw_47 : (Jvm.Cond.code ({ cls := "PromisedSlots$Reader", name := "<init>", desc := "(LPromisedSlots$Row;)V" } : Jvm.MethodName) prog_7_method_1_code (2 : Nat) (Option.none : Option Jvm.ClassFile.FieldType)) ∈ U0 := mkU 113 _ (by decide +kernel) rfl
theorem tw_48 : (Jvm.Cond.methodLink "PromisedSlots$Reader" (3 : Nat) ({ cls := "java/lang/Object", name := "<init>", desc := "()V" } : Jvm.MethodName)) ∈ U0 := mkU 114 _ (by decide +kernel) rfl
theorem tw_49 : (Jvm.Cond.fieldLink "PromisedSlots$Reader" (9 : Nat) "PromisedSlots$Reader" "letters" "LPromisedSlots$Row;") ∈ U0 := mkU 115 _ (by decide +kernel) rfl
theorem tw_50 : (Jvm.Cond.fieldLink "PromisedSlots$Reader" (20 : Nat) "PromisedSlots$Reader" "place" "I") ∈ U0 := mkU 116 _ (by decide +kernel) rfl
theorem tw_51 : (Jvm.Cond.fieldLink "PromisedSlots$Reader" (24 : Nat) "PromisedSlots$Reader" "why" "I") ∈ U0 := mkU 117 _ (by decide +kernel) rfl
theorem tw_52 : (Jvm.Cond.fieldLinkNest "PromisedSlots" (230 : Nat) "PromisedSlots$Reader" "why" "I" "PromisedSlots") ∈ NW := mkN 118 _ (by decide +kernel) rfl
theorem tw_53 : (Jvm.Cond.fieldLink "PromisedSlots$Reader" (84 : Nat) "PromisedSlots$Reader" "clash" "I") ∈ U0 := mkU 119 _ (by decide +kernel) rfl
theorem tw_54 : (Jvm.Cond.fieldLinkNest "PromisedSlots" (233 : Nat) "PromisedSlots$Reader" "clash" "I" "PromisedSlots") ∈ NW := mkN 120 _ (by decide +kernel) rfl
theorem tw_64 : (Jvm.Cond.classLink "PromisedSlots" (30 : Nat) "PromisedSlots$Contention") ∈ U0 := mkU 130 _ (by decide +kernel) rfl
theorem tw_66 : (Jvm.Cond.methodLinkNest "PromisedSlots" (32 : Nat) ({ cls := "PromisedSlots$Contention", name := "<init>", desc := "()V" } : Jvm.MethodName) "PromisedSlots") ∈ NW := mkN 132 _ (by decide +kernel) rfl
theorem tw_67 : (Jvm.Cond.instanceMethod ({ cls := "PromisedSlots$Contention", name := "<init>", desc := "()V" } : Jvm.MethodName)) ∈ U0 := mkU 133 _ (by decide +kernel) rfl
theorem tw_68 : (Jvm.Cond.code ({ cls := "PromisedSlots$Contention", name := "<init>", desc := "()V" } : Jvm.MethodName) prog_2_method_1_code (1 : Nat) (Option.none : Option Jvm.ClassFile.FieldType)) ∈ U0 := mkU 134 _ (by decide +kernel) rfl
theorem tw_69 : (Jvm.Cond.methodLink "PromisedSlots$Contention" (3 : Nat) ({ cls := "java/lang/Object", name := "<init>", desc := "()V" } : Jvm.MethodName)) ∈ U0 := mkU 135 _ (by decide +kernel) rfl
theorem tw_70 : (Jvm.Cond.classLink "PromisedSlots$Contention" (9 : Nat) "PromisedSlots$Device") ∈ U0 := mkU 136 _ (by decide +kernel) rfl
theorem tw_72 : (Jvm.Cond.fieldLink "PromisedSlots$Contention" (11 : Nat) "PromisedSlots$Contention" "party" "[LPromisedSlots$Device;") ∈ U0 := mkU 138 _ (by decide +kernel) rfl
theorem tw_73 : (Jvm.Cond.fieldLink "PromisedSlots$Contention" (17 : Nat) "PromisedSlots$Contention" "partySize" "I") ∈ U0 := mkU 139 _ (by decide +kernel) rfl
theorem tw_74 : (Jvm.Cond.fieldLinkNest "PromisedSlots" (133 : Nat) "PromisedSlots$Contention" "seed" "I" "PromisedSlots") ∈ NW := mkN 140 _ (by decide +kernel) rfl
theorem tw_75 : (Jvm.Cond.fieldLink "PromisedSlots$Contention" (101 : Nat) "PromisedSlots$Contention" "seed" "I") ∈ U0 := mkU 141 _ (by decide +kernel) rfl
theorem tw_76 : (Jvm.Cond.fieldLink "PromisedSlots$Contention" (38 : Nat) "PromisedSlots$Contention" "senders" "I") ∈ U0 := mkU 142 _ (by decide +kernel) rfl
theorem tw_77 : (Jvm.Cond.fieldLink "PromisedSlots$Contention" (64 : Nat) "PromisedSlots$Contention" "lastSender" "I") ∈ U0 := mkU 143 _ (by decide +kernel) rfl
theorem tw_89 : (Jvm.Cond.classLink "PromisedSlots" (37 : Nat) "PromisedSlots$Layout") ∈ U0 := mkU 155 _ (by decide +kernel) rfl
theorem tw_91 : (Jvm.Cond.methodLinkNest "PromisedSlots" (39 : Nat) ({ cls := "PromisedSlots$Layout", name := "<init>", desc := "()V" } : Jvm.MethodName) "PromisedSlots") ∈ NW := mkN 157 _ (by decide +kernel) rfl
theorem tw_92 : (Jvm.Cond.instanceMethod ({ cls := "PromisedSlots$Layout", name := "<init>", desc := "()V" } : Jvm.MethodName)) ∈ U0 := mkU 158 _ (by decide +kernel) rfl
theorem tw_93 : (Jvm.Cond.code ({ cls := "PromisedSlots$Layout", name := "<init>", desc := "()V" } : Jvm.MethodName) prog_5_method_1_code (1 : Nat) (Option.none : Option Jvm.ClassFile.FieldType)) ∈ U0 := mkU 159 _ (by decide +kernel) rfl
theorem tw_94 : (Jvm.Cond.methodLink "PromisedSlots$Layout" (3 : Nat) ({ cls := "java/lang/Object", name := "<init>", desc := "()V" } : Jvm.MethodName)) ∈ U0 := mkU 160 _ (by decide +kernel) rfl
theorem tw_95 : (Jvm.Cond.fieldLink "PromisedSlots$Layout" (41 : Nat) "PromisedSlots$Layout" "beat" "I") ∈ U0 := mkU 161 _ (by decide +kernel) rfl
theorem tw_96 : (Jvm.Cond.fieldLinkNest "PromisedSlots$Reader" (75 : Nat) "PromisedSlots$Layout" "beat" "I" "PromisedSlots") ∈ NW := mkN 162 _ (by decide +kernel) rfl
theorem tw_97 : (Jvm.Cond.fieldLinkNest "PromisedSlots" (105 : Nat) "PromisedSlots$Layout" "beat" "I" "PromisedSlots") ∈ NW := mkN 163 _ (by decide +kernel) rfl
theorem tw_98 : (Jvm.Cond.fieldLink "PromisedSlots$Layout" (44 : Nat) "PromisedSlots$Layout" "active" "I") ∈ U0 := mkU 164 _ (by decide +kernel) rfl
theorem tw_99 : (Jvm.Cond.fieldLinkNest "PromisedSlots" (205 : Nat) "PromisedSlots$Layout" "active" "I" "PromisedSlots") ∈ NW := mkN 165 _ (by decide +kernel) rfl
theorem tw_100 : (Jvm.Cond.fieldLink "PromisedSlots$Layout" (47 : Nat) "PromisedSlots$Layout" "slot" "I") ∈ U0 := mkU 166 _ (by decide +kernel) rfl
theorem tw_101 : (Jvm.Cond.fieldLinkNest "PromisedSlots" (218 : Nat) "PromisedSlots$Layout" "slot" "I" "PromisedSlots") ∈ NW := mkN 167 _ (by decide +kernel) rfl
theorem tw_102 : (Jvm.Cond.fieldLink "PromisedSlots$Layout" (50 : Nat) "PromisedSlots$Layout" "least" "I") ∈ U0 := mkU 168 _ (by decide +kernel) rfl
theorem tw_103 : (Jvm.Cond.fieldLinkNest "PromisedSlots" (181 : Nat) "PromisedSlots$Layout" "least" "I" "PromisedSlots") ∈ NW := mkN 169 _ (by decide +kernel) rfl
theorem tw_104 : (Jvm.Cond.fieldLink "PromisedSlots$Layout" (27 : Nat) "PromisedSlots$Layout" "life" "I") ∈ U0 := mkU 170 _ (by decide +kernel) rfl
theorem tw_105 : (Jvm.Cond.fieldLinkNest "PromisedSlots$Reader" (94 : Nat) "PromisedSlots$Layout" "life" "I" "PromisedSlots") ∈ NW := mkN 171 _ (by decide +kernel) rfl
theorem tw_106 : (Jvm.Cond.fieldLinkNest "PromisedSlots" (221 : Nat) "PromisedSlots$Layout" "life" "I" "PromisedSlots") ∈ NW := mkN 172 _ (by decide +kernel) rfl
theorem tw_107 : (Jvm.Cond.fieldLink "PromisedSlots$Layout" (34 : Nat) "PromisedSlots$Layout" "coordinatorCount" "I") ∈ U0 := mkU 173 _ (by decide +kernel) rfl
theorem tw_108 : (Jvm.Cond.fieldLinkNest "PromisedSlots$Reader" (43 : Nat) "PromisedSlots$Layout" "coordinatorCount" "I" "PromisedSlots") ∈ NW := mkN 174 _ (by decide +kernel) rfl
theorem tw_109 : (Jvm.Cond.fieldLinkNest "PromisedSlots" (108 : Nat) "PromisedSlots$Layout" "coordinatorCount" "I" "PromisedSlots") ∈ NW := mkN 175 _ (by decide +kernel) rfl
theorem tw_110 : (Jvm.Cond.fieldLink "PromisedSlots$Layout" (31 : Nat) "PromisedSlots$Layout" "deviceCount" "I") ∈ U0 := mkU 176 _ (by decide +kernel) rfl
theorem tw_111 : (Jvm.Cond.fieldLinkNest "PromisedSlots$Reader" (49 : Nat) "PromisedSlots$Layout" "deviceCount" "I" "PromisedSlots") ∈ NW := mkN 177 _ (by decide +kernel) rfl
theorem tw_112 : (Jvm.Cond.fieldLinkNest "PromisedSlots" (94 : Nat) "PromisedSlots$Layout" "deviceCount" "I" "PromisedSlots") ∈ NW := mkN 178 _ (by decide +kernel) rfl
theorem tw_113 : (Jvm.Cond.fieldLink "PromisedSlots$Layout" (9 : Nat) "PromisedSlots$Layout" "parents" "[I") ∈ U0 := mkU 179 _ (by decide +kernel) rfl
theorem tw_114 : (Jvm.Cond.fieldLink "PromisedSlots$Layout" (15 : Nat) "PromisedSlots$Layout" "starts" "[I") ∈ U0 := mkU 180 _ (by decide +kernel) rfl
theorem tw_115 : (Jvm.Cond.fieldLink "PromisedSlots$Layout" (18 : Nat) "PromisedSlots$Layout" "homes" "[I") ∈ U0 := mkU 181 _ (by decide +kernel) rfl
theorem tw_116 : (Jvm.Cond.fieldLink "PromisedSlots$Layout" (21 : Nat) "PromisedSlots$Layout" "lengths" "[I") ∈ U0 := mkU 182 _ (by decide +kernel) rfl
theorem tw_117 : (Jvm.Cond.fieldLink "PromisedSlots$Layout" (24 : Nat) "PromisedSlots$Layout" "exponents" "[I") ∈ U0 := mkU 183 _ (by decide +kernel) rfl
theorem tw_143 : (Jvm.Cond.classLink "PromisedSlots" (47 : Nat) "PromisedSlots$Coordinator") ∈ U0 := mkU 209 _ (by decide +kernel) rfl
theorem tw_146 : (Jvm.Cond.methodLinkNest "PromisedSlots" (53 : Nat) ({ cls := "PromisedSlots$Coordinator", name := "<init>", desc := "()V" } : Jvm.MethodName) "PromisedSlots") ∈ NW := mkN 212 _ (by decide +kernel) rfl
theorem tw_147 : (Jvm.Cond.instanceMethod ({ cls := "PromisedSlots$Coordinator", name := "<init>", desc := "()V" } : Jvm.MethodName)) ∈ U0 := mkU 213 _ (by decide +kernel) rfl
theorem tw_148 : (Jvm.Cond.code ({ cls := "PromisedSlots$Coordinator", name := "<init>", desc := "()V" } : Jvm.MethodName) prog_3_method_1_code (1 : Nat) (Option.none : Option Jvm.ClassFile.FieldType)) ∈ U0 := mkU 214 _ (by decide +kernel) rfl
theorem tw_149 : (Jvm.Cond.methodLink "PromisedSlots$Coordinator" (3 : Nat) ({ cls := "java/lang/Object", name := "<init>", desc := "()V" } : Jvm.MethodName)) ∈ U0 := mkU 215 _ (by decide +kernel) rfl
theorem tw_150 : (Jvm.Cond.classLink "PromisedSlots$Coordinator" (9 : Nat) "PromisedSlots$Promises") ∈ U0 := mkU 216 _ (by decide +kernel) rfl
theorem tw_152 : (Jvm.Cond.methodLinkNest "PromisedSlots$Coordinator" (11 : Nat) ({ cls := "PromisedSlots$Promises", name := "<init>", desc := "()V" } : Jvm.MethodName) "PromisedSlots") ∈ NW := mkN 218 _ (by decide +kernel) rfl
theorem tw_153 : (Jvm.Cond.instanceMethod ({ cls := "PromisedSlots$Promises", name := "<init>", desc := "()V" } : Jvm.MethodName)) ∈ U0 := mkU 219 _ (by decide +kernel) rfl
theorem tw_154 : (Jvm.Cond.code ({ cls := "PromisedSlots$Promises", name := "<init>", desc := "()V" } : Jvm.MethodName) prog_6_method_1_code (1 : Nat) (Option.none : Option Jvm.ClassFile.FieldType)) ∈ U0 := mkU 220 _ (by decide +kernel) rfl
theorem tw_155 : (Jvm.Cond.methodLink "PromisedSlots$Promises" (3 : Nat) ({ cls := "java/lang/Object", name := "<init>", desc := "()V" } : Jvm.MethodName)) ∈ U0 := mkU 221 _ (by decide +kernel) rfl
theorem tw_156 : (Jvm.Cond.fieldLink "PromisedSlots$Promises" (9 : Nat) "PromisedSlots$Promises" "holders" "[I") ∈ U0 := mkU 222 _ (by decide +kernel) rfl
theorem tw_157 : (Jvm.Cond.fieldLink "PromisedSlots$Promises" (15 : Nat) "PromisedSlots$Promises" "slots" "[I") ∈ U0 := mkU 223 _ (by decide +kernel) rfl
theorem tw_158 : (Jvm.Cond.fieldLink "PromisedSlots$Promises" (18 : Nat) "PromisedSlots$Promises" "idle" "[I") ∈ U0 := mkU 224 _ (by decide +kernel) rfl
theorem tw_159 : (Jvm.Cond.fieldLink "PromisedSlots$Promises" (21 : Nat) "PromisedSlots$Promises" "size" "I") ∈ U0 := mkU 225 _ (by decide +kernel) rfl
theorem tw_160 : (Jvm.Cond.fieldLinkNest "PromisedSlots" (175 : Nat) "PromisedSlots$Promises" "size" "I" "PromisedSlots") ∈ NW := mkN 226 _ (by decide +kernel) rfl
theorem tw_170 : (Jvm.Cond.fieldLink "PromisedSlots$Coordinator" (22 : Nat) "PromisedSlots$Coordinator" "parent" "I") ∈ U0 := mkU 236 _ (by decide +kernel) rfl
theorem tw_171 : (Jvm.Cond.fieldLink "PromisedSlots$Coordinator" (26 : Nat) "PromisedSlots$Coordinator" "start" "I") ∈ U0 := mkU 237 _ (by decide +kernel) rfl
theorem tw_172 : (Jvm.Cond.fieldLink "PromisedSlots$Coordinator" (32 : Nat) "PromisedSlots$Coordinator" "list" "I") ∈ U0 := mkU 238 _ (by decide +kernel) rfl
theorem tw_173 : (Jvm.Cond.fieldLink "PromisedSlots$Coordinator" (29 : Nat) "PromisedSlots$Coordinator" "nextBeacon" "I") ∈ U0 := mkU 239 _ (by decide +kernel) rfl
theorem tw_174 : (Jvm.Cond.fieldLinkNest "PromisedSlots" (255 : Nat) "PromisedSlots$Coordinator" "nextBeacon" "I" "PromisedSlots") ∈ NW := mkN 240 _ (by decide +kernel) rfl
theorem tw_175 : (Jvm.Cond.fieldLink "PromisedSlots$Coordinator" (35 : Nat) "PromisedSlots$Coordinator" "parts" "I") ∈ U0 := mkU 241 _ (by decide +kernel) rfl
theorem tw_176 : (Jvm.Cond.fieldLinkNest "PromisedSlots" (212 : Nat) "PromisedSlots$Coordinator" "parts" "I" "PromisedSlots") ∈ NW := mkN 242 _ (by decide +kernel) rfl
theorem tw_177 : (Jvm.Cond.fieldLink "PromisedSlots$Coordinator" (12 : Nat) "PromisedSlots$Coordinator" "promises" "LPromisedSlots$Promises;") ∈ U0 := mkU 243 _ (by decide +kernel) rfl
theorem tw_178 : (Jvm.Cond.fieldLinkNest "PromisedSlots" (171 : Nat) "PromisedSlots$Coordinator" "promises" "LPromisedSlots$Promises;" "PromisedSlots") ∈ NW := mkN 244 _ (by decide +kernel) rfl
theorem tw_179 : (Jvm.Cond.fieldLink "PromisedSlots$Coordinator" (18 : Nat) "PromisedSlots$Coordinator" "air" "[I") ∈ U0 := mkU 245 _ (by decide +kernel) rfl
theorem tw_180 : (Jvm.Cond.fieldLinkNest "PromisedSlots" (208 : Nat) "PromisedSlots$Coordinator" "air" "[I" "PromisedSlots") ∈ NW := mkN 246 _ (by decide +kernel) rfl
theorem tw_196 : (Jvm.Cond.classLink "PromisedSlots" (54 : Nat) "PromisedSlots$Device") ∈ U0 := mkU 262 _ (by decide +kernel) rfl
theorem tw_198 : (Jvm.Cond.methodLink "PromisedSlots" (60 : Nat) ({ cls := "PromisedSlots$Device", name := "<init>", desc := "(I)V" } : Jvm.MethodName)) ∈ U0 := mkU 264 _ (by decide +kernel) rfl
theorem tw_199 : (Jvm.Cond.instanceMethod ({ cls := "PromisedSlots$Device", name := "<init>", desc := "(I)V" } : Jvm.MethodName)) ∈ U0 := mkU 265 _ (by decide +kernel) rfl
theorem tw_200 : (Jvm.Cond.code ({ cls := "PromisedSlots$Device", name := "<init>", desc := "(I)V" } : Jvm.MethodName) prog_4_method_1_code (2 : Nat) (Option.none : Option Jvm.ClassFile.FieldType)) ∈ U0 := mkU 266 _ (by decide +kernel) rfl
theorem tw_201 : (Jvm.Cond.methodLink "PromisedSlots$Device" (3 : Nat) ({ cls := "java/lang/Object", name := "<init>", desc := "()V" } : Jvm.MethodName)) ∈ U0 := mkU 267 _ (by decide +kernel) rfl
theorem tw_202 : (Jvm.Cond.fieldLink "PromisedSlots$Device" (9 : Nat) "PromisedSlots$Device" "number" "I") ∈ U0 := mkU 268 _ (by decide +kernel) rfl
theorem tw_203 : (Jvm.Cond.fieldLinkNest "PromisedSlots$Contention" (61 : Nat) "PromisedSlots$Device" "number" "I" "PromisedSlots") ∈ NW := mkN 269 _ (by decide +kernel) rfl
theorem tw_204 : (Jvm.Cond.fieldLink "PromisedSlots$Device" (15 : Nat) "PromisedSlots$Device" "home" "I") ∈ U0 := mkU 270 _ (by decide +kernel) rfl
theorem tw_205 : (Jvm.Cond.fieldLinkNest "PromisedSlots" (140 : Nat) "PromisedSlots$Device" "home" "I" "PromisedSlots") ∈ NW := mkN 271 _ (by decide +kernel) rfl
theorem tw_206 : (Jvm.Cond.fieldLink "PromisedSlots$Device" (18 : Nat) "PromisedSlots$Device" "length" "I") ∈ U0 := mkU 272 _ (by decide +kernel) rfl
theorem tw_207 : (Jvm.Cond.fieldLink "PromisedSlots$Device" (21 : Nat) "PromisedSlots$Device" "firstExponent" "I") ∈ U0 := mkU 273 _ (by decide +kernel) rfl
theorem tw_208 : (Jvm.Cond.fieldLink "PromisedSlots$Device" (24 : Nat) "PromisedSlots$Device" "toContend" "I") ∈ U0 := mkU 274 _ (by decide +kernel) rfl
theorem tw_209 : (Jvm.Cond.fieldLinkNest "PromisedSlots$Contention" (67 : Nat) "PromisedSlots$Device" "toContend" "I" "PromisedSlots") ∈ NW := mkN 275 _ (by decide +kernel) rfl
theorem tw_210 : (Jvm.Cond.fieldLinkNest "PromisedSlots" (155 : Nat) "PromisedSlots$Device" "toContend" "I" "PromisedSlots") ∈ NW := mkN 276 _ (by decide +kernel) rfl
theorem tw_211 : (Jvm.Cond.fieldLink "PromisedSlots$Device" (27 : Nat) "PromisedSlots$Device" "toBePromised" "I") ∈ U0 := mkU 277 _ (by decide +kernel) rfl
theorem tw_212 : (Jvm.Cond.fieldLinkNest "PromisedSlots" (158 : Nat) "PromisedSlots$Device" "toBePromised" "I" "PromisedSlots") ∈ NW := mkN 278 _ (by decide +kernel) rfl
theorem tw_213 : (Jvm.Cond.fieldLink "PromisedSlots$Device" (30 : Nat) "PromisedSlots$Device" "sent" "I") ∈ U0 := mkU 279 _ (by decide +kernel) rfl
theorem tw_214 : (Jvm.Cond.fieldLink "PromisedSlots$Device" (33 : Nat) "PromisedSlots$Device" "givenUp" "I") ∈ U0 := mkU 280 _ (by decide +kernel) rfl
theorem tw_215 : (Jvm.Cond.fieldLink "PromisedSlots$Device" (36 : Nat) "PromisedSlots$Device" "missed" "I") ∈ U0 := mkU 281 _ (by decide +kernel) rfl
theorem tw_216 : (Jvm.Cond.fieldLink "PromisedSlots$Device" (39 : Nat) "PromisedSlots$Device" "deaf" "I") ∈ U0 := mkU 282 _ (by decide +kernel) rfl
theorem tw_217 : (Jvm.Cond.fieldLinkNest "PromisedSlots" (161 : Nat) "PromisedSlots$Device" "deaf" "I" "PromisedSlots") ∈ NW := mkN 283 _ (by decide +kernel) rfl
theorem tw_218 : (Jvm.Cond.fieldLink "PromisedSlots$Device" (42 : Nat) "PromisedSlots$Device" "doing" "I") ∈ U0 := mkU 284 _ (by decide +kernel) rfl
theorem tw_219 : (Jvm.Cond.fieldLinkNest "PromisedSlots$Contention" (45 : Nat) "PromisedSlots$Device" "doing" "I" "PromisedSlots") ∈ NW := mkN 285 _ (by decide +kernel) rfl
theorem tw_220 : (Jvm.Cond.fieldLink "PromisedSlots$Device" (45 : Nat) "PromisedSlots$Device" "exponent" "I") ∈ U0 := mkU 286 _ (by decide +kernel) rfl
theorem tw_221 : (Jvm.Cond.fieldLinkNest "PromisedSlots$Contention" (105 : Nat) "PromisedSlots$Device" "exponent" "I" "PromisedSlots") ∈ NW := mkN 287 _ (by decide +kernel) rfl
theorem tw_222 : (Jvm.Cond.fieldLink "PromisedSlots$Device" (48 : Nat) "PromisedSlots$Device" "busyLooks" "I") ∈ U0 := mkU 288 _ (by decide +kernel) rfl
theorem tw_223 : (Jvm.Cond.fieldLink "PromisedSlots$Device" (51 : Nat) "PromisedSlots$Device" "tries" "I") ∈ U0 := mkU 289 _ (by decide +kernel) rfl
theorem tw_224 : (Jvm.Cond.fieldLink "PromisedSlots$Device" (54 : Nat) "PromisedSlots$Device" "hurtFrames" "I") ∈ U0 := mkU 290 _ (by decide +kernel) rfl
theorem tw_225 : (Jvm.Cond.fieldLink "PromisedSlots$Device" (85 : Nat) "PromisedSlots$Device" "heard" "Z") ∈ U0 := mkU 291 _ (by decide +kernel) rfl
theorem tw_226 : (Jvm.Cond.fieldLinkNest "PromisedSlots" (282 : Nat) "PromisedSlots$Device" "heard" "Z" "PromisedSlots") ∈ NW := mkN 292 _ (by decide +kernel) rfl
theorem tw_227 : (Jvm.Cond.fieldLinkNest "PromisedSlots$Contention" (48 : Nat) "PromisedSlots$Device" "wait" "I" "PromisedSlots") ∈ NW := mkN 293 _ (by decide +kernel) rfl
theorem tw_228 : (Jvm.Cond.fieldLink "PromisedSlots$Device" (57 : Nat) "PromisedSlots$Device" "wait" "I") ∈ U0 := mkU 294 _ (by decide +kernel) rfl
theorem tw_229 : (Jvm.Cond.fieldLinkNest "PromisedSlots$Contention" (55 : Nat) "PromisedSlots$Device" "freeLooks" "I" "PromisedSlots") ∈ NW := mkN 295 _ (by decide +kernel) rfl
theorem tw_230 : (Jvm.Cond.fieldLink "PromisedSlots$Device" (66 : Nat) "PromisedSlots$Device" "freeLooks" "I") ∈ U0 := mkU 296 _ (by decide +kernel) rfl
theorem tw_231 : (Jvm.Cond.fieldLinkNest "PromisedSlots$Contention" (88 : Nat) "PromisedSlots$Device" "ticksToSend" "I" "PromisedSlots") ∈ NW := mkN 297 _ (by decide +kernel) rfl
theorem tw_232 : (Jvm.Cond.fieldLink "PromisedSlots$Device" (69 : Nat) "PromisedSlots$Device" "ticksToSend" "I") ∈ U0 := mkU 298 _ (by decide +kernel) rfl
theorem tw_233 : (Jvm.Cond.fieldLinkNest "PromisedSlots$Contention" (77 : Nat) "PromisedSlots$Device" "hurt" "Z" "PromisedSlots") ∈ NW := mkN 299 _ (by decide +kernel) rfl
theorem tw_234 : (Jvm.Cond.fieldLink "PromisedSlots$Device" (72 : Nat) "PromisedSlots$Device" "hurt" "Z") ∈ U0 := mkU 300 _ (by decide +kernel) rfl
theorem tw_277 : (Jvm.Cond.methodLink "PromisedSlots" (63 : Nat) ({ cls := "java/lang/String", name := "length", desc := "()I" } : Jvm.MethodName)) ∈ U0 := mkU 343 _ (by decide +kernel) rfl
theorem tw_278 : (Jvm.Cond.instanceMethod ({ cls := "java/lang/String", name := "length", desc := "()I" } : Jvm.MethodName)) ∈ U0 := mkU 344 _ (by decide +kernel) rfl
theorem tw_279 : (Jvm.Cond.selects "java/lang/String" ({ cls := "java/lang/String", name := "length", desc := "()I" } : Jvm.MethodName) ({ cls := "java/lang/String", name := "length", desc := "()I" } : Jvm.MethodName)) ∈ U0 := mkU 345 _ (by decide +kernel) rfl
theorem tw_280 : (Jvm.Cond.code ({ cls := "java/lang/String", name := "length", desc := "()I" } : Jvm.MethodName) prog_12_method_54_code (1 : Nat) (Option.some Jvm.ClassFile.FieldType.int)) ∈ U0 := mkU 346 _ (by decide +kernel) rfl
theorem tw_281 : (Jvm.Cond.methodLink "java/lang/String" (335 : Nat) ({ cls := "java/lang/String", name := "coder", desc := "()B" } : Jvm.MethodName)) ∈ U0 := mkU 347 _ (by decide +kernel) rfl
theorem tw_282 : (Jvm.Cond.instanceMethod ({ cls := "java/lang/String", name := "coder", desc := "()B" } : Jvm.MethodName)) ∈ U0 := mkU 348 _ (by decide +kernel) rfl
theorem tw_283 : (Jvm.Cond.selects "java/lang/String" ({ cls := "java/lang/String", name := "coder", desc := "()B" } : Jvm.MethodName) ({ cls := "java/lang/String", name := "coder", desc := "()B" } : Jvm.MethodName)) ∈ U0 := mkU 349 _ (by decide +kernel) rfl
theorem tw_284 : (Jvm.Cond.code ({ cls := "java/lang/String", name := "coder", desc := "()B" } : Jvm.MethodName) prog_12_method_152_code (1 : Nat) (Option.some Jvm.ClassFile.FieldType.byte)) ∈ U0 := mkU 350 _ (by decide +kernel) rfl
theorem tw_285 : (Jvm.Cond.fieldLink "java/lang/String" (38 : Nat) "java/lang/String" "COMPACT_STRINGS" "Z") ∈ U0 := mkU 351 _ (by decide +kernel) rfl
theorem tw_287 : (Jvm.Cond.methodLink "PromisedSlots" (69 : Nat) ({ cls := "java/lang/String", name := "charAt", desc := "(I)C" } : Jvm.MethodName)) ∈ U0 := mkU 353 _ (by decide +kernel) rfl
theorem tw_288 : (Jvm.Cond.instanceMethod ({ cls := "java/lang/String", name := "charAt", desc := "(I)C" } : Jvm.MethodName)) ∈ U0 := mkU 354 _ (by decide +kernel) rfl
theorem tw_289 : (Jvm.Cond.selects "java/lang/String" ({ cls := "java/lang/String", name := "charAt", desc := "(I)C" } : Jvm.MethodName) ({ cls := "java/lang/String", name := "charAt", desc := "(I)C" } : Jvm.MethodName)) ∈ U0 := mkU 355 _ (by decide +kernel) rfl
theorem tw_290 : (Jvm.Cond.code ({ cls := "java/lang/String", name := "charAt", desc := "(I)C" } : Jvm.MethodName) prog_12_method_56_code (2 : Nat) (Option.some Jvm.ClassFile.FieldType.char)) ∈ U0 := mkU 356 _ (by decide +kernel) rfl
theorem tw_291 : (Jvm.Cond.methodLink "java/lang/String" (492 : Nat) ({ cls := "java/lang/String", name := "isLatin1", desc := "()Z" } : Jvm.MethodName)) ∈ U0 := mkU 357 _ (by decide +kernel) rfl
theorem tw_292 : (Jvm.Cond.instanceMethod ({ cls := "java/lang/String", name := "isLatin1", desc := "()Z" } : Jvm.MethodName)) ∈ U0 := mkU 358 _ (by decide +kernel) rfl
theorem tw_293 : (Jvm.Cond.selects "java/lang/String" ({ cls := "java/lang/String", name := "isLatin1", desc := "()Z" } : Jvm.MethodName) ({ cls := "java/lang/String", name := "isLatin1", desc := "()Z" } : Jvm.MethodName)) ∈ U0 := mkU 359 _ (by decide +kernel) rfl
theorem tw_294 : (Jvm.Cond.code ({ cls := "java/lang/String", name := "isLatin1", desc := "()Z" } : Jvm.MethodName) prog_12_method_154_code (1 : Nat) (Option.some Jvm.ClassFile.FieldType.boolean)) ∈ U0 := mkU 360 _ (by decide +kernel) rfl
theorem tw_295 : (Jvm.Cond.methodLink "java/lang/String" (495 : Nat) ({ cls := "java/lang/StringLatin1", name := "charAt", desc := "([BI)C" } : Jvm.MethodName)) ∈ U0 := mkU 361 _ (by decide +kernel) rfl
theorem tw_296 : (Jvm.Cond.static ({ cls := "java/lang/StringLatin1", name := "charAt", desc := "([BI)C" } : Jvm.MethodName)) ∈ U0 := mkU 362 _ (by decide +kernel) rfl
theorem tw_297 : (Jvm.Cond.code ({ cls := "java/lang/StringLatin1", name := "charAt", desc := "([BI)C" } : Jvm.MethodName) prog_13_method_2_code (2 : Nat) (Option.some Jvm.ClassFile.FieldType.char)) ∈ U0 := mkU 363 _ (by decide +kernel) rfl
theorem tw_298 : (Jvm.Cond.methodLink "java/lang/StringLatin1" (9 : Nat) ({ cls := "java/lang/String", name := "checkIndex", desc := "(II)V" } : Jvm.MethodName)) ∈ U0 := mkU 364 _ (by decide +kernel) rfl
theorem tw_299 : (Jvm.Cond.static ({ cls := "java/lang/String", name := "checkIndex", desc := "(II)V" } : Jvm.MethodName)) ∈ U0 := mkU 365 _ (by decide +kernel) rfl
theorem tw_300 : (Jvm.Cond.code ({ cls := "java/lang/String", name := "checkIndex", desc := "(II)V" } : Jvm.MethodName) prog_12_method_155_code (2 : Nat) (Option.none : Option Jvm.ClassFile.FieldType)) ∈ U0 := mkU 366 _ (by decide +kernel) rfl
theorem tw_301 : (Jvm.Cond.fieldLink "java/lang/String" (1053 : Nat) "jdk/internal/util/Preconditions" "SIOOBE_FORMATTER" "Ljava/util/function/BiFunction;") ∈ U0 := mkU 367 _ (by decide +kernel) rfl
theorem tw_303 : (Jvm.Cond.methodLink "java/lang/String" (1059 : Nat) ({ cls := "jdk/internal/util/Preconditions", name := "checkIndex", desc := "(IILjava/util/function/BiFunction;)I" } : Jvm.MethodName)) ∈ U0 := mkU 369 _ (by decide +kernel) rfl
theorem tw_304 : (Jvm.Cond.static ({ cls := "jdk/internal/util/Preconditions", name := "checkIndex", desc := "(IILjava/util/function/BiFunction;)I" } : Jvm.MethodName)) ∈ U0 := mkU 370 _ (by decide +kernel) rfl
theorem tw_305 : (Jvm.Cond.code ({ cls := "jdk/internal/util/Preconditions", name := "checkIndex", desc := "(IILjava/util/function/BiFunction;)I" } : Jvm.MethodName) prog_16_method_11_code (3 : Nat) (Option.some Jvm.ClassFile.FieldType.int)) ∈ U0 := mkU 371 _ (by decide +kernel) rfl
theorem tw_306 : (Jvm.Cond.methodLink "java/lang/String" (498 : Nat) ({ cls := "java/lang/StringUTF16", name := "charAt", desc := "([BI)C" } : Jvm.MethodName)) ∈ U0 := mkU 372 _ (by decide +kernel) rfl
theorem tw_307 : (Jvm.Cond.static ({ cls := "java/lang/StringUTF16", name := "charAt", desc := "([BI)C" } : Jvm.MethodName)) ∈ U0 := mkU 373 _ (by decide +kernel) rfl
theorem tw_308 : (Jvm.Cond.code ({ cls := "java/lang/StringUTF16", name := "charAt", desc := "([BI)C" } : Jvm.MethodName) prog_14_method_83_code (2 : Nat) (Option.some Jvm.ClassFile.FieldType.char)) ∈ U0 := mkU 374 _ (by decide +kernel) rfl
theorem tw_309 : (Jvm.Cond.methodLink "java/lang/StringUTF16" (67 : Nat) ({ cls := "java/lang/StringUTF16", name := "checkIndex", desc := "(I[B)V" } : Jvm.MethodName)) ∈ U0 := mkU 375 _ (by decide +kernel) rfl
theorem tw_310 : (Jvm.Cond.static ({ cls := "java/lang/StringUTF16", name := "checkIndex", desc := "(I[B)V" } : Jvm.MethodName)) ∈ U0 := mkU 376 _ (by decide +kernel) rfl
theorem tw_311 : (Jvm.Cond.code ({ cls := "java/lang/StringUTF16", name := "checkIndex", desc := "(I[B)V" } : Jvm.MethodName) prog_14_method_91_code (2 : Nat) (Option.none : Option Jvm.ClassFile.FieldType)) ∈ U0 := mkU 377 _ (by decide +kernel) rfl
theorem tw_312 : (Jvm.Cond.methodLink "java/lang/StringUTF16" (48 : Nat) ({ cls := "java/lang/StringUTF16", name := "length", desc := "([B)I" } : Jvm.MethodName)) ∈ U0 := mkU 378 _ (by decide +kernel) rfl
theorem tw_313 : (Jvm.Cond.static ({ cls := "java/lang/StringUTF16", name := "length", desc := "([B)I" } : Jvm.MethodName)) ∈ U0 := mkU 379 _ (by decide +kernel) rfl
theorem tw_314 : (Jvm.Cond.code ({ cls := "java/lang/StringUTF16", name := "length", desc := "([B)I" } : Jvm.MethodName) prog_14_method_6_code (1 : Nat) (Option.some Jvm.ClassFile.FieldType.int)) ∈ U0 := mkU 380 _ (by decide +kernel) rfl
theorem tw_315 : (Jvm.Cond.methodLink "java/lang/StringUTF16" (414 : Nat) ({ cls := "java/lang/String", name := "checkIndex", desc := "(II)V" } : Jvm.MethodName)) ∈ U0 := mkU 381 _ (by decide +kernel) rfl
theorem tw_316 : (Jvm.Cond.methodLink "java/lang/StringUTF16" (71 : Nat) ({ cls := "java/lang/StringUTF16", name := "getChar", desc := "([BI)C" } : Jvm.MethodName)) ∈ U0 := mkU 382 _ (by decide +kernel) rfl
theorem tw_317 : (Jvm.Cond.static ({ cls := "java/lang/StringUTF16", name := "getChar", desc := "([BI)C" } : Jvm.MethodName)) ∈ U0 := mkU 383 _ (by decide +kernel) rfl
theorem tw_318 : (Jvm.Cond.code ({ cls := "java/lang/StringUTF16", name := "getChar", desc := "([BI)C" } : Jvm.MethodName) prog_14_method_5_code (2 : Nat) (Option.some Jvm.ClassFile.FieldType.char)) ∈ U0 := mkU 384 _ (by decide +kernel) rfl
theorem tw_319 : (Jvm.Cond.fieldLink "java/lang/StringUTF16" (44 : Nat) "java/lang/StringUTF16" "$assertionsDisabled" "Z") ∈ U0 := mkU 385 _ (by decide +kernel) rfl
theorem tw_321 : (Jvm.Cond.fieldLink "java/lang/StringUTF16" (59 : Nat) "java/lang/StringUTF16" "HI_BYTE_SHIFT" "I") ∈ U0 := mkU 387 _ (by decide +kernel) rfl
theorem tw_323 : (Jvm.Cond.fieldLink "java/lang/StringUTF16" (63 : Nat) "java/lang/StringUTF16" "LO_BYTE_SHIFT" "I") ∈ U0 := mkU 389 _ (by decide +kernel) rfl
theorem tw_325 : (Jvm.Cond.methodLink "PromisedSlots" (73 : Nat) ({ cls := "PromisedSlots$Row", name := "append", desc := "(I)Z" } : Jvm.MethodName)) ∈ U0 := mkU 391 _ (by decide +kernel) rfl
theorem tw_326 : (Jvm.Cond.instanceMethod ({ cls := "PromisedSlots$Row", name := "append", desc := "(I)Z" } : Jvm.MethodName)) ∈ U0 := mkU 392 _ (by decide +kernel) rfl
theorem tw_327 : (Jvm.Cond.selects "PromisedSlots$Row" ({ cls := "PromisedSlots$Row", name := "append", desc := "(I)Z" } : Jvm.MethodName) ({ cls := "PromisedSlots$Row", name := "append", desc := "(I)Z" } : Jvm.MethodName)) ∈ U0 := mkU 393 _ (by decide +kernel) rfl
theorem tw_328 : (Jvm.Cond.code ({ cls := "PromisedSlots$Row", name := "append", desc := "(I)Z" } : Jvm.MethodName) prog_8_method_2_code (2 : Nat) (Option.some Jvm.ClassFile.FieldType.boolean)) ∈ U0 := mkU 394 _ (by decide +kernel) rfl
theorem tw_329 : (Jvm.Cond.methodLink "PromisedSlots" (77 : Nat) ({ cls := "PromisedSlots$Reader", name := "readInto", desc := "(LPromisedSlots$Layout;)I" } : Jvm.MethodName)) ∈ U0 := mkU 395 _ (by decide +kernel) rfl
theorem tw_330 : (Jvm.Cond.instanceMethod ({ cls := "PromisedSlots$Reader", name := "readInto", desc := "(LPromisedSlots$Layout;)I" } : Jvm.MethodName)) ∈ U0 := mkU 396 _ (by decide +kernel) rfl
theorem tw_331 : (Jvm.Cond.selects "PromisedSlots$Reader" ({ cls := "PromisedSlots$Reader", name := "readInto", desc := "(LPromisedSlots$Layout;)I" } : Jvm.MethodName) ({ cls := "PromisedSlots$Reader", name := "readInto", desc := "(LPromisedSlots$Layout;)I" } : Jvm.MethodName)) ∈ U0 := mkU 397 _ (by decide +kernel) rfl
theorem tw_332 : (Jvm.Cond.code ({ cls := "PromisedSlots$Reader", name := "readInto", desc := "(LPromisedSlots$Layout;)I" } : Jvm.MethodName) prog_7_method_2_code (4 : Nat) (Option.some Jvm.ClassFile.FieldType.int)) ∈ U0 := mkU 398 _ (by decide +kernel) rfl
theorem tw_333 : (Jvm.Cond.methodLink "PromisedSlots$Reader" (15 : Nat) ({ cls := "PromisedSlots$Layout", name := "clear", desc := "()V" } : Jvm.MethodName)) ∈ U0 := mkU 399 _ (by decide +kernel) rfl
theorem tw_334 : (Jvm.Cond.instanceMethod ({ cls := "PromisedSlots$Layout", name := "clear", desc := "()V" } : Jvm.MethodName)) ∈ U0 := mkU 400 _ (by decide +kernel) rfl
theorem tw_335 : (Jvm.Cond.selects "PromisedSlots$Layout" ({ cls := "PromisedSlots$Layout", name := "clear", desc := "()V" } : Jvm.MethodName) ({ cls := "PromisedSlots$Layout", name := "clear", desc := "()V" } : Jvm.MethodName)) ∈ U0 := mkU 401 _ (by decide +kernel) rfl
theorem tw_336 : (Jvm.Cond.code ({ cls := "PromisedSlots$Layout", name := "clear", desc := "()V" } : Jvm.MethodName) prog_5_method_2_code (1 : Nat) (Option.none : Option Jvm.ClassFile.FieldType)) ∈ U0 := mkU 402 _ (by decide +kernel) rfl
theorem tw_337 : (Jvm.Cond.methodLink "PromisedSlots$Layout" (37 : Nat) ({ cls := "PromisedSlots$Layout", name := "addCoordinator", desc := "(II)V" } : Jvm.MethodName)) ∈ U0 := mkU 403 _ (by decide +kernel) rfl
theorem tw_338 : (Jvm.Cond.instanceMethod ({ cls := "PromisedSlots$Layout", name := "addCoordinator", desc := "(II)V" } : Jvm.MethodName)) ∈ U0 := mkU 404 _ (by decide +kernel) rfl
theorem tw_339 : (Jvm.Cond.selects "PromisedSlots$Layout" ({ cls := "PromisedSlots$Layout", name := "addCoordinator", desc := "(II)V" } : Jvm.MethodName) ({ cls := "PromisedSlots$Layout", name := "addCoordinator", desc := "(II)V" } : Jvm.MethodName)) ∈ U0 := mkU 405 _ (by decide +kernel) rfl
theorem tw_340 : (Jvm.Cond.code ({ cls := "PromisedSlots$Layout", name := "addCoordinator", desc := "(II)V" } : Jvm.MethodName) prog_5_method_4_code (4 : Nat) (Option.none : Option Jvm.ClassFile.FieldType)) ∈ U0 := mkU 406 _ (by decide +kernel) rfl
theorem tw_341 : (Jvm.Cond.methodLink "PromisedSlots$Reader" (32 : Nat) ({ cls := "PromisedSlots$Reader", name := "readItem", desc := "(LPromisedSlots$Layout;)V" } : Jvm.MethodName)) ∈ U0 := mkU 407 _ (by decide +kernel) rfl
theorem tw_343 : (Jvm.Cond.instanceMethod ({ cls := "PromisedSlots$Reader", name := "readItem", desc := "(LPromisedSlots$Layout;)V" } : Jvm.MethodName)) ∈ U0 := mkU 409 _ (by decide +kernel) rfl
theorem tw_344 : (Jvm.Cond.code ({ cls := "PromisedSlots$Reader", name := "readItem", desc := "(LPromisedSlots$Layout;)V" } : Jvm.MethodName) prog_7_method_3_code (4 : Nat) (Option.none : Option Jvm.ClassFile.FieldType)) ∈ U0 := mkU 410 _ (by decide +kernel) rfl
theorem tw_345 : (Jvm.Cond.methodLink "PromisedSlots$Reader" (36 : Nat) ({ cls := "PromisedSlots$Row", name := "at", desc := "(I)I" } : Jvm.MethodName)) ∈ U0 := mkU 411 _ (by decide +kernel) rfl
theorem tw_346 : (Jvm.Cond.instanceMethod ({ cls := "PromisedSlots$Row", name := "at", desc := "(I)I" } : Jvm.MethodName)) ∈ U0 := mkU 412 _ (by decide +kernel) rfl
theorem tw_347 : (Jvm.Cond.selects "PromisedSlots$Row" ({ cls := "PromisedSlots$Row", name := "at", desc := "(I)I" } : Jvm.MethodName) ({ cls := "PromisedSlots$Row", name := "at", desc := "(I)I" } : Jvm.MethodName)) ∈ U0 := mkU 413 _ (by decide +kernel) rfl
theorem tw_348 : (Jvm.Cond.code ({ cls := "PromisedSlots$Row", name := "at", desc := "(I)I" } : Jvm.MethodName) prog_8_method_4_code (2 : Nat) (Option.some Jvm.ClassFile.FieldType.int)) ∈ U0 := mkU 414 _ (by decide +kernel) rfl
theorem tw_349 : (Jvm.Cond.methodLink "PromisedSlots$Reader" (40 : Nat) ({ cls := "PromisedSlots$Reader", name := "readOrders", desc := "(LPromisedSlots$Layout;)V" } : Jvm.MethodName)) ∈ U0 := mkU 415 _ (by decide +kernel) rfl
theorem tw_351 : (Jvm.Cond.instanceMethod ({ cls := "PromisedSlots$Reader", name := "readOrders", desc := "(LPromisedSlots$Layout;)V" } : Jvm.MethodName)) ∈ U0 := mkU 417 _ (by decide +kernel) rfl
theorem tw_352 : (Jvm.Cond.code ({ cls := "PromisedSlots$Reader", name := "readOrders", desc := "(LPromisedSlots$Layout;)V" } : Jvm.MethodName) prog_7_method_4_code (5 : Nat) (Option.none : Option Jvm.ClassFile.FieldType)) ∈ U0 := mkU 418 _ (by decide +kernel) rfl
theorem tw_353 : (Jvm.Cond.methodLink "PromisedSlots$Reader" (58 : Nat) ({ cls := "PromisedSlots$Reader", name := "readNumber", desc := "(III)I" } : Jvm.MethodName)) ∈ U0 := mkU 419 _ (by decide +kernel) rfl
theorem tw_355 : (Jvm.Cond.instanceMethod ({ cls := "PromisedSlots$Reader", name := "readNumber", desc := "(III)I" } : Jvm.MethodName)) ∈ U0 := mkU 421 _ (by decide +kernel) rfl
theorem tw_356 : (Jvm.Cond.code ({ cls := "PromisedSlots$Reader", name := "readNumber", desc := "(III)I" } : Jvm.MethodName) prog_7_method_8_code (7 : Nat) (Option.some Jvm.ClassFile.FieldType.int)) ∈ U0 := mkU 422 _ (by decide +kernel) rfl
theorem tw_357 : (Jvm.Cond.methodLink "PromisedSlots$Reader" (62 : Nat) ({ cls := "java/lang/Math", name := "min", desc := "(II)I" } : Jvm.MethodName)) ∈ U0 := mkU 423 _ (by decide +kernel) rfl
theorem tw_358 : (Jvm.Cond.static ({ cls := "java/lang/Math", name := "min", desc := "(II)I" } : Jvm.MethodName)) ∈ U0 := mkU 424 _ (by decide +kernel) rfl
theorem tw_359 : (Jvm.Cond.code ({ cls := "java/lang/Math", name := "min", desc := "(II)I" } : Jvm.MethodName) prog_11_method_69_code (2 : Nat) (Option.some Jvm.ClassFile.FieldType.int)) ∈ U0 := mkU 425 _ (by decide +kernel) rfl
theorem tw_360 : (Jvm.Cond.methodLink "PromisedSlots$Reader" (68 : Nat) ({ cls := "PromisedSlots$Reader", name := "readEnd", desc := "()V" } : Jvm.MethodName)) ∈ U0 := mkU 426 _ (by decide +kernel) rfl
theorem tw_362 : (Jvm.Cond.instanceMethod ({ cls := "PromisedSlots$Reader", name := "readEnd", desc := "()V" } : Jvm.MethodName)) ∈ U0 := mkU 428 _ (by decide +kernel) rfl
theorem tw_363 : (Jvm.Cond.code ({ cls := "PromisedSlots$Reader", name := "readEnd", desc := "()V" } : Jvm.MethodName) prog_7_method_9_code (1 : Nat) (Option.none : Option Jvm.ClassFile.FieldType)) ∈ U0 := mkU 429 _ (by decide +kernel) rfl
theorem tw_364 : (Jvm.Cond.methodLink "PromisedSlots$Reader" (71 : Nat) ({ cls := "PromisedSlots$Layout", name := "setOrders", desc := "(III)V" } : Jvm.MethodName)) ∈ U0 := mkU 430 _ (by decide +kernel) rfl
theorem tw_365 : (Jvm.Cond.instanceMethod ({ cls := "PromisedSlots$Layout", name := "setOrders", desc := "(III)V" } : Jvm.MethodName)) ∈ U0 := mkU 431 _ (by decide +kernel) rfl
theorem tw_366 : (Jvm.Cond.selects "PromisedSlots$Layout" ({ cls := "PromisedSlots$Layout", name := "setOrders", desc := "(III)V" } : Jvm.MethodName) ({ cls := "PromisedSlots$Layout", name := "setOrders", desc := "(III)V" } : Jvm.MethodName)) ∈ U0 := mkU 432 _ (by decide +kernel) rfl
theorem tw_367 : (Jvm.Cond.code ({ cls := "PromisedSlots$Layout", name := "setOrders", desc := "(III)V" } : Jvm.MethodName) prog_5_method_3_code (4 : Nat) (Option.none : Option Jvm.ClassFile.FieldType)) ∈ U0 := mkU 433 _ (by decide +kernel) rfl
theorem tw_368 : (Jvm.Cond.methodLink "PromisedSlots$Reader" (46 : Nat) ({ cls := "PromisedSlots$Reader", name := "readCoordinator", desc := "(LPromisedSlots$Layout;)V" } : Jvm.MethodName)) ∈ U0 := mkU 434 _ (by decide +kernel) rfl
theorem tw_370 : (Jvm.Cond.instanceMethod ({ cls := "PromisedSlots$Reader", name := "readCoordinator", desc := "(LPromisedSlots$Layout;)V" } : Jvm.MethodName)) ∈ U0 := mkU 436 _ (by decide +kernel) rfl
theorem tw_371 : (Jvm.Cond.code ({ cls := "PromisedSlots$Reader", name := "readCoordinator", desc := "(LPromisedSlots$Layout;)V" } : Jvm.MethodName) prog_7_method_5_code (5 : Nat) (Option.none : Option Jvm.ClassFile.FieldType)) ∈ U0 := mkU 437 _ (by decide +kernel) rfl
theorem tw_372 : (Jvm.Cond.methodLink "PromisedSlots$Reader" (78 : Nat) ({ cls := "PromisedSlots$Layout", name := "startBehind", desc := "(II)I" } : Jvm.MethodName)) ∈ U0 := mkU 438 _ (by decide +kernel) rfl
theorem tw_373 : (Jvm.Cond.instanceMethod ({ cls := "PromisedSlots$Layout", name := "startBehind", desc := "(II)I" } : Jvm.MethodName)) ∈ U0 := mkU 439 _ (by decide +kernel) rfl
theorem tw_374 : (Jvm.Cond.selects "PromisedSlots$Layout" ({ cls := "PromisedSlots$Layout", name := "startBehind", desc := "(II)I" } : Jvm.MethodName) ({ cls := "PromisedSlots$Layout", name := "startBehind", desc := "(II)I" } : Jvm.MethodName)) ∈ U0 := mkU 440 _ (by decide +kernel) rfl
theorem tw_375 : (Jvm.Cond.code ({ cls := "PromisedSlots$Layout", name := "startBehind", desc := "(II)I" } : Jvm.MethodName) prog_5_method_6_code (4 : Nat) (Option.some Jvm.ClassFile.FieldType.int)) ∈ U0 := mkU 441 _ (by decide +kernel) rfl
theorem tw_376 : (Jvm.Cond.methodLink "PromisedSlots$Layout" (53 : Nat) ({ cls := "PromisedSlots$Layout", name := "startAt", desc := "(I)I" } : Jvm.MethodName)) ∈ U0 := mkU 442 _ (by decide +kernel) rfl
theorem tw_377 : (Jvm.Cond.instanceMethod ({ cls := "PromisedSlots$Layout", name := "startAt", desc := "(I)I" } : Jvm.MethodName)) ∈ U0 := mkU 443 _ (by decide +kernel) rfl
theorem tw_378 : (Jvm.Cond.selects "PromisedSlots$Layout" ({ cls := "PromisedSlots$Layout", name := "startAt", desc := "(I)I" } : Jvm.MethodName) ({ cls := "PromisedSlots$Layout", name := "startAt", desc := "(I)I" } : Jvm.MethodName)) ∈ U0 := mkU 444 _ (by decide +kernel) rfl
theorem tw_379 : (Jvm.Cond.code ({ cls := "PromisedSlots$Layout", name := "startAt", desc := "(I)I" } : Jvm.MethodName) prog_5_method_10_code (2 : Nat) (Option.some Jvm.ClassFile.FieldType.int)) ∈ U0 := mkU 445 _ (by decide +kernel) rfl
theorem tw_380 : (Jvm.Cond.methodLink "PromisedSlots$Reader" (81 : Nat) ({ cls := "PromisedSlots$Layout", name := "clashOf", desc := "(I)I" } : Jvm.MethodName)) ∈ U0 := mkU 446 _ (by decide +kernel) rfl
theorem tw_381 : (Jvm.Cond.instanceMethod ({ cls := "PromisedSlots$Layout", name := "clashOf", desc := "(I)I" } : Jvm.MethodName)) ∈ U0 := mkU 447 _ (by decide +kernel) rfl
theorem tw_382 : (Jvm.Cond.selects "PromisedSlots$Layout" ({ cls := "PromisedSlots$Layout", name := "clashOf", desc := "(I)I" } : Jvm.MethodName) ({ cls := "PromisedSlots$Layout", name := "clashOf", desc := "(I)I" } : Jvm.MethodName)) ∈ U0 := mkU 448 _ (by decide +kernel) rfl
theorem tw_383 : (Jvm.Cond.code ({ cls := "PromisedSlots$Layout", name := "clashOf", desc := "(I)I" } : Jvm.MethodName) prog_5_method_7_code (4 : Nat) (Option.some Jvm.ClassFile.FieldType.int)) ∈ U0 := mkU 449 _ (by decide +kernel) rfl
theorem tw_384 : (Jvm.Cond.methodLink "PromisedSlots$Layout" (57 : Nat) ({ cls := "java/lang/Math", name := "abs", desc := "(I)I" } : Jvm.MethodName)) ∈ U0 := mkU 450 _ (by decide +kernel) rfl
theorem tw_385 : (Jvm.Cond.static ({ cls := "java/lang/Math", name := "abs", desc := "(I)I" } : Jvm.MethodName)) ∈ U0 := mkU 451 _ (by decide +kernel) rfl
theorem tw_386 : (Jvm.Cond.code ({ cls := "java/lang/Math", name := "abs", desc := "(I)I" } : Jvm.MethodName) prog_11_method_59_code (1 : Nat) (Option.some Jvm.ClassFile.FieldType.int)) ∈ U0 := mkU 452 _ (by decide +kernel) rfl
theorem tw_387 : (Jvm.Cond.methodLink "PromisedSlots$Reader" (87 : Nat) ({ cls := "PromisedSlots$Layout", name := "addCoordinator", desc := "(II)V" } : Jvm.MethodName)) ∈ U0 := mkU 453 _ (by decide +kernel) rfl
theorem tw_388 : (Jvm.Cond.methodLink "PromisedSlots$Reader" (52 : Nat) ({ cls := "PromisedSlots$Reader", name := "readDevice", desc := "(LPromisedSlots$Layout;)V" } : Jvm.MethodName)) ∈ U0 := mkU 454 _ (by decide +kernel) rfl
theorem tw_390 : (Jvm.Cond.instanceMethod ({ cls := "PromisedSlots$Reader", name := "readDevice", desc := "(LPromisedSlots$Layout;)V" } : Jvm.MethodName)) ∈ U0 := mkU 456 _ (by decide +kernel) rfl
theorem tw_391 : (Jvm.Cond.code ({ cls := "PromisedSlots$Reader", name := "readDevice", desc := "(LPromisedSlots$Layout;)V" } : Jvm.MethodName) prog_7_method_6_code (5 : Nat) (Option.none : Option Jvm.ClassFile.FieldType)) ∈ U0 := mkU 457 _ (by decide +kernel) rfl
theorem tw_392 : (Jvm.Cond.methodLink "PromisedSlots$Reader" (91 : Nat) ({ cls := "PromisedSlots$Layout", name := "addDevice", desc := "(III)V" } : Jvm.MethodName)) ∈ U0 := mkU 458 _ (by decide +kernel) rfl
theorem tw_393 : (Jvm.Cond.instanceMethod ({ cls := "PromisedSlots$Layout", name := "addDevice", desc := "(III)V" } : Jvm.MethodName)) ∈ U0 := mkU 459 _ (by decide +kernel) rfl
theorem tw_394 : (Jvm.Cond.selects "PromisedSlots$Layout" ({ cls := "PromisedSlots$Layout", name := "addDevice", desc := "(III)V" } : Jvm.MethodName) ({ cls := "PromisedSlots$Layout", name := "addDevice", desc := "(III)V" } : Jvm.MethodName)) ∈ U0 := mkU 460 _ (by decide +kernel) rfl
theorem tw_395 : (Jvm.Cond.code ({ cls := "PromisedSlots$Layout", name := "addDevice", desc := "(III)V" } : Jvm.MethodName) prog_5_method_5_code (5 : Nat) (Option.none : Option Jvm.ClassFile.FieldType)) ∈ U0 := mkU 461 _ (by decide +kernel) rfl
theorem tw_396 : (Jvm.Cond.methodLink "PromisedSlots$Reader" (55 : Nat) ({ cls := "PromisedSlots$Reader", name := "readLife", desc := "(LPromisedSlots$Layout;)V" } : Jvm.MethodName)) ∈ U0 := mkU 462 _ (by decide +kernel) rfl
theorem tw_398 : (Jvm.Cond.instanceMethod ({ cls := "PromisedSlots$Reader", name := "readLife", desc := "(LPromisedSlots$Layout;)V" } : Jvm.MethodName)) ∈ U0 := mkU 464 _ (by decide +kernel) rfl
theorem tw_399 : (Jvm.Cond.code ({ cls := "PromisedSlots$Reader", name := "readLife", desc := "(LPromisedSlots$Layout;)V" } : Jvm.MethodName) prog_7_method_7_code (3 : Nat) (Option.none : Option Jvm.ClassFile.FieldType)) ∈ U0 := mkU 465 _ (by decide +kernel) rfl
theorem tw_400 : (Jvm.Cond.methodLink "PromisedSlots" (81 : Nat) ({ cls := "PromisedSlots", name := "takeLayout", desc := "()V" } : Jvm.MethodName)) ∈ U0 := mkU 466 _ (by decide +kernel) rfl
theorem tw_402 : (Jvm.Cond.instanceMethod ({ cls := "PromisedSlots", name := "takeLayout", desc := "()V" } : Jvm.MethodName)) ∈ U0 := mkU 468 _ (by decide +kernel) rfl
theorem tw_403 : (Jvm.Cond.code ({ cls := "PromisedSlots", name := "takeLayout", desc := "()V" } : Jvm.MethodName) prog_1_method_25_code (4 : Nat) (Option.none : Option Jvm.ClassFile.FieldType)) ∈ U0 := mkU 469 _ (by decide +kernel) rfl
theorem tw_404 : (Jvm.Cond.methodLink "PromisedSlots" (236 : Nat) ({ cls := "PromisedSlots$Layout", name := "startAt", desc := "(I)I" } : Jvm.MethodName)) ∈ U0 := mkU 470 _ (by decide +kernel) rfl
theorem tw_405 : (Jvm.Cond.methodLink "PromisedSlots" (239 : Nat) ({ cls := "PromisedSlots$Layout", name := "parentAt", desc := "(I)I" } : Jvm.MethodName)) ∈ U0 := mkU 471 _ (by decide +kernel) rfl
theorem tw_406 : (Jvm.Cond.instanceMethod ({ cls := "PromisedSlots$Layout", name := "parentAt", desc := "(I)I" } : Jvm.MethodName)) ∈ U0 := mkU 472 _ (by decide +kernel) rfl
theorem tw_407 : (Jvm.Cond.selects "PromisedSlots$Layout" ({ cls := "PromisedSlots$Layout", name := "parentAt", desc := "(I)I" } : Jvm.MethodName) ({ cls := "PromisedSlots$Layout", name := "parentAt", desc := "(I)I" } : Jvm.MethodName)) ∈ U0 := mkU 473 _ (by decide +kernel) rfl
theorem tw_408 : (Jvm.Cond.code ({ cls := "PromisedSlots$Layout", name := "parentAt", desc := "(I)I" } : Jvm.MethodName) prog_5_method_9_code (2 : Nat) (Option.some Jvm.ClassFile.FieldType.int)) ∈ U0 := mkU 474 _ (by decide +kernel) rfl
theorem tw_409 : (Jvm.Cond.methodLink "PromisedSlots" (128 : Nat) ({ cls := "PromisedSlots$Coordinator", name := "layAt", desc := "(III)V" } : Jvm.MethodName)) ∈ U0 := mkU 475 _ (by decide +kernel) rfl
theorem tw_410 : (Jvm.Cond.instanceMethod ({ cls := "PromisedSlots$Coordinator", name := "layAt", desc := "(III)V" } : Jvm.MethodName)) ∈ U0 := mkU 476 _ (by decide +kernel) rfl
theorem tw_411 : (Jvm.Cond.selects "PromisedSlots$Coordinator" ({ cls := "PromisedSlots$Coordinator", name := "layAt", desc := "(III)V" } : Jvm.MethodName) ({ cls := "PromisedSlots$Coordinator", name := "layAt", desc := "(III)V" } : Jvm.MethodName)) ∈ U0 := mkU 477 _ (by decide +kernel) rfl
theorem tw_412 : (Jvm.Cond.code ({ cls := "PromisedSlots$Coordinator", name := "layAt", desc := "(III)V" } : Jvm.MethodName) prog_3_method_2_code (4 : Nat) (Option.none : Option Jvm.ClassFile.FieldType)) ∈ U0 := mkU 478 _ (by decide +kernel) rfl
theorem tw_413 : (Jvm.Cond.methodLink "PromisedSlots$Coordinator" (38 : Nat) ({ cls := "PromisedSlots$Promises", name := "clear", desc := "()V" } : Jvm.MethodName)) ∈ U0 := mkU 479 _ (by decide +kernel) rfl
theorem tw_414 : (Jvm.Cond.instanceMethod ({ cls := "PromisedSlots$Promises", name := "clear", desc := "()V" } : Jvm.MethodName)) ∈ U0 := mkU 480 _ (by decide +kernel) rfl
theorem tw_415 : (Jvm.Cond.selects "PromisedSlots$Promises" ({ cls := "PromisedSlots$Promises", name := "clear", desc := "()V" } : Jvm.MethodName) ({ cls := "PromisedSlots$Promises", name := "clear", desc := "()V" } : Jvm.MethodName)) ∈ U0 := mkU 481 _ (by decide +kernel) rfl
theorem tw_416 : (Jvm.Cond.code ({ cls := "PromisedSlots$Promises", name := "clear", desc := "()V" } : Jvm.MethodName) prog_6_method_2_code (1 : Nat) (Option.none : Option Jvm.ClassFile.FieldType)) ∈ U0 := mkU 482 _ (by decide +kernel) rfl
theorem tw_417 : (Jvm.Cond.methodLink "PromisedSlots" (242 : Nat) ({ cls := "PromisedSlots$Layout", name := "homeAt", desc := "(I)I" } : Jvm.MethodName)) ∈ U0 := mkU 483 _ (by decide +kernel) rfl
theorem tw_418 : (Jvm.Cond.instanceMethod ({ cls := "PromisedSlots$Layout", name := "homeAt", desc := "(I)I" } : Jvm.MethodName)) ∈ U0 := mkU 484 _ (by decide +kernel) rfl
theorem tw_419 : (Jvm.Cond.selects "PromisedSlots$Layout" ({ cls := "PromisedSlots$Layout", name := "homeAt", desc := "(I)I" } : Jvm.MethodName) ({ cls := "PromisedSlots$Layout", name := "homeAt", desc := "(I)I" } : Jvm.MethodName)) ∈ U0 := mkU 485 _ (by decide +kernel) rfl
theorem tw_420 : (Jvm.Cond.code ({ cls := "PromisedSlots$Layout", name := "homeAt", desc := "(I)I" } : Jvm.MethodName) prog_5_method_11_code (2 : Nat) (Option.some Jvm.ClassFile.FieldType.int)) ∈ U0 := mkU 486 _ (by decide +kernel) rfl
theorem tw_421 : (Jvm.Cond.methodLink "PromisedSlots" (245 : Nat) ({ cls := "PromisedSlots$Layout", name := "lengthAt", desc := "(I)I" } : Jvm.MethodName)) ∈ U0 := mkU 487 _ (by decide +kernel) rfl
theorem tw_422 : (Jvm.Cond.instanceMethod ({ cls := "PromisedSlots$Layout", name := "lengthAt", desc := "(I)I" } : Jvm.MethodName)) ∈ U0 := mkU 488 _ (by decide +kernel) rfl
theorem tw_423 : (Jvm.Cond.selects "PromisedSlots$Layout" ({ cls := "PromisedSlots$Layout", name := "lengthAt", desc := "(I)I" } : Jvm.MethodName) ({ cls := "PromisedSlots$Layout", name := "lengthAt", desc := "(I)I" } : Jvm.MethodName)) ∈ U0 := mkU 489 _ (by decide +kernel) rfl
theorem tw_424 : (Jvm.Cond.code ({ cls := "PromisedSlots$Layout", name := "lengthAt", desc := "(I)I" } : Jvm.MethodName) prog_5_method_12_code (2 : Nat) (Option.some Jvm.ClassFile.FieldType.int)) ∈ U0 := mkU 490 _ (by decide +kernel) rfl
theorem tw_425 : (Jvm.Cond.methodLink "PromisedSlots" (248 : Nat) ({ cls := "PromisedSlots$Layout", name := "exponentAt", desc := "(I)I" } : Jvm.MethodName)) ∈ U0 := mkU 491 _ (by decide +kernel) rfl
theorem tw_426 : (Jvm.Cond.instanceMethod ({ cls := "PromisedSlots$Layout", name := "exponentAt", desc := "(I)I" } : Jvm.MethodName)) ∈ U0 := mkU 492 _ (by decide +kernel) rfl
theorem tw_427 : (Jvm.Cond.selects "PromisedSlots$Layout" ({ cls := "PromisedSlots$Layout", name := "exponentAt", desc := "(I)I" } : Jvm.MethodName) ({ cls := "PromisedSlots$Layout", name := "exponentAt", desc := "(I)I" } : Jvm.MethodName)) ∈ U0 := mkU 493 _ (by decide +kernel) rfl
theorem tw_428 : (Jvm.Cond.code ({ cls := "PromisedSlots$Layout", name := "exponentAt", desc := "(I)I" } : Jvm.MethodName) prog_5_method_13_code (2 : Nat) (Option.some Jvm.ClassFile.FieldType.int)) ∈ U0 := mkU 494 _ (by decide +kernel) rfl
theorem tw_429 : (Jvm.Cond.methodLink "PromisedSlots" (251 : Nat) ({ cls := "PromisedSlots$Device", name := "layAt", desc := "(III)V" } : Jvm.MethodName)) ∈ U0 := mkU 495 _ (by decide +kernel) rfl
theorem tw_430 : (Jvm.Cond.instanceMethod ({ cls := "PromisedSlots$Device", name := "layAt", desc := "(III)V" } : Jvm.MethodName)) ∈ U0 := mkU 496 _ (by decide +kernel) rfl
theorem tw_431 : (Jvm.Cond.selects "PromisedSlots$Device" ({ cls := "PromisedSlots$Device", name := "layAt", desc := "(III)V" } : Jvm.MethodName) ({ cls := "PromisedSlots$Device", name := "layAt", desc := "(III)V" } : Jvm.MethodName)) ∈ U0 := mkU 497 _ (by decide +kernel) rfl
theorem tw_432 : (Jvm.Cond.code ({ cls := "PromisedSlots$Device", name := "layAt", desc := "(III)V" } : Jvm.MethodName) prog_4_method_2_code (4 : Nat) (Option.none : Option Jvm.ClassFile.FieldType)) ∈ U0 := mkU 498 _ (by decide +kernel) rfl
theorem tw_433 : (Jvm.Cond.methodLink "PromisedSlots" (101 : Nat) ({ cls := "PromisedSlots", name := "coordinatorAt", desc := "(I)LPromisedSlots$Coordinator;" } : Jvm.MethodName)) ∈ U0 := mkU 499 _ (by decide +kernel) rfl
theorem tw_435 : (Jvm.Cond.instanceMethod ({ cls := "PromisedSlots", name := "coordinatorAt", desc := "(I)LPromisedSlots$Coordinator;" } : Jvm.MethodName)) ∈ U0 := mkU 501 _ (by decide +kernel) rfl
theorem tw_436 : (Jvm.Cond.code ({ cls := "PromisedSlots", name := "coordinatorAt", desc := "(I)LPromisedSlots$Coordinator;" } : Jvm.MethodName) prog_1_method_23_code (2 : Nat) (Option.some (Jvm.ClassFile.FieldType.object "PromisedSlots$Coordinator"))) ∈ U0 := mkU 502 _ (by decide +kernel) rfl
theorem tw_437 : (Jvm.Cond.methodLink "PromisedSlots" (149 : Nat) ({ cls := "PromisedSlots$Coordinator", name := "enlist", desc := "(I)V" } : Jvm.MethodName)) ∈ U0 := mkU 503 _ (by decide +kernel) rfl
theorem tw_438 : (Jvm.Cond.instanceMethod ({ cls := "PromisedSlots$Coordinator", name := "enlist", desc := "(I)V" } : Jvm.MethodName)) ∈ U0 := mkU 504 _ (by decide +kernel) rfl
theorem tw_439 : (Jvm.Cond.selects "PromisedSlots$Coordinator" ({ cls := "PromisedSlots$Coordinator", name := "enlist", desc := "(I)V" } : Jvm.MethodName) ({ cls := "PromisedSlots$Coordinator", name := "enlist", desc := "(I)V" } : Jvm.MethodName)) ∈ U0 := mkU 505 _ (by decide +kernel) rfl
theorem tw_440 : (Jvm.Cond.code ({ cls := "PromisedSlots$Coordinator", name := "enlist", desc := "(I)V" } : Jvm.MethodName) prog_3_method_4_code (2 : Nat) (Option.none : Option Jvm.ClassFile.FieldType)) ∈ U0 := mkU 506 _ (by decide +kernel) rfl
theorem tw_441 : (Jvm.Cond.methodLink "PromisedSlots" (84 : Nat) ({ cls := "PromisedSlots$Row", name := "clear", desc := "()V" } : Jvm.MethodName)) ∈ U0 := mkU 507 _ (by decide +kernel) rfl
theorem tw_442 : (Jvm.Cond.instanceMethod ({ cls := "PromisedSlots$Row", name := "clear", desc := "()V" } : Jvm.MethodName)) ∈ U0 := mkU 508 _ (by decide +kernel) rfl
theorem tw_443 : (Jvm.Cond.selects "PromisedSlots$Row" ({ cls := "PromisedSlots$Row", name := "clear", desc := "()V" } : Jvm.MethodName) ({ cls := "PromisedSlots$Row", name := "clear", desc := "()V" } : Jvm.MethodName)) ∈ U0 := mkU 509 _ (by decide +kernel) rfl
theorem tw_444 : (Jvm.Cond.code ({ cls := "PromisedSlots$Row", name := "clear", desc := "()V" } : Jvm.MethodName) prog_8_method_3_code (1 : Nat) (Option.none : Option Jvm.ClassFile.FieldType)) ∈ U0 := mkU 510 _ (by decide +kernel) rfl
theorem tw_445 : (Jvm.Cond.fieldLink "PromisedSlots" (14 : Nat) "PromisedSlots" "letters" "LPromisedSlots$Row;") ∈ U0 := mkU 511 _ (by decide +kernel) rfl
theorem tw_446 : (Jvm.Cond.fieldLink "PromisedSlots" (23 : Nat) "PromisedSlots" "reader" "LPromisedSlots$Reader;") ∈ U0 := mkU 512 _ (by decide +kernel) rfl
theorem tw_447 : (Jvm.Cond.fieldLink "PromisedSlots" (27 : Nat) "PromisedSlots" "causes" "LPromisedSlots$Row;") ∈ U0 := mkU 513 _ (by decide +kernel) rfl
theorem tw_448 : (Jvm.Cond.fieldLink "PromisedSlots" (49 : Nat) "PromisedSlots" "coordinators" "[LPromisedSlots$Coordinator;") ∈ U0 := mkU 514 _ (by decide +kernel) rfl
theorem tw_449 : (Jvm.Cond.fieldLink "PromisedSlots" (56 : Nat) "PromisedSlots" "devices" "[LPromisedSlots$Device;") ∈ U0 := mkU 515 _ (by decide +kernel) rfl
theorem tw_450 : (Jvm.Cond.fieldLink "PromisedSlots" (33 : Nat) "PromisedSlots" "contention" "LPromisedSlots$Contention;") ∈ U0 := mkU 516 _ (by decide +kernel) rfl
theorem tw_451 : (Jvm.Cond.fieldLink "PromisedSlots" (40 : Nat) "PromisedSlots" "laid" "LPromisedSlots$Layout;") ∈ U0 := mkU 517 _ (by decide +kernel) rfl
theorem tw_452 : (Jvm.Cond.fieldLink "PromisedSlots" (44 : Nat) "PromisedSlots" "spare" "LPromisedSlots$Layout;") ∈ U0 := mkU 518 _ (by decide +kernel) rfl
theorem tw_453 : (Jvm.Cond.fieldLink "PromisedSlots" (122 : Nat) "PromisedSlots" "now" "I") ∈ U0 := mkU 519 _ (by decide +kernel) rfl
theorem tw_454 : (Jvm.Cond.fieldLink "PromisedSlots" (227 : Nat) "PromisedSlots" "partsGone" "I") ∈ U0 := mkU 520 _ (by decide +kernel) rfl
theorem tw_476 : (Jvm.Cond.arrayClass Jvm.ClassFile.FieldType.byte) ∈ U0 := mkU 542 _ (by decide +kernel) rfl
theorem tw_477 : (Jvm.Cond.methodLink "PromisedSlotsLaw" (13 : Nat) ({ cls := "PromisedSlots", name := "write", desc := "(I)I" } : Jvm.MethodName)) ∈ U0 := mkU 543 _ (by decide +kernel) rfl
theorem tw_478 : (Jvm.Cond.instanceMethod ({ cls := "PromisedSlots", name := "write", desc := "(I)I" } : Jvm.MethodName)) ∈ U0 := mkU 544 _ (by decide +kernel) rfl
theorem tw_479 : (Jvm.Cond.selects "PromisedSlots" ({ cls := "PromisedSlots", name := "write", desc := "(I)I" } : Jvm.MethodName) ({ cls := "PromisedSlots", name := "write", desc := "(I)I" } : Jvm.MethodName)) ∈ U0 := mkU 545 _ (by decide +kernel) rfl
theorem tw_480 : (Jvm.Cond.code ({ cls := "PromisedSlots", name := "write", desc := "(I)I" } : Jvm.MethodName) prog_1_method_2_code (2 : Nat) (Option.some Jvm.ClassFile.FieldType.int)) ∈ U0 := mkU 546 _ (by decide +kernel) rfl
theorem tw_481 : (Jvm.Cond.methodLink "PromisedSlotsLaw" (18 : Nat) ({ cls := "PromisedSlots", name := "wipe", desc := "()I" } : Jvm.MethodName)) ∈ U0 := mkU 547 _ (by decide +kernel) rfl
theorem tw_482 : (Jvm.Cond.instanceMethod ({ cls := "PromisedSlots", name := "wipe", desc := "()I" } : Jvm.MethodName)) ∈ U0 := mkU 548 _ (by decide +kernel) rfl
theorem tw_483 : (Jvm.Cond.selects "PromisedSlots" ({ cls := "PromisedSlots", name := "wipe", desc := "()I" } : Jvm.MethodName) ({ cls := "PromisedSlots", name := "wipe", desc := "()I" } : Jvm.MethodName)) ∈ U0 := mkU 549 _ (by decide +kernel) rfl
theorem tw_484 : (Jvm.Cond.code ({ cls := "PromisedSlots", name := "wipe", desc := "()I" } : Jvm.MethodName) prog_1_method_3_code (2 : Nat) (Option.some Jvm.ClassFile.FieldType.int)) ∈ U0 := mkU 550 _ (by decide +kernel) rfl
theorem tw_485 : (Jvm.Cond.methodLink "PromisedSlotsLaw" (23 : Nat) ({ cls := "PromisedSlots", name := "fault", desc := "()I" } : Jvm.MethodName)) ∈ U0 := mkU 551 _ (by decide +kernel) rfl
theorem tw_486 : (Jvm.Cond.instanceMethod ({ cls := "PromisedSlots", name := "fault", desc := "()I" } : Jvm.MethodName)) ∈ U0 := mkU 552 _ (by decide +kernel) rfl
theorem tw_487 : (Jvm.Cond.selects "PromisedSlots" ({ cls := "PromisedSlots", name := "fault", desc := "()I" } : Jvm.MethodName) ({ cls := "PromisedSlots", name := "fault", desc := "()I" } : Jvm.MethodName)) ∈ U0 := mkU 553 _ (by decide +kernel) rfl
theorem tw_488 : (Jvm.Cond.code ({ cls := "PromisedSlots", name := "fault", desc := "()I" } : Jvm.MethodName) prog_1_method_4_code (1 : Nat) (Option.some Jvm.ClassFile.FieldType.int)) ∈ U0 := mkU 554 _ (by decide +kernel) rfl
theorem tw_489 : (Jvm.Cond.methodLink "PromisedSlots" (91 : Nat) ({ cls := "PromisedSlots", name := "faultOfText", desc := "()I" } : Jvm.MethodName)) ∈ U0 := mkU 555 _ (by decide +kernel) rfl
theorem tw_491 : (Jvm.Cond.instanceMethod ({ cls := "PromisedSlots", name := "faultOfText", desc := "()I" } : Jvm.MethodName)) ∈ U0 := mkU 557 _ (by decide +kernel) rfl
theorem tw_492 : (Jvm.Cond.code ({ cls := "PromisedSlots", name := "faultOfText", desc := "()I" } : Jvm.MethodName) prog_1_method_24_code (2 : Nat) (Option.some Jvm.ClassFile.FieldType.int)) ∈ U0 := mkU 558 _ (by decide +kernel) rfl
theorem tw_493 : (Jvm.Cond.methodLink "PromisedSlotsLaw" (27 : Nat) ({ cls := "PromisedSlots", name := "lay", desc := "()I" } : Jvm.MethodName)) ∈ U0 := mkU 559 _ (by decide +kernel) rfl
theorem tw_494 : (Jvm.Cond.instanceMethod ({ cls := "PromisedSlots", name := "lay", desc := "()I" } : Jvm.MethodName)) ∈ U0 := mkU 560 _ (by decide +kernel) rfl
theorem tw_495 : (Jvm.Cond.selects "PromisedSlots" ({ cls := "PromisedSlots", name := "lay", desc := "()I" } : Jvm.MethodName) ({ cls := "PromisedSlots", name := "lay", desc := "()I" } : Jvm.MethodName)) ∈ U0 := mkU 561 _ (by decide +kernel) rfl
theorem tw_496 : (Jvm.Cond.code ({ cls := "PromisedSlots", name := "lay", desc := "()I" } : Jvm.MethodName) prog_1_method_5_code (1 : Nat) (Option.some Jvm.ClassFile.FieldType.int)) ∈ U0 := mkU 562 _ (by decide +kernel) rfl
theorem tw_497 : (Jvm.Cond.methodLink "PromisedSlotsLaw" (31 : Nat) ({ cls := "PromisedSlots", name := "cause", desc := "(I)I" } : Jvm.MethodName)) ∈ U0 := mkU 563 _ (by decide +kernel) rfl
theorem tw_498 : (Jvm.Cond.instanceMethod ({ cls := "PromisedSlots", name := "cause", desc := "(I)I" } : Jvm.MethodName)) ∈ U0 := mkU 564 _ (by decide +kernel) rfl
theorem tw_499 : (Jvm.Cond.selects "PromisedSlots" ({ cls := "PromisedSlots", name := "cause", desc := "(I)I" } : Jvm.MethodName) ({ cls := "PromisedSlots", name := "cause", desc := "(I)I" } : Jvm.MethodName)) ∈ U0 := mkU 565 _ (by decide +kernel) rfl
theorem tw_500 : (Jvm.Cond.code ({ cls := "PromisedSlots", name := "cause", desc := "(I)I" } : Jvm.MethodName) prog_1_method_6_code (2 : Nat) (Option.some Jvm.ClassFile.FieldType.int)) ∈ U0 := mkU 566 _ (by decide +kernel) rfl
theorem tw_501 : (Jvm.Cond.methodLink "PromisedSlots" (97 : Nat) ({ cls := "PromisedSlots$Row", name := "at", desc := "(I)I" } : Jvm.MethodName)) ∈ U0 := mkU 567 _ (by decide +kernel) rfl
theorem tw_502 : (Jvm.Cond.methodLink "PromisedSlotsLaw" (35 : Nat) ({ cls := "PromisedSlots", name := "nest", desc := "(II)I" } : Jvm.MethodName)) ∈ U0 := mkU 568 _ (by decide +kernel) rfl
theorem tw_503 : (Jvm.Cond.instanceMethod ({ cls := "PromisedSlots", name := "nest", desc := "(II)I" } : Jvm.MethodName)) ∈ U0 := mkU 569 _ (by decide +kernel) rfl
theorem tw_504 : (Jvm.Cond.selects "PromisedSlots" ({ cls := "PromisedSlots", name := "nest", desc := "(II)I" } : Jvm.MethodName) ({ cls := "PromisedSlots", name := "nest", desc := "(II)I" } : Jvm.MethodName)) ∈ U0 := mkU 570 _ (by decide +kernel) rfl
theorem tw_505 : (Jvm.Cond.code ({ cls := "PromisedSlots", name := "nest", desc := "(II)I" } : Jvm.MethodName) prog_1_method_7_code (7 : Nat) (Option.some Jvm.ClassFile.FieldType.int)) ∈ U0 := mkU 571 _ (by decide +kernel) rfl
theorem tw_506 : (Jvm.Cond.methodLink "PromisedSlots" (111 : Nat) ({ cls := "PromisedSlots$Layout", name := "startBehind", desc := "(II)I" } : Jvm.MethodName)) ∈ U0 := mkU 572 _ (by decide +kernel) rfl
theorem tw_507 : (Jvm.Cond.methodLink "PromisedSlots" (115 : Nat) ({ cls := "PromisedSlots$Layout", name := "clashOf", desc := "(I)I" } : Jvm.MethodName)) ∈ U0 := mkU 573 _ (by decide +kernel) rfl
theorem tw_508 : (Jvm.Cond.methodLink "PromisedSlots" (118 : Nat) ({ cls := "PromisedSlots$Layout", name := "addCoordinator", desc := "(II)V" } : Jvm.MethodName)) ∈ U0 := mkU 574 _ (by decide +kernel) rfl
theorem tw_509 : (Jvm.Cond.methodLink "PromisedSlots" (125 : Nat) ({ cls := "PromisedSlots$Layout", name := "firstBeacon", desc := "(II)I" } : Jvm.MethodName)) ∈ U0 := mkU 575 _ (by decide +kernel) rfl
theorem tw_510 : (Jvm.Cond.instanceMethod ({ cls := "PromisedSlots$Layout", name := "firstBeacon", desc := "(II)I" } : Jvm.MethodName)) ∈ U0 := mkU 576 _ (by decide +kernel) rfl
theorem tw_511 : (Jvm.Cond.selects "PromisedSlots$Layout" ({ cls := "PromisedSlots$Layout", name := "firstBeacon", desc := "(II)I" } : Jvm.MethodName) ({ cls := "PromisedSlots$Layout", name := "firstBeacon", desc := "(II)I" } : Jvm.MethodName)) ∈ U0 := mkU 577 _ (by decide +kernel) rfl
theorem tw_512 : (Jvm.Cond.code ({ cls := "PromisedSlots$Layout", name := "firstBeacon", desc := "(II)I" } : Jvm.MethodName) prog_5_method_8_code (4 : Nat) (Option.some Jvm.ClassFile.FieldType.int)) ∈ U0 := mkU 578 _ (by decide +kernel) rfl
theorem tw_513 : (Jvm.Cond.methodLink "PromisedSlots$Layout" (62 : Nat) ({ cls := "java/lang/Math", name := "max", desc := "(II)I" } : Jvm.MethodName)) ∈ U0 := mkU 579 _ (by decide +kernel) rfl
theorem tw_514 : (Jvm.Cond.methodLink "PromisedSlotsLaw" (40 : Nat) ({ cls := "PromisedSlots", name := "seed", desc := "(I)I" } : Jvm.MethodName)) ∈ U0 := mkU 580 _ (by decide +kernel) rfl
theorem tw_515 : (Jvm.Cond.instanceMethod ({ cls := "PromisedSlots", name := "seed", desc := "(I)I" } : Jvm.MethodName)) ∈ U0 := mkU 581 _ (by decide +kernel) rfl
theorem tw_516 : (Jvm.Cond.selects "PromisedSlots" ({ cls := "PromisedSlots", name := "seed", desc := "(I)I" } : Jvm.MethodName) ({ cls := "PromisedSlots", name := "seed", desc := "(I)I" } : Jvm.MethodName)) ∈ U0 := mkU 582 _ (by decide +kernel) rfl
theorem tw_517 : (Jvm.Cond.code ({ cls := "PromisedSlots", name := "seed", desc := "(I)I" } : Jvm.MethodName) prog_1_method_8_code (3 : Nat) (Option.some Jvm.ClassFile.FieldType.int)) ∈ U0 := mkU 583 _ (by decide +kernel) rfl
theorem tw_518 : (Jvm.Cond.constant "PromisedSlots" (132 : Nat) (65521 : Int32)) ∈ U0 := mkU 584 _ (by decide +kernel) rfl
theorem tw_519 : (Jvm.Cond.methodLink "PromisedSlotsLaw" (44 : Nat) ({ cls := "PromisedSlots", name := "join", desc := "(II)I" } : Jvm.MethodName)) ∈ U0 := mkU 585 _ (by decide +kernel) rfl
theorem tw_520 : (Jvm.Cond.instanceMethod ({ cls := "PromisedSlots", name := "join", desc := "(II)I" } : Jvm.MethodName)) ∈ U0 := mkU 586 _ (by decide +kernel) rfl
theorem tw_521 : (Jvm.Cond.selects "PromisedSlots" ({ cls := "PromisedSlots", name := "join", desc := "(II)I" } : Jvm.MethodName) ({ cls := "PromisedSlots", name := "join", desc := "(II)I" } : Jvm.MethodName)) ∈ U0 := mkU 587 _ (by decide +kernel) rfl
theorem tw_522 : (Jvm.Cond.code ({ cls := "PromisedSlots", name := "join", desc := "(II)I" } : Jvm.MethodName) prog_1_method_9_code (6 : Nat) (Option.some Jvm.ClassFile.FieldType.int)) ∈ U0 := mkU 588 _ (by decide +kernel) rfl
theorem tw_523 : (Jvm.Cond.methodLink "PromisedSlots" (136 : Nat) ({ cls := "PromisedSlots", name := "deviceAt", desc := "(I)LPromisedSlots$Device;" } : Jvm.MethodName)) ∈ U0 := mkU 589 _ (by decide +kernel) rfl
theorem tw_525 : (Jvm.Cond.instanceMethod ({ cls := "PromisedSlots", name := "deviceAt", desc := "(I)LPromisedSlots$Device;" } : Jvm.MethodName)) ∈ U0 := mkU 591 _ (by decide +kernel) rfl
theorem tw_526 : (Jvm.Cond.code ({ cls := "PromisedSlots", name := "deviceAt", desc := "(I)LPromisedSlots$Device;" } : Jvm.MethodName) prog_1_method_22_code (2 : Nat) (Option.some (Jvm.ClassFile.FieldType.object "PromisedSlots$Device"))) ∈ U0 := mkU 592 _ (by decide +kernel) rfl
theorem tw_527 : (Jvm.Cond.methodLink "PromisedSlots" (143 : Nat) ({ cls := "PromisedSlots$Coordinator", name := "lists", desc := "(I)Z" } : Jvm.MethodName)) ∈ U0 := mkU 593 _ (by decide +kernel) rfl
theorem tw_528 : (Jvm.Cond.instanceMethod ({ cls := "PromisedSlots$Coordinator", name := "lists", desc := "(I)Z" } : Jvm.MethodName)) ∈ U0 := mkU 594 _ (by decide +kernel) rfl
theorem tw_529 : (Jvm.Cond.selects "PromisedSlots$Coordinator" ({ cls := "PromisedSlots$Coordinator", name := "lists", desc := "(I)Z" } : Jvm.MethodName) ({ cls := "PromisedSlots$Coordinator", name := "lists", desc := "(I)Z" } : Jvm.MethodName)) ∈ U0 := mkU 595 _ (by decide +kernel) rfl
theorem tw_530 : (Jvm.Cond.code ({ cls := "PromisedSlots$Coordinator", name := "lists", desc := "(I)Z" } : Jvm.MethodName) prog_3_method_3_code (2 : Nat) (Option.some Jvm.ClassFile.FieldType.boolean)) ∈ U0 := mkU 596 _ (by decide +kernel) rfl
theorem tw_531 : (Jvm.Cond.methodLink "PromisedSlots" (146 : Nat) ({ cls := "PromisedSlots$Coordinator", name := "forget", desc := "(I)V" } : Jvm.MethodName)) ∈ U0 := mkU 597 _ (by decide +kernel) rfl
theorem tw_532 : (Jvm.Cond.instanceMethod ({ cls := "PromisedSlots$Coordinator", name := "forget", desc := "(I)V" } : Jvm.MethodName)) ∈ U0 := mkU 598 _ (by decide +kernel) rfl
theorem tw_533 : (Jvm.Cond.selects "PromisedSlots$Coordinator" ({ cls := "PromisedSlots$Coordinator", name := "forget", desc := "(I)V" } : Jvm.MethodName) ({ cls := "PromisedSlots$Coordinator", name := "forget", desc := "(I)V" } : Jvm.MethodName)) ∈ U0 := mkU 599 _ (by decide +kernel) rfl
theorem tw_534 : (Jvm.Cond.code ({ cls := "PromisedSlots$Coordinator", name := "forget", desc := "(I)V" } : Jvm.MethodName) prog_3_method_5_code (2 : Nat) (Option.none : Option Jvm.ClassFile.FieldType)) ∈ U0 := mkU 600 _ (by decide +kernel) rfl
theorem tw_535 : (Jvm.Cond.methodLink "PromisedSlots$Coordinator" (41 : Nat) ({ cls := "PromisedSlots$Promises", name := "removeOf", desc := "(I)I" } : Jvm.MethodName)) ∈ U0 := mkU 601 _ (by decide +kernel) rfl
theorem tw_536 : (Jvm.Cond.instanceMethod ({ cls := "PromisedSlots$Promises", name := "removeOf", desc := "(I)I" } : Jvm.MethodName)) ∈ U0 := mkU 602 _ (by decide +kernel) rfl
theorem tw_537 : (Jvm.Cond.selects "PromisedSlots$Promises" ({ cls := "PromisedSlots$Promises", name := "removeOf", desc := "(I)I" } : Jvm.MethodName) ({ cls := "PromisedSlots$Promises", name := "removeOf", desc := "(I)I" } : Jvm.MethodName)) ∈ U0 := mkU 603 _ (by decide +kernel) rfl
theorem tw_538 : (Jvm.Cond.code ({ cls := "PromisedSlots$Promises", name := "removeOf", desc := "(I)I" } : Jvm.MethodName) prog_6_method_7_code (4 : Nat) (Option.some Jvm.ClassFile.FieldType.int)) ∈ U0 := mkU 604 _ (by decide +kernel) rfl
theorem tw_539 : (Jvm.Cond.methodLink "PromisedSlots$Promises" (29 : Nat) ({ cls := "PromisedSlots$Promises", name := "placeOf", desc := "(I)I" } : Jvm.MethodName)) ∈ U0 := mkU 605 _ (by decide +kernel) rfl
theorem tw_540 : (Jvm.Cond.instanceMethod ({ cls := "PromisedSlots$Promises", name := "placeOf", desc := "(I)I" } : Jvm.MethodName)) ∈ U0 := mkU 606 _ (by decide +kernel) rfl
theorem tw_541 : (Jvm.Cond.selects "PromisedSlots$Promises" ({ cls := "PromisedSlots$Promises", name := "placeOf", desc := "(I)I" } : Jvm.MethodName) ({ cls := "PromisedSlots$Promises", name := "placeOf", desc := "(I)I" } : Jvm.MethodName)) ∈ U0 := mkU 607 _ (by decide +kernel) rfl
theorem tw_542 : (Jvm.Cond.code ({ cls := "PromisedSlots$Promises", name := "placeOf", desc := "(I)I" } : Jvm.MethodName) prog_6_method_6_code (3 : Nat) (Option.some Jvm.ClassFile.FieldType.int)) ∈ U0 := mkU 608 _ (by decide +kernel) rfl
theorem tw_543 : (Jvm.Cond.methodLink "PromisedSlots$Promises" (32 : Nat) ({ cls := "PromisedSlots$Promises", name := "tell", desc := "(II)I" } : Jvm.MethodName)) ∈ U0 := mkU 609 _ (by decide +kernel) rfl
theorem tw_544 : (Jvm.Cond.instanceMethod ({ cls := "PromisedSlots$Promises", name := "tell", desc := "(II)I" } : Jvm.MethodName)) ∈ U0 := mkU 610 _ (by decide +kernel) rfl
theorem tw_545 : (Jvm.Cond.selects "PromisedSlots$Promises" ({ cls := "PromisedSlots$Promises", name := "tell", desc := "(II)I" } : Jvm.MethodName) ({ cls := "PromisedSlots$Promises", name := "tell", desc := "(II)I" } : Jvm.MethodName)) ∈ U0 := mkU 611 _ (by decide +kernel) rfl
theorem tw_546 : (Jvm.Cond.code ({ cls := "PromisedSlots$Promises", name := "tell", desc := "(II)I" } : Jvm.MethodName) prog_6_method_10_code (3 : Nat) (Option.some Jvm.ClassFile.FieldType.int)) ∈ U0 := mkU 612 _ (by decide +kernel) rfl
theorem tw_547 : (Jvm.Cond.methodLink "PromisedSlots$Promises" (25 : Nat) ({ cls := "PromisedSlots$Promises", name := "firstSlot", desc := "(I)I" } : Jvm.MethodName)) ∈ U0 := mkU 613 _ (by decide +kernel) rfl
theorem tw_548 : (Jvm.Cond.instanceMethod ({ cls := "PromisedSlots$Promises", name := "firstSlot", desc := "(I)I" } : Jvm.MethodName)) ∈ U0 := mkU 614 _ (by decide +kernel) rfl
theorem tw_549 : (Jvm.Cond.selects "PromisedSlots$Promises" ({ cls := "PromisedSlots$Promises", name := "firstSlot", desc := "(I)I" } : Jvm.MethodName) ({ cls := "PromisedSlots$Promises", name := "firstSlot", desc := "(I)I" } : Jvm.MethodName)) ∈ U0 := mkU 615 _ (by decide +kernel) rfl
theorem tw_550 : (Jvm.Cond.code ({ cls := "PromisedSlots$Promises", name := "firstSlot", desc := "(I)I" } : Jvm.MethodName) prog_6_method_4_code (4 : Nat) (Option.some Jvm.ClassFile.FieldType.int)) ∈ U0 := mkU 616 _ (by decide +kernel) rfl
theorem tw_551 : (Jvm.Cond.methodLink "PromisedSlots$Promises" (36 : Nat) ({ cls := "PromisedSlots$Promises", name := "removeAt", desc := "(I)V" } : Jvm.MethodName)) ∈ U0 := mkU 617 _ (by decide +kernel) rfl
theorem tw_553 : (Jvm.Cond.instanceMethod ({ cls := "PromisedSlots$Promises", name := "removeAt", desc := "(I)V" } : Jvm.MethodName)) ∈ U0 := mkU 619 _ (by decide +kernel) rfl
theorem tw_554 : (Jvm.Cond.code ({ cls := "PromisedSlots$Promises", name := "removeAt", desc := "(I)V" } : Jvm.MethodName) prog_6_method_11_code (3 : Nat) (Option.none : Option Jvm.ClassFile.FieldType)) ∈ U0 := mkU 620 _ (by decide +kernel) rfl
theorem tw_555 : (Jvm.Cond.methodLink "PromisedSlots" (152 : Nat) ({ cls := "PromisedSlots$Device", name := "comeHome", desc := "(I)V" } : Jvm.MethodName)) ∈ U0 := mkU 621 _ (by decide +kernel) rfl
theorem tw_556 : (Jvm.Cond.instanceMethod ({ cls := "PromisedSlots$Device", name := "comeHome", desc := "(I)V" } : Jvm.MethodName)) ∈ U0 := mkU 622 _ (by decide +kernel) rfl
theorem tw_557 : (Jvm.Cond.selects "PromisedSlots$Device" ({ cls := "PromisedSlots$Device", name := "comeHome", desc := "(I)V" } : Jvm.MethodName) ({ cls := "PromisedSlots$Device", name := "comeHome", desc := "(I)V" } : Jvm.MethodName)) ∈ U0 := mkU 623 _ (by decide +kernel) rfl
theorem tw_558 : (Jvm.Cond.code ({ cls := "PromisedSlots$Device", name := "comeHome", desc := "(I)V" } : Jvm.MethodName) prog_4_method_4_code (2 : Nat) (Option.none : Option Jvm.ClassFile.FieldType)) ∈ U0 := mkU 624 _ (by decide +kernel) rfl
theorem tw_559 : (Jvm.Cond.methodLink "PromisedSlotsLaw" (48 : Nat) ({ cls := "PromisedSlots", name := "drop", desc := "(I)I" } : Jvm.MethodName)) ∈ U0 := mkU 625 _ (by decide +kernel) rfl
theorem tw_560 : (Jvm.Cond.instanceMethod ({ cls := "PromisedSlots", name := "drop", desc := "(I)I" } : Jvm.MethodName)) ∈ U0 := mkU 626 _ (by decide +kernel) rfl
theorem tw_561 : (Jvm.Cond.selects "PromisedSlots" ({ cls := "PromisedSlots", name := "drop", desc := "(I)I" } : Jvm.MethodName) ({ cls := "PromisedSlots", name := "drop", desc := "(I)I" } : Jvm.MethodName)) ∈ U0 := mkU 627 _ (by decide +kernel) rfl
theorem tw_562 : (Jvm.Cond.code ({ cls := "PromisedSlots", name := "drop", desc := "(I)I" } : Jvm.MethodName) prog_1_method_10_code (4 : Nat) (Option.some Jvm.ClassFile.FieldType.int)) ∈ U0 := mkU 628 _ (by decide +kernel) rfl
theorem tw_563 : (Jvm.Cond.methodLink "PromisedSlotsLaw" (52 : Nat) ({ cls := "PromisedSlots", name := "load", desc := "(III)I" } : Jvm.MethodName)) ∈ U0 := mkU 629 _ (by decide +kernel) rfl
theorem tw_564 : (Jvm.Cond.instanceMethod ({ cls := "PromisedSlots", name := "load", desc := "(III)I" } : Jvm.MethodName)) ∈ U0 := mkU 630 _ (by decide +kernel) rfl
theorem tw_565 : (Jvm.Cond.selects "PromisedSlots" ({ cls := "PromisedSlots", name := "load", desc := "(III)I" } : Jvm.MethodName) ({ cls := "PromisedSlots", name := "load", desc := "(III)I" } : Jvm.MethodName)) ∈ U0 := mkU 631 _ (by decide +kernel) rfl
theorem tw_566 : (Jvm.Cond.code ({ cls := "PromisedSlots", name := "load", desc := "(III)I" } : Jvm.MethodName) prog_1_method_11_code (6 : Nat) (Option.some Jvm.ClassFile.FieldType.int)) ∈ U0 := mkU 632 _ (by decide +kernel) rfl
theorem tw_567 : (Jvm.Cond.methodLink "PromisedSlotsLaw" (57 : Nat) ({ cls := "PromisedSlots", name := "deafen", desc := "(II)I" } : Jvm.MethodName)) ∈ U0 := mkU 633 _ (by decide +kernel) rfl
theorem tw_568 : (Jvm.Cond.instanceMethod ({ cls := "PromisedSlots", name := "deafen", desc := "(II)I" } : Jvm.MethodName)) ∈ U0 := mkU 634 _ (by decide +kernel) rfl
theorem tw_569 : (Jvm.Cond.selects "PromisedSlots" ({ cls := "PromisedSlots", name := "deafen", desc := "(II)I" } : Jvm.MethodName) ({ cls := "PromisedSlots", name := "deafen", desc := "(II)I" } : Jvm.MethodName)) ∈ U0 := mkU 635 _ (by decide +kernel) rfl
theorem tw_570 : (Jvm.Cond.code ({ cls := "PromisedSlots", name := "deafen", desc := "(II)I" } : Jvm.MethodName) prog_1_method_12_code (5 : Nat) (Option.some Jvm.ClassFile.FieldType.int)) ∈ U0 := mkU 636 _ (by decide +kernel) rfl
theorem tw_571 : (Jvm.Cond.methodLink "PromisedSlotsLaw" (61 : Nat) ({ cls := "PromisedSlots", name := "scan", desc := "(I)I" } : Jvm.MethodName)) ∈ U0 := mkU 637 _ (by decide +kernel) rfl
theorem tw_572 : (Jvm.Cond.instanceMethod ({ cls := "PromisedSlots", name := "scan", desc := "(I)I" } : Jvm.MethodName)) ∈ U0 := mkU 638 _ (by decide +kernel) rfl
theorem tw_573 : (Jvm.Cond.selects "PromisedSlots" ({ cls := "PromisedSlots", name := "scan", desc := "(I)I" } : Jvm.MethodName) ({ cls := "PromisedSlots", name := "scan", desc := "(I)I" } : Jvm.MethodName)) ∈ U0 := mkU 639 _ (by decide +kernel) rfl
theorem tw_574 : (Jvm.Cond.code ({ cls := "PromisedSlots", name := "scan", desc := "(I)I" } : Jvm.MethodName) prog_1_method_13_code (4 : Nat) (Option.some Jvm.ClassFile.FieldType.int)) ∈ U0 := mkU 640 _ (by decide +kernel) rfl
theorem tw_575 : (Jvm.Cond.methodLink "PromisedSlots" (164 : Nat) ({ cls := "PromisedSlots$Device", name := "isOrphan", desc := "()Z" } : Jvm.MethodName)) ∈ U0 := mkU 641 _ (by decide +kernel) rfl
theorem tw_576 : (Jvm.Cond.instanceMethod ({ cls := "PromisedSlots$Device", name := "isOrphan", desc := "()Z" } : Jvm.MethodName)) ∈ U0 := mkU 642 _ (by decide +kernel) rfl
theorem tw_577 : (Jvm.Cond.selects "PromisedSlots$Device" ({ cls := "PromisedSlots$Device", name := "isOrphan", desc := "()Z" } : Jvm.MethodName) ({ cls := "PromisedSlots$Device", name := "isOrphan", desc := "()Z" } : Jvm.MethodName)) ∈ U0 := mkU 643 _ (by decide +kernel) rfl
theorem tw_578 : (Jvm.Cond.code ({ cls := "PromisedSlots$Device", name := "isOrphan", desc := "()Z" } : Jvm.MethodName) prog_4_method_3_code (1 : Nat) (Option.some Jvm.ClassFile.FieldType.boolean)) ∈ U0 := mkU 644 _ (by decide +kernel) rfl
theorem tw_579 : (Jvm.Cond.methodLink "PromisedSlotsLaw" (65 : Nat) ({ cls := "PromisedSlots", name := "ask", desc := "(II)I" } : Jvm.MethodName)) ∈ U0 := mkU 645 _ (by decide +kernel) rfl
theorem tw_580 : (Jvm.Cond.instanceMethod ({ cls := "PromisedSlots", name := "ask", desc := "(II)I" } : Jvm.MethodName)) ∈ U0 := mkU 646 _ (by decide +kernel) rfl
theorem tw_581 : (Jvm.Cond.selects "PromisedSlots" ({ cls := "PromisedSlots", name := "ask", desc := "(II)I" } : Jvm.MethodName) ({ cls := "PromisedSlots", name := "ask", desc := "(II)I" } : Jvm.MethodName)) ∈ U0 := mkU 647 _ (by decide +kernel) rfl
theorem tw_582 : (Jvm.Cond.code ({ cls := "PromisedSlots", name := "ask", desc := "(II)I" } : Jvm.MethodName) prog_1_method_14_code (6 : Nat) (Option.some Jvm.ClassFile.FieldType.int)) ∈ U0 := mkU 648 _ (by decide +kernel) rfl
theorem tw_583 : (Jvm.Cond.methodLink "PromisedSlots" (168 : Nat) ({ cls := "PromisedSlots", name := "promiserOf", desc := "(I)LPromisedSlots$Coordinator;" } : Jvm.MethodName)) ∈ U0 := mkU 649 _ (by decide +kernel) rfl
theorem tw_585 : (Jvm.Cond.instanceMethod ({ cls := "PromisedSlots", name := "promiserOf", desc := "(I)LPromisedSlots$Coordinator;" } : Jvm.MethodName)) ∈ U0 := mkU 651 _ (by decide +kernel) rfl
theorem tw_586 : (Jvm.Cond.code ({ cls := "PromisedSlots", name := "promiserOf", desc := "(I)LPromisedSlots$Coordinator;" } : Jvm.MethodName) prog_1_method_26_code (3 : Nat) (Option.some (Jvm.ClassFile.FieldType.object "PromisedSlots$Coordinator"))) ∈ U0 := mkU 652 _ (by decide +kernel) rfl
theorem tw_587 : (Jvm.Cond.methodLink "PromisedSlots" (252 : Nat) ({ cls := "PromisedSlots$Promises", name := "placeOf", desc := "(I)I" } : Jvm.MethodName)) ∈ U0 := mkU 653 _ (by decide +kernel) rfl
theorem tw_588 : (Jvm.Cond.methodLink "PromisedSlots" (178 : Nat) ({ cls := "PromisedSlots$Promises", name := "sharedSlots", desc := "()I" } : Jvm.MethodName)) ∈ U0 := mkU 654 _ (by decide +kernel) rfl
theorem tw_589 : (Jvm.Cond.instanceMethod ({ cls := "PromisedSlots$Promises", name := "sharedSlots", desc := "()I" } : Jvm.MethodName)) ∈ U0 := mkU 655 _ (by decide +kernel) rfl
theorem tw_590 : (Jvm.Cond.selects "PromisedSlots$Promises" ({ cls := "PromisedSlots$Promises", name := "sharedSlots", desc := "()I" } : Jvm.MethodName) ({ cls := "PromisedSlots$Promises", name := "sharedSlots", desc := "()I" } : Jvm.MethodName)) ∈ U0 := mkU 656 _ (by decide +kernel) rfl
theorem tw_591 : (Jvm.Cond.code ({ cls := "PromisedSlots$Promises", name := "sharedSlots", desc := "()I" } : Jvm.MethodName) prog_6_method_5_code (1 : Nat) (Option.some Jvm.ClassFile.FieldType.int)) ∈ U0 := mkU 657 _ (by decide +kernel) rfl
theorem tw_592 : (Jvm.Cond.methodLink "PromisedSlots" (184 : Nat) ({ cls := "java/lang/Math", name := "max", desc := "(II)I" } : Jvm.MethodName)) ∈ U0 := mkU 658 _ (by decide +kernel) rfl
theorem tw_593 : (Jvm.Cond.methodLink "PromisedSlots" (189 : Nat) ({ cls := "PromisedSlots$Promises", name := "add", desc := "(II)V" } : Jvm.MethodName)) ∈ U0 := mkU 659 _ (by decide +kernel) rfl
theorem tw_594 : (Jvm.Cond.instanceMethod ({ cls := "PromisedSlots$Promises", name := "add", desc := "(II)V" } : Jvm.MethodName)) ∈ U0 := mkU 660 _ (by decide +kernel) rfl
theorem tw_595 : (Jvm.Cond.selects "PromisedSlots$Promises" ({ cls := "PromisedSlots$Promises", name := "add", desc := "(II)V" } : Jvm.MethodName) ({ cls := "PromisedSlots$Promises", name := "add", desc := "(II)V" } : Jvm.MethodName)) ∈ U0 := mkU 661 _ (by decide +kernel) rfl
theorem tw_596 : (Jvm.Cond.code ({ cls := "PromisedSlots$Promises", name := "add", desc := "(II)V" } : Jvm.MethodName) prog_6_method_3_code (3 : Nat) (Option.none : Option Jvm.ClassFile.FieldType)) ∈ U0 := mkU 662 _ (by decide +kernel) rfl
theorem tw_597 : (Jvm.Cond.methodLink "PromisedSlotsLaw" (69 : Nat) ({ cls := "PromisedSlots", name := "release", desc := "(I)I" } : Jvm.MethodName)) ∈ U0 := mkU 663 _ (by decide +kernel) rfl
theorem tw_598 : (Jvm.Cond.instanceMethod ({ cls := "PromisedSlots", name := "release", desc := "(I)I" } : Jvm.MethodName)) ∈ U0 := mkU 664 _ (by decide +kernel) rfl
theorem tw_599 : (Jvm.Cond.selects "PromisedSlots" ({ cls := "PromisedSlots", name := "release", desc := "(I)I" } : Jvm.MethodName) ({ cls := "PromisedSlots", name := "release", desc := "(I)I" } : Jvm.MethodName)) ∈ U0 := mkU 665 _ (by decide +kernel) rfl
theorem tw_600 : (Jvm.Cond.code ({ cls := "PromisedSlots", name := "release", desc := "(I)I" } : Jvm.MethodName) prog_1_method_15_code (3 : Nat) (Option.some Jvm.ClassFile.FieldType.int)) ∈ U0 := mkU 666 _ (by decide +kernel) rfl
theorem tw_601 : (Jvm.Cond.methodLink "PromisedSlots" (192 : Nat) ({ cls := "PromisedSlots$Promises", name := "removeOf", desc := "(I)I" } : Jvm.MethodName)) ∈ U0 := mkU 667 _ (by decide +kernel) rfl
theorem tw_602 : (Jvm.Cond.methodLink "PromisedSlotsLaw" (73 : Nat) ({ cls := "PromisedSlots", name := "promise", desc := "(III)I" } : Jvm.MethodName)) ∈ U0 := mkU 668 _ (by decide +kernel) rfl
theorem tw_603 : (Jvm.Cond.instanceMethod ({ cls := "PromisedSlots", name := "promise", desc := "(III)I" } : Jvm.MethodName)) ∈ U0 := mkU 669 _ (by decide +kernel) rfl
theorem tw_604 : (Jvm.Cond.selects "PromisedSlots" ({ cls := "PromisedSlots", name := "promise", desc := "(III)I" } : Jvm.MethodName) ({ cls := "PromisedSlots", name := "promise", desc := "(III)I" } : Jvm.MethodName)) ∈ U0 := mkU 670 _ (by decide +kernel) rfl
theorem tw_605 : (Jvm.Cond.code ({ cls := "PromisedSlots", name := "promise", desc := "(III)I" } : Jvm.MethodName) prog_1_method_16_code (5 : Nat) (Option.some Jvm.ClassFile.FieldType.int)) ∈ U0 := mkU 671 _ (by decide +kernel) rfl
theorem tw_606 : (Jvm.Cond.methodLink "PromisedSlots" (195 : Nat) ({ cls := "PromisedSlots$Promises", name := "tell", desc := "(II)I" } : Jvm.MethodName)) ∈ U0 := mkU 672 _ (by decide +kernel) rfl
theorem tw_607 : (Jvm.Cond.methodLink "PromisedSlotsLaw" (77 : Nat) ({ cls := "PromisedSlots", name := "run", desc := "(I)I" } : Jvm.MethodName)) ∈ U0 := mkU 673 _ (by decide +kernel) rfl
theorem tw_608 : (Jvm.Cond.instanceMethod ({ cls := "PromisedSlots", name := "run", desc := "(I)I" } : Jvm.MethodName)) ∈ U0 := mkU 674 _ (by decide +kernel) rfl
theorem tw_609 : (Jvm.Cond.selects "PromisedSlots" ({ cls := "PromisedSlots", name := "run", desc := "(I)I" } : Jvm.MethodName) ({ cls := "PromisedSlots", name := "run", desc := "(I)I" } : Jvm.MethodName)) ∈ U0 := mkU 675 _ (by decide +kernel) rfl
theorem tw_610 : (Jvm.Cond.code ({ cls := "PromisedSlots", name := "run", desc := "(I)I" } : Jvm.MethodName) prog_1_method_17_code (6 : Nat) (Option.some Jvm.ClassFile.FieldType.int)) ∈ U0 := mkU 676 _ (by decide +kernel) rfl
theorem tw_611 : (Jvm.Cond.methodLink "PromisedSlots" (198 : Nat) ({ cls := "PromisedSlots", name := "nextToBeacon", desc := "()I" } : Jvm.MethodName)) ∈ U0 := mkU 677 _ (by decide +kernel) rfl
theorem tw_613 : (Jvm.Cond.instanceMethod ({ cls := "PromisedSlots", name := "nextToBeacon", desc := "()I" } : Jvm.MethodName)) ∈ U0 := mkU 679 _ (by decide +kernel) rfl
theorem tw_614 : (Jvm.Cond.code ({ cls := "PromisedSlots", name := "nextToBeacon", desc := "()I" } : Jvm.MethodName) prog_1_method_28_code (3 : Nat) (Option.some Jvm.ClassFile.FieldType.int)) ∈ U0 := mkU 680 _ (by decide +kernel) rfl
theorem tw_615 : (Jvm.Cond.methodLink "PromisedSlots" (201 : Nat) ({ cls := "PromisedSlots", name := "activePart", desc := "(ILPromisedSlots$Coordinator;)I" } : Jvm.MethodName)) ∈ U0 := mkU 681 _ (by decide +kernel) rfl
theorem tw_617 : (Jvm.Cond.instanceMethod ({ cls := "PromisedSlots", name := "activePart", desc := "(ILPromisedSlots$Coordinator;)I" } : Jvm.MethodName)) ∈ U0 := mkU 683 _ (by decide +kernel) rfl
theorem tw_618 : (Jvm.Cond.code ({ cls := "PromisedSlots", name := "activePart", desc := "(ILPromisedSlots$Coordinator;)I" } : Jvm.MethodName) prog_1_method_29_code (4 : Nat) (Option.some Jvm.ClassFile.FieldType.int)) ∈ U0 := mkU 684 _ (by decide +kernel) rfl
theorem tw_619 : (Jvm.Cond.methodLink "PromisedSlots" (258 : Nat) ({ cls := "java/util/Arrays", name := "fill", desc := "([II)V" } : Jvm.MethodName)) ∈ U0 := mkU 685 _ (by decide +kernel) rfl
theorem tw_620 : (Jvm.Cond.static ({ cls := "java/util/Arrays", name := "fill", desc := "([II)V" } : Jvm.MethodName)) ∈ U0 := mkU 686 _ (by decide +kernel) rfl
theorem tw_621 : (Jvm.Cond.code ({ cls := "java/util/Arrays", name := "fill", desc := "([II)V" } : Jvm.MethodName) prog_15_method_103_code (4 : Nat) (Option.none : Option Jvm.ClassFile.FieldType)) ∈ U0 := mkU 687 _ (by decide +kernel) rfl
theorem tw_622 : (Jvm.Cond.methodLink "PromisedSlots" (264 : Nat) ({ cls := "PromisedSlots$Promises", name := "removeIdle", desc := "(I)V" } : Jvm.MethodName)) ∈ U0 := mkU 688 _ (by decide +kernel) rfl
theorem tw_623 : (Jvm.Cond.instanceMethod ({ cls := "PromisedSlots$Promises", name := "removeIdle", desc := "(I)V" } : Jvm.MethodName)) ∈ U0 := mkU 689 _ (by decide +kernel) rfl
theorem tw_624 : (Jvm.Cond.selects "PromisedSlots$Promises" ({ cls := "PromisedSlots$Promises", name := "removeIdle", desc := "(I)V" } : Jvm.MethodName) ({ cls := "PromisedSlots$Promises", name := "removeIdle", desc := "(I)V" } : Jvm.MethodName)) ∈ U0 := mkU 690 _ (by decide +kernel) rfl
theorem tw_625 : (Jvm.Cond.code ({ cls := "PromisedSlots$Promises", name := "removeIdle", desc := "(I)V" } : Jvm.MethodName) prog_6_method_8_code (3 : Nat) (Option.none : Option Jvm.ClassFile.FieldType)) ∈ U0 := mkU 691 _ (by decide +kernel) rfl
theorem tw_626 : (Jvm.Cond.methodLink "PromisedSlots" (267 : Nat) ({ cls := "PromisedSlots", name := "hearBeacon", desc := "(I)V" } : Jvm.MethodName)) ∈ U0 := mkU 692 _ (by decide +kernel) rfl
theorem tw_628 : (Jvm.Cond.instanceMethod ({ cls := "PromisedSlots", name := "hearBeacon", desc := "(I)V" } : Jvm.MethodName)) ∈ U0 := mkU 694 _ (by decide +kernel) rfl
theorem tw_629 : (Jvm.Cond.code ({ cls := "PromisedSlots", name := "hearBeacon", desc := "(I)V" } : Jvm.MethodName) prog_1_method_30_code (4 : Nat) (Option.none : Option Jvm.ClassFile.FieldType)) ∈ U0 := mkU 695 _ (by decide +kernel) rfl
theorem tw_630 : (Jvm.Cond.methodLink "PromisedSlots" (278 : Nat) ({ cls := "PromisedSlots$Contention", name := "clear", desc := "()V" } : Jvm.MethodName)) ∈ U0 := mkU 696 _ (by decide +kernel) rfl
theorem tw_631 : (Jvm.Cond.instanceMethod ({ cls := "PromisedSlots$Contention", name := "clear", desc := "()V" } : Jvm.MethodName)) ∈ U0 := mkU 697 _ (by decide +kernel) rfl
theorem tw_632 : (Jvm.Cond.selects "PromisedSlots$Contention" ({ cls := "PromisedSlots$Contention", name := "clear", desc := "()V" } : Jvm.MethodName) ({ cls := "PromisedSlots$Contention", name := "clear", desc := "()V" } : Jvm.MethodName)) ∈ U0 := mkU 698 _ (by decide +kernel) rfl
theorem tw_633 : (Jvm.Cond.code ({ cls := "PromisedSlots$Contention", name := "clear", desc := "()V" } : Jvm.MethodName) prog_2_method_2_code (1 : Nat) (Option.none : Option Jvm.ClassFile.FieldType)) ∈ U0 := mkU 699 _ (by decide +kernel) rfl
theorem tw_634 : (Jvm.Cond.methodLink "PromisedSlots" (279 : Nat) ({ cls := "PromisedSlots$Device", name := "hearsBeacon", desc := "()Z" } : Jvm.MethodName)) ∈ U0 := mkU 700 _ (by decide +kernel) rfl
theorem tw_635 : (Jvm.Cond.instanceMethod ({ cls := "PromisedSlots$Device", name := "hearsBeacon", desc := "()Z" } : Jvm.MethodName)) ∈ U0 := mkU 701 _ (by decide +kernel) rfl
theorem tw_636 : (Jvm.Cond.selects "PromisedSlots$Device" ({ cls := "PromisedSlots$Device", name := "hearsBeacon", desc := "()Z" } : Jvm.MethodName) ({ cls := "PromisedSlots$Device", name := "hearsBeacon", desc := "()Z" } : Jvm.MethodName)) ∈ U0 := mkU 702 _ (by decide +kernel) rfl
theorem tw_637 : (Jvm.Cond.code ({ cls := "PromisedSlots$Device", name := "hearsBeacon", desc := "()Z" } : Jvm.MethodName) prog_4_method_5_code (1 : Nat) (Option.some Jvm.ClassFile.FieldType.boolean)) ∈ U0 := mkU 703 _ (by decide +kernel) rfl
theorem tw_638 : (Jvm.Cond.methodLink "PromisedSlots" (286 : Nat) ({ cls := "PromisedSlots$Contention", name := "admit", desc := "(LPromisedSlots$Device;)V" } : Jvm.MethodName)) ∈ U0 := mkU 704 _ (by decide +kernel) rfl
theorem tw_639 : (Jvm.Cond.instanceMethod ({ cls := "PromisedSlots$Contention", name := "admit", desc := "(LPromisedSlots$Device;)V" } : Jvm.MethodName)) ∈ U0 := mkU 705 _ (by decide +kernel) rfl
theorem tw_640 : (Jvm.Cond.selects "PromisedSlots$Contention" ({ cls := "PromisedSlots$Contention", name := "admit", desc := "(LPromisedSlots$Device;)V" } : Jvm.MethodName) ({ cls := "PromisedSlots$Contention", name := "admit", desc := "(LPromisedSlots$Device;)V" } : Jvm.MethodName)) ∈ U0 := mkU 706 _ (by decide +kernel) rfl
theorem tw_641 : (Jvm.Cond.code ({ cls := "PromisedSlots$Contention", name := "admit", desc := "(LPromisedSlots$Device;)V" } : Jvm.MethodName) prog_2_method_3_code (2 : Nat) (Option.none : Option Jvm.ClassFile.FieldType)) ∈ U0 := mkU 707 _ (by decide +kernel) rfl
theorem tw_642 : (Jvm.Cond.methodLink "PromisedSlots" (270 : Nat) ({ cls := "PromisedSlots$Contention", name := "play", desc := "([II)I" } : Jvm.MethodName)) ∈ U0 := mkU 708 _ (by decide +kernel) rfl
theorem tw_643 : (Jvm.Cond.instanceMethod ({ cls := "PromisedSlots$Contention", name := "play", desc := "([II)I" } : Jvm.MethodName)) ∈ U0 := mkU 709 _ (by decide +kernel) rfl
theorem tw_644 : (Jvm.Cond.selects "PromisedSlots$Contention" ({ cls := "PromisedSlots$Contention", name := "play", desc := "([II)I" } : Jvm.MethodName) ({ cls := "PromisedSlots$Contention", name := "play", desc := "([II)I" } : Jvm.MethodName)) ∈ U0 := mkU 710 _ (by decide +kernel) rfl
theorem tw_645 : (Jvm.Cond.code ({ cls := "PromisedSlots$Contention", name := "play", desc := "([II)I" } : Jvm.MethodName) prog_2_method_4_code (6 : Nat) (Option.some Jvm.ClassFile.FieldType.int)) ∈ U0 := mkU 711 _ (by decide +kernel) rfl
theorem tw_646 : (Jvm.Cond.methodLink "PromisedSlots$Contention" (21 : Nat) ({ cls := "PromisedSlots$Contention", name := "takeUp", desc := "(II)Z" } : Jvm.MethodName)) ∈ U0 := mkU 712 _ (by decide +kernel) rfl
theorem tw_648 : (Jvm.Cond.instanceMethod ({ cls := "PromisedSlots$Contention", name := "takeUp", desc := "(II)Z" } : Jvm.MethodName)) ∈ U0 := mkU 714 _ (by decide +kernel) rfl
theorem tw_649 : (Jvm.Cond.code ({ cls := "PromisedSlots$Contention", name := "takeUp", desc := "(II)Z" } : Jvm.MethodName) prog_2_method_5_code (6 : Nat) (Option.some Jvm.ClassFile.FieldType.boolean)) ∈ U0 := mkU 715 _ (by decide +kernel) rfl
theorem tw_650 : (Jvm.Cond.methodLink "PromisedSlots$Contention" (41 : Nat) ({ cls := "PromisedSlots$Contention", name := "begin", desc := "(LPromisedSlots$Device;I)V" } : Jvm.MethodName)) ∈ U0 := mkU 716 _ (by decide +kernel) rfl
theorem tw_652 : (Jvm.Cond.instanceMethod ({ cls := "PromisedSlots$Contention", name := "begin", desc := "(LPromisedSlots$Device;I)V" } : Jvm.MethodName)) ∈ U0 := mkU 718 _ (by decide +kernel) rfl
theorem tw_653 : (Jvm.Cond.code ({ cls := "PromisedSlots$Contention", name := "begin", desc := "(LPromisedSlots$Device;I)V" } : Jvm.MethodName) prog_2_method_6_code (3 : Nat) (Option.none : Option Jvm.ClassFile.FieldType)) ∈ U0 := mkU 719 _ (by decide +kernel) rfl
theorem tw_654 : (Jvm.Cond.methodLink "PromisedSlots$Contention" (70 : Nat) ({ cls := "PromisedSlots$Device", name := "beginFrame", desc := "()V" } : Jvm.MethodName)) ∈ U0 := mkU 720 _ (by decide +kernel) rfl
theorem tw_655 : (Jvm.Cond.instanceMethod ({ cls := "PromisedSlots$Device", name := "beginFrame", desc := "()V" } : Jvm.MethodName)) ∈ U0 := mkU 721 _ (by decide +kernel) rfl
theorem tw_656 : (Jvm.Cond.selects "PromisedSlots$Device" ({ cls := "PromisedSlots$Device", name := "beginFrame", desc := "()V" } : Jvm.MethodName) ({ cls := "PromisedSlots$Device", name := "beginFrame", desc := "()V" } : Jvm.MethodName)) ∈ U0 := mkU 722 _ (by decide +kernel) rfl
theorem tw_657 : (Jvm.Cond.code ({ cls := "PromisedSlots$Device", name := "beginFrame", desc := "()V" } : Jvm.MethodName) prog_4_method_6_code (1 : Nat) (Option.none : Option Jvm.ClassFile.FieldType)) ∈ U0 := mkU 723 _ (by decide +kernel) rfl
theorem tw_658 : (Jvm.Cond.methodLink "PromisedSlots$Contention" (73 : Nat) ({ cls := "PromisedSlots$Contention", name := "draw", desc := "(LPromisedSlots$Device;)V" } : Jvm.MethodName)) ∈ U0 := mkU 724 _ (by decide +kernel) rfl
theorem tw_660 : (Jvm.Cond.instanceMethod ({ cls := "PromisedSlots$Contention", name := "draw", desc := "(LPromisedSlots$Device;)V" } : Jvm.MethodName)) ∈ U0 := mkU 726 _ (by decide +kernel) rfl
theorem tw_661 : (Jvm.Cond.code ({ cls := "PromisedSlots$Contention", name := "draw", desc := "(LPromisedSlots$Device;)V" } : Jvm.MethodName) prog_2_method_12_code (2 : Nat) (Option.none : Option Jvm.ClassFile.FieldType)) ∈ U0 := mkU 727 _ (by decide +kernel) rfl
theorem tw_662 : (Jvm.Cond.constant "PromisedSlots$Contention" (104 : Nat) (65521 : Int32)) ∈ U0 := mkU 728 _ (by decide +kernel) rfl
theorem tw_663 : (Jvm.Cond.methodLink "PromisedSlots$Contention" (108 : Nat) ({ cls := "PromisedSlots$Device", name := "waitFor", desc := "(I)V" } : Jvm.MethodName)) ∈ U0 := mkU 729 _ (by decide +kernel) rfl
theorem tw_664 : (Jvm.Cond.instanceMethod ({ cls := "PromisedSlots$Device", name := "waitFor", desc := "(I)V" } : Jvm.MethodName)) ∈ U0 := mkU 730 _ (by decide +kernel) rfl
theorem tw_665 : (Jvm.Cond.selects "PromisedSlots$Device" ({ cls := "PromisedSlots$Device", name := "waitFor", desc := "(I)V" } : Jvm.MethodName) ({ cls := "PromisedSlots$Device", name := "waitFor", desc := "(I)V" } : Jvm.MethodName)) ∈ U0 := mkU 731 _ (by decide +kernel) rfl
theorem tw_666 : (Jvm.Cond.code ({ cls := "PromisedSlots$Device", name := "waitFor", desc := "(I)V" } : Jvm.MethodName) prog_4_method_7_code (2 : Nat) (Option.none : Option Jvm.ClassFile.FieldType)) ∈ U0 := mkU 732 _ (by decide +kernel) rfl
theorem tw_667 : (Jvm.Cond.methodLink "PromisedSlots$Contention" (51 : Nat) ({ cls := "PromisedSlots$Device", name := "lookOrHold", desc := "(II)V" } : Jvm.MethodName)) ∈ U0 := mkU 733 _ (by decide +kernel) rfl
theorem tw_668 : (Jvm.Cond.instanceMethod ({ cls := "PromisedSlots$Device", name := "lookOrHold", desc := "(II)V" } : Jvm.MethodName)) ∈ U0 := mkU 734 _ (by decide +kernel) rfl
theorem tw_669 : (Jvm.Cond.selects "PromisedSlots$Device" ({ cls := "PromisedSlots$Device", name := "lookOrHold", desc := "(II)V" } : Jvm.MethodName) ({ cls := "PromisedSlots$Device", name := "lookOrHold", desc := "(II)V" } : Jvm.MethodName)) ∈ U0 := mkU 735 _ (by decide +kernel) rfl
theorem tw_670 : (Jvm.Cond.code ({ cls := "PromisedSlots$Device", name := "lookOrHold", desc := "(II)V" } : Jvm.MethodName) prog_4_method_9_code (3 : Nat) (Option.none : Option Jvm.ClassFile.FieldType)) ∈ U0 := mkU 736 _ (by decide +kernel) rfl
theorem tw_671 : (Jvm.Cond.methodLink "PromisedSlots$Contention" (58 : Nat) ({ cls := "PromisedSlots$Device", name := "startSending", desc := "()V" } : Jvm.MethodName)) ∈ U0 := mkU 737 _ (by decide +kernel) rfl
theorem tw_672 : (Jvm.Cond.instanceMethod ({ cls := "PromisedSlots$Device", name := "startSending", desc := "()V" } : Jvm.MethodName)) ∈ U0 := mkU 738 _ (by decide +kernel) rfl
theorem tw_673 : (Jvm.Cond.selects "PromisedSlots$Device" ({ cls := "PromisedSlots$Device", name := "startSending", desc := "()V" } : Jvm.MethodName) ({ cls := "PromisedSlots$Device", name := "startSending", desc := "()V" } : Jvm.MethodName)) ∈ U0 := mkU 739 _ (by decide +kernel) rfl
theorem tw_674 : (Jvm.Cond.code ({ cls := "PromisedSlots$Device", name := "startSending", desc := "()V" } : Jvm.MethodName) prog_4_method_10_code (1 : Nat) (Option.none : Option Jvm.ClassFile.FieldType)) ∈ U0 := mkU 740 _ (by decide +kernel) rfl
theorem tw_675 : (Jvm.Cond.methodLink "PromisedSlots$Contention" (25 : Nat) ({ cls := "PromisedSlots$Contention", name := "airNow", desc := "()I" } : Jvm.MethodName)) ∈ U0 := mkU 741 _ (by decide +kernel) rfl
theorem tw_677 : (Jvm.Cond.instanceMethod ({ cls := "PromisedSlots$Contention", name := "airNow", desc := "()I" } : Jvm.MethodName)) ∈ U0 := mkU 743 _ (by decide +kernel) rfl
theorem tw_678 : (Jvm.Cond.code ({ cls := "PromisedSlots$Contention", name := "airNow", desc := "()I" } : Jvm.MethodName) prog_2_method_7_code (1 : Nat) (Option.some Jvm.ClassFile.FieldType.int)) ∈ U0 := mkU 744 _ (by decide +kernel) rfl
theorem tw_679 : (Jvm.Cond.methodLink "PromisedSlots$Contention" (29 : Nat) ({ cls := "PromisedSlots$Contention", name := "listenAndWait", desc := "()V" } : Jvm.MethodName)) ∈ U0 := mkU 745 _ (by decide +kernel) rfl
theorem tw_681 : (Jvm.Cond.instanceMethod ({ cls := "PromisedSlots$Contention", name := "listenAndWait", desc := "()V" } : Jvm.MethodName)) ∈ U0 := mkU 747 _ (by decide +kernel) rfl
theorem tw_682 : (Jvm.Cond.code ({ cls := "PromisedSlots$Contention", name := "listenAndWait", desc := "()V" } : Jvm.MethodName) prog_2_method_8_code (3 : Nat) (Option.none : Option Jvm.ClassFile.FieldType)) ∈ U0 := mkU 748 _ (by decide +kernel) rfl
theorem tw_683 : (Jvm.Cond.methodLink "PromisedSlots$Contention" (81 : Nat) ({ cls := "PromisedSlots$Device", name := "foundBusy", desc := "()Z" } : Jvm.MethodName)) ∈ U0 := mkU 749 _ (by decide +kernel) rfl
theorem tw_684 : (Jvm.Cond.instanceMethod ({ cls := "PromisedSlots$Device", name := "foundBusy", desc := "()Z" } : Jvm.MethodName)) ∈ U0 := mkU 750 _ (by decide +kernel) rfl
theorem tw_685 : (Jvm.Cond.selects "PromisedSlots$Device" ({ cls := "PromisedSlots$Device", name := "foundBusy", desc := "()Z" } : Jvm.MethodName) ({ cls := "PromisedSlots$Device", name := "foundBusy", desc := "()Z" } : Jvm.MethodName)) ∈ U0 := mkU 751 _ (by decide +kernel) rfl
theorem tw_686 : (Jvm.Cond.code ({ cls := "PromisedSlots$Device", name := "foundBusy", desc := "()Z" } : Jvm.MethodName) prog_4_method_11_code (1 : Nat) (Option.some Jvm.ClassFile.FieldType.boolean)) ∈ U0 := mkU 752 _ (by decide +kernel) rfl
theorem tw_687 : (Jvm.Cond.methodLink "PromisedSlots$Device" (76 : Nat) ({ cls := "java/lang/Math", name := "min", desc := "(II)I" } : Jvm.MethodName)) ∈ U0 := mkU 753 _ (by decide +kernel) rfl
theorem tw_688 : (Jvm.Cond.methodLink "PromisedSlots$Device" (79 : Nat) ({ cls := "PromisedSlots$Device", name := "giveUp", desc := "()V" } : Jvm.MethodName)) ∈ U0 := mkU 754 _ (by decide +kernel) rfl
theorem tw_690 : (Jvm.Cond.instanceMethod ({ cls := "PromisedSlots$Device", name := "giveUp", desc := "()V" } : Jvm.MethodName)) ∈ U0 := mkU 756 _ (by decide +kernel) rfl
theorem tw_691 : (Jvm.Cond.code ({ cls := "PromisedSlots$Device", name := "giveUp", desc := "()V" } : Jvm.MethodName) prog_4_method_16_code (1 : Nat) (Option.none : Option Jvm.ClassFile.FieldType)) ∈ U0 := mkU 757 _ (by decide +kernel) rfl
theorem tw_692 : (Jvm.Cond.methodLink "PromisedSlots$Device" (82 : Nat) ({ cls := "PromisedSlots$Device", name := "endFrame", desc := "()V" } : Jvm.MethodName)) ∈ U0 := mkU 758 _ (by decide +kernel) rfl
theorem tw_694 : (Jvm.Cond.instanceMethod ({ cls := "PromisedSlots$Device", name := "endFrame", desc := "()V" } : Jvm.MethodName)) ∈ U0 := mkU 760 _ (by decide +kernel) rfl
theorem tw_695 : (Jvm.Cond.code ({ cls := "PromisedSlots$Device", name := "endFrame", desc := "()V" } : Jvm.MethodName) prog_4_method_17_code (1 : Nat) (Option.none : Option Jvm.ClassFile.FieldType)) ∈ U0 := mkU 761 _ (by decide +kernel) rfl
theorem tw_696 : (Jvm.Cond.methodLink "PromisedSlots$Contention" (85 : Nat) ({ cls := "PromisedSlots$Device", name := "waitLess", desc := "()V" } : Jvm.MethodName)) ∈ U0 := mkU 762 _ (by decide +kernel) rfl
theorem tw_697 : (Jvm.Cond.instanceMethod ({ cls := "PromisedSlots$Device", name := "waitLess", desc := "()V" } : Jvm.MethodName)) ∈ U0 := mkU 763 _ (by decide +kernel) rfl
theorem tw_698 : (Jvm.Cond.selects "PromisedSlots$Device" ({ cls := "PromisedSlots$Device", name := "waitLess", desc := "()V" } : Jvm.MethodName) ({ cls := "PromisedSlots$Device", name := "waitLess", desc := "()V" } : Jvm.MethodName)) ∈ U0 := mkU 764 _ (by decide +kernel) rfl
theorem tw_699 : (Jvm.Cond.code ({ cls := "PromisedSlots$Device", name := "waitLess", desc := "()V" } : Jvm.MethodName) prog_4_method_8_code (1 : Nat) (Option.none : Option Jvm.ClassFile.FieldType)) ∈ U0 := mkU 765 _ (by decide +kernel) rfl
theorem tw_700 : (Jvm.Cond.methodLink "PromisedSlots$Device" (60 : Nat) ({ cls := "java/lang/Math", name := "max", desc := "(II)I" } : Jvm.MethodName)) ∈ U0 := mkU 766 _ (by decide +kernel) rfl
theorem tw_701 : (Jvm.Cond.methodLink "PromisedSlots$Contention" (32 : Nat) ({ cls := "PromisedSlots$Contention", name := "endFrames", desc := "()I" } : Jvm.MethodName)) ∈ U0 := mkU 767 _ (by decide +kernel) rfl
theorem tw_703 : (Jvm.Cond.instanceMethod ({ cls := "PromisedSlots$Contention", name := "endFrames", desc := "()I" } : Jvm.MethodName)) ∈ U0 := mkU 769 _ (by decide +kernel) rfl
theorem tw_704 : (Jvm.Cond.code ({ cls := "PromisedSlots$Contention", name := "endFrames", desc := "()I" } : Jvm.MethodName) prog_2_method_9_code (4 : Nat) (Option.some Jvm.ClassFile.FieldType.int)) ∈ U0 := mkU 770 _ (by decide +kernel) rfl
theorem tw_705 : (Jvm.Cond.methodLink "PromisedSlots$Contention" (91 : Nat) ({ cls := "PromisedSlots$Contention", name := "endFrame", desc := "(LPromisedSlots$Device;)I" } : Jvm.MethodName)) ∈ U0 := mkU 771 _ (by decide +kernel) rfl
theorem tw_707 : (Jvm.Cond.instanceMethod ({ cls := "PromisedSlots$Contention", name := "endFrame", desc := "(LPromisedSlots$Device;)I" } : Jvm.MethodName)) ∈ U0 := mkU 773 _ (by decide +kernel) rfl
theorem tw_708 : (Jvm.Cond.code ({ cls := "PromisedSlots$Contention", name := "endFrame", desc := "(LPromisedSlots$Device;)I" } : Jvm.MethodName) prog_2_method_10_code (2 : Nat) (Option.some Jvm.ClassFile.FieldType.int)) ∈ U0 := mkU 774 _ (by decide +kernel) rfl
theorem tw_709 : (Jvm.Cond.methodLink "PromisedSlots$Contention" (95 : Nat) ({ cls := "PromisedSlots$Device", name := "frameSent", desc := "()V" } : Jvm.MethodName)) ∈ U0 := mkU 775 _ (by decide +kernel) rfl
theorem tw_710 : (Jvm.Cond.instanceMethod ({ cls := "PromisedSlots$Device", name := "frameSent", desc := "()V" } : Jvm.MethodName)) ∈ U0 := mkU 776 _ (by decide +kernel) rfl
theorem tw_711 : (Jvm.Cond.selects "PromisedSlots$Device" ({ cls := "PromisedSlots$Device", name := "frameSent", desc := "()V" } : Jvm.MethodName) ({ cls := "PromisedSlots$Device", name := "frameSent", desc := "()V" } : Jvm.MethodName)) ∈ U0 := mkU 777 _ (by decide +kernel) rfl
theorem tw_712 : (Jvm.Cond.code ({ cls := "PromisedSlots$Device", name := "frameSent", desc := "()V" } : Jvm.MethodName) prog_4_method_13_code (1 : Nat) (Option.none : Option Jvm.ClassFile.FieldType)) ∈ U0 := mkU 778 _ (by decide +kernel) rfl
theorem tw_713 : (Jvm.Cond.methodLink "PromisedSlots$Contention" (98 : Nat) ({ cls := "PromisedSlots$Device", name := "foundHurt", desc := "()Z" } : Jvm.MethodName)) ∈ U0 := mkU 779 _ (by decide +kernel) rfl
theorem tw_714 : (Jvm.Cond.instanceMethod ({ cls := "PromisedSlots$Device", name := "foundHurt", desc := "()Z" } : Jvm.MethodName)) ∈ U0 := mkU 780 _ (by decide +kernel) rfl
theorem tw_715 : (Jvm.Cond.selects "PromisedSlots$Device" ({ cls := "PromisedSlots$Device", name := "foundHurt", desc := "()Z" } : Jvm.MethodName) ({ cls := "PromisedSlots$Device", name := "foundHurt", desc := "()Z" } : Jvm.MethodName)) ∈ U0 := mkU 781 _ (by decide +kernel) rfl
theorem tw_716 : (Jvm.Cond.code ({ cls := "PromisedSlots$Device", name := "foundHurt", desc := "()Z" } : Jvm.MethodName) prog_4_method_12_code (1 : Nat) (Option.some Jvm.ClassFile.FieldType.boolean)) ∈ U0 := mkU 782 _ (by decide +kernel) rfl
theorem tw_717 : (Jvm.Cond.methodLink "PromisedSlots$Contention" (35 : Nat) ({ cls := "PromisedSlots$Contention", name := "holdAll", desc := "()V" } : Jvm.MethodName)) ∈ U0 := mkU 783 _ (by decide +kernel) rfl
theorem tw_719 : (Jvm.Cond.instanceMethod ({ cls := "PromisedSlots$Contention", name := "holdAll", desc := "()V" } : Jvm.MethodName)) ∈ U0 := mkU 785 _ (by decide +kernel) rfl
theorem tw_720 : (Jvm.Cond.code ({ cls := "PromisedSlots$Contention", name := "holdAll", desc := "()V" } : Jvm.MethodName) prog_2_method_11_code (2 : Nat) (Option.none : Option Jvm.ClassFile.FieldType)) ∈ U0 := mkU 786 _ (by decide +kernel) rfl
theorem tw_721 : (Jvm.Cond.methodLink "PromisedSlots" (274 : Nat) ({ cls := "PromisedSlots", name := "keepPromises", desc := "(LPromisedSlots$Coordinator;)I" } : Jvm.MethodName)) ∈ U0 := mkU 787 _ (by decide +kernel) rfl
theorem tw_723 : (Jvm.Cond.instanceMethod ({ cls := "PromisedSlots", name := "keepPromises", desc := "(LPromisedSlots$Coordinator;)I" } : Jvm.MethodName)) ∈ U0 := mkU 789 _ (by decide +kernel) rfl
theorem tw_724 : (Jvm.Cond.code ({ cls := "PromisedSlots", name := "keepPromises", desc := "(LPromisedSlots$Coordinator;)I" } : Jvm.MethodName) prog_1_method_31_code (9 : Nat) (Option.some Jvm.ClassFile.FieldType.int)) ∈ U0 := mkU 790 _ (by decide +kernel) rfl
theorem tw_725 : (Jvm.Cond.methodLink "PromisedSlots" (290 : Nat) ({ cls := "PromisedSlots$Device", name := "sendPromised", desc := "([III)I" } : Jvm.MethodName)) ∈ U0 := mkU 791 _ (by decide +kernel) rfl
theorem tw_726 : (Jvm.Cond.instanceMethod ({ cls := "PromisedSlots$Device", name := "sendPromised", desc := "([III)I" } : Jvm.MethodName)) ∈ U0 := mkU 792 _ (by decide +kernel) rfl
theorem tw_727 : (Jvm.Cond.selects "PromisedSlots$Device" ({ cls := "PromisedSlots$Device", name := "sendPromised", desc := "([III)I" } : Jvm.MethodName) ({ cls := "PromisedSlots$Device", name := "sendPromised", desc := "([III)I" } : Jvm.MethodName)) ∈ U0 := mkU 793 _ (by decide +kernel) rfl
theorem tw_728 : (Jvm.Cond.code ({ cls := "PromisedSlots$Device", name := "sendPromised", desc := "([III)I" } : Jvm.MethodName) prog_4_method_14_code (7 : Nat) (Option.some Jvm.ClassFile.FieldType.int)) ∈ U0 := mkU 794 _ (by decide +kernel) rfl
theorem tw_729 : (Jvm.Cond.methodLink "PromisedSlots" (294 : Nat) ({ cls := "PromisedSlots$Promises", name := "noteUse", desc := "(IZ)V" } : Jvm.MethodName)) ∈ U0 := mkU 795 _ (by decide +kernel) rfl
theorem tw_730 : (Jvm.Cond.instanceMethod ({ cls := "PromisedSlots$Promises", name := "noteUse", desc := "(IZ)V" } : Jvm.MethodName)) ∈ U0 := mkU 796 _ (by decide +kernel) rfl
theorem tw_731 : (Jvm.Cond.selects "PromisedSlots$Promises" ({ cls := "PromisedSlots$Promises", name := "noteUse", desc := "(IZ)V" } : Jvm.MethodName) ({ cls := "PromisedSlots$Promises", name := "noteUse", desc := "(IZ)V" } : Jvm.MethodName)) ∈ U0 := mkU 797 _ (by decide +kernel) rfl
theorem tw_732 : (Jvm.Cond.code ({ cls := "PromisedSlots$Promises", name := "noteUse", desc := "(IZ)V" } : Jvm.MethodName) prog_6_method_9_code (3 : Nat) (Option.none : Option Jvm.ClassFile.FieldType)) ∈ U0 := mkU 798 _ (by decide +kernel) rfl
theorem tw_733 : (Jvm.Cond.methodLink "PromisedSlotsLaw" (81 : Nat) ({ cls := "PromisedSlots", name := "air", desc := "(II)I" } : Jvm.MethodName)) ∈ U0 := mkU 799 _ (by decide +kernel) rfl
theorem tw_734 : (Jvm.Cond.instanceMethod ({ cls := "PromisedSlots", name := "air", desc := "(II)I" } : Jvm.MethodName)) ∈ U0 := mkU 800 _ (by decide +kernel) rfl
theorem tw_735 : (Jvm.Cond.selects "PromisedSlots" ({ cls := "PromisedSlots", name := "air", desc := "(II)I" } : Jvm.MethodName) ({ cls := "PromisedSlots", name := "air", desc := "(II)I" } : Jvm.MethodName)) ∈ U0 := mkU 801 _ (by decide +kernel) rfl
theorem tw_736 : (Jvm.Cond.code ({ cls := "PromisedSlots", name := "air", desc := "(II)I" } : Jvm.MethodName) prog_1_method_18_code (4 : Nat) (Option.some Jvm.ClassFile.FieldType.int)) ∈ U0 := mkU 802 _ (by decide +kernel) rfl
theorem tw_737 : (Jvm.Cond.methodLink "PromisedSlotsLaw" (85 : Nat) ({ cls := "PromisedSlots", name := "coordinator", desc := "(II)I" } : Jvm.MethodName)) ∈ U0 := mkU 803 _ (by decide +kernel) rfl
theorem tw_738 : (Jvm.Cond.instanceMethod ({ cls := "PromisedSlots", name := "coordinator", desc := "(II)I" } : Jvm.MethodName)) ∈ U0 := mkU 804 _ (by decide +kernel) rfl
theorem tw_739 : (Jvm.Cond.selects "PromisedSlots" ({ cls := "PromisedSlots", name := "coordinator", desc := "(II)I" } : Jvm.MethodName) ({ cls := "PromisedSlots", name := "coordinator", desc := "(II)I" } : Jvm.MethodName)) ∈ U0 := mkU 805 _ (by decide +kernel) rfl
theorem tw_740 : (Jvm.Cond.code ({ cls := "PromisedSlots", name := "coordinator", desc := "(II)I" } : Jvm.MethodName) prog_1_method_19_code (4 : Nat) (Option.some Jvm.ClassFile.FieldType.int)) ∈ U0 := mkU 806 _ (by decide +kernel) rfl
theorem tw_741 : (Jvm.Cond.methodLink "PromisedSlots" (215 : Nat) ({ cls := "PromisedSlots$Coordinator", name := "tell", desc := "(I)I" } : Jvm.MethodName)) ∈ U0 := mkU 807 _ (by decide +kernel) rfl
theorem tw_742 : (Jvm.Cond.instanceMethod ({ cls := "PromisedSlots$Coordinator", name := "tell", desc := "(I)I" } : Jvm.MethodName)) ∈ U0 := mkU 808 _ (by decide +kernel) rfl
theorem tw_743 : (Jvm.Cond.selects "PromisedSlots$Coordinator" ({ cls := "PromisedSlots$Coordinator", name := "tell", desc := "(I)I" } : Jvm.MethodName) ({ cls := "PromisedSlots$Coordinator", name := "tell", desc := "(I)I" } : Jvm.MethodName)) ∈ U0 := mkU 809 _ (by decide +kernel) rfl
theorem tw_744 : (Jvm.Cond.code ({ cls := "PromisedSlots$Coordinator", name := "tell", desc := "(I)I" } : Jvm.MethodName) prog_3_method_6_code (2 : Nat) (Option.some Jvm.ClassFile.FieldType.int)) ∈ U0 := mkU 810 _ (by decide +kernel) rfl
theorem tw_745 : (Jvm.Cond.methodLink "PromisedSlots$Coordinator" (45 : Nat) ({ cls := "PromisedSlots$Promises", name := "sharedSlots", desc := "()I" } : Jvm.MethodName)) ∈ U0 := mkU 811 _ (by decide +kernel) rfl
theorem tw_746 : (Jvm.Cond.methodLink "PromisedSlotsLaw" (89 : Nat) ({ cls := "PromisedSlots", name := "device", desc := "(II)I" } : Jvm.MethodName)) ∈ U0 := mkU 812 _ (by decide +kernel) rfl
theorem tw_747 : (Jvm.Cond.instanceMethod ({ cls := "PromisedSlots", name := "device", desc := "(II)I" } : Jvm.MethodName)) ∈ U0 := mkU 813 _ (by decide +kernel) rfl
theorem tw_748 : (Jvm.Cond.selects "PromisedSlots" ({ cls := "PromisedSlots", name := "device", desc := "(II)I" } : Jvm.MethodName) ({ cls := "PromisedSlots", name := "device", desc := "(II)I" } : Jvm.MethodName)) ∈ U0 := mkU 814 _ (by decide +kernel) rfl
theorem tw_749 : (Jvm.Cond.code ({ cls := "PromisedSlots", name := "device", desc := "(II)I" } : Jvm.MethodName) prog_1_method_20_code (4 : Nat) (Option.some Jvm.ClassFile.FieldType.int)) ∈ U0 := mkU 815 _ (by decide +kernel) rfl
theorem tw_750 : (Jvm.Cond.methodLink "PromisedSlots" (217 : Nat) ({ cls := "PromisedSlots$Device", name := "tell", desc := "(I)I" } : Jvm.MethodName)) ∈ U0 := mkU 816 _ (by decide +kernel) rfl
theorem tw_751 : (Jvm.Cond.instanceMethod ({ cls := "PromisedSlots$Device", name := "tell", desc := "(I)I" } : Jvm.MethodName)) ∈ U0 := mkU 817 _ (by decide +kernel) rfl
theorem tw_752 : (Jvm.Cond.selects "PromisedSlots$Device" ({ cls := "PromisedSlots$Device", name := "tell", desc := "(I)I" } : Jvm.MethodName) ({ cls := "PromisedSlots$Device", name := "tell", desc := "(I)I" } : Jvm.MethodName)) ∈ U0 := mkU 818 _ (by decide +kernel) rfl
theorem tw_753 : (Jvm.Cond.code ({ cls := "PromisedSlots$Device", name := "tell", desc := "(I)I" } : Jvm.MethodName) prog_4_method_15_code (2 : Nat) (Option.some Jvm.ClassFile.FieldType.int)) ∈ U0 := mkU 819 _ (by decide +kernel) rfl
theorem tw_754 : (Jvm.Cond.methodLink "PromisedSlotsLaw" (93 : Nat) ({ cls := "PromisedSlots", name := "count", desc := "(I)I" } : Jvm.MethodName)) ∈ U0 := mkU 820 _ (by decide +kernel) rfl
theorem tw_755 : (Jvm.Cond.instanceMethod ({ cls := "PromisedSlots", name := "count", desc := "(I)I" } : Jvm.MethodName)) ∈ U0 := mkU 821 _ (by decide +kernel) rfl
theorem tw_756 : (Jvm.Cond.selects "PromisedSlots" ({ cls := "PromisedSlots", name := "count", desc := "(I)I" } : Jvm.MethodName) ({ cls := "PromisedSlots", name := "count", desc := "(I)I" } : Jvm.MethodName)) ∈ U0 := mkU 822 _ (by decide +kernel) rfl
theorem tw_757 : (Jvm.Cond.code ({ cls := "PromisedSlots", name := "count", desc := "(I)I" } : Jvm.MethodName) prog_1_method_21_code (2 : Nat) (Option.some Jvm.ClassFile.FieldType.int)) ∈ U0 := mkU 823 _ (by decide +kernel) rfl
theorem tw_758 : (Jvm.Cond.methodLink "PromisedSlots" (224 : Nat) ({ cls := "PromisedSlots", name := "orphans", desc := "()I" } : Jvm.MethodName)) ∈ U0 := mkU 824 _ (by decide +kernel) rfl
theorem tw_760 : (Jvm.Cond.instanceMethod ({ cls := "PromisedSlots", name := "orphans", desc := "()I" } : Jvm.MethodName)) ∈ U0 := mkU 826 _ (by decide +kernel) rfl
theorem tw_761 : (Jvm.Cond.code ({ cls := "PromisedSlots", name := "orphans", desc := "()I" } : Jvm.MethodName) prog_1_method_27_code (3 : Nat) (Option.some Jvm.ClassFile.FieldType.int)) ∈ U0 := mkU 827 _ (by decide +kernel) rfl
theorem tw_762 : (Jvm.Cond.classLink "PromisedSlotsLaw" (10 : Nat) "PromisedSlotsModel") ∈ U0 := mkU 828 _ (by decide +kernel) rfl
theorem tw_764 : (Jvm.Cond.methodLink "PromisedSlotsLaw" (12 : Nat) ({ cls := "PromisedSlotsModel", name := "<init>", desc := "()V" } : Jvm.MethodName)) ∈ U0 := mkU 830 _ (by decide +kernel) rfl
theorem tw_765 : (Jvm.Cond.instanceMethod ({ cls := "PromisedSlotsModel", name := "<init>", desc := "()V" } : Jvm.MethodName)) ∈ U0 := mkU 831 _ (by decide +kernel) rfl
theorem tw_766 : (Jvm.Cond.code ({ cls := "PromisedSlotsModel", name := "<init>", desc := "()V" } : Jvm.MethodName) prog_10_method_1_code (1 : Nat) (Option.none : Option Jvm.ClassFile.FieldType)) ∈ U0 := mkU 832 _ (by decide +kernel) rfl
theorem tw_767 : (Jvm.Cond.methodLink "PromisedSlotsModel" (1 : Nat) ({ cls := "java/lang/Object", name := "<init>", desc := "()V" } : Jvm.MethodName)) ∈ U0 := mkU 833 _ (by decide +kernel) rfl
theorem tw_768 : (Jvm.Cond.methodLink "PromisedSlotsModel" (121 : Nat) ({ cls := "PromisedSlotsModel", name := "empty", desc := "()V" } : Jvm.MethodName)) ∈ U0 := mkU 834 _ (by decide +kernel) rfl
theorem tw_770 : (Jvm.Cond.instanceMethod ({ cls := "PromisedSlotsModel", name := "empty", desc := "()V" } : Jvm.MethodName)) ∈ U0 := mkU 836 _ (by decide +kernel) rfl
theorem tw_771 : (Jvm.Cond.code ({ cls := "PromisedSlotsModel", name := "empty", desc := "()V" } : Jvm.MethodName) prog_10_method_7_code (1 : Nat) (Option.none : Option Jvm.ClassFile.FieldType)) ∈ U0 := mkU 837 _ (by decide +kernel) rfl
theorem tw_772 : (Jvm.Cond.methodLink "PromisedSlotsModel" (134 : Nat) ({ cls := "PromisedSlotsModel", name := "deviceIs", desc := "(III)V" } : Jvm.MethodName)) ∈ U0 := mkU 838 _ (by decide +kernel) rfl
theorem tw_774 : (Jvm.Cond.instanceMethod ({ cls := "PromisedSlotsModel", name := "deviceIs", desc := "(III)V" } : Jvm.MethodName)) ∈ U0 := mkU 840 _ (by decide +kernel) rfl
theorem tw_775 : (Jvm.Cond.code ({ cls := "PromisedSlotsModel", name := "deviceIs", desc := "(III)V" } : Jvm.MethodName) prog_10_method_10_code (4 : Nat) (Option.none : Option Jvm.ClassFile.FieldType)) ∈ U0 := mkU 841 _ (by decide +kernel) rfl
theorem tw_776 : (Jvm.Cond.methodLink "PromisedSlotsModel" (138 : Nat) ({ cls := "PromisedSlotsModel", name := "coordIs", desc := "(II)V" } : Jvm.MethodName)) ∈ U0 := mkU 842 _ (by decide +kernel) rfl
theorem tw_778 : (Jvm.Cond.instanceMethod ({ cls := "PromisedSlotsModel", name := "coordIs", desc := "(II)V" } : Jvm.MethodName)) ∈ U0 := mkU 844 _ (by decide +kernel) rfl
theorem tw_779 : (Jvm.Cond.code ({ cls := "PromisedSlotsModel", name := "coordIs", desc := "(II)V" } : Jvm.MethodName) prog_10_method_9_code (3 : Nat) (Option.none : Option Jvm.ClassFile.FieldType)) ∈ U0 := mkU 845 _ (by decide +kernel) rfl
theorem tw_780 : (Jvm.Cond.methodLink "PromisedSlotsModel" (145 : Nat) ({ cls := "PromisedSlotsModel", name := "begin", desc := "()V" } : Jvm.MethodName)) ∈ U0 := mkU 846 _ (by decide +kernel) rfl
theorem tw_782 : (Jvm.Cond.instanceMethod ({ cls := "PromisedSlotsModel", name := "begin", desc := "()V" } : Jvm.MethodName)) ∈ U0 := mkU 848 _ (by decide +kernel) rfl
theorem tw_783 : (Jvm.Cond.code ({ cls := "PromisedSlotsModel", name := "begin", desc := "()V" } : Jvm.MethodName) prog_10_method_23_code (2 : Nat) (Option.none : Option Jvm.ClassFile.FieldType)) ∈ U0 := mkU 849 _ (by decide +kernel) rfl
theorem tw_784 : (Jvm.Cond.methodLink "PromisedSlotsModel" (186 : Nat) ({ cls := "PromisedSlotsModel", name := "beatOf", desc := "(I)I" } : Jvm.MethodName)) ∈ U0 := mkU 850 _ (by decide +kernel) rfl
theorem tw_785 : (Jvm.Cond.static ({ cls := "PromisedSlotsModel", name := "beatOf", desc := "(I)I" } : Jvm.MethodName)) ∈ U0 := mkU 851 _ (by decide +kernel) rfl
theorem tw_786 : (Jvm.Cond.code ({ cls := "PromisedSlotsModel", name := "beatOf", desc := "(I)I" } : Jvm.MethodName) prog_10_method_8_code (1 : Nat) (Option.some Jvm.ClassFile.FieldType.int)) ∈ U0 := mkU 852 _ (by decide +kernel) rfl
theorem tw_787 : (Jvm.Cond.methodLink "PromisedSlotsModel" (249 : Nat) ({ cls := "PromisedSlotsModel", name := "coordBegins", desc := "(III)V" } : Jvm.MethodName)) ∈ U0 := mkU 853 _ (by decide +kernel) rfl
theorem tw_789 : (Jvm.Cond.instanceMethod ({ cls := "PromisedSlotsModel", name := "coordBegins", desc := "(III)V" } : Jvm.MethodName)) ∈ U0 := mkU 855 _ (by decide +kernel) rfl
theorem tw_790 : (Jvm.Cond.code ({ cls := "PromisedSlotsModel", name := "coordBegins", desc := "(III)V" } : Jvm.MethodName) prog_10_method_24_code (4 : Nat) (Option.none : Option Jvm.ClassFile.FieldType)) ∈ U0 := mkU 856 _ (by decide +kernel) rfl
theorem tw_791 : (Jvm.Cond.methodLink "PromisedSlotsModel" (252 : Nat) ({ cls := "PromisedSlotsModel", name := "deviceBegins", desc := "(I)V" } : Jvm.MethodName)) ∈ U0 := mkU 857 _ (by decide +kernel) rfl
theorem tw_793 : (Jvm.Cond.instanceMethod ({ cls := "PromisedSlotsModel", name := "deviceBegins", desc := "(I)V" } : Jvm.MethodName)) ∈ U0 := mkU 859 _ (by decide +kernel) rfl
theorem tw_794 : (Jvm.Cond.code ({ cls := "PromisedSlotsModel", name := "deviceBegins", desc := "(I)V" } : Jvm.MethodName) prog_10_method_25_code (2 : Nat) (Option.none : Option Jvm.ClassFile.FieldType)) ∈ U0 := mkU 860 _ (by decide +kernel) rfl
theorem tw_795 : (Jvm.Cond.fieldLink "PromisedSlotsModel" (165 : Nat) "PromisedSlotsModel" "length" "I") ∈ U0 := mkU 861 _ (by decide +kernel) rfl
theorem tw_796 : (Jvm.Cond.fieldLink "PromisedSlotsModel" (7 : Nat) "PromisedSlotsModel" "text" "[I") ∈ U0 := mkU 862 _ (by decide +kernel) rfl
theorem tw_797 : (Jvm.Cond.fieldLink "PromisedSlotsModel" (171 : Nat) "PromisedSlotsModel" "spot" "I") ∈ U0 := mkU 863 _ (by decide +kernel) rfl
theorem tw_798 : (Jvm.Cond.fieldLink "PromisedSlotsModel" (148 : Nat) "PromisedSlotsModel" "causeMany" "I") ∈ U0 := mkU 864 _ (by decide +kernel) rfl
theorem tw_799 : (Jvm.Cond.fieldLink "PromisedSlotsModel" (13 : Nat) "PromisedSlotsModel" "causes" "[I") ∈ U0 := mkU 865 _ (by decide +kernel) rfl
theorem tw_800 : (Jvm.Cond.fieldLink "PromisedSlotsModel" (124 : Nat) "PromisedSlotsModel" "readB" "I") ∈ U0 := mkU 866 _ (by decide +kernel) rfl
theorem tw_801 : (Jvm.Cond.fieldLink "PromisedSlotsModel" (128 : Nat) "PromisedSlotsModel" "readS" "I") ∈ U0 := mkU 867 _ (by decide +kernel) rfl
theorem tw_802 : (Jvm.Cond.fieldLink "PromisedSlotsModel" (131 : Nat) "PromisedSlotsModel" "readLeast" "I") ∈ U0 := mkU 868 _ (by decide +kernel) rfl
theorem tw_803 : (Jvm.Cond.fieldLink "PromisedSlotsModel" (142 : Nat) "PromisedSlotsModel" "readLife" "I") ∈ U0 := mkU 869 _ (by decide +kernel) rfl
theorem tw_804 : (Jvm.Cond.fieldLink "PromisedSlotsModel" (151 : Nat) "PromisedSlotsModel" "readCoords" "I") ∈ U0 := mkU 870 _ (by decide +kernel) rfl
theorem tw_805 : (Jvm.Cond.fieldLink "PromisedSlotsModel" (16 : Nat) "PromisedSlotsModel" "readParent" "[I") ∈ U0 := mkU 871 _ (by decide +kernel) rfl
theorem tw_806 : (Jvm.Cond.fieldLink "PromisedSlotsModel" (19 : Nat) "PromisedSlotsModel" "readStart" "[I") ∈ U0 := mkU 872 _ (by decide +kernel) rfl
theorem tw_807 : (Jvm.Cond.fieldLink "PromisedSlotsModel" (154 : Nat) "PromisedSlotsModel" "readDevices" "I") ∈ U0 := mkU 873 _ (by decide +kernel) rfl
theorem tw_808 : (Jvm.Cond.fieldLink "PromisedSlotsModel" (22 : Nat) "PromisedSlotsModel" "readHome" "[I") ∈ U0 := mkU 874 _ (by decide +kernel) rfl
theorem tw_809 : (Jvm.Cond.fieldLink "PromisedSlotsModel" (25 : Nat) "PromisedSlotsModel" "readLength" "[I") ∈ U0 := mkU 875 _ (by decide +kernel) rfl
theorem tw_810 : (Jvm.Cond.fieldLink "PromisedSlotsModel" (28 : Nat) "PromisedSlotsModel" "readExponent" "[I") ∈ U0 := mkU 876 _ (by decide +kernel) rfl
theorem tw_811 : (Jvm.Cond.fieldLink "PromisedSlotsModel" (222 : Nat) "PromisedSlotsModel" "beat" "I") ∈ U0 := mkU 877 _ (by decide +kernel) rfl
theorem tw_812 : (Jvm.Cond.fieldLink "PromisedSlotsModel" (225 : Nat) "PromisedSlotsModel" "active" "I") ∈ U0 := mkU 878 _ (by decide +kernel) rfl
theorem tw_813 : (Jvm.Cond.fieldLink "PromisedSlotsModel" (228 : Nat) "PromisedSlotsModel" "slot" "I") ∈ U0 := mkU 879 _ (by decide +kernel) rfl
theorem tw_814 : (Jvm.Cond.fieldLink "PromisedSlotsModel" (231 : Nat) "PromisedSlotsModel" "least" "I") ∈ U0 := mkU 880 _ (by decide +kernel) rfl
theorem tw_815 : (Jvm.Cond.fieldLink "PromisedSlotsModel" (234 : Nat) "PromisedSlotsModel" "life" "I") ∈ U0 := mkU 881 _ (by decide +kernel) rfl
theorem tw_816 : (Jvm.Cond.fieldLink "PromisedSlotsModel" (237 : Nat) "PromisedSlotsModel" "now" "I") ∈ U0 := mkU 882 _ (by decide +kernel) rfl
theorem tw_817 : (Jvm.Cond.fieldLink "PromisedSlotsModel" (240 : Nat) "PromisedSlotsModel" "seed" "I") ∈ U0 := mkU 883 _ (by decide +kernel) rfl
theorem tw_818 : (Jvm.Cond.fieldLink "PromisedSlotsModel" (243 : Nat) "PromisedSlotsModel" "went" "I") ∈ U0 := mkU 884 _ (by decide +kernel) rfl
theorem tw_819 : (Jvm.Cond.fieldLink "PromisedSlotsModel" (246 : Nat) "PromisedSlotsModel" "coords" "I") ∈ U0 := mkU 885 _ (by decide +kernel) rfl
theorem tw_820 : (Jvm.Cond.fieldLink "PromisedSlotsModel" (31 : Nat) "PromisedSlotsModel" "parent" "[I") ∈ U0 := mkU 886 _ (by decide +kernel) rfl
theorem tw_821 : (Jvm.Cond.fieldLink "PromisedSlotsModel" (34 : Nat) "PromisedSlotsModel" "start" "[I") ∈ U0 := mkU 887 _ (by decide +kernel) rfl
theorem tw_822 : (Jvm.Cond.fieldLink "PromisedSlotsModel" (37 : Nat) "PromisedSlotsModel" "next" "[I") ∈ U0 := mkU 888 _ (by decide +kernel) rfl
theorem tw_823 : (Jvm.Cond.fieldLink "PromisedSlotsModel" (40 : Nat) "PromisedSlotsModel" "parts" "[I") ∈ U0 := mkU 889 _ (by decide +kernel) rfl
theorem tw_824 : (Jvm.Cond.fieldLink "PromisedSlotsModel" (43 : Nat) "PromisedSlotsModel" "list" "[I") ∈ U0 := mkU 890 _ (by decide +kernel) rfl
theorem tw_825 : (Jvm.Cond.fieldLink "PromisedSlotsModel" (46 : Nat) "PromisedSlotsModel" "promises" "[I") ∈ U0 := mkU 891 _ (by decide +kernel) rfl
theorem tw_826 : (Jvm.Cond.fieldLink "PromisedSlotsModel" (49 : Nat) "PromisedSlotsModel" "promised" "[I") ∈ U0 := mkU 892 _ (by decide +kernel) rfl
theorem tw_827 : (Jvm.Cond.fieldLink "PromisedSlotsModel" (52 : Nat) "PromisedSlotsModel" "slots" "[I") ∈ U0 := mkU 893 _ (by decide +kernel) rfl
theorem tw_828 : (Jvm.Cond.fieldLink "PromisedSlotsModel" (55 : Nat) "PromisedSlotsModel" "idle" "[I") ∈ U0 := mkU 894 _ (by decide +kernel) rfl
theorem tw_829 : (Jvm.Cond.fieldLink "PromisedSlotsModel" (58 : Nat) "PromisedSlotsModel" "air" "[I") ∈ U0 := mkU 895 _ (by decide +kernel) rfl
theorem tw_830 : (Jvm.Cond.fieldLink "PromisedSlotsModel" (219 : Nat) "PromisedSlotsModel" "devices" "I") ∈ U0 := mkU 896 _ (by decide +kernel) rfl
theorem tw_831 : (Jvm.Cond.fieldLink "PromisedSlotsModel" (61 : Nat) "PromisedSlotsModel" "home" "[I") ∈ U0 := mkU 897 _ (by decide +kernel) rfl
theorem tw_832 : (Jvm.Cond.fieldLink "PromisedSlotsModel" (64 : Nat) "PromisedSlotsModel" "size" "[I") ∈ U0 := mkU 898 _ (by decide +kernel) rfl
theorem tw_833 : (Jvm.Cond.fieldLink "PromisedSlotsModel" (67 : Nat) "PromisedSlotsModel" "first" "[I") ∈ U0 := mkU 899 _ (by decide +kernel) rfl
theorem tw_834 : (Jvm.Cond.fieldLink "PromisedSlotsModel" (70 : Nat) "PromisedSlotsModel" "contend" "[I") ∈ U0 := mkU 900 _ (by decide +kernel) rfl
theorem tw_835 : (Jvm.Cond.fieldLink "PromisedSlotsModel" (73 : Nat) "PromisedSlotsModel" "toPromise" "[I") ∈ U0 := mkU 901 _ (by decide +kernel) rfl
theorem tw_836 : (Jvm.Cond.fieldLink "PromisedSlotsModel" (76 : Nat) "PromisedSlotsModel" "sent" "[I") ∈ U0 := mkU 902 _ (by decide +kernel) rfl
theorem tw_837 : (Jvm.Cond.fieldLink "PromisedSlotsModel" (79 : Nat) "PromisedSlotsModel" "up" "[I") ∈ U0 := mkU 903 _ (by decide +kernel) rfl
theorem tw_838 : (Jvm.Cond.fieldLink "PromisedSlotsModel" (82 : Nat) "PromisedSlotsModel" "missed" "[I") ∈ U0 := mkU 904 _ (by decide +kernel) rfl
theorem tw_839 : (Jvm.Cond.fieldLink "PromisedSlotsModel" (85 : Nat) "PromisedSlotsModel" "deaf" "[I") ∈ U0 := mkU 905 _ (by decide +kernel) rfl
theorem tw_840 : (Jvm.Cond.fieldLink "PromisedSlotsModel" (88 : Nat) "PromisedSlotsModel" "does" "[I") ∈ U0 := mkU 906 _ (by decide +kernel) rfl
theorem tw_841 : (Jvm.Cond.fieldLink "PromisedSlotsModel" (91 : Nat) "PromisedSlotsModel" "exponent" "[I") ∈ U0 := mkU 907 _ (by decide +kernel) rfl
theorem tw_842 : (Jvm.Cond.fieldLink "PromisedSlotsModel" (94 : Nat) "PromisedSlotsModel" "looks" "[I") ∈ U0 := mkU 908 _ (by decide +kernel) rfl
theorem tw_843 : (Jvm.Cond.fieldLink "PromisedSlotsModel" (97 : Nat) "PromisedSlotsModel" "tries" "[I") ∈ U0 := mkU 909 _ (by decide +kernel) rfl
theorem tw_844 : (Jvm.Cond.fieldLink "PromisedSlotsModel" (100 : Nat) "PromisedSlotsModel" "hurts" "[I") ∈ U0 := mkU 910 _ (by decide +kernel) rfl
theorem tw_845 : (Jvm.Cond.fieldLink "PromisedSlotsModel" (103 : Nat) "PromisedSlotsModel" "heard" "[I") ∈ U0 := mkU 911 _ (by decide +kernel) rfl
theorem tw_846 : (Jvm.Cond.fieldLink "PromisedSlotsModel" (106 : Nat) "PromisedSlotsModel" "waits" "[I") ∈ U0 := mkU 912 _ (by decide +kernel) rfl
theorem tw_847 : (Jvm.Cond.fieldLink "PromisedSlotsModel" (109 : Nat) "PromisedSlotsModel" "looked" "[I") ∈ U0 := mkU 913 _ (by decide +kernel) rfl
theorem tw_848 : (Jvm.Cond.fieldLink "PromisedSlotsModel" (112 : Nat) "PromisedSlotsModel" "left" "[I") ∈ U0 := mkU 914 _ (by decide +kernel) rfl
theorem tw_849 : (Jvm.Cond.fieldLink "PromisedSlotsModel" (115 : Nat) "PromisedSlotsModel" "hurt" "[I") ∈ U0 := mkU 915 _ (by decide +kernel) rfl
theorem tw_850 : (Jvm.Cond.fieldLink "PromisedSlotsModel" (118 : Nat) "PromisedSlotsModel" "drew" "[I") ∈ U0 := mkU 916 _ (by decide +kernel) rfl
theorem tw_851 : (Jvm.Cond.fieldLink "PromisedSlotsModel" (168 : Nat) "PromisedSlotsModel" "why" "I") ∈ U0 := mkU 917 _ (by decide +kernel) rfl
theorem tw_852 : (Jvm.Cond.fieldLink "PromisedSlotsModel" (193 : Nat) "PromisedSlotsModel" "whyOther" "I") ∈ U0 := mkU 918 _ (by decide +kernel) rfl
theorem tw_970 : (Jvm.Cond.methodLink "PromisedSlotsLaw" (34 : Nat) ({ cls := "PromisedSlotsModel", name := "cause", desc := "(I)I" } : Jvm.MethodName)) ∈ U0 := mkU 1036 _ (by decide +kernel) rfl
theorem tw_971 : (Jvm.Cond.instanceMethod ({ cls := "PromisedSlotsModel", name := "cause", desc := "(I)I" } : Jvm.MethodName)) ∈ U0 := mkU 1037 _ (by decide +kernel) rfl
theorem tw_972 : (Jvm.Cond.selects "PromisedSlotsModel" ({ cls := "PromisedSlotsModel", name := "cause", desc := "(I)I" } : Jvm.MethodName) ({ cls := "PromisedSlotsModel", name := "cause", desc := "(I)I" } : Jvm.MethodName)) ∈ U0 := mkU 1038 _ (by decide +kernel) rfl
theorem tw_973 : (Jvm.Cond.code ({ cls := "PromisedSlotsModel", name := "cause", desc := "(I)I" } : Jvm.MethodName) prog_10_method_6_code (2 : Nat) (Option.some Jvm.ClassFile.FieldType.int)) ∈ U0 := mkU 1039 _ (by decide +kernel) rfl
theorem tw_974 : (Jvm.Cond.methodLink "PromisedSlotsLaw" (17 : Nat) ({ cls := "PromisedSlotsModel", name := "write", desc := "(I)I" } : Jvm.MethodName)) ∈ U0 := mkU 1040 _ (by decide +kernel) rfl
theorem tw_975 : (Jvm.Cond.instanceMethod ({ cls := "PromisedSlotsModel", name := "write", desc := "(I)I" } : Jvm.MethodName)) ∈ U0 := mkU 1041 _ (by decide +kernel) rfl
theorem tw_976 : (Jvm.Cond.selects "PromisedSlotsModel" ({ cls := "PromisedSlotsModel", name := "write", desc := "(I)I" } : Jvm.MethodName) ({ cls := "PromisedSlotsModel", name := "write", desc := "(I)I" } : Jvm.MethodName)) ∈ U0 := mkU 1042 _ (by decide +kernel) rfl
theorem tw_977 : (Jvm.Cond.code ({ cls := "PromisedSlotsModel", name := "write", desc := "(I)I" } : Jvm.MethodName) prog_10_method_11_code (2 : Nat) (Option.some Jvm.ClassFile.FieldType.int)) ∈ U0 := mkU 1043 _ (by decide +kernel) rfl
theorem tw_978 : (Jvm.Cond.constantLong "PromisedSlotsModel" (157 : Nat) (32 : Int64)) ∈ U0 := mkU 1044 _ (by decide +kernel) rfl
theorem tw_979 : (Jvm.Cond.constantLong "PromisedSlotsModel" (159 : Nat) (126 : Int64)) ∈ U0 := mkU 1045 _ (by decide +kernel) rfl
theorem tw_980 : (Jvm.Cond.methodLink "PromisedSlotsModel" (161 : Nat) ({ cls := "PromisedSlotsModel", name := "in", desc := "(JJJ)Z" } : Jvm.MethodName)) ∈ U0 := mkU 1046 _ (by decide +kernel) rfl
theorem tw_981 : (Jvm.Cond.static ({ cls := "PromisedSlotsModel", name := "in", desc := "(JJJ)Z" } : Jvm.MethodName)) ∈ U0 := mkU 1047 _ (by decide +kernel) rfl
theorem tw_982 : (Jvm.Cond.code ({ cls := "PromisedSlotsModel", name := "in", desc := "(JJJ)Z" } : Jvm.MethodName) prog_10_method_2_code (6 : Nat) (Option.some Jvm.ClassFile.FieldType.boolean)) ∈ U0 := mkU 1048 _ (by decide +kernel) rfl
theorem tw_983 : (Jvm.Cond.methodLink "PromisedSlotsLaw" (22 : Nat) ({ cls := "PromisedSlotsModel", name := "wipe", desc := "()I" } : Jvm.MethodName)) ∈ U0 := mkU 1049 _ (by decide +kernel) rfl
theorem tw_984 : (Jvm.Cond.instanceMethod ({ cls := "PromisedSlotsModel", name := "wipe", desc := "()I" } : Jvm.MethodName)) ∈ U0 := mkU 1050 _ (by decide +kernel) rfl
theorem tw_985 : (Jvm.Cond.selects "PromisedSlotsModel" ({ cls := "PromisedSlotsModel", name := "wipe", desc := "()I" } : Jvm.MethodName) ({ cls := "PromisedSlotsModel", name := "wipe", desc := "()I" } : Jvm.MethodName)) ∈ U0 := mkU 1051 _ (by decide +kernel) rfl
theorem tw_986 : (Jvm.Cond.code ({ cls := "PromisedSlotsModel", name := "wipe", desc := "()I" } : Jvm.MethodName) prog_10_method_12_code (2 : Nat) (Option.some Jvm.ClassFile.FieldType.int)) ∈ U0 := mkU 1052 _ (by decide +kernel) rfl
theorem tw_987 : (Jvm.Cond.methodLink "PromisedSlotsLaw" (26 : Nat) ({ cls := "PromisedSlotsModel", name := "fault", desc := "()I" } : Jvm.MethodName)) ∈ U0 := mkU 1053 _ (by decide +kernel) rfl
theorem tw_988 : (Jvm.Cond.instanceMethod ({ cls := "PromisedSlotsModel", name := "fault", desc := "()I" } : Jvm.MethodName)) ∈ U0 := mkU 1054 _ (by decide +kernel) rfl
theorem tw_989 : (Jvm.Cond.selects "PromisedSlotsModel" ({ cls := "PromisedSlotsModel", name := "fault", desc := "()I" } : Jvm.MethodName) ({ cls := "PromisedSlotsModel", name := "fault", desc := "()I" } : Jvm.MethodName)) ∈ U0 := mkU 1055 _ (by decide +kernel) rfl
theorem tw_990 : (Jvm.Cond.code ({ cls := "PromisedSlotsModel", name := "fault", desc := "()I" } : Jvm.MethodName) prog_10_method_21_code (1 : Nat) (Option.some Jvm.ClassFile.FieldType.int)) ∈ U0 := mkU 1056 _ (by decide +kernel) rfl
theorem tw_991 : (Jvm.Cond.methodLink "PromisedSlotsModel" (212 : Nat) ({ cls := "PromisedSlotsModel", name := "readAll", desc := "()I" } : Jvm.MethodName)) ∈ U0 := mkU 1057 _ (by decide +kernel) rfl
theorem tw_993 : (Jvm.Cond.instanceMethod ({ cls := "PromisedSlotsModel", name := "readAll", desc := "()I" } : Jvm.MethodName)) ∈ U0 := mkU 1059 _ (by decide +kernel) rfl
theorem tw_994 : (Jvm.Cond.code ({ cls := "PromisedSlotsModel", name := "readAll", desc := "()I" } : Jvm.MethodName) prog_10_method_20_code (2 : Nat) (Option.some Jvm.ClassFile.FieldType.int)) ∈ U0 := mkU 1060 _ (by decide +kernel) rfl
theorem tw_995 : (Jvm.Cond.methodLink "PromisedSlotsModel" (174 : Nat) ({ cls := "PromisedSlotsModel", name := "letterAt", desc := "(I)I" } : Jvm.MethodName)) ∈ U0 := mkU 1061 _ (by decide +kernel) rfl
theorem tw_997 : (Jvm.Cond.instanceMethod ({ cls := "PromisedSlotsModel", name := "letterAt", desc := "(I)I" } : Jvm.MethodName)) ∈ U0 := mkU 1063 _ (by decide +kernel) rfl
theorem tw_998 : (Jvm.Cond.code ({ cls := "PromisedSlotsModel", name := "letterAt", desc := "(I)I" } : Jvm.MethodName) prog_10_method_13_code (2 : Nat) (Option.some Jvm.ClassFile.FieldType.int)) ∈ U0 := mkU 1064 _ (by decide +kernel) rfl
theorem tw_999 : (Jvm.Cond.methodLink "PromisedSlotsModel" (205 : Nat) ({ cls := "PromisedSlotsModel", name := "item", desc := "(IZ)V" } : Jvm.MethodName)) ∈ U0 := mkU 1065 _ (by decide +kernel) rfl
theorem tw_1001 : (Jvm.Cond.instanceMethod ({ cls := "PromisedSlotsModel", name := "item", desc := "(IZ)V" } : Jvm.MethodName)) ∈ U0 := mkU 1067 _ (by decide +kernel) rfl
theorem tw_1002 : (Jvm.Cond.code ({ cls := "PromisedSlotsModel", name := "item", desc := "(IZ)V" } : Jvm.MethodName) prog_10_method_19_code (3 : Nat) (Option.none : Option Jvm.ClassFile.FieldType)) ∈ U0 := mkU 1068 _ (by decide +kernel) rfl
theorem tw_1003 : (Jvm.Cond.methodLink "PromisedSlotsModel" (196 : Nat) ({ cls := "PromisedSlotsModel", name := "ordersItem", desc := "()V" } : Jvm.MethodName)) ∈ U0 := mkU 1069 _ (by decide +kernel) rfl
theorem tw_1005 : (Jvm.Cond.instanceMethod ({ cls := "PromisedSlotsModel", name := "ordersItem", desc := "()V" } : Jvm.MethodName)) ∈ U0 := mkU 1071 _ (by decide +kernel) rfl
theorem tw_1006 : (Jvm.Cond.code ({ cls := "PromisedSlotsModel", name := "ordersItem", desc := "()V" } : Jvm.MethodName) prog_10_method_16_code (4 : Nat) (Option.none : Option Jvm.ClassFile.FieldType)) ∈ U0 := mkU 1072 _ (by decide +kernel) rfl
theorem tw_1007 : (Jvm.Cond.methodLink "PromisedSlotsModel" (182 : Nat) ({ cls := "PromisedSlotsModel", name := "number", desc := "(III)I" } : Jvm.MethodName)) ∈ U0 := mkU 1073 _ (by decide +kernel) rfl
theorem tw_1009 : (Jvm.Cond.instanceMethod ({ cls := "PromisedSlotsModel", name := "number", desc := "(III)I" } : Jvm.MethodName)) ∈ U0 := mkU 1075 _ (by decide +kernel) rfl
theorem tw_1010 : (Jvm.Cond.code ({ cls := "PromisedSlotsModel", name := "number", desc := "(III)I" } : Jvm.MethodName) prog_10_method_14_code (6 : Nat) (Option.some Jvm.ClassFile.FieldType.int)) ∈ U0 := mkU 1076 _ (by decide +kernel) rfl
theorem tw_1011 : (Jvm.Cond.constantLong "PromisedSlotsModel" (178 : Nat) (48 : Int64)) ∈ U0 := mkU 1077 _ (by decide +kernel) rfl
theorem tw_1012 : (Jvm.Cond.constantLong "PromisedSlotsModel" (180 : Nat) (57 : Int64)) ∈ U0 := mkU 1078 _ (by decide +kernel) rfl
theorem tw_1013 : (Jvm.Cond.methodLink "PromisedSlotsModel" (199 : Nat) ({ cls := "PromisedSlotsModel", name := "coordItem", desc := "()V" } : Jvm.MethodName)) ∈ U0 := mkU 1079 _ (by decide +kernel) rfl
theorem tw_1015 : (Jvm.Cond.instanceMethod ({ cls := "PromisedSlotsModel", name := "coordItem", desc := "()V" } : Jvm.MethodName)) ∈ U0 := mkU 1081 _ (by decide +kernel) rfl
theorem tw_1016 : (Jvm.Cond.code ({ cls := "PromisedSlotsModel", name := "coordItem", desc := "()V" } : Jvm.MethodName) prog_10_method_17_code (6 : Nat) (Option.none : Option Jvm.ClassFile.FieldType)) ∈ U0 := mkU 1082 _ (by decide +kernel) rfl
theorem tw_1017 : (Jvm.Cond.methodLink "PromisedSlotsModel" (189 : Nat) ({ cls := "PromisedSlotsModel", name := "meets", desc := "([IIIII)I" } : Jvm.MethodName)) ∈ U0 := mkU 1083 _ (by decide +kernel) rfl
theorem tw_1018 : (Jvm.Cond.static ({ cls := "PromisedSlotsModel", name := "meets", desc := "([IIIII)I" } : Jvm.MethodName)) ∈ U0 := mkU 1084 _ (by decide +kernel) rfl
theorem tw_1019 : (Jvm.Cond.code ({ cls := "PromisedSlotsModel", name := "meets", desc := "([IIIII)I" } : Jvm.MethodName) prog_10_method_15_code (8 : Nat) (Option.some Jvm.ClassFile.FieldType.int)) ∈ U0 := mkU 1085 _ (by decide +kernel) rfl
theorem tw_1020 : (Jvm.Cond.methodLink "PromisedSlotsModel" (202 : Nat) ({ cls := "PromisedSlotsModel", name := "deviceItem", desc := "()V" } : Jvm.MethodName)) ∈ U0 := mkU 1086 _ (by decide +kernel) rfl
theorem tw_1022 : (Jvm.Cond.instanceMethod ({ cls := "PromisedSlotsModel", name := "deviceItem", desc := "()V" } : Jvm.MethodName)) ∈ U0 := mkU 1088 _ (by decide +kernel) rfl
theorem tw_1023 : (Jvm.Cond.code ({ cls := "PromisedSlotsModel", name := "deviceItem", desc := "()V" } : Jvm.MethodName) prog_10_method_18_code (4 : Nat) (Option.none : Option Jvm.ClassFile.FieldType)) ∈ U0 := mkU 1089 _ (by decide +kernel) rfl
theorem tw_1024 : (Jvm.Cond.methodLink "PromisedSlotsModel" (209 : Nat) ({ cls := "PromisedSlotsModel", name := "refusesText", desc := "(III)I" } : Jvm.MethodName)) ∈ U0 := mkU 1090 _ (by decide +kernel) rfl
theorem tw_1026 : (Jvm.Cond.instanceMethod ({ cls := "PromisedSlotsModel", name := "refusesText", desc := "(III)I" } : Jvm.MethodName)) ∈ U0 := mkU 1092 _ (by decide +kernel) rfl
theorem tw_1027 : (Jvm.Cond.code ({ cls := "PromisedSlotsModel", name := "refusesText", desc := "(III)I" } : Jvm.MethodName) prog_10_method_5_code (4 : Nat) (Option.some Jvm.ClassFile.FieldType.int)) ∈ U0 := mkU 1093 _ (by decide +kernel) rfl
theorem tw_1028 : (Jvm.Cond.methodLink "PromisedSlotsLaw" (30 : Nat) ({ cls := "PromisedSlotsModel", name := "lay", desc := "()I" } : Jvm.MethodName)) ∈ U0 := mkU 1094 _ (by decide +kernel) rfl
theorem tw_1029 : (Jvm.Cond.instanceMethod ({ cls := "PromisedSlotsModel", name := "lay", desc := "()I" } : Jvm.MethodName)) ∈ U0 := mkU 1095 _ (by decide +kernel) rfl
theorem tw_1030 : (Jvm.Cond.selects "PromisedSlotsModel" ({ cls := "PromisedSlotsModel", name := "lay", desc := "()I" } : Jvm.MethodName) ({ cls := "PromisedSlotsModel", name := "lay", desc := "()I" } : Jvm.MethodName)) ∈ U0 := mkU 1096 _ (by decide +kernel) rfl
theorem tw_1031 : (Jvm.Cond.code ({ cls := "PromisedSlotsModel", name := "lay", desc := "()I" } : Jvm.MethodName) prog_10_method_22_code (1 : Nat) (Option.some Jvm.ClassFile.FieldType.int)) ∈ U0 := mkU 1097 _ (by decide +kernel) rfl
theorem tw_1032 : (Jvm.Cond.methodLink "PromisedSlotsModel" (216 : Nat) ({ cls := "PromisedSlotsModel", name := "refuses", desc := "(III)I" } : Jvm.MethodName)) ∈ U0 := mkU 1098 _ (by decide +kernel) rfl
theorem tw_1034 : (Jvm.Cond.instanceMethod ({ cls := "PromisedSlotsModel", name := "refuses", desc := "(III)I" } : Jvm.MethodName)) ∈ U0 := mkU 1100 _ (by decide +kernel) rfl
theorem tw_1035 : (Jvm.Cond.code ({ cls := "PromisedSlotsModel", name := "refuses", desc := "(III)I" } : Jvm.MethodName) prog_10_method_4_code (4 : Nat) (Option.some Jvm.ClassFile.FieldType.int)) ∈ U0 := mkU 1101 _ (by decide +kernel) rfl
theorem tw_1036 : (Jvm.Cond.methodLink "PromisedSlotsLaw" (39 : Nat) ({ cls := "PromisedSlotsModel", name := "nest", desc := "(II)I" } : Jvm.MethodName)) ∈ U0 := mkU 1102 _ (by decide +kernel) rfl
theorem tw_1037 : (Jvm.Cond.instanceMethod ({ cls := "PromisedSlotsModel", name := "nest", desc := "(II)I" } : Jvm.MethodName)) ∈ U0 := mkU 1103 _ (by decide +kernel) rfl
theorem tw_1038 : (Jvm.Cond.selects "PromisedSlotsModel" ({ cls := "PromisedSlotsModel", name := "nest", desc := "(II)I" } : Jvm.MethodName) ({ cls := "PromisedSlotsModel", name := "nest", desc := "(II)I" } : Jvm.MethodName)) ∈ U0 := mkU 1104 _ (by decide +kernel) rfl
theorem tw_1039 : (Jvm.Cond.code ({ cls := "PromisedSlotsModel", name := "nest", desc := "(II)I" } : Jvm.MethodName) prog_10_method_28_code (7 : Nat) (Option.some Jvm.ClassFile.FieldType.int)) ∈ U0 := mkU 1105 _ (by decide +kernel) rfl
theorem tw_1040 : (Jvm.Cond.methodLink "PromisedSlotsModel" (256 : Nat) ({ cls := "PromisedSlotsModel", name := "isCoord", desc := "(I)Z" } : Jvm.MethodName)) ∈ U0 := mkU 1106 _ (by decide +kernel) rfl
theorem tw_1042 : (Jvm.Cond.instanceMethod ({ cls := "PromisedSlotsModel", name := "isCoord", desc := "(I)Z" } : Jvm.MethodName)) ∈ U0 := mkU 1108 _ (by decide +kernel) rfl
theorem tw_1043 : (Jvm.Cond.code ({ cls := "PromisedSlotsModel", name := "isCoord", desc := "(I)Z" } : Jvm.MethodName) prog_10_method_26_code (2 : Nat) (Option.some Jvm.ClassFile.FieldType.boolean)) ∈ U0 := mkU 1109 _ (by decide +kernel) rfl
theorem tw_1044 : (Jvm.Cond.methodLink "PromisedSlotsLaw" (43 : Nat) ({ cls := "PromisedSlotsModel", name := "seed", desc := "(I)I" } : Jvm.MethodName)) ∈ U0 := mkU 1110 _ (by decide +kernel) rfl
theorem tw_1045 : (Jvm.Cond.instanceMethod ({ cls := "PromisedSlotsModel", name := "seed", desc := "(I)I" } : Jvm.MethodName)) ∈ U0 := mkU 1111 _ (by decide +kernel) rfl
theorem tw_1046 : (Jvm.Cond.selects "PromisedSlotsModel" ({ cls := "PromisedSlotsModel", name := "seed", desc := "(I)I" } : Jvm.MethodName) ({ cls := "PromisedSlotsModel", name := "seed", desc := "(I)I" } : Jvm.MethodName)) ∈ U0 := mkU 1112 _ (by decide +kernel) rfl
theorem tw_1047 : (Jvm.Cond.code ({ cls := "PromisedSlotsModel", name := "seed", desc := "(I)I" } : Jvm.MethodName) prog_10_method_29_code (3 : Nat) (Option.some Jvm.ClassFile.FieldType.int)) ∈ U0 := mkU 1113 _ (by decide +kernel) rfl
theorem tw_1048 : (Jvm.Cond.constantLong "PromisedSlotsModel" (260 : Nat) (65520 : Int64)) ∈ U0 := mkU 1114 _ (by decide +kernel) rfl
theorem tw_1049 : (Jvm.Cond.methodLink "PromisedSlotsLaw" (47 : Nat) ({ cls := "PromisedSlotsModel", name := "join", desc := "(II)I" } : Jvm.MethodName)) ∈ U0 := mkU 1115 _ (by decide +kernel) rfl
theorem tw_1050 : (Jvm.Cond.instanceMethod ({ cls := "PromisedSlotsModel", name := "join", desc := "(II)I" } : Jvm.MethodName)) ∈ U0 := mkU 1116 _ (by decide +kernel) rfl
theorem tw_1051 : (Jvm.Cond.selects "PromisedSlotsModel" ({ cls := "PromisedSlotsModel", name := "join", desc := "(II)I" } : Jvm.MethodName) ({ cls := "PromisedSlotsModel", name := "join", desc := "(II)I" } : Jvm.MethodName)) ∈ U0 := mkU 1117 _ (by decide +kernel) rfl
theorem tw_1052 : (Jvm.Cond.code ({ cls := "PromisedSlotsModel", name := "join", desc := "(II)I" } : Jvm.MethodName) prog_10_method_36_code (5 : Nat) (Option.some Jvm.ClassFile.FieldType.int)) ∈ U0 := mkU 1118 _ (by decide +kernel) rfl
theorem tw_1053 : (Jvm.Cond.methodLink "PromisedSlotsModel" (272 : Nat) ({ cls := "PromisedSlotsModel", name := "isDevice", desc := "(I)Z" } : Jvm.MethodName)) ∈ U0 := mkU 1119 _ (by decide +kernel) rfl
theorem tw_1055 : (Jvm.Cond.instanceMethod ({ cls := "PromisedSlotsModel", name := "isDevice", desc := "(I)Z" } : Jvm.MethodName)) ∈ U0 := mkU 1121 _ (by decide +kernel) rfl
theorem tw_1056 : (Jvm.Cond.code ({ cls := "PromisedSlotsModel", name := "isDevice", desc := "(I)Z" } : Jvm.MethodName) prog_10_method_27_code (2 : Nat) (Option.some Jvm.ClassFile.FieldType.boolean)) ∈ U0 := mkU 1122 _ (by decide +kernel) rfl
theorem tw_1057 : (Jvm.Cond.methodLink "PromisedSlotsModel" (275 : Nat) ({ cls := "PromisedSlotsModel", name := "has", desc := "(II)Z" } : Jvm.MethodName)) ∈ U0 := mkU 1123 _ (by decide +kernel) rfl
theorem tw_1058 : (Jvm.Cond.static ({ cls := "PromisedSlotsModel", name := "has", desc := "(II)Z" } : Jvm.MethodName)) ∈ U0 := mkU 1124 _ (by decide +kernel) rfl
theorem tw_1059 : (Jvm.Cond.code ({ cls := "PromisedSlotsModel", name := "has", desc := "(II)Z" } : Jvm.MethodName) prog_10_method_3_code (2 : Nat) (Option.some Jvm.ClassFile.FieldType.boolean)) ∈ U0 := mkU 1125 _ (by decide +kernel) rfl
theorem tw_1060 : (Jvm.Cond.methodLink "PromisedSlotsModel" (279 : Nat) ({ cls := "PromisedSlotsModel", name := "goesFrom", desc := "(II)I" } : Jvm.MethodName)) ∈ U0 := mkU 1126 _ (by decide +kernel) rfl
theorem tw_1062 : (Jvm.Cond.instanceMethod ({ cls := "PromisedSlotsModel", name := "goesFrom", desc := "(II)I" } : Jvm.MethodName)) ∈ U0 := mkU 1128 _ (by decide +kernel) rfl
theorem tw_1063 : (Jvm.Cond.code ({ cls := "PromisedSlotsModel", name := "goesFrom", desc := "(II)I" } : Jvm.MethodName) prog_10_method_35_code (6 : Nat) (Option.some Jvm.ClassFile.FieldType.int)) ∈ U0 := mkU 1129 _ (by decide +kernel) rfl
theorem tw_1064 : (Jvm.Cond.methodLink "PromisedSlotsModel" (265 : Nat) ({ cls := "PromisedSlotsModel", name := "promiseOf", desc := "(II)I" } : Jvm.MethodName)) ∈ U0 := mkU 1130 _ (by decide +kernel) rfl
theorem tw_1066 : (Jvm.Cond.instanceMethod ({ cls := "PromisedSlotsModel", name := "promiseOf", desc := "(II)I" } : Jvm.MethodName)) ∈ U0 := mkU 1132 _ (by decide +kernel) rfl
theorem tw_1067 : (Jvm.Cond.code ({ cls := "PromisedSlotsModel", name := "promiseOf", desc := "(II)I" } : Jvm.MethodName) prog_10_method_33_code (4 : Nat) (Option.some Jvm.ClassFile.FieldType.int)) ∈ U0 := mkU 1133 _ (by decide +kernel) rfl
theorem tw_1068 : (Jvm.Cond.methodLink "PromisedSlotsModel" (269 : Nat) ({ cls := "PromisedSlotsModel", name := "letGo", desc := "(II)V" } : Jvm.MethodName)) ∈ U0 := mkU 1134 _ (by decide +kernel) rfl
theorem tw_1070 : (Jvm.Cond.instanceMethod ({ cls := "PromisedSlotsModel", name := "letGo", desc := "(II)V" } : Jvm.MethodName)) ∈ U0 := mkU 1136 _ (by decide +kernel) rfl
theorem tw_1071 : (Jvm.Cond.code ({ cls := "PromisedSlotsModel", name := "letGo", desc := "(II)V" } : Jvm.MethodName) prog_10_method_34_code (4 : Nat) (Option.none : Option Jvm.ClassFile.FieldType)) ∈ U0 := mkU 1137 _ (by decide +kernel) rfl
theorem tw_1072 : (Jvm.Cond.methodLink "PromisedSlotsLaw" (51 : Nat) ({ cls := "PromisedSlotsModel", name := "drop", desc := "(I)I" } : Jvm.MethodName)) ∈ U0 := mkU 1138 _ (by decide +kernel) rfl
theorem tw_1073 : (Jvm.Cond.instanceMethod ({ cls := "PromisedSlotsModel", name := "drop", desc := "(I)I" } : Jvm.MethodName)) ∈ U0 := mkU 1139 _ (by decide +kernel) rfl
theorem tw_1074 : (Jvm.Cond.selects "PromisedSlotsModel" ({ cls := "PromisedSlotsModel", name := "drop", desc := "(I)I" } : Jvm.MethodName) ({ cls := "PromisedSlotsModel", name := "drop", desc := "(I)I" } : Jvm.MethodName)) ∈ U0 := mkU 1140 _ (by decide +kernel) rfl
theorem tw_1075 : (Jvm.Cond.code ({ cls := "PromisedSlotsModel", name := "drop", desc := "(I)I" } : Jvm.MethodName) prog_10_method_37_code (4 : Nat) (Option.some Jvm.ClassFile.FieldType.int)) ∈ U0 := mkU 1141 _ (by decide +kernel) rfl
theorem tw_1076 : (Jvm.Cond.methodLink "PromisedSlotsLaw" (56 : Nat) ({ cls := "PromisedSlotsModel", name := "load", desc := "(III)I" } : Jvm.MethodName)) ∈ U0 := mkU 1142 _ (by decide +kernel) rfl
theorem tw_1077 : (Jvm.Cond.instanceMethod ({ cls := "PromisedSlotsModel", name := "load", desc := "(III)I" } : Jvm.MethodName)) ∈ U0 := mkU 1143 _ (by decide +kernel) rfl
theorem tw_1078 : (Jvm.Cond.selects "PromisedSlotsModel" ({ cls := "PromisedSlotsModel", name := "load", desc := "(III)I" } : Jvm.MethodName) ({ cls := "PromisedSlotsModel", name := "load", desc := "(III)I" } : Jvm.MethodName)) ∈ U0 := mkU 1144 _ (by decide +kernel) rfl
theorem tw_1079 : (Jvm.Cond.code ({ cls := "PromisedSlotsModel", name := "load", desc := "(III)I" } : Jvm.MethodName) prog_10_method_38_code (5 : Nat) (Option.some Jvm.ClassFile.FieldType.int)) ∈ U0 := mkU 1145 _ (by decide +kernel) rfl
theorem tw_1080 : (Jvm.Cond.constantLong "PromisedSlotsModel" (282 : Nat) (99 : Int64)) ∈ U0 := mkU 1146 _ (by decide +kernel) rfl
theorem tw_1081 : (Jvm.Cond.methodLink "PromisedSlotsLaw" (60 : Nat) ({ cls := "PromisedSlotsModel", name := "deafen", desc := "(II)I" } : Jvm.MethodName)) ∈ U0 := mkU 1147 _ (by decide +kernel) rfl
theorem tw_1082 : (Jvm.Cond.instanceMethod ({ cls := "PromisedSlotsModel", name := "deafen", desc := "(II)I" } : Jvm.MethodName)) ∈ U0 := mkU 1148 _ (by decide +kernel) rfl
theorem tw_1083 : (Jvm.Cond.selects "PromisedSlotsModel" ({ cls := "PromisedSlotsModel", name := "deafen", desc := "(II)I" } : Jvm.MethodName) ({ cls := "PromisedSlotsModel", name := "deafen", desc := "(II)I" } : Jvm.MethodName)) ∈ U0 := mkU 1149 _ (by decide +kernel) rfl
theorem tw_1084 : (Jvm.Cond.code ({ cls := "PromisedSlotsModel", name := "deafen", desc := "(II)I" } : Jvm.MethodName) prog_10_method_39_code (4 : Nat) (Option.some Jvm.ClassFile.FieldType.int)) ∈ U0 := mkU 1150 _ (by decide +kernel) rfl
theorem tw_1085 : (Jvm.Cond.constantLong "PromisedSlotsModel" (284 : Nat) (9 : Int64)) ∈ U0 := mkU 1151 _ (by decide +kernel) rfl
theorem tw_1086 : (Jvm.Cond.methodLink "PromisedSlotsLaw" (64 : Nat) ({ cls := "PromisedSlotsModel", name := "scan", desc := "(I)I" } : Jvm.MethodName)) ∈ U0 := mkU 1152 _ (by decide +kernel) rfl
theorem tw_1087 : (Jvm.Cond.instanceMethod ({ cls := "PromisedSlotsModel", name := "scan", desc := "(I)I" } : Jvm.MethodName)) ∈ U0 := mkU 1153 _ (by decide +kernel) rfl
theorem tw_1088 : (Jvm.Cond.selects "PromisedSlotsModel" ({ cls := "PromisedSlotsModel", name := "scan", desc := "(I)I" } : Jvm.MethodName) ({ cls := "PromisedSlotsModel", name := "scan", desc := "(I)I" } : Jvm.MethodName)) ∈ U0 := mkU 1154 _ (by decide +kernel) rfl
theorem tw_1089 : (Jvm.Cond.code ({ cls := "PromisedSlotsModel", name := "scan", desc := "(I)I" } : Jvm.MethodName) prog_10_method_40_code (3 : Nat) (Option.some Jvm.ClassFile.FieldType.int)) ∈ U0 := mkU 1155 _ (by decide +kernel) rfl
theorem tw_1090 : (Jvm.Cond.methodLink "PromisedSlotsLaw" (68 : Nat) ({ cls := "PromisedSlotsModel", name := "ask", desc := "(II)I" } : Jvm.MethodName)) ∈ U0 := mkU 1156 _ (by decide +kernel) rfl
theorem tw_1091 : (Jvm.Cond.instanceMethod ({ cls := "PromisedSlotsModel", name := "ask", desc := "(II)I" } : Jvm.MethodName)) ∈ U0 := mkU 1157 _ (by decide +kernel) rfl
theorem tw_1092 : (Jvm.Cond.selects "PromisedSlotsModel" ({ cls := "PromisedSlotsModel", name := "ask", desc := "(II)I" } : Jvm.MethodName) ({ cls := "PromisedSlotsModel", name := "ask", desc := "(II)I" } : Jvm.MethodName)) ∈ U0 := mkU 1158 _ (by decide +kernel) rfl
theorem tw_1093 : (Jvm.Cond.code ({ cls := "PromisedSlotsModel", name := "ask", desc := "(II)I" } : Jvm.MethodName) prog_10_method_42_code (6 : Nat) (Option.some Jvm.ClassFile.FieldType.int)) ∈ U0 := mkU 1159 _ (by decide +kernel) rfl
theorem tw_1094 : (Jvm.Cond.constantLong "PromisedSlotsModel" (286 : Nat) (15 : Int64)) ∈ U0 := mkU 1160 _ (by decide +kernel) rfl
theorem tw_1095 : (Jvm.Cond.methodLink "PromisedSlotsModel" (288 : Nat) ({ cls := "PromisedSlotsModel", name := "hasPromise", desc := "(I)Z" } : Jvm.MethodName)) ∈ U0 := mkU 1161 _ (by decide +kernel) rfl
theorem tw_1097 : (Jvm.Cond.instanceMethod ({ cls := "PromisedSlotsModel", name := "hasPromise", desc := "(I)Z" } : Jvm.MethodName)) ∈ U0 := mkU 1163 _ (by decide +kernel) rfl
theorem tw_1098 : (Jvm.Cond.code ({ cls := "PromisedSlotsModel", name := "hasPromise", desc := "(I)Z" } : Jvm.MethodName) prog_10_method_41_code (4 : Nat) (Option.some Jvm.ClassFile.FieldType.boolean)) ∈ U0 := mkU 1164 _ (by decide +kernel) rfl
theorem tw_1099 : (Jvm.Cond.methodLink "PromisedSlotsModel" (291 : Nat) ({ cls := "PromisedSlotsModel", name := "shared", desc := "(I)I" } : Jvm.MethodName)) ∈ U0 := mkU 1165 _ (by decide +kernel) rfl
theorem tw_1101 : (Jvm.Cond.instanceMethod ({ cls := "PromisedSlotsModel", name := "shared", desc := "(I)I" } : Jvm.MethodName)) ∈ U0 := mkU 1167 _ (by decide +kernel) rfl
theorem tw_1102 : (Jvm.Cond.code ({ cls := "PromisedSlotsModel", name := "shared", desc := "(I)I" } : Jvm.MethodName) prog_10_method_31_code (2 : Nat) (Option.some Jvm.ClassFile.FieldType.int)) ∈ U0 := mkU 1168 _ (by decide +kernel) rfl
theorem tw_1103 : (Jvm.Cond.methodLink "PromisedSlotsModel" (262 : Nat) ({ cls := "PromisedSlotsModel", name := "taken", desc := "(I)I" } : Jvm.MethodName)) ∈ U0 := mkU 1169 _ (by decide +kernel) rfl
theorem tw_1105 : (Jvm.Cond.instanceMethod ({ cls := "PromisedSlotsModel", name := "taken", desc := "(I)I" } : Jvm.MethodName)) ∈ U0 := mkU 1171 _ (by decide +kernel) rfl
theorem tw_1106 : (Jvm.Cond.code ({ cls := "PromisedSlotsModel", name := "taken", desc := "(I)I" } : Jvm.MethodName) prog_10_method_30_code (4 : Nat) (Option.some Jvm.ClassFile.FieldType.int)) ∈ U0 := mkU 1172 _ (by decide +kernel) rfl
theorem tw_1107 : (Jvm.Cond.methodLink "PromisedSlotsModel" (294 : Nat) ({ cls := "PromisedSlotsModel", name := "firstSlot", desc := "(II)I" } : Jvm.MethodName)) ∈ U0 := mkU 1173 _ (by decide +kernel) rfl
theorem tw_1109 : (Jvm.Cond.instanceMethod ({ cls := "PromisedSlotsModel", name := "firstSlot", desc := "(II)I" } : Jvm.MethodName)) ∈ U0 := mkU 1175 _ (by decide +kernel) rfl
theorem tw_1110 : (Jvm.Cond.code ({ cls := "PromisedSlotsModel", name := "firstSlot", desc := "(II)I" } : Jvm.MethodName) prog_10_method_32_code (5 : Nat) (Option.some Jvm.ClassFile.FieldType.int)) ∈ U0 := mkU 1176 _ (by decide +kernel) rfl
theorem tw_1111 : (Jvm.Cond.methodLink "PromisedSlotsLaw" (72 : Nat) ({ cls := "PromisedSlotsModel", name := "release", desc := "(I)I" } : Jvm.MethodName)) ∈ U0 := mkU 1177 _ (by decide +kernel) rfl
theorem tw_1112 : (Jvm.Cond.instanceMethod ({ cls := "PromisedSlotsModel", name := "release", desc := "(I)I" } : Jvm.MethodName)) ∈ U0 := mkU 1178 _ (by decide +kernel) rfl
theorem tw_1113 : (Jvm.Cond.selects "PromisedSlotsModel" ({ cls := "PromisedSlotsModel", name := "release", desc := "(I)I" } : Jvm.MethodName) ({ cls := "PromisedSlotsModel", name := "release", desc := "(I)I" } : Jvm.MethodName)) ∈ U0 := mkU 1179 _ (by decide +kernel) rfl
theorem tw_1114 : (Jvm.Cond.code ({ cls := "PromisedSlotsModel", name := "release", desc := "(I)I" } : Jvm.MethodName) prog_10_method_43_code (3 : Nat) (Option.some Jvm.ClassFile.FieldType.int)) ∈ U0 := mkU 1180 _ (by decide +kernel) rfl
theorem tw_1115 : (Jvm.Cond.methodLink "PromisedSlotsLaw" (76 : Nat) ({ cls := "PromisedSlotsModel", name := "promise", desc := "(III)I" } : Jvm.MethodName)) ∈ U0 := mkU 1181 _ (by decide +kernel) rfl
theorem tw_1116 : (Jvm.Cond.instanceMethod ({ cls := "PromisedSlotsModel", name := "promise", desc := "(III)I" } : Jvm.MethodName)) ∈ U0 := mkU 1182 _ (by decide +kernel) rfl
theorem tw_1117 : (Jvm.Cond.selects "PromisedSlotsModel" ({ cls := "PromisedSlotsModel", name := "promise", desc := "(III)I" } : Jvm.MethodName) ({ cls := "PromisedSlotsModel", name := "promise", desc := "(III)I" } : Jvm.MethodName)) ∈ U0 := mkU 1183 _ (by decide +kernel) rfl
theorem tw_1118 : (Jvm.Cond.code ({ cls := "PromisedSlotsModel", name := "promise", desc := "(III)I" } : Jvm.MethodName) prog_10_method_44_code (4 : Nat) (Option.some Jvm.ClassFile.FieldType.int)) ∈ U0 := mkU 1184 _ (by decide +kernel) rfl
theorem tw_1119 : (Jvm.Cond.constantLong "PromisedSlotsModel" (297 : Nat) (3 : Int64)) ∈ U0 := mkU 1185 _ (by decide +kernel) rfl
theorem tw_1120 : (Jvm.Cond.methodLink "PromisedSlotsLaw" (80 : Nat) ({ cls := "PromisedSlotsModel", name := "run", desc := "(I)I" } : Jvm.MethodName)) ∈ U0 := mkU 1186 _ (by decide +kernel) rfl
theorem tw_1121 : (Jvm.Cond.instanceMethod ({ cls := "PromisedSlotsModel", name := "run", desc := "(I)I" } : Jvm.MethodName)) ∈ U0 := mkU 1187 _ (by decide +kernel) rfl
theorem tw_1122 : (Jvm.Cond.selects "PromisedSlotsModel" ({ cls := "PromisedSlotsModel", name := "run", desc := "(I)I" } : Jvm.MethodName) ({ cls := "PromisedSlotsModel", name := "run", desc := "(I)I" } : Jvm.MethodName)) ∈ U0 := mkU 1188 _ (by decide +kernel) rfl
theorem tw_1123 : (Jvm.Cond.code ({ cls := "PromisedSlotsModel", name := "run", desc := "(I)I" } : Jvm.MethodName) prog_10_method_58_code (6 : Nat) (Option.some Jvm.ClassFile.FieldType.int)) ∈ U0 := mkU 1189 _ (by decide +kernel) rfl
theorem tw_1124 : (Jvm.Cond.constantLong "PromisedSlotsModel" (337 : Nat) (20 : Int64)) ∈ U0 := mkU 1190 _ (by decide +kernel) rfl
theorem tw_1125 : (Jvm.Cond.methodLink "PromisedSlotsModel" (339 : Nat) ({ cls := "PromisedSlotsModel", name := "part", desc := "(I)I" } : Jvm.MethodName)) ∈ U0 := mkU 1191 _ (by decide +kernel) rfl
theorem tw_1127 : (Jvm.Cond.instanceMethod ({ cls := "PromisedSlotsModel", name := "part", desc := "(I)I" } : Jvm.MethodName)) ∈ U0 := mkU 1193 _ (by decide +kernel) rfl
theorem tw_1128 : (Jvm.Cond.code ({ cls := "PromisedSlotsModel", name := "part", desc := "(I)I" } : Jvm.MethodName) prog_10_method_57_code (5 : Nat) (Option.some Jvm.ClassFile.FieldType.int)) ∈ U0 := mkU 1194 _ (by decide +kernel) rfl
theorem tw_1129 : (Jvm.Cond.methodLink "PromisedSlotsModel" (312 : Nat) ({ cls := "PromisedSlotsModel", name := "beacon", desc := "(I)V" } : Jvm.MethodName)) ∈ U0 := mkU 1195 _ (by decide +kernel) rfl
theorem tw_1131 : (Jvm.Cond.instanceMethod ({ cls := "PromisedSlotsModel", name := "beacon", desc := "(I)V" } : Jvm.MethodName)) ∈ U0 := mkU 1197 _ (by decide +kernel) rfl
theorem tw_1132 : (Jvm.Cond.code ({ cls := "PromisedSlotsModel", name := "beacon", desc := "(I)V" } : Jvm.MethodName) prog_10_method_48_code (3 : Nat) (Option.none : Option Jvm.ClassFile.FieldType)) ∈ U0 := mkU 1198 _ (by decide +kernel) rfl
theorem tw_1133 : (Jvm.Cond.methodLink "PromisedSlotsModel" (315 : Nat) ({ cls := "PromisedSlotsModel", name := "stepA", desc := "(I)V" } : Jvm.MethodName)) ∈ U0 := mkU 1199 _ (by decide +kernel) rfl
theorem tw_1135 : (Jvm.Cond.instanceMethod ({ cls := "PromisedSlotsModel", name := "stepA", desc := "(I)V" } : Jvm.MethodName)) ∈ U0 := mkU 1201 _ (by decide +kernel) rfl
theorem tw_1136 : (Jvm.Cond.code ({ cls := "PromisedSlotsModel", name := "stepA", desc := "(I)V" } : Jvm.MethodName) prog_10_method_49_code (3 : Nat) (Option.none : Option Jvm.ClassFile.FieldType)) ∈ U0 := mkU 1202 _ (by decide +kernel) rfl
theorem tw_1137 : (Jvm.Cond.methodLink "PromisedSlotsModel" (303 : Nat) ({ cls := "PromisedSlotsModel", name := "begins", desc := "(I)V" } : Jvm.MethodName)) ∈ U0 := mkU 1203 _ (by decide +kernel) rfl
theorem tw_1139 : (Jvm.Cond.instanceMethod ({ cls := "PromisedSlotsModel", name := "begins", desc := "(I)V" } : Jvm.MethodName)) ∈ U0 := mkU 1205 _ (by decide +kernel) rfl
theorem tw_1140 : (Jvm.Cond.code ({ cls := "PromisedSlotsModel", name := "begins", desc := "(I)V" } : Jvm.MethodName) prog_10_method_46_code (2 : Nat) (Option.none : Option Jvm.ClassFile.FieldType)) ∈ U0 := mkU 1206 _ (by decide +kernel) rfl
theorem tw_1141 : (Jvm.Cond.methodLink "PromisedSlotsModel" (300 : Nat) ({ cls := "PromisedSlotsModel", name := "draws", desc := "(I)V" } : Jvm.MethodName)) ∈ U0 := mkU 1207 _ (by decide +kernel) rfl
theorem tw_1143 : (Jvm.Cond.instanceMethod ({ cls := "PromisedSlotsModel", name := "draws", desc := "(I)V" } : Jvm.MethodName)) ∈ U0 := mkU 1209 _ (by decide +kernel) rfl
theorem tw_1144 : (Jvm.Cond.code ({ cls := "PromisedSlotsModel", name := "draws", desc := "(I)V" } : Jvm.MethodName) prog_10_method_45_code (2 : Nat) (Option.none : Option Jvm.ClassFile.FieldType)) ∈ U0 := mkU 1210 _ (by decide +kernel) rfl
theorem tw_1145 : (Jvm.Cond.constant "PromisedSlotsModel" (299 : Nat) (65521 : Int32)) ∈ U0 := mkU 1211 _ (by decide +kernel) rfl
theorem tw_1146 : (Jvm.Cond.methodLink "PromisedSlotsModel" (318 : Nat) ({ cls := "PromisedSlotsModel", name := "stepsBC", desc := "(II)V" } : Jvm.MethodName)) ∈ U0 := mkU 1212 _ (by decide +kernel) rfl
theorem tw_1148 : (Jvm.Cond.instanceMethod ({ cls := "PromisedSlotsModel", name := "stepsBC", desc := "(II)V" } : Jvm.MethodName)) ∈ U0 := mkU 1214 _ (by decide +kernel) rfl
theorem tw_1149 : (Jvm.Cond.code ({ cls := "PromisedSlotsModel", name := "stepsBC", desc := "(II)V" } : Jvm.MethodName) prog_10_method_50_code (4 : Nat) (Option.none : Option Jvm.ClassFile.FieldType)) ∈ U0 := mkU 1215 _ (by decide +kernel) rfl
theorem tw_1150 : (Jvm.Cond.methodLink "PromisedSlotsModel" (321 : Nat) ({ cls := "PromisedSlotsModel", name := "sending", desc := "(II)I" } : Jvm.MethodName)) ∈ U0 := mkU 1216 _ (by decide +kernel) rfl
theorem tw_1152 : (Jvm.Cond.instanceMethod ({ cls := "PromisedSlotsModel", name := "sending", desc := "(II)I" } : Jvm.MethodName)) ∈ U0 := mkU 1218 _ (by decide +kernel) rfl
theorem tw_1153 : (Jvm.Cond.code ({ cls := "PromisedSlotsModel", name := "sending", desc := "(II)I" } : Jvm.MethodName) prog_10_method_51_code (6 : Nat) (Option.some Jvm.ClassFile.FieldType.int)) ∈ U0 := mkU 1219 _ (by decide +kernel) rfl
theorem tw_1154 : (Jvm.Cond.methodLink "PromisedSlotsModel" (324 : Nat) ({ cls := "PromisedSlotsModel", name := "stepD", desc := "(Z)V" } : Jvm.MethodName)) ∈ U0 := mkU 1220 _ (by decide +kernel) rfl
theorem tw_1156 : (Jvm.Cond.instanceMethod ({ cls := "PromisedSlotsModel", name := "stepD", desc := "(Z)V" } : Jvm.MethodName)) ∈ U0 := mkU 1222 _ (by decide +kernel) rfl
theorem tw_1157 : (Jvm.Cond.code ({ cls := "PromisedSlotsModel", name := "stepD", desc := "(Z)V" } : Jvm.MethodName) prog_10_method_52_code (3 : Nat) (Option.none : Option Jvm.ClassFile.FieldType)) ∈ U0 := mkU 1223 _ (by decide +kernel) rfl
theorem tw_1158 : (Jvm.Cond.methodLink "PromisedSlotsModel" (306 : Nat) ({ cls := "PromisedSlotsModel", name := "goneFrame", desc := "(I)V" } : Jvm.MethodName)) ∈ U0 := mkU 1224 _ (by decide +kernel) rfl
theorem tw_1160 : (Jvm.Cond.instanceMethod ({ cls := "PromisedSlotsModel", name := "goneFrame", desc := "(I)V" } : Jvm.MethodName)) ∈ U0 := mkU 1226 _ (by decide +kernel) rfl
theorem tw_1161 : (Jvm.Cond.code ({ cls := "PromisedSlotsModel", name := "goneFrame", desc := "(I)V" } : Jvm.MethodName) prog_10_method_47_code (2 : Nat) (Option.none : Option Jvm.ClassFile.FieldType)) ∈ U0 := mkU 1227 _ (by decide +kernel) rfl
theorem tw_1162 : (Jvm.Cond.methodLink "PromisedSlotsModel" (328 : Nat) ({ cls := "PromisedSlotsModel", name := "stepE", desc := "()V" } : Jvm.MethodName)) ∈ U0 := mkU 1228 _ (by decide +kernel) rfl
theorem tw_1164 : (Jvm.Cond.instanceMethod ({ cls := "PromisedSlotsModel", name := "stepE", desc := "()V" } : Jvm.MethodName)) ∈ U0 := mkU 1230 _ (by decide +kernel) rfl
theorem tw_1165 : (Jvm.Cond.code ({ cls := "PromisedSlotsModel", name := "stepE", desc := "()V" } : Jvm.MethodName) prog_10_method_53_code (2 : Nat) (Option.none : Option Jvm.ClassFile.FieldType)) ∈ U0 := mkU 1231 _ (by decide +kernel) rfl
theorem tw_1166 : (Jvm.Cond.methodLink "PromisedSlotsModel" (331 : Nat) ({ cls := "PromisedSlotsModel", name := "stepF", desc := "()I" } : Jvm.MethodName)) ∈ U0 := mkU 1232 _ (by decide +kernel) rfl
theorem tw_1168 : (Jvm.Cond.instanceMethod ({ cls := "PromisedSlotsModel", name := "stepF", desc := "()I" } : Jvm.MethodName)) ∈ U0 := mkU 1234 _ (by decide +kernel) rfl
theorem tw_1169 : (Jvm.Cond.code ({ cls := "PromisedSlotsModel", name := "stepF", desc := "()I" } : Jvm.MethodName) prog_10_method_54_code (3 : Nat) (Option.some Jvm.ClassFile.FieldType.int)) ∈ U0 := mkU 1235 _ (by decide +kernel) rfl
theorem tw_1170 : (Jvm.Cond.methodLink "PromisedSlotsModel" (309 : Nat) ({ cls := "PromisedSlotsModel", name := "ends", desc := "(I)I" } : Jvm.MethodName)) ∈ U0 := mkU 1236 _ (by decide +kernel) rfl
theorem tw_1172 : (Jvm.Cond.instanceMethod ({ cls := "PromisedSlotsModel", name := "ends", desc := "(I)I" } : Jvm.MethodName)) ∈ U0 := mkU 1238 _ (by decide +kernel) rfl
theorem tw_1173 : (Jvm.Cond.code ({ cls := "PromisedSlotsModel", name := "ends", desc := "(I)I" } : Jvm.MethodName) prog_10_method_55_code (2 : Nat) (Option.some Jvm.ClassFile.FieldType.int)) ∈ U0 := mkU 1239 _ (by decide +kernel) rfl
theorem tw_1174 : (Jvm.Cond.methodLink "PromisedSlotsModel" (334 : Nat) ({ cls := "PromisedSlotsModel", name := "uses", desc := "(I)I" } : Jvm.MethodName)) ∈ U0 := mkU 1240 _ (by decide +kernel) rfl
theorem tw_1176 : (Jvm.Cond.instanceMethod ({ cls := "PromisedSlotsModel", name := "uses", desc := "(I)I" } : Jvm.MethodName)) ∈ U0 := mkU 1242 _ (by decide +kernel) rfl
theorem tw_1177 : (Jvm.Cond.code ({ cls := "PromisedSlotsModel", name := "uses", desc := "(I)I" } : Jvm.MethodName) prog_10_method_56_code (9 : Nat) (Option.some Jvm.ClassFile.FieldType.int)) ∈ U0 := mkU 1243 _ (by decide +kernel) rfl
theorem tw_1178 : (Jvm.Cond.methodLink "PromisedSlotsLaw" (84 : Nat) ({ cls := "PromisedSlotsModel", name := "air", desc := "(II)I" } : Jvm.MethodName)) ∈ U0 := mkU 1244 _ (by decide +kernel) rfl
theorem tw_1179 : (Jvm.Cond.instanceMethod ({ cls := "PromisedSlotsModel", name := "air", desc := "(II)I" } : Jvm.MethodName)) ∈ U0 := mkU 1245 _ (by decide +kernel) rfl
theorem tw_1180 : (Jvm.Cond.selects "PromisedSlotsModel" ({ cls := "PromisedSlotsModel", name := "air", desc := "(II)I" } : Jvm.MethodName) ({ cls := "PromisedSlotsModel", name := "air", desc := "(II)I" } : Jvm.MethodName)) ∈ U0 := mkU 1246 _ (by decide +kernel) rfl
theorem tw_1181 : (Jvm.Cond.code ({ cls := "PromisedSlotsModel", name := "air", desc := "(II)I" } : Jvm.MethodName) prog_10_method_59_code (3 : Nat) (Option.some Jvm.ClassFile.FieldType.int)) ∈ U0 := mkU 1247 _ (by decide +kernel) rfl
theorem tw_1182 : (Jvm.Cond.methodLink "PromisedSlotsLaw" (88 : Nat) ({ cls := "PromisedSlotsModel", name := "coordinator", desc := "(II)I" } : Jvm.MethodName)) ∈ U0 := mkU 1248 _ (by decide +kernel) rfl
theorem tw_1183 : (Jvm.Cond.instanceMethod ({ cls := "PromisedSlotsModel", name := "coordinator", desc := "(II)I" } : Jvm.MethodName)) ∈ U0 := mkU 1249 _ (by decide +kernel) rfl
theorem tw_1184 : (Jvm.Cond.selects "PromisedSlotsModel" ({ cls := "PromisedSlotsModel", name := "coordinator", desc := "(II)I" } : Jvm.MethodName) ({ cls := "PromisedSlotsModel", name := "coordinator", desc := "(II)I" } : Jvm.MethodName)) ∈ U0 := mkU 1250 _ (by decide +kernel) rfl
theorem tw_1185 : (Jvm.Cond.code ({ cls := "PromisedSlotsModel", name := "coordinator", desc := "(II)I" } : Jvm.MethodName) prog_10_method_60_code (3 : Nat) (Option.some Jvm.ClassFile.FieldType.int)) ∈ U0 := mkU 1251 _ (by decide +kernel) rfl
theorem tw_1186 : (Jvm.Cond.constantLong "PromisedSlotsModel" (342 : Nat) (5 : Int64)) ∈ U0 := mkU 1252 _ (by decide +kernel) rfl
theorem tw_1187 : (Jvm.Cond.methodLink "PromisedSlotsLaw" (92 : Nat) ({ cls := "PromisedSlotsModel", name := "device", desc := "(II)I" } : Jvm.MethodName)) ∈ U0 := mkU 1253 _ (by decide +kernel) rfl
theorem tw_1188 : (Jvm.Cond.instanceMethod ({ cls := "PromisedSlotsModel", name := "device", desc := "(II)I" } : Jvm.MethodName)) ∈ U0 := mkU 1254 _ (by decide +kernel) rfl
theorem tw_1189 : (Jvm.Cond.selects "PromisedSlotsModel" ({ cls := "PromisedSlotsModel", name := "device", desc := "(II)I" } : Jvm.MethodName) ({ cls := "PromisedSlotsModel", name := "device", desc := "(II)I" } : Jvm.MethodName)) ∈ U0 := mkU 1255 _ (by decide +kernel) rfl
theorem tw_1190 : (Jvm.Cond.code ({ cls := "PromisedSlotsModel", name := "device", desc := "(II)I" } : Jvm.MethodName) prog_10_method_61_code (3 : Nat) (Option.some Jvm.ClassFile.FieldType.int)) ∈ U0 := mkU 1256 _ (by decide +kernel) rfl
theorem tw_1191 : (Jvm.Cond.constantLong "PromisedSlotsModel" (344 : Nat) (13 : Int64)) ∈ U0 := mkU 1257 _ (by decide +kernel) rfl
theorem tw_1192 : (Jvm.Cond.methodLink "PromisedSlotsLaw" (96 : Nat) ({ cls := "PromisedSlotsModel", name := "count", desc := "(I)I" } : Jvm.MethodName)) ∈ U0 := mkU 1258 _ (by decide +kernel) rfl
theorem tw_1193 : (Jvm.Cond.instanceMethod ({ cls := "PromisedSlotsModel", name := "count", desc := "(I)I" } : Jvm.MethodName)) ∈ U0 := mkU 1259 _ (by decide +kernel) rfl
theorem tw_1194 : (Jvm.Cond.selects "PromisedSlotsModel" ({ cls := "PromisedSlotsModel", name := "count", desc := "(I)I" } : Jvm.MethodName) ({ cls := "PromisedSlotsModel", name := "count", desc := "(I)I" } : Jvm.MethodName)) ∈ U0 := mkU 1260 _ (by decide +kernel) rfl
theorem tw_1195 : (Jvm.Cond.code ({ cls := "PromisedSlotsModel", name := "count", desc := "(I)I" } : Jvm.MethodName) prog_10_method_62_code (2 : Nat) (Option.some Jvm.ClassFile.FieldType.int)) ∈ U0 := mkU 1261 _ (by decide +kernel) rfl
theorem tw_1196 : (Jvm.Cond.methodLink "PromisedSlotsModel" (346 : Nat) ({ cls := "PromisedSlotsModel", name := "orphans", desc := "()I" } : Jvm.MethodName)) ∈ U0 := mkU 1262 _ (by decide +kernel) rfl
theorem tw_1198 : (Jvm.Cond.instanceMethod ({ cls := "PromisedSlotsModel", name := "orphans", desc := "()I" } : Jvm.MethodName)) ∈ U0 := mkU 1264 _ (by decide +kernel) rfl
theorem tw_1199 : (Jvm.Cond.code ({ cls := "PromisedSlotsModel", name := "orphans", desc := "()I" } : Jvm.MethodName) prog_10_method_63_code (3 : Nat) (Option.some Jvm.ClassFile.FieldType.int)) ∈ U0 := mkU 1265 _ (by decide +kernel) rfl
theorem tw_1200 : (Jvm.Cond.fieldLink "java/lang/String" (9 : Nat) "java/lang/String" "value" "[B") ∈ U0 := mkU 1266 _ (by decide +kernel) rfl
theorem tw_1201 : (Jvm.Cond.fieldLink "java/lang/String" (15 : Nat) "java/lang/String" "coder" "B") ∈ U0 := mkU 1267 _ (by decide +kernel) rfl
theorem ts_0 : Cond.selects (⟨"PromisedSlots$Reader", "readItem", "(LPromisedSlots$Layout;)V"⟩ : MethodName).cls ⟨"PromisedSlots$Reader", "readItem", "(LPromisedSlots$Layout;)V"⟩ ⟨"PromisedSlots$Reader", "readItem", "(LPromisedSlots$Layout;)V"⟩ ∈ U0 := mkU 0 _ (by decide +kernel) rfl
theorem ts_1 : Cond.selects (⟨"PromisedSlots$Reader", "readOrders", "(LPromisedSlots$Layout;)V"⟩ : MethodName).cls ⟨"PromisedSlots$Reader", "readOrders", "(LPromisedSlots$Layout;)V"⟩ ⟨"PromisedSlots$Reader", "readOrders", "(LPromisedSlots$Layout;)V"⟩ ∈ U0 := mkU 1 _ (by decide +kernel) rfl
theorem ts_2 : Cond.selects (⟨"PromisedSlots$Reader", "readNumber", "(III)I"⟩ : MethodName).cls ⟨"PromisedSlots$Reader", "readNumber", "(III)I"⟩ ⟨"PromisedSlots$Reader", "readNumber", "(III)I"⟩ ∈ U0 := mkU 2 _ (by decide +kernel) rfl
theorem ts_3 : Cond.selects (⟨"PromisedSlots$Reader", "readEnd", "()V"⟩ : MethodName).cls ⟨"PromisedSlots$Reader", "readEnd", "()V"⟩ ⟨"PromisedSlots$Reader", "readEnd", "()V"⟩ ∈ U0 := mkU 3 _ (by decide +kernel) rfl
theorem ts_4 : Cond.selects (⟨"PromisedSlots$Reader", "readCoordinator", "(LPromisedSlots$Layout;)V"⟩ : MethodName).cls ⟨"PromisedSlots$Reader", "readCoordinator", "(LPromisedSlots$Layout;)V"⟩ ⟨"PromisedSlots$Reader", "readCoordinator", "(LPromisedSlots$Layout;)V"⟩ ∈ U0 := mkU 4 _ (by decide +kernel) rfl
theorem ts_5 : Cond.selects (⟨"PromisedSlots$Reader", "readDevice", "(LPromisedSlots$Layout;)V"⟩ : MethodName).cls ⟨"PromisedSlots$Reader", "readDevice", "(LPromisedSlots$Layout;)V"⟩ ⟨"PromisedSlots$Reader", "readDevice", "(LPromisedSlots$Layout;)V"⟩ ∈ U0 := mkU 5 _ (by decide +kernel) rfl
theorem ts_6 : Cond.selects (⟨"PromisedSlots$Reader", "readLife", "(LPromisedSlots$Layout;)V"⟩ : MethodName).cls ⟨"PromisedSlots$Reader", "readLife", "(LPromisedSlots$Layout;)V"⟩ ⟨"PromisedSlots$Reader", "readLife", "(LPromisedSlots$Layout;)V"⟩ ∈ U0 := mkU 6 _ (by decide +kernel) rfl
theorem ts_7 : Cond.selects (⟨"PromisedSlots", "takeLayout", "()V"⟩ : MethodName).cls ⟨"PromisedSlots", "takeLayout", "()V"⟩ ⟨"PromisedSlots", "takeLayout", "()V"⟩ ∈ U0 := mkU 7 _ (by decide +kernel) rfl
theorem ts_8 : Cond.selects (⟨"PromisedSlots", "coordinatorAt", "(I)LPromisedSlots$Coordinator;"⟩ : MethodName).cls ⟨"PromisedSlots", "coordinatorAt", "(I)LPromisedSlots$Coordinator;"⟩ ⟨"PromisedSlots", "coordinatorAt", "(I)LPromisedSlots$Coordinator;"⟩ ∈ U0 := mkU 8 _ (by decide +kernel) rfl
theorem ts_9 : Cond.selects (⟨"PromisedSlots", "faultOfText", "()I"⟩ : MethodName).cls ⟨"PromisedSlots", "faultOfText", "()I"⟩ ⟨"PromisedSlots", "faultOfText", "()I"⟩ ∈ U0 := mkU 9 _ (by decide +kernel) rfl
theorem ts_10 : Cond.selects (⟨"PromisedSlots", "deviceAt", "(I)LPromisedSlots$Device;"⟩ : MethodName).cls ⟨"PromisedSlots", "deviceAt", "(I)LPromisedSlots$Device;"⟩ ⟨"PromisedSlots", "deviceAt", "(I)LPromisedSlots$Device;"⟩ ∈ U0 := mkU 10 _ (by decide +kernel) rfl
theorem ts_11 : Cond.selects (⟨"PromisedSlots$Promises", "removeAt", "(I)V"⟩ : MethodName).cls ⟨"PromisedSlots$Promises", "removeAt", "(I)V"⟩ ⟨"PromisedSlots$Promises", "removeAt", "(I)V"⟩ ∈ U0 := mkU 11 _ (by decide +kernel) rfl
theorem ts_12 : Cond.selects (⟨"PromisedSlots", "promiserOf", "(I)LPromisedSlots$Coordinator;"⟩ : MethodName).cls ⟨"PromisedSlots", "promiserOf", "(I)LPromisedSlots$Coordinator;"⟩ ⟨"PromisedSlots", "promiserOf", "(I)LPromisedSlots$Coordinator;"⟩ ∈ U0 := mkU 12 _ (by decide +kernel) rfl
theorem ts_13 : Cond.selects (⟨"PromisedSlots", "nextToBeacon", "()I"⟩ : MethodName).cls ⟨"PromisedSlots", "nextToBeacon", "()I"⟩ ⟨"PromisedSlots", "nextToBeacon", "()I"⟩ ∈ U0 := mkU 13 _ (by decide +kernel) rfl
theorem ts_14 : Cond.selects (⟨"PromisedSlots", "activePart", "(ILPromisedSlots$Coordinator;)I"⟩ : MethodName).cls ⟨"PromisedSlots", "activePart", "(ILPromisedSlots$Coordinator;)I"⟩ ⟨"PromisedSlots", "activePart", "(ILPromisedSlots$Coordinator;)I"⟩ ∈ U0 := mkU 14 _ (by decide +kernel) rfl
theorem ts_15 : Cond.selects (⟨"PromisedSlots", "hearBeacon", "(I)V"⟩ : MethodName).cls ⟨"PromisedSlots", "hearBeacon", "(I)V"⟩ ⟨"PromisedSlots", "hearBeacon", "(I)V"⟩ ∈ U0 := mkU 15 _ (by decide +kernel) rfl
theorem ts_16 : Cond.selects (⟨"PromisedSlots$Contention", "takeUp", "(II)Z"⟩ : MethodName).cls ⟨"PromisedSlots$Contention", "takeUp", "(II)Z"⟩ ⟨"PromisedSlots$Contention", "takeUp", "(II)Z"⟩ ∈ U0 := mkU 16 _ (by decide +kernel) rfl
theorem ts_17 : Cond.selects (⟨"PromisedSlots$Contention", "begin", "(LPromisedSlots$Device;I)V"⟩ : MethodName).cls ⟨"PromisedSlots$Contention", "begin", "(LPromisedSlots$Device;I)V"⟩ ⟨"PromisedSlots$Contention", "begin", "(LPromisedSlots$Device;I)V"⟩ ∈ U0 := mkU 17 _ (by decide +kernel) rfl
theorem ts_18 : Cond.selects (⟨"PromisedSlots$Contention", "draw", "(LPromisedSlots$Device;)V"⟩ : MethodName).cls ⟨"PromisedSlots$Contention", "draw", "(LPromisedSlots$Device;)V"⟩ ⟨"PromisedSlots$Contention", "draw", "(LPromisedSlots$Device;)V"⟩ ∈ U0 := mkU 18 _ (by decide +kernel) rfl
theorem ts_19 : Cond.selects (⟨"PromisedSlots$Contention", "airNow", "()I"⟩ : MethodName).cls ⟨"PromisedSlots$Contention", "airNow", "()I"⟩ ⟨"PromisedSlots$Contention", "airNow", "()I"⟩ ∈ U0 := mkU 19 _ (by decide +kernel) rfl
theorem ts_20 : Cond.selects (⟨"PromisedSlots$Contention", "listenAndWait", "()V"⟩ : MethodName).cls ⟨"PromisedSlots$Contention", "listenAndWait", "()V"⟩ ⟨"PromisedSlots$Contention", "listenAndWait", "()V"⟩ ∈ U0 := mkU 20 _ (by decide +kernel) rfl
theorem ts_21 : Cond.selects (⟨"PromisedSlots$Device", "giveUp", "()V"⟩ : MethodName).cls ⟨"PromisedSlots$Device", "giveUp", "()V"⟩ ⟨"PromisedSlots$Device", "giveUp", "()V"⟩ ∈ U0 := mkU 21 _ (by decide +kernel) rfl
theorem ts_22 : Cond.selects (⟨"PromisedSlots$Device", "endFrame", "()V"⟩ : MethodName).cls ⟨"PromisedSlots$Device", "endFrame", "()V"⟩ ⟨"PromisedSlots$Device", "endFrame", "()V"⟩ ∈ U0 := mkU 22 _ (by decide +kernel) rfl
theorem ts_23 : Cond.selects (⟨"PromisedSlots$Contention", "endFrames", "()I"⟩ : MethodName).cls ⟨"PromisedSlots$Contention", "endFrames", "()I"⟩ ⟨"PromisedSlots$Contention", "endFrames", "()I"⟩ ∈ U0 := mkU 23 _ (by decide +kernel) rfl
theorem ts_24 : Cond.selects (⟨"PromisedSlots$Contention", "endFrame", "(LPromisedSlots$Device;)I"⟩ : MethodName).cls ⟨"PromisedSlots$Contention", "endFrame", "(LPromisedSlots$Device;)I"⟩ ⟨"PromisedSlots$Contention", "endFrame", "(LPromisedSlots$Device;)I"⟩ ∈ U0 := mkU 24 _ (by decide +kernel) rfl
theorem ts_25 : Cond.selects (⟨"PromisedSlots$Contention", "holdAll", "()V"⟩ : MethodName).cls ⟨"PromisedSlots$Contention", "holdAll", "()V"⟩ ⟨"PromisedSlots$Contention", "holdAll", "()V"⟩ ∈ U0 := mkU 25 _ (by decide +kernel) rfl
theorem ts_26 : Cond.selects (⟨"PromisedSlots", "keepPromises", "(LPromisedSlots$Coordinator;)I"⟩ : MethodName).cls ⟨"PromisedSlots", "keepPromises", "(LPromisedSlots$Coordinator;)I"⟩ ⟨"PromisedSlots", "keepPromises", "(LPromisedSlots$Coordinator;)I"⟩ ∈ U0 := mkU 26 _ (by decide +kernel) rfl
theorem ts_27 : Cond.selects (⟨"PromisedSlots", "orphans", "()I"⟩ : MethodName).cls ⟨"PromisedSlots", "orphans", "()I"⟩ ⟨"PromisedSlots", "orphans", "()I"⟩ ∈ U0 := mkU 27 _ (by decide +kernel) rfl
theorem ts_28 : Cond.selects (⟨"PromisedSlotsModel", "empty", "()V"⟩ : MethodName).cls ⟨"PromisedSlotsModel", "empty", "()V"⟩ ⟨"PromisedSlotsModel", "empty", "()V"⟩ ∈ U0 := mkU 28 _ (by decide +kernel) rfl
theorem ts_29 : Cond.selects (⟨"PromisedSlotsModel", "deviceIs", "(III)V"⟩ : MethodName).cls ⟨"PromisedSlotsModel", "deviceIs", "(III)V"⟩ ⟨"PromisedSlotsModel", "deviceIs", "(III)V"⟩ ∈ U0 := mkU 29 _ (by decide +kernel) rfl
theorem ts_30 : Cond.selects (⟨"PromisedSlotsModel", "coordIs", "(II)V"⟩ : MethodName).cls ⟨"PromisedSlotsModel", "coordIs", "(II)V"⟩ ⟨"PromisedSlotsModel", "coordIs", "(II)V"⟩ ∈ U0 := mkU 30 _ (by decide +kernel) rfl
theorem ts_31 : Cond.selects (⟨"PromisedSlotsModel", "begin", "()V"⟩ : MethodName).cls ⟨"PromisedSlotsModel", "begin", "()V"⟩ ⟨"PromisedSlotsModel", "begin", "()V"⟩ ∈ U0 := mkU 31 _ (by decide +kernel) rfl
theorem ts_32 : Cond.selects (⟨"PromisedSlotsModel", "coordBegins", "(III)V"⟩ : MethodName).cls ⟨"PromisedSlotsModel", "coordBegins", "(III)V"⟩ ⟨"PromisedSlotsModel", "coordBegins", "(III)V"⟩ ∈ U0 := mkU 32 _ (by decide +kernel) rfl
theorem ts_33 : Cond.selects (⟨"PromisedSlotsModel", "deviceBegins", "(I)V"⟩ : MethodName).cls ⟨"PromisedSlotsModel", "deviceBegins", "(I)V"⟩ ⟨"PromisedSlotsModel", "deviceBegins", "(I)V"⟩ ∈ U0 := mkU 33 _ (by decide +kernel) rfl
theorem ts_34 : Cond.selects (⟨"PromisedSlotsModel", "readAll", "()I"⟩ : MethodName).cls ⟨"PromisedSlotsModel", "readAll", "()I"⟩ ⟨"PromisedSlotsModel", "readAll", "()I"⟩ ∈ U0 := mkU 34 _ (by decide +kernel) rfl
theorem ts_35 : Cond.selects (⟨"PromisedSlotsModel", "letterAt", "(I)I"⟩ : MethodName).cls ⟨"PromisedSlotsModel", "letterAt", "(I)I"⟩ ⟨"PromisedSlotsModel", "letterAt", "(I)I"⟩ ∈ U0 := mkU 35 _ (by decide +kernel) rfl
theorem ts_36 : Cond.selects (⟨"PromisedSlotsModel", "item", "(IZ)V"⟩ : MethodName).cls ⟨"PromisedSlotsModel", "item", "(IZ)V"⟩ ⟨"PromisedSlotsModel", "item", "(IZ)V"⟩ ∈ U0 := mkU 36 _ (by decide +kernel) rfl
theorem ts_37 : Cond.selects (⟨"PromisedSlotsModel", "ordersItem", "()V"⟩ : MethodName).cls ⟨"PromisedSlotsModel", "ordersItem", "()V"⟩ ⟨"PromisedSlotsModel", "ordersItem", "()V"⟩ ∈ U0 := mkU 37 _ (by decide +kernel) rfl
theorem ts_38 : Cond.selects (⟨"PromisedSlotsModel", "number", "(III)I"⟩ : MethodName).cls ⟨"PromisedSlotsModel", "number", "(III)I"⟩ ⟨"PromisedSlotsModel", "number", "(III)I"⟩ ∈ U0 := mkU 38 _ (by decide +kernel) rfl
theorem ts_39 : Cond.selects (⟨"PromisedSlotsModel", "coordItem", "()V"⟩ : MethodName).cls ⟨"PromisedSlotsModel", "coordItem", "()V"⟩ ⟨"PromisedSlotsModel", "coordItem", "()V"⟩ ∈ U0 := mkU 39 _ (by decide +kernel) rfl
theorem ts_40 : Cond.selects (⟨"PromisedSlotsModel", "deviceItem", "()V"⟩ : MethodName).cls ⟨"PromisedSlotsModel", "deviceItem", "()V"⟩ ⟨"PromisedSlotsModel", "deviceItem", "()V"⟩ ∈ U0 := mkU 40 _ (by decide +kernel) rfl
theorem ts_41 : Cond.selects (⟨"PromisedSlotsModel", "refusesText", "(III)I"⟩ : MethodName).cls ⟨"PromisedSlotsModel", "refusesText", "(III)I"⟩ ⟨"PromisedSlotsModel", "refusesText", "(III)I"⟩ ∈ U0 := mkU 41 _ (by decide +kernel) rfl
theorem ts_42 : Cond.selects (⟨"PromisedSlotsModel", "refuses", "(III)I"⟩ : MethodName).cls ⟨"PromisedSlotsModel", "refuses", "(III)I"⟩ ⟨"PromisedSlotsModel", "refuses", "(III)I"⟩ ∈ U0 := mkU 42 _ (by decide +kernel) rfl
theorem ts_43 : Cond.selects (⟨"PromisedSlotsModel", "isCoord", "(I)Z"⟩ : MethodName).cls ⟨"PromisedSlotsModel", "isCoord", "(I)Z"⟩ ⟨"PromisedSlotsModel", "isCoord", "(I)Z"⟩ ∈ U0 := mkU 43 _ (by decide +kernel) rfl
theorem ts_44 : Cond.selects (⟨"PromisedSlotsModel", "isDevice", "(I)Z"⟩ : MethodName).cls ⟨"PromisedSlotsModel", "isDevice", "(I)Z"⟩ ⟨"PromisedSlotsModel", "isDevice", "(I)Z"⟩ ∈ U0 := mkU 44 _ (by decide +kernel) rfl
theorem ts_45 : Cond.selects (⟨"PromisedSlotsModel", "goesFrom", "(II)I"⟩ : MethodName).cls ⟨"PromisedSlotsModel", "goesFrom", "(II)I"⟩ ⟨"PromisedSlotsModel", "goesFrom", "(II)I"⟩ ∈ U0 := mkU 45 _ (by decide +kernel) rfl
theorem ts_46 : Cond.selects (⟨"PromisedSlotsModel", "promiseOf", "(II)I"⟩ : MethodName).cls ⟨"PromisedSlotsModel", "promiseOf", "(II)I"⟩ ⟨"PromisedSlotsModel", "promiseOf", "(II)I"⟩ ∈ U0 := mkU 46 _ (by decide +kernel) rfl
theorem ts_47 : Cond.selects (⟨"PromisedSlotsModel", "letGo", "(II)V"⟩ : MethodName).cls ⟨"PromisedSlotsModel", "letGo", "(II)V"⟩ ⟨"PromisedSlotsModel", "letGo", "(II)V"⟩ ∈ U0 := mkU 47 _ (by decide +kernel) rfl
theorem ts_48 : Cond.selects (⟨"PromisedSlotsModel", "hasPromise", "(I)Z"⟩ : MethodName).cls ⟨"PromisedSlotsModel", "hasPromise", "(I)Z"⟩ ⟨"PromisedSlotsModel", "hasPromise", "(I)Z"⟩ ∈ U0 := mkU 48 _ (by decide +kernel) rfl
theorem ts_49 : Cond.selects (⟨"PromisedSlotsModel", "shared", "(I)I"⟩ : MethodName).cls ⟨"PromisedSlotsModel", "shared", "(I)I"⟩ ⟨"PromisedSlotsModel", "shared", "(I)I"⟩ ∈ U0 := mkU 49 _ (by decide +kernel) rfl
theorem ts_50 : Cond.selects (⟨"PromisedSlotsModel", "taken", "(I)I"⟩ : MethodName).cls ⟨"PromisedSlotsModel", "taken", "(I)I"⟩ ⟨"PromisedSlotsModel", "taken", "(I)I"⟩ ∈ U0 := mkU 50 _ (by decide +kernel) rfl
theorem ts_51 : Cond.selects (⟨"PromisedSlotsModel", "firstSlot", "(II)I"⟩ : MethodName).cls ⟨"PromisedSlotsModel", "firstSlot", "(II)I"⟩ ⟨"PromisedSlotsModel", "firstSlot", "(II)I"⟩ ∈ U0 := mkU 51 _ (by decide +kernel) rfl
theorem ts_52 : Cond.selects (⟨"PromisedSlotsModel", "part", "(I)I"⟩ : MethodName).cls ⟨"PromisedSlotsModel", "part", "(I)I"⟩ ⟨"PromisedSlotsModel", "part", "(I)I"⟩ ∈ U0 := mkU 52 _ (by decide +kernel) rfl
theorem ts_53 : Cond.selects (⟨"PromisedSlotsModel", "beacon", "(I)V"⟩ : MethodName).cls ⟨"PromisedSlotsModel", "beacon", "(I)V"⟩ ⟨"PromisedSlotsModel", "beacon", "(I)V"⟩ ∈ U0 := mkU 53 _ (by decide +kernel) rfl
theorem ts_54 : Cond.selects (⟨"PromisedSlotsModel", "stepA", "(I)V"⟩ : MethodName).cls ⟨"PromisedSlotsModel", "stepA", "(I)V"⟩ ⟨"PromisedSlotsModel", "stepA", "(I)V"⟩ ∈ U0 := mkU 54 _ (by decide +kernel) rfl
theorem ts_55 : Cond.selects (⟨"PromisedSlotsModel", "begins", "(I)V"⟩ : MethodName).cls ⟨"PromisedSlotsModel", "begins", "(I)V"⟩ ⟨"PromisedSlotsModel", "begins", "(I)V"⟩ ∈ U0 := mkU 55 _ (by decide +kernel) rfl
theorem ts_56 : Cond.selects (⟨"PromisedSlotsModel", "draws", "(I)V"⟩ : MethodName).cls ⟨"PromisedSlotsModel", "draws", "(I)V"⟩ ⟨"PromisedSlotsModel", "draws", "(I)V"⟩ ∈ U0 := mkU 56 _ (by decide +kernel) rfl
theorem ts_57 : Cond.selects (⟨"PromisedSlotsModel", "stepsBC", "(II)V"⟩ : MethodName).cls ⟨"PromisedSlotsModel", "stepsBC", "(II)V"⟩ ⟨"PromisedSlotsModel", "stepsBC", "(II)V"⟩ ∈ U0 := mkU 57 _ (by decide +kernel) rfl
theorem ts_58 : Cond.selects (⟨"PromisedSlotsModel", "sending", "(II)I"⟩ : MethodName).cls ⟨"PromisedSlotsModel", "sending", "(II)I"⟩ ⟨"PromisedSlotsModel", "sending", "(II)I"⟩ ∈ U0 := mkU 58 _ (by decide +kernel) rfl
theorem ts_59 : Cond.selects (⟨"PromisedSlotsModel", "stepD", "(Z)V"⟩ : MethodName).cls ⟨"PromisedSlotsModel", "stepD", "(Z)V"⟩ ⟨"PromisedSlotsModel", "stepD", "(Z)V"⟩ ∈ U0 := mkU 59 _ (by decide +kernel) rfl
theorem ts_60 : Cond.selects (⟨"PromisedSlotsModel", "goneFrame", "(I)V"⟩ : MethodName).cls ⟨"PromisedSlotsModel", "goneFrame", "(I)V"⟩ ⟨"PromisedSlotsModel", "goneFrame", "(I)V"⟩ ∈ U0 := mkU 60 _ (by decide +kernel) rfl
theorem ts_61 : Cond.selects (⟨"PromisedSlotsModel", "stepE", "()V"⟩ : MethodName).cls ⟨"PromisedSlotsModel", "stepE", "()V"⟩ ⟨"PromisedSlotsModel", "stepE", "()V"⟩ ∈ U0 := mkU 61 _ (by decide +kernel) rfl
theorem ts_62 : Cond.selects (⟨"PromisedSlotsModel", "stepF", "()I"⟩ : MethodName).cls ⟨"PromisedSlotsModel", "stepF", "()I"⟩ ⟨"PromisedSlotsModel", "stepF", "()I"⟩ ∈ U0 := mkU 62 _ (by decide +kernel) rfl
theorem ts_63 : Cond.selects (⟨"PromisedSlotsModel", "ends", "(I)I"⟩ : MethodName).cls ⟨"PromisedSlotsModel", "ends", "(I)I"⟩ ⟨"PromisedSlotsModel", "ends", "(I)I"⟩ ∈ U0 := mkU 63 _ (by decide +kernel) rfl
theorem ts_64 : Cond.selects (⟨"PromisedSlotsModel", "uses", "(I)I"⟩ : MethodName).cls ⟨"PromisedSlotsModel", "uses", "(I)I"⟩ ⟨"PromisedSlotsModel", "uses", "(I)I"⟩ ∈ U0 := mkU 64 _ (by decide +kernel) rfl
theorem ts_65 : Cond.selects (⟨"PromisedSlotsModel", "orphans", "()I"⟩ : MethodName).cls ⟨"PromisedSlotsModel", "orphans", "()I"⟩ ⟨"PromisedSlotsModel", "orphans", "()I"⟩ ∈ U0 := mkU 65 _ (by decide +kernel) rfl
end
section
/-! the pure state: rows of ints, one a cell -/
abbrev St : Type := Nat → Nat → Int32
def up2 (σ : St) (k j : Nat) (v : Int32) : St := fun a => if a = k then upd (σ k) j v else σ a
theorem up2_row (σ : St) (k j : Nat) (v : Int32) : up2 σ k j v k = upd (σ k) j v := by simp [up2]
theorem up2_ne {σ : St} {k j a : Nat} {v : Int32} (h : a ≠ k) : up2 σ k j v a = σ a := by simp [up2, h]
/-! a world: cells by their places in a list, each made of its row -/
def gWs (L : List Nat) (ad : Nat → Nat) (ce : Nat → (Nat → Int32) → va_E) (σ : St) : va_W := L.map (fun k => (ad k, ce k (σ k)))
theorem gWs_at {L : List Nat} {ad : Nat → Nat} {ce : Nat → (Nat → Int32) → va_E} (hn : L.Nodup) {k : Nat} (hk : k ∈ L) (σ : St) : ∃ q, (gWs L ad ce σ)[q]? = some (ad k, ce k (σ k)) ∧ ∀ (j : Nat) (v : Int32), (gWs L ad ce σ).set q (ad k, ce k (upd (σ k) j v)) = gWs L ad ce (up2 σ k j v) := by
  obtain ⟨q, hq⟩ := List.getElem?_of_mem hk
  have hql : q < L.length := (List.getElem?_eq_some_iff.mp hq).1
  refine ⟨q, by simp [gWs, hq], fun j v => ?_⟩
  apply List.ext_getElem?
  intro i
  by_cases hi : i = q
  · subst hi
    rw [List.getElem?_set_self (by simp [gWs]; exact hql)]
    simp [gWs, hq, up2_row]
  · rw [List.getElem?_set_ne (Ne.symm hi)]
    simp only [gWs, List.getElem?_map]
    cases h : L[i]? with
    | none => rfl
    | some k' =>
      have hne : k' ≠ k := by
        intro e
        subst e
        exact hi ((List.getElem?_inj (List.getElem?_eq_some_iff.mp h).1 hn).mp (h.trans hq.symm))
      simp [up2_ne hne]
theorem gWs_D {L : List Nat} {ad : Nat → Nat} {ce : Nat → (Nat → Int32) → va_E} (hn : L.Nodup) (hI : ∀ i ∈ L, ∀ j ∈ L, ad i = ad j → i = j) {A : Nat → Prop} (hA : ∀ k ∈ L, A (ad k)) (σ : St) : va_D A (gWs L ad ce σ) := by
  refine ⟨fun i j x y hx hy hxy => ?_, fun i x hx => ?_⟩
  · simp only [gWs, List.getElem?_map, Option.map_eq_some_iff] at hx hy
    obtain ⟨a, ha, rfl⟩ := hx
    obtain ⟨b, hb, rfl⟩ := hy
    have e := hI a (List.mem_of_getElem? ha) b (List.mem_of_getElem? hb) hxy
    subst e
    exact (List.getElem?_inj (List.getElem?_eq_some_iff.mp ha).1 hn).mp (ha.trans hb.symm)
  · simp only [gWs, List.getElem?_map, Option.map_eq_some_iff] at hx
    obtain ⟨a, ha, rfl⟩ := hx
    exact hA a (List.mem_of_getElem? ha)
/-! words of the pure texts -/
abbrev ix (i : Int32) (n : Nat) : Prop := ¬ (i < 0 ∨ n ≤ i.toNatClampNeg)
abbrev nt (i : Int32) : Nat := i.toNatClampNeg
def vl {α β : Type} (x : α) (k : α → β) : β := k x
theorem vl_e {α β : Type} {x : α} {k : α → β} {y : β} (h : vl x k = y) : k x = y := h
def gd {α : Type} (c : Prop) [Decidable c] (x : Option α) : Option α := if c then x else none
theorem gd_e {α : Type} {c : Prop} [Decidable c] {x : Option α} {y : α} (h : gd c x = some y) : c ∧ x = some y := by
  unfold gd at h
  split at h
  · rename_i h1
    exact ⟨h1, h⟩
  · cases h
theorem gd_t {α : Type} {c : Prop} [Decidable c] {x : Option α} (h : c) : gd c x = x := if_pos h
def cl {α β : Type} (o : Option (α × St)) (k : α → St → Option β) : Option β := match o with
  | none => none
  | some u => k u.1 u.2
theorem cl_e {α β : Type} {o : Option (α × St)} {k : α → St → Option β} {y : β} (h : cl o k = some y) : ∃ r σ, o = some (r, σ) ∧ k r σ = some y := by
  cases o with
  | none => cases h
  | some u => exact ⟨u.1, u.2, rfl, h⟩
theorem cl_s {α β : Type} {o : Option (α × St)} {k : α → St → Option β} {r : α} {σ : St} (h : o = some (r, σ)) : cl o k = k r σ := by subst h; rfl
/-- an answer that may be null: both ways -/
def oc {β : Type} (o : Option Nat) (kn : Option β) (ks : Nat → Option β) : Option β := match o with
  | none => kn
  | some k => ks k
/-- a loop: its body with what goes on at its head -/
def lp {α ρ : Type} (b : (α → Option ρ) → α → Option ρ) : Nat → α → Option ρ
  | 0, _ => none
  | n + 1, a => b (lp b n) a
theorem lp_w {α ρ : Type} {b : (α → Option ρ) → α → Option ρ} {res : ρ} {P : α → Prop} (h : ∀ K : α → Option ρ, (∀ a, K a = some res → P a) → ∀ a, b K a = some res → P a) : ∀ n a, lp b n a = some res → P a := by
  intro n
  induction n with
  | zero => intro a h; cases h
  | succ n ih => intro a ha; exact h (lp b n) ih a ha
def FU : Nat := 3000
/-! the classes of the worlds -/
abbrev classes : List vw_C := [(RX0, TX0, 5), (RX1, TX1, 7), (RX2, TX2, 20), (RX3, TX3, 12), (RX4, TX4, 4), (RX5, TX5, 4), (RX6, TX6, 2), (RX7, TX7, 10), (RX8, TX8, 58)]
/-! a world's make: classes, array classes, the cells' numbers, their addresses, what a cell is by its row -/
abbrev gEv : Type := va_G × List (ClassId × FieldType) × List Nat × (Nat → Nat) × (Nat → (Nat → Int32) → va_E)
abbrev gAd (Γ : gEv) : Nat → Nat := Γ.2.2.2.1
abbrev gWS (Γ : gEv) (σ : St) : va_W := gWs Γ.2.2.1 Γ.2.2.2.1 Γ.2.2.2.2 σ
def gW (Γ : gEv) (σ : St) (H : Heap) : Prop := va_P Γ.1 classes (gWS Γ σ) H
def gK (Γ : gEv) (U : State) : Prop := va_K Γ.1 classes Γ.2.1 U
def gIj (Γ : gEv) : Prop := Γ.2.2.1.Nodup ∧ ∀ i ∈ Γ.2.2.1, ∀ j ∈ Γ.2.2.1, gAd Γ i = gAd Γ j → i = j
def gA (Γ : gEv) : Nat → Prop := fun q => ∃ k, k ∈ Γ.2.2.1 ∧ q = gAd Γ k
theorem gW_D {Γ : gEv} (hI : gIj Γ) (σ : St) : va_D (gA Γ) (gWS Γ σ) := gWs_D hI.1 hI.2 (fun k hk => ⟨k, hk, rfl⟩) σ
/-- what a method stands on -/
def gFx (p : Program) (m : MethodId) (c : Code) (cc : ByteArray) (nL : Nat) (s : State) (args : Array Value) (own : String) (Γ : gEv) : Prop :=
  p.tables.exec = Jvm.exec ∧ c.code = cc ∧ c.maxLocals = nL ∧ s.vm.findClass own = some m.cls ∧ (∀ w ∈ U0, w.before args s = true) ∧ hasN s ∧ gK Γ s ∧ gIj Γ
def gBx (p : Program) (m : MethodId) (meth : Method) (c : Code) (cc : ByteArray) (nL : Nat) (rt : Option FieldType) (s : State) (args : Array Value) (own : String) (Γ : gEv) : Prop :=
  gFx p m c cc nL s args own Γ ∧ meth.sig.returnType = rt ∧ meth.locks = false
def gPre (Γ : gEv) (σ : St) (U : State) : Prop := gW Γ σ U.heap ∧ gK Γ U ∧ hasN U
abbrev gPi (Γ : gEv) (r : Int32) (σ' : St) : Array Value → State → Outcome → State → Prop := va_Qi (fun (x : Int32) (_ : Unit) => x = r) (fun _ t => gW Γ σ' t.heap) (gA Γ)
abbrev gPv (Γ : gEv) (σ' : St) : Array Value → State → Outcome → State → Prop := va_Qv (fun (_ : Unit) => True) (fun _ t => gW Γ σ' t.heap) (gA Γ)
abbrev gPq (Γ : gEv) (r : Option Nat) (σ' : St) : Array Value → State → Outcome → State → Prop := va_Qq (fun (x : Option Nat) (_ : Unit) => x = r.map (gAd Γ)) (fun _ t => gW Γ σ' t.heap) (gA Γ)
abbrev gMi (l : Launch) (y : MethodName) (cc : ByteArray) (n : Nat) (rt : FieldType) (rm : Room) (av : List Value) (Γ : gEv) (σ : St) (r : Int32) (σ' : St) : Prop :=
  Met l y (.code y cc n (some rt) :: U0) rm (va_Pc av (gPre Γ σ)) (gPi Γ r σ') 0 0 (gA Γ)
abbrev gMv (l : Launch) (y : MethodName) (cc : ByteArray) (n : Nat) (rm : Room) (av : List Value) (Γ : gEv) (σ : St) (σ' : St) : Prop :=
  Met l y (.code y cc n none :: U0) rm (va_Pc av (gPre Γ σ)) (gPv Γ σ') 0 0 (gA Γ)
abbrev gMq (l : Launch) (y : MethodName) (cc : ByteArray) (n : Nat) (rt : FieldType) (rm : Room) (av : List Value) (Γ : gEv) (σ : St) (r : Option Nat) (σ' : St) : Prop :=
  Met l y (.code y cc n (some rt) :: U0) rm (va_Pc av (gPre Γ σ)) (gPq Γ r σ') 0 0 (gA Γ)
abbrev gQi (below : List Frame) (args : Array Value) (s : State) (Γ : gEv) (r : Int32) (σ' : St) : State → Prop := MQ below (gPi Γ r σ') args s 0 0 (gA Γ)
abbrev gQv (below : List Frame) (args : Array Value) (s : State) (Γ : gEv) (σ' : St) : State → Prop := MQ below (gPv Γ σ') args s 0 0 (gA Γ)
abbrev gQq (below : List Frame) (args : Array Value) (s : State) (Γ : gEv) (r : Option Nat) (σ' : St) : State → Prop := MQ below (gPq Γ r σ') args s 0 0 (gA Γ)
theorem nb_ok {x : Int32} (h : x = 0 ∨ x = 1) : narrow .boolean (.int x) = .int x := by rcases h with rfl | rfl <;> rfl
theorem nb_fit {x : Int32} (h : x = 0 ∨ x = 1) : fits .boolean (.int x) = true := by rcases h with rfl | rfl <;> rfl
theorem g_blind {av : List Value} {Γ : gEv} {σ : St} : FrameBlind (va_Pc av (gPre Γ σ)) := fun a U g mk q => ⟨q.1, q.2.1, va_K.moved (u := U) (U := U.calling g mk a) (Vm.Alike.refl U.vm) q.2.2.1, hasN.same (u := U) (U := U.calling g mk a) rfl q.2.2.2⟩
theorem g_good {own C : String} {idx : Nat} {y : MethodName} {bytes : ByteArray} {maxL : Nat} {rt : Option FieldType} (hl1 : Cond.methodLink own idx y ∈ U0) (hl2 : Cond.instanceMethod y ∈ U0) (hl3 : Cond.selects C y y ∈ U0) (hl4 : Cond.initialized C ∈ U0) (hl5 : Cond.code y bytes maxL rt ∈ U0) : GoodIn U0 (wsV own idx C y (.code y bytes maxL rt :: U0)) := by
  intro w hw
  have h : w ∈ U0 := by
    rcases List.mem_append.mp hw with h | h
    · simp only [List.mem_cons, List.not_mem_nil, or_false] at h
      rcases h with rfl | rfl | rfl | rfl <;> assumption
    · rcases List.mem_cons.mp h with rfl | h
      · exact hl5
      · exact h
  exact ⟨h, U0_good h⟩
theorem g_good1 {y : MethodName} {bytes : ByteArray} {maxL : Nat} {rt : Option FieldType} (hl5 : Cond.code y bytes maxL rt ∈ U0) : GoodIn U0 (.code y bytes maxL rt :: U0) := by
  intro w hw
  have h : w ∈ U0 := by
    rcases List.mem_cons.mp hw with rfl | h
    · exact hl5
    · exact h
  exact ⟨h, U0_good h⟩
section GROWS
variable {p : Program} {l : Launch} {e : Env} {R : Room} {s : State} {m : MethodId} {args : Array Value} {below : List Frame} {meth : Method} {c : Code} {H : Heap} {locs : List Loc} {cells slots : Nat} {Q : State → Prop}
variable {cc : ByteArray} {pc nL : Nat} {ls : Array Slot} {rest st : List Value} {own : String} {Γ : gEv} {σ : St}
theorem g_get (F : gFx p m c cc nL s args own Γ) (hP : gW Γ σ H) {k : Nat} (hk : k ∈ Γ.2.2.1) {ci : Nat} {fs : List Value} (he : Γ.2.2.2.2 k (σ k) = .inr (ci, fs)) {C : String} {T : u_T} {N : Nat} (hc : classes[ci]? = some (C, T, N)) (hin : ∀ w ∈ u_ws C T N, w ∈ U0) (j : Nat) (hj : j < N) {idx : Nat} {ref : String} (hlink : Cond.fieldLink own idx ref (T j).2.1 (T j).2.2.1 ∈ U0) (hsame : (T j).1 = ref) {v : Value} (hv : fs[j]? = some v) (hdg : decode cc pc = .ok (.getfield idx, 3))
    (kk : W p l e R s m args below meth c H locs cells slots Q (F0 m (pc + 3) ls (v :: rest))) : W p l e R s m args below meth c H locs cells slots Q (F0 m pc ls (.ref (gAd Γ k) :: rest)) := by
  obtain ⟨hx, hb, -, hown, hts, -, hK, hI⟩ := F
  obtain ⟨q, hq, -⟩ := gWs_at (ad := gAd Γ) (ce := Γ.2.2.2.2) hI.1 hk σ
  exact va_get hx hb hts hin hown hK hP q (by rw [hq, he]) hc j hj (hts _ hlink) (fun x h => by rw [← hsame]; exact h) hv hdg kk
theorem g_getN (F : gFx p m c cc nL s args own Γ) (hP : gW Γ σ H) {k : Nat} (hk : k ∈ Γ.2.2.1) {ci : Nat} {fs : List Value} (he : Γ.2.2.2.2 k (σ k) = .inr (ci, fs)) {C : String} {T : u_T} {N : Nat} (hc : classes[ci]? = some (C, T, N)) (hin : ∀ w ∈ u_ws C T N, w ∈ U0) (j : Nat) (hj : j < N) {idx : Nat} {ref host : String} (hlink : Cond.fieldLinkNest own idx ref (T j).2.1 (T j).2.2.1 host ∈ NW) (hsame : (T j).1 = ref) {v : Value} (hv : fs[j]? = some v) (hdg : decode cc pc = .ok (.getfield idx, 3))
    (kk : W p l e R s m args below meth c H locs cells slots Q (F0 m (pc + 3) ls (v :: rest))) : W p l e R s m args below meth c H locs cells slots Q (F0 m pc ls (.ref (gAd Γ k) :: rest)) := by
  obtain ⟨hx, hb, -, hown, hts, hN, hK, hI⟩ := F
  obtain ⟨q, hq, -⟩ := gWs_at (ad := gAd Γ) (ce := Γ.2.2.2.2) hI.1 hk σ
  exact va_getN hx hb hts hin hown hK hP q (by rw [hq, he]) hc j hj (va_Nw.use rfl (hN _ hlink)) (fun x h => by rw [← hsame]; exact h) hv hdg kk
theorem g_put (F : gFx p m c cc nL s args own Γ) (hP : gW Γ σ H) (hS : va_S (gA Γ) s.heap H locs) {k : Nat} (hk : k ∈ Γ.2.2.1) {ci : Nat} {fs : List Value} (he : Γ.2.2.2.2 k (σ k) = .inr (ci, fs)) {C : String} {T : u_T} {N : Nat} (hc : classes[ci]? = some (C, T, N)) (hin : ∀ w ∈ u_ws C T N, w ∈ U0) (ty0 : Nat → FieldType) (hty : ∀ k, k < N → parseFieldDescriptor (T k).2.2.1 = some (ty0 k)) (hnm : ∀ a, a < N → ∀ b, b < N → a ≠ b → (T a).2.1 ≠ (T b).2.1) (j : Nat) (hj : j < N) {idx : Nat} {ref : String} (hlink : Cond.fieldLink own idx ref (T j).2.1 (T j).2.2.1 ∈ U0) (hsame : (T j).1 = ref) (hfin : (T j).2.2.2 = false) {v : Value} (hn : narrow (ty0 j) v = v) (hfit : fits (ty0 j) v = true) (hl : j < fs.length) {x : Int32} (hset : Γ.2.2.2.2 k (upd (σ k) j x) = .inr (ci, fs.set j v)) (hdg : decode cc pc = .ok (.putfield idx, 3))
    (kk : ∀ (H1 : Heap) (locs1 : List Loc), gW Γ (up2 σ k j x) H1 → va_S (gA Γ) s.heap H1 locs1 → W p l e R s m args below meth c H1 locs1 cells slots Q (F0 m (pc + 3) ls rest)) : W p l e R s m args below meth c H locs cells slots Q (F0 m pc ls (v :: .ref (gAd Γ k) :: rest)) := by
  obtain ⟨hx, hb, -, hown, hts, -, hK, hI⟩ := F
  obtain ⟨q, hq, hs⟩ := gWs_at (ad := gAd Γ) (ce := Γ.2.2.2.2) hI.1 hk σ
  refine va_put hx hb hts hin ty0 hty hnm hown hK hP (gW_D hI σ) hS q (by rw [hq, he]) hc j hj (hts _ hlink) (fun x h => by rw [← hsame]; exact h) hfin (hty j hj) hn hfit hl hdg (fun H1 locs1 h1 _ h3 => kk H1 locs1 ?_ h3)
  rw [← hset, hs] at h1
  exact h1
theorem g_putN (F : gFx p m c cc nL s args own Γ) (hP : gW Γ σ H) (hS : va_S (gA Γ) s.heap H locs) {k : Nat} (hk : k ∈ Γ.2.2.1) {ci : Nat} {fs : List Value} (he : Γ.2.2.2.2 k (σ k) = .inr (ci, fs)) {C : String} {T : u_T} {N : Nat} (hc : classes[ci]? = some (C, T, N)) (hin : ∀ w ∈ u_ws C T N, w ∈ U0) (ty0 : Nat → FieldType) (hty : ∀ k, k < N → parseFieldDescriptor (T k).2.2.1 = some (ty0 k)) (hnm : ∀ a, a < N → ∀ b, b < N → a ≠ b → (T a).2.1 ≠ (T b).2.1) (j : Nat) (hj : j < N) {idx : Nat} {ref host : String} (hlink : Cond.fieldLinkNest own idx ref (T j).2.1 (T j).2.2.1 host ∈ NW) (hsame : (T j).1 = ref) (hfin : (T j).2.2.2 = false) {v : Value} (hn : narrow (ty0 j) v = v) (hfit : fits (ty0 j) v = true) (hl : j < fs.length) {x : Int32} (hset : Γ.2.2.2.2 k (upd (σ k) j x) = .inr (ci, fs.set j v)) (hdg : decode cc pc = .ok (.putfield idx, 3))
    (kk : ∀ (H1 : Heap) (locs1 : List Loc), gW Γ (up2 σ k j x) H1 → va_S (gA Γ) s.heap H1 locs1 → W p l e R s m args below meth c H1 locs1 cells slots Q (F0 m (pc + 3) ls rest)) : W p l e R s m args below meth c H locs cells slots Q (F0 m pc ls (v :: .ref (gAd Γ k) :: rest)) := by
  obtain ⟨hx, hb, -, hown, hts, hN, hK, hI⟩ := F
  obtain ⟨q, hq, hs⟩ := gWs_at (ad := gAd Γ) (ce := Γ.2.2.2.2) hI.1 hk σ
  refine va_putN hx hb hts hin ty0 hty hnm hown hK hP (gW_D hI σ) hS q (by rw [hq, he]) hc j hj (va_Nw.use rfl (hN _ hlink)) (fun x h => by rw [← hsame]; exact h) hfin (hty j hj) hn hfit hl hdg (fun H1 locs1 h1 _ h3 => kk H1 locs1 ?_ h3)
  rw [← hset, hs] at h1
  exact h1
theorem g_iald (F : gFx p m c cc nL s args own Γ) (hP : gW Γ σ H) {k : Nat} (hk : k ∈ Γ.2.2.1) {cA : ClassId} {n : Nat} (he : Γ.2.2.2.2 k (σ k) = .inl (cA, n, .inl (σ k))) (ht : Γ.2.1[0]? = some (cA, .int)) {i : Int32} (hi : ix i n) (hdg : decode cc pc = .ok (.iaload, 1))
    (kk : W p l e R s m args below meth c H locs cells slots Q (F0 m (pc + 1) ls (.int (σ k (nt i)) :: rest))) : W p l e R s m args below meth c H locs cells slots Q (F0 m pc ls (.int i :: .ref (gAd Γ k) :: rest)) := by
  obtain ⟨hx, hb, -, hown, hts, -, hK, hI⟩ := F
  obtain ⟨q, hq, -⟩ := gWs_at (ad := gAd Γ) (ce := Γ.2.2.2.2) hI.1 hk σ
  exact va_iald hx hb hK hP q 0 (f := σ k) (by rw [hq, he]) ht hi hdg kk
theorem g_iast (F : gFx p m c cc nL s args own Γ) (hP : gW Γ σ H) (hS : va_S (gA Γ) s.heap H locs) {k : Nat} (hk : k ∈ Γ.2.2.1) {cA : ClassId} {n : Nat} (he : ∀ r, Γ.2.2.2.2 k r = .inl (cA, n, .inl r)) (ht : Γ.2.1[0]? = some (cA, .int)) {i x : Int32} (hi : ix i n) (hdg : decode cc pc = .ok (.iastore, 1))
    (kk : ∀ (H1 : Heap) (locs1 : List Loc), gW Γ (up2 σ k (nt i) x) H1 → va_S (gA Γ) s.heap H1 locs1 → W p l e R s m args below meth c H1 locs1 cells slots Q (F0 m (pc + 1) ls rest)) : W p l e R s m args below meth c H locs cells slots Q (F0 m pc ls (.int x :: .int i :: .ref (gAd Γ k) :: rest)) := by
  obtain ⟨hx, hb, -, hown, hts, -, hK, hI⟩ := F
  obtain ⟨q, hq, hs⟩ := gWs_at (ad := gAd Γ) (ce := Γ.2.2.2.2) hI.1 hk σ
  refine va_iast hx hb hK hP (gW_D hI σ) hS q 0 (f := σ k) (by rw [hq, he]) ht hi hdg (fun H1 locs1 h1 _ h3 => kk H1 locs1 ?_ h3)
  rw [← he (upd (σ k) i.toNatClampNeg x), hs] at h1
  exact h1
theorem g_alen (F : gFx p m c cc nL s args own Γ) (hP : gW Γ σ H) {k : Nat} (hk : k ∈ Γ.2.2.1) {cA : ClassId} {x : vp_A} (he : Γ.2.2.2.2 k (σ k) = .inl (cA, x)) {t0 : Nat} {ty : FieldType} (ht : Γ.2.1[t0]? = some (cA, ty)) {v : Int32} (hv : Int32.ofNat x.1 = v) (hdg : decode cc pc = .ok (.arraylength, 1))
    (kk : W p l e R s m args below meth c H locs cells slots Q (F0 m (pc + 1) ls (.int v :: rest))) : W p l e R s m args below meth c H locs cells slots Q (F0 m pc ls (.ref (gAd Γ k) :: rest)) := by
  obtain ⟨hx, hb, -, hown, hts, -, hK, hI⟩ := F
  obtain ⟨q, hq, -⟩ := gWs_at (ad := gAd Γ) (ce := Γ.2.2.2.2) hI.1 hk σ
  exact va_alen hx hb hK hP q t0 (x := x) (by rw [hq, he]) ht hv hdg kk
theorem g_aldq (F : gFx p m c cc nL s args own Γ) (hP : gW Γ σ H) {k : Nat} (hk : k ∈ Γ.2.2.1) {cA : ClassId} {n : Nat} {f : Nat → Option Nat} (he : Γ.2.2.2.2 k (σ k) = .inl (cA, n, .inr (.inr (.inr (.inr f))))) {t0 : Nat} {C : String} (ht : Γ.2.1[t0]? = some (cA, .object C)) {i : Int32} (hi : ix i n) (hdg : decode cc pc = .ok (.aaload, 1))
    (kk : W p l e R s m args below meth c H locs cells slots Q (F0 m (pc + 1) ls (va_rf (f (nt i)) :: rest))) : W p l e R s m args below meth c H locs cells slots Q (F0 m pc ls (.int i :: .ref (gAd Γ k) :: rest)) := by
  obtain ⟨hx, hb, -, hown, hts, -, hK, hI⟩ := F
  obtain ⟨q, hq, -⟩ := gWs_at (ad := gAd Γ) (ce := Γ.2.2.2.2) hI.1 hk σ
  exact va_aldq hx hb hK hP q t0 (f := f) (by rw [hq, he]) ht hi hdg kk
/-! calls -/
theorem g_cwV (F : gFx p m c cc nL s args own Γ) {C : String} {idx : Nat} {y : MethodName} {bytes : ByteArray} {maxL n : Nat} {rt : Option FieldType} {rm : Room} (hl1 : Cond.methodLink own idx y ∈ U0) (hl2 : Cond.instanceMethod y ∈ U0) (hl3 : Cond.selects C y y ∈ U0) (hl4 : Cond.initialized C ∈ U0) (hl5 : Cond.code y bytes maxL rt ∈ U0)
    (hd : y.cls = C ∧ y.cls ≠ "java/lang/invoke/MethodHandle" ∧ y.cls ≠ "java/lang/invoke/VarHandle" ∧ (parseMethodDescriptor y.desc).map (fun d => d.parameters.length) = some n) (hrc : rm.cells = 0) (hrs : rm.slots = 0) (hR : rm.frames + 1 ≤ R.frames ∧ 8 + (maxL + 11) + rm.locals ≤ R.locals) :
    CallW R s args own C idx y bytes maxL rt (.code y bytes maxL rt :: U0) rm 0 0 n := cwV n F.2.2.2.2.1 (g_good hl1 hl2 hl3 hl4 hl5) rfl hrc hrs hd hR
theorem g_cwS (F : gFx p m c cc nL s args own Γ) {idx : Nat} {y : MethodName} {bytes : ByteArray} {maxL n : Nat} {rt : Option FieldType} {rm : Room} (hl1 : Cond.methodLink own idx y ∈ U0) (hl2 : Cond.static y ∈ U0) (hl4 : Cond.initialized y.cls ∈ U0) (hl5 : Cond.code y bytes maxL rt ∈ U0)
    (hd : y.cls ≠ "java/lang/invoke/MethodHandle" ∧ y.cls ≠ "java/lang/invoke/VarHandle" ∧ (parseMethodDescriptor y.desc).map (fun d => d.parameters.length) = some n) (hrc : rm.cells = 0) (hrs : rm.slots = 0) (hR : rm.frames + 1 ≤ R.frames ∧ 8 + (maxL + 11) + rm.locals ≤ R.locals) :
    CallB R s args own idx y bytes maxL rt (.code y bytes maxL rt :: U0) rm 0 0 n ∧ (Cond.static y).before args s = true := ⟨callB_of n F.2.2.2.2.1 (g_good1 hl5) rfl hrc hrs (F.2.2.2.2.1 _ hl4) (F.2.2.2.2.1 _ hl1) hd hR, F.2.2.2.2.1 _ hl2⟩
variable {y : MethodName} {bytes : ByteArray} {maxL n idx k ci N : Nat} {rt : FieldType} {rm : Room} {As : List Value} {r : Int32} {ro : Option Nat} {σ' : St} {C : String} {T : u_T} {fs : List Value}
theorem g_callVi (F : gFx p m c cc nL s args own Γ) (hP : gW Γ σ H) (hS : va_S (gA Γ) s.heap H locs) (hM : gMi l y bytes maxL rt rm (.ref (gAd Γ k) :: As) Γ σ r σ') (cw : CallW R s args own C idx y bytes maxL (some rt) (.code y bytes maxL (some rt) :: U0) rm 0 0 n) (hk : k ∈ Γ.2.2.1) (he : Γ.2.2.2.2 k (σ k) = .inr (ci, fs)) (hc : classes[ci]? = some (C, T, N))
    (hn : As.length = n) (hsz : ls.size = nL) (hst : st = As.reverse ++ .ref (gAd Γ k) :: rest) (hrest : (rest.map fun v => v.category).sum ≤ 8) (hdg : decode cc pc = .ok (.invokevirtual idx, 3)) (hcs : cells ≤ R.cells ∧ slots ≤ R.slots)
    (kk : ∀ (H1 : Heap) (locs1 : List Loc), gW Γ σ' H1 → va_S (gA Γ) s.heap H1 locs1 → W p l e R s m args below meth c H1 locs1 cells slots Q (F0 m (pc + 3) ls (.int r :: rest))) : W p l e R s m args below meth c H locs cells slots Q (F0 m pc ls st) := by
  obtain ⟨hx, hb, hml, hown, hts, hN, hK, hI⟩ := F
  obtain ⟨q, hq, -⟩ := gWs_at (ad := gAd Γ) (ce := Γ.2.2.2.2) hI.1 hk σ
  rw [he] at hq
  refine va_calli (va_runV (As := As) (rest := rest) ⟨hx, hb, hml, hown, hts⟩ hM cw ⟨g_blind, va_recv hK hP hc hq, fun U hU hW => ⟨rfl, by rw [hU]; exact hP, va_K.moved hW.alike hK, hasN.warm hW hN⟩⟩ rfl hn hsz hst (lv_room hrest) hdg hcs) hS (fun q _ h => h) (fun q h => h) (fun r' u t H1 locs1 ht hvm hw hB _ _ hS1 => ?_)
  subst hw
  subst ht
  exact kk _ locs1 hB hS1
theorem g_callVv (F : gFx p m c cc nL s args own Γ) (hP : gW Γ σ H) (hS : va_S (gA Γ) s.heap H locs) (hM : gMv l y bytes maxL rm (.ref (gAd Γ k) :: As) Γ σ σ') (cw : CallW R s args own C idx y bytes maxL none (.code y bytes maxL none :: U0) rm 0 0 n) (hk : k ∈ Γ.2.2.1) (he : Γ.2.2.2.2 k (σ k) = .inr (ci, fs)) (hc : classes[ci]? = some (C, T, N))
    (hn : As.length = n) (hsz : ls.size = nL) (hst : st = As.reverse ++ .ref (gAd Γ k) :: rest) (hrest : (rest.map fun v => v.category).sum ≤ 8) (hdg : decode cc pc = .ok (.invokevirtual idx, 3)) (hcs : cells ≤ R.cells ∧ slots ≤ R.slots)
    (kk : ∀ (H1 : Heap) (locs1 : List Loc), gW Γ σ' H1 → va_S (gA Γ) s.heap H1 locs1 → W p l e R s m args below meth c H1 locs1 cells slots Q (F0 m (pc + 3) ls rest)) : W p l e R s m args below meth c H locs cells slots Q (F0 m pc ls st) := by
  obtain ⟨hx, hb, hml, hown, hts, hN, hK, hI⟩ := F
  obtain ⟨q, hq, -⟩ := gWs_at (ad := gAd Γ) (ce := Γ.2.2.2.2) hI.1 hk σ
  rw [he] at hq
  refine va_callv (va_runV (As := As) (rest := rest) ⟨hx, hb, hml, hown, hts⟩ hM cw ⟨g_blind, va_recv hK hP hc hq, fun U hU hW => ⟨rfl, by rw [hU]; exact hP, va_K.moved hW.alike hK, hasN.warm hW hN⟩⟩ rfl hn hsz hst (lv_room hrest) hdg hcs) hS (fun q _ h => h) (fun q h => h) (fun u t H1 locs1 ht hvm hw hB _ _ hS1 => ?_)
  subst ht
  exact kk _ locs1 hB hS1
theorem g_callVq (F : gFx p m c cc nL s args own Γ) (hP : gW Γ σ H) (hS : va_S (gA Γ) s.heap H locs) (hM : gMq l y bytes maxL rt rm (.ref (gAd Γ k) :: As) Γ σ ro σ') (cw : CallW R s args own C idx y bytes maxL (some rt) (.code y bytes maxL (some rt) :: U0) rm 0 0 n) (hk : k ∈ Γ.2.2.1) (he : Γ.2.2.2.2 k (σ k) = .inr (ci, fs)) (hc : classes[ci]? = some (C, T, N))
    (hn : As.length = n) (hsz : ls.size = nL) (hst : st = As.reverse ++ .ref (gAd Γ k) :: rest) (hrest : (rest.map fun v => v.category).sum ≤ 8) (hdg : decode cc pc = .ok (.invokevirtual idx, 3)) (hcs : cells ≤ R.cells ∧ slots ≤ R.slots)
    (kk : ∀ (H1 : Heap) (locs1 : List Loc), gW Γ σ' H1 → va_S (gA Γ) s.heap H1 locs1 → W p l e R s m args below meth c H1 locs1 cells slots Q (F0 m (pc + 3) ls (va_rf (ro.map (gAd Γ)) :: rest))) : W p l e R s m args below meth c H locs cells slots Q (F0 m pc ls st) := by
  obtain ⟨hx, hb, hml, hown, hts, hN, hK, hI⟩ := F
  obtain ⟨q, hq, -⟩ := gWs_at (ad := gAd Γ) (ce := Γ.2.2.2.2) hI.1 hk σ
  rw [he] at hq
  refine va_callq (va_runV (As := As) (rest := rest) ⟨hx, hb, hml, hown, hts⟩ hM cw ⟨g_blind, va_recv hK hP hc hq, fun U hU hW => ⟨rfl, by rw [hU]; exact hP, va_K.moved hW.alike hK, hasN.warm hW hN⟩⟩ rfl hn hsz hst (lv_room hrest) hdg hcs) hS (fun q _ h => h) (fun q h => h) (fun r' u t H1 locs1 ht hvm hw hB _ _ hS1 => ?_)
  subst hw
  subst ht
  exact kk _ locs1 hB hS1
theorem g_callSi (F : gFx p m c cc nL s args own Γ) (hP : gW Γ σ H) (hS : va_S (gA Γ) s.heap H locs) (hM : gMi l y bytes maxL rt rm As Γ σ r σ') (cw : CallB R s args own idx y bytes maxL (some rt) (.code y bytes maxL (some rt) :: U0) rm 0 0 n ∧ (Cond.static y).before args s = true)
    (hn : As.length = n) (hsz : ls.size = nL) (hst : st = As.reverse ++ rest) (hrest : (rest.map fun v => v.category).sum ≤ 8) (hdg : decode cc pc = .ok (.invokestatic idx, 3)) (hcs : cells ≤ R.cells ∧ slots ≤ R.slots)
    (kk : ∀ (H1 : Heap) (locs1 : List Loc), gW Γ σ' H1 → va_S (gA Γ) s.heap H1 locs1 → W p l e R s m args below meth c H1 locs1 cells slots Q (F0 m (pc + 3) ls (.int r :: rest))) : W p l e R s m args below meth c H locs cells slots Q (F0 m pc ls st) := by
  obtain ⟨hx, hb, hml, hown, hts, hN, hK, hI⟩ := F
  refine va_calli (va_runS (As := As) (rest := rest) ⟨hx, hb, hml, hown, hts⟩ hM cw ⟨g_blind, fun U hU hW => ⟨rfl, by rw [hU]; exact hP, va_K.moved hW.alike hK, hasN.warm hW hN⟩⟩ rfl hn hsz hst (lv_room hrest) hdg hcs) hS (fun q _ h => h) (fun q h => h) (fun r' u t H1 locs1 ht hvm hw hB _ _ hS1 => ?_)
  subst hw
  subst ht
  exact kk _ locs1 hB hS1
theorem g_callSv (F : gFx p m c cc nL s args own Γ) (hP : gW Γ σ H) (hS : va_S (gA Γ) s.heap H locs) (hM : gMv l y bytes maxL rm As Γ σ σ') (cw : CallB R s args own idx y bytes maxL none (.code y bytes maxL none :: U0) rm 0 0 n ∧ (Cond.static y).before args s = true)
    (hn : As.length = n) (hsz : ls.size = nL) (hst : st = As.reverse ++ rest) (hrest : (rest.map fun v => v.category).sum ≤ 8) (hdg : decode cc pc = .ok (.invokestatic idx, 3)) (hcs : cells ≤ R.cells ∧ slots ≤ R.slots)
    (kk : ∀ (H1 : Heap) (locs1 : List Loc), gW Γ σ' H1 → va_S (gA Γ) s.heap H1 locs1 → W p l e R s m args below meth c H1 locs1 cells slots Q (F0 m (pc + 3) ls rest)) : W p l e R s m args below meth c H locs cells slots Q (F0 m pc ls st) := by
  obtain ⟨hx, hb, hml, hown, hts, hN, hK, hI⟩ := F
  refine va_callv (va_runS (As := As) (rest := rest) ⟨hx, hb, hml, hown, hts⟩ hM cw ⟨g_blind, fun U hU hW => ⟨rfl, by rw [hU]; exact hP, va_K.moved hW.alike hK, hasN.warm hW hN⟩⟩ rfl hn hsz hst (lv_room hrest) hdg hcs) hS (fun q _ h => h) (fun q h => h) (fun u t H1 locs1 ht hvm hw hB _ _ hS1 => ?_)
  subst ht
  exact kk _ locs1 hB hS1
/-! ends -/
theorem g_iret {v : Int32} (B : gBx p m meth c cc nL (some .int) s args own Γ) (hP : gW Γ σ H) (hS : va_S (gA Γ) s.heap H locs) (hf : some (v, σ) = some (r, σ')) (hdg : decode cc pc = .ok (.ireturn, 1)) : W p l e R s m args below meth c H locs 0 0 (gQi below args s Γ r σ') (F0 m pc ls [.int v]) := by
  cases hf
  have hlocks := B.2.2
  exact W.iret B.1.1 B.1.2.1 B.2.1 (fun t ht _ => ⟨⟨_, (), rfl, rfl, by subst ht; exact hP⟩, hS.F ht⟩) hS.2.2 hdg
theorem g_zret {v : Int32} (B : gBx p m meth c cc nL (some .boolean) s args own Γ) (hP : gW Γ σ H) (hS : va_S (gA Γ) s.heap H locs) (hf : some (v, σ) = some (r, σ')) (hv : v = 0 ∨ v = 1) (hdg : decode cc pc = .ok (.ireturn, 1)) : W p l e R s m args below meth c H locs 0 0 (gQi below args s Γ r σ') (F0 m pc ls [.int v]) := by
  cases hf
  have hlocks := B.2.2
  exact W.zret B.1.1 B.1.2.1 B.2.1 (nb_ok hv) (fun t ht _ => ⟨⟨_, (), rfl, rfl, by subst ht; exact hP⟩, hS.F ht⟩) hS.2.2 hdg
theorem g_vret {u : Unit} (B : gBx p m meth c cc nL none s args own Γ) (hP : gW Γ σ H) (hS : va_S (gA Γ) s.heap H locs) (hf : some ((), σ) = some (u, σ')) (hdg : decode cc pc = .ok (.return_, 1)) : W p l e R s m args below meth c H locs 0 0 (gQv below args s Γ σ') (F0 m pc ls []) := by
  cases hf
  have hlocks := B.2.2
  exact W.vret B.1.1 B.1.2.1 B.2.1 (fun t ht _ => ⟨⟨(), rfl, trivial, by subst ht; exact hP⟩, hS.F ht⟩) hS.2.2 hdg
theorem g_aretN {nm : String} (B : gBx p m meth c cc nL (some (.object nm)) s args own Γ) (hP : gW Γ σ H) (hS : va_S (gA Γ) s.heap H locs) (hf : some ((none : Option Nat), σ) = some (ro, σ')) (hdg : decode cc pc = .ok (.areturn, 1)) : W p l e R s m args below meth c H locs 0 0 (gQq below args s Γ ro σ') (F0 m pc ls [.null]) := by
  cases hf
  have hlocks := B.2.2
  exact W.aret B.1.1 B.1.2.1 B.2.1 (Or.inl ⟨_, rfl⟩) (Or.inl rfl) (fun t ht _ => ⟨⟨none, (), rfl, rfl, by subst ht; exact hP⟩, hS.F ht⟩) hS.2.2 hdg
theorem g_aretS {nm : String} (B : gBx p m meth c cc nL (some (.object nm)) s args own Γ) (hP : gW Γ σ H) (hS : va_S (gA Γ) s.heap H locs) (hf : some (some k, σ) = some (ro, σ')) (hdg : decode cc pc = .ok (.areturn, 1)) : W p l e R s m args below meth c H locs 0 0 (gQq below args s Γ ro σ') (F0 m pc ls [.ref (gAd Γ k)]) := by
  cases hf
  have hlocks := B.2.2
  exact W.aret B.1.1 B.1.2.1 B.2.1 (Or.inl ⟨_, rfl⟩) (Or.inr ⟨_, rfl⟩) (fun t ht _ => ⟨⟨some (gAd Γ k), (), rfl, rfl, by subst ht; exact hP⟩, hS.F ht⟩) hS.2.2 hdg
end GROWS
/-! a contract out of a walk from the entry -/
theorem g_entry {l : Launch} {y : MethodName} {cc : ByteArray} {n : Nat} {rt : Option FieldType} {rm : Room} {av : List Value} {Γ : gEv} {σ : St} {Qc : Array Value → State → Outcome → State → Prop} (hy : plainName y.cls = true) (hn : (lg_sl av).length ≤ n) (hI : gIj Γ)
    (body : ∀ (p : Program) (e : Env) (s : State) (m : MethodId) (args : Array Value) (below : List Frame) (meth : Method) (c : Code), gBx p m meth c cc n rt s args y.cls Γ → gW Γ σ s.heap → va_S (gA Γ) s.heap s.heap [] → ∀ ls : Array Slot, lv_has ls n (lv_args 0 av) → W p l e rm s m args below meth c s.heap [] 0 0 (MQ below Qc args s 0 0 (gA Γ)) (F0 m 0 ls [])) :
    Met l y (.code y cc n rt :: U0) rm (va_Pc av (gPre Γ σ)) Qc 0 0 (gA Γ) := by
  refine Met.ofW (cc := cc) (maxL := n) (ret := rt) hy rfl ?_
  intro p e s m args below meth c s₁ B hml hv
  obtain ⟨rfl, hP, hK, hN⟩ := hv
  have hts := atoms_spec (ws := .code y cc n rt :: U0) B.pre
  have hown : s.vm.findClass y.cls = some m.cls := findClass_of_methodNamed B.named
  have hl := lv_entry av (n := n) hn
  rw [lg_entry_eq]
  generalize (lg_sl av ++ List.replicate (n - (lg_sl av).length) Slot.unset).toArray = ls at hl ⊢
  exact body p e s m av.toArray below meth c ⟨⟨B.exec, B.bytes, hml, hown, fun w hw => hts w (List.mem_cons_of_mem _ hw), hN, hK, hI⟩, B.returns, B.notSynchronized⟩ hP va_S.rf ls hl
/-! the class's world: 54 cells -/
abbrev cEv : Type := va_G × ClassId × ClassId × ClassId × (Nat → Nat)
abbrev cAd (E : cEv) : Nat → Nat := E.2.2.2.2
def cn (k : Nat) : Nat := if k = 2 then 200 else if k = 5 then 3 else if k = 9 ∨ k = 10 ∨ k = 15 ∨ k = 16 then 4 else if k < 20 then 8 else if k < 42 then 7 else 384
def cArr (k : Nat) : Prop := k = 2 ∨ k = 5 ∨ (9 ≤ k ∧ k ≤ 13) ∨ (15 ≤ k ∧ k ≤ 19) ∨ (30 ≤ k ∧ k < 46)
/-- which layout a code names -/
def lay (x : Int32) : Nat := if x = 0 then 8 else 14
def layC (b : Nat) : Int32 := if b = 8 then 0 else 1
theorem lay_ok (x : Int32) : lay x = 8 ∨ lay x = 14 := by unfold lay; split <;> simp
theorem layC_ok {b : Nat} (h : b = 8 ∨ b = 14) : lay (layC b) = b := by rcases h with rfl | rfl <;> decide
/-- which device a code in the party names -/
def pdec (x : Int32) : Option Nat := if x = 0 then none else some (46 + (x.toNatClampNeg - 1))
abbrev fs0 (E : cEv) (r : Nat → Int32) : List Value := [.ref (cAd E 7), .int (r 1), .int (r 2), .int (r 3), .int (r 4)]
abbrev fs1 (E : cEv) (c : Nat) (r : Nat → Int32) : List Value := [.int (r 0), .int (r 1), .int (r 2), .int (r 3), .int (r 4), .ref (cAd E (26 + c)), .ref (cAd E (42 + c))]
abbrev fs2 (r : Nat → Int32) : List Value := [.int (r 0), .int (r 1), .int (r 2), .int (r 3), .int (r 4), .int (r 5), .int (r 6), .int (r 7), .int (r 8), .int (r 9), .int (r 10), .int (r 11), .int (r 12), .int (r 13), .int (r 14), .int (r 15), .int (r 16), .int (r 17), .int (r 18), .int (r 19)]
abbrev fs3 (E : cEv) (k : Nat) (r : Nat → Int32) : List Value := [.int (r 0), .int (r 1), .int (r 2), .int (r 3), .int (r 4), .int (r 5), .int (r 6), .ref (cAd E (k + 1)), .ref (cAd E (k + 2)), .ref (cAd E (k + 3)), .ref (cAd E (k + 4)), .ref (cAd E (k + 5))]
abbrev fs4 (E : cEv) (c : Nat) (r : Nat → Int32) : List Value := [.ref (cAd E (30 + c)), .ref (cAd E (34 + c)), .ref (cAd E (38 + c)), .int (r 3)]
abbrev fs5 (E : cEv) (r : Nat → Int32) : List Value := [.ref (cAd E 1), .int (r 1), .int (r 2), .int (r 3)]
abbrev fs6 (E : cEv) (k : Nat) (r : Nat → Int32) : List Value := [.ref (cAd E (k + 1)), .int (r 1)]
abbrev fs7 (E : cEv) (r : Nat → Int32) : List Value := [.ref (cAd E 1), .ref (cAd E 3), .ref (cAd E 4), .ref (cAd E 20), .ref (cAd E 21), .ref (cAd E 6), .ref (cAd E (lay (r 6))), .ref (cAd E (lay (r 7))), .int (r 8), .int (r 9)]
abbrev pyF (E : cEv) (r : Nat → Int32) : Nat → Option Nat := fun j => (pdec (r j)).map (cAd E)
abbrev dvF (E : cEv) : Nat → Option Nat := fun j => some (cAd E (46 + j))
abbrev coF (E : cEv) : Nat → Option Nat := fun j => some (cAd E (22 + j))
def cCe (E : cEv) (k : Nat) (r : Nat → Int32) : va_E :=
  if k = 0 then .inr (7, fs7 E r) else if k = 1 ∨ k = 4 then .inr (6, fs6 E k r) else if k = 3 then .inr (5, fs5 E r) else if k = 6 then .inr (0, fs0 E r)
  else if k = 7 then .inl (E.2.2.2.1, 8, .inr (.inr (.inr (.inr (pyF E r))))) else if k = 8 ∨ k = 14 then .inr (3, fs3 E k r)
  else if k = 20 then .inl (E.2.2.1, 4, .inr (.inr (.inr (.inr (coF E))))) else if k = 21 then .inl (E.2.2.2.1, 8, .inr (.inr (.inr (.inr (dvF E)))))
  else if 22 ≤ k ∧ k < 26 then .inr (1, fs1 E (k - 22) r) else if 26 ≤ k ∧ k < 30 then .inr (4, fs4 E (k - 26) r) else if 46 ≤ k then .inr (2, fs2 r) else .inl (E.2.1, cn k, .inl r)
theorem ce_7 (E : cEv) (r : Nat → Int32) : cCe E 0 r = .inr (7, fs7 E r) := rfl
theorem ce_6 (E : cEv) (r : Nat → Int32) {k : Nat} (h : k = 1 ∨ k = 4) : cCe E k r = .inr (6, fs6 E k r) := by rcases h with rfl | rfl <;> rfl
theorem ce_5 (E : cEv) (r : Nat → Int32) : cCe E 3 r = .inr (5, fs5 E r) := rfl
theorem ce_0 (E : cEv) (r : Nat → Int32) : cCe E 6 r = .inr (0, fs0 E r) := rfl
theorem ce_p (E : cEv) (r : Nat → Int32) : cCe E 7 r = .inl (E.2.2.2.1, 8, .inr (.inr (.inr (.inr (pyF E r))))) := rfl
theorem ce_3 (E : cEv) (r : Nat → Int32) {k : Nat} (h : k = 8 ∨ k = 14) : cCe E k r = .inr (3, fs3 E k r) := by rcases h with rfl | rfl <;> rfl
theorem ce_c (E : cEv) (r : Nat → Int32) : cCe E 20 r = .inl (E.2.2.1, 4, .inr (.inr (.inr (.inr (coF E))))) := rfl
theorem ce_d (E : cEv) (r : Nat → Int32) : cCe E 21 r = .inl (E.2.2.2.1, 8, .inr (.inr (.inr (.inr (dvF E))))) := rfl
theorem ce_1 (E : cEv) (r : Nat → Int32) {c : Nat} (h : c < 4) : cCe E (22 + c) r = .inr (1, fs1 E c r) := by
  unfold cCe; repeat (first | rw [if_neg (by omega)] | rw [if_pos (by omega)])
  rw [Nat.add_sub_cancel_left]
theorem ce_4 (E : cEv) (r : Nat → Int32) {c : Nat} (h : c < 4) : cCe E (26 + c) r = .inr (4, fs4 E c r) := by
  unfold cCe; repeat (first | rw [if_neg (by omega)] | rw [if_pos (by omega)])
  rw [Nat.add_sub_cancel_left]
theorem ce_2 (E : cEv) (r : Nat → Int32) {d : Nat} (h : d < 8) : cCe E (46 + d) r = .inr (2, fs2 r) := by
  unfold cCe; repeat (first | rw [if_neg (by omega)] | rw [if_pos (by omega)])
theorem ce_a (E : cEv) (r : Nat → Int32) {k : Nat} (h : cArr k) : cCe E k r = .inl (E.2.1, cn k, .inl r) := by
  unfold cArr at h
  unfold cCe; repeat rw [if_neg (by omega)]
theorem cn_2 : cn 2 = 200 := rfl
theorem cn_5 : cn 5 = 3 := rfl
theorem cn_l1 {b : Nat} (h : b = 8 ∨ b = 14) : cn (b + 1) = 4 := by rcases h with rfl | rfl <;> rfl
theorem cn_l2 {b : Nat} (h : b = 8 ∨ b = 14) : cn (b + 2) = 4 := by rcases h with rfl | rfl <;> rfl
theorem cn_l3 {b : Nat} (h : b = 8 ∨ b = 14) : cn (b + 3) = 8 := by rcases h with rfl | rfl <;> rfl
theorem cn_l4 {b : Nat} (h : b = 8 ∨ b = 14) : cn (b + 4) = 8 := by rcases h with rfl | rfl <;> rfl
theorem cn_l5 {b : Nat} (h : b = 8 ∨ b = 14) : cn (b + 5) = 8 := by rcases h with rfl | rfl <;> rfl
theorem cn_p {k : Nat} (h : 30 ≤ k ∧ k < 42) : cn k = 7 := by unfold cn; repeat (first | rw [if_neg (by omega)] | rw [if_pos (by omega)])
theorem cn_a {c : Nat} (_ : c < 4) : cn (42 + c) = 384 := by unfold cn; repeat (first | rw [if_neg (by omega)] | rw [if_pos (by omega)])
theorem ca_r {b : Nat} (h : b = 1 ∨ b = 4) : cArr (b + 1) := by unfold cArr; omega
theorem ca_l {b j : Nat} (h : b = 8 ∨ b = 14) (h1 : 1 ≤ j) (h2 : j ≤ 5) : cArr (b + j) := by unfold cArr; omega
theorem ca_p {k : Nat} (h : 30 ≤ k ∧ k < 46) : cArr k := by unfold cArr; omega
theorem cArr_lt {k : Nat} (h : cArr k) : k < 54 := by unfold cArr at h; omega
abbrev cL : List Nat := List.range 54
abbrev cTys (E : cEv) : List (ClassId × FieldType) := [(E.2.1, .int), (E.2.2.1, .object "PromisedSlots$Coordinator"), (E.2.2.2.1, .object "PromisedSlots$Device")]
abbrev cG (E : cEv) : gEv := (E.1, cTys E, cL, cAd E, cCe E)
theorem cL_nd : cL.Nodup := List.nodup_range
theorem cin {k : Nat} (h : k < 54) : k ∈ cL := List.mem_range.mpr h
/-- a device of the party: the code at that place names one -/
abbrev isPy (x : Int32) : Prop := 0 < x ∧ x ≤ 8
theorem isPy_ne {x : Int32} (h : isPy x) : ¬ x = 0 := by
  intro e
  subst e
  exact absurd h.1 (by decide)
theorem isPy_lt {x : Int32} (h : isPy x) : nt x - 1 < 8 := by
  have h1 := Int32.lt_iff_toInt_lt.mp h.1
  have h2 := Int32.le_iff_toInt_le.mp h.2
  have e0 : (0 : Int32).toInt = 0 := by decide
  have e8 : (8 : Int32).toInt = 8 := by decide
  rw [e0] at h1
  rw [e8] at h2
  show x.toInt.toNat - 1 < 8
  omega
theorem pyF_up (E : cEv) (r : Nat → Int32) (j : Nat) {d : Nat} (hd : d < 8) : pyF E (upd r j (nI (d + 1))) = va_up (pyF E r) j (some (cAd E (46 + d))) := by
  funext q
  by_cases h : q = j
  · subst h
    have h1 : ¬ nI (d + 1) = 0 := nI_ne0 (by omega) (by omega)
    have h2 : (nI (d + 1)).toNatClampNeg = d + 1 := nI_clamp (by omega)
    simp [pyF, va_up, upd, pdec, h1, h2]
  · simp [pyF, va_up, upd, h]
theorem ix_lt {i : Int32} {n : Nat} (h : ix i n) : nt i < n := Nat.not_le.mp fun q => h (Or.inr q)
section CROWS
variable {p : Program} {l : Launch} {e : Env} {R : Room} {s : State} {m : MethodId} {args : Array Value} {below : List Frame} {meth : Method} {c : Code} {H : Heap} {locs : List Loc} {cells slots : Nat} {Q : State → Prop}
variable {cc : ByteArray} {pc nL : Nat} {ls : Array Slot} {rest : List Value} {own : String} {E : cEv} {σ : St}
theorem c_iald (F : gFx p m c cc nL s args own (cG E)) (hP : gW (cG E) σ H) {k n : Nat} (hk : cArr k) (hn : cn k = n) {i : Int32} (hi : ix i n) (hdg : decode cc pc = .ok (.iaload, 1))
    (kk : W p l e R s m args below meth c H locs cells slots Q (F0 m (pc + 1) ls (.int (σ k (nt i)) :: rest))) : W p l e R s m args below meth c H locs cells slots Q (F0 m pc ls (.int i :: .ref (cAd E k) :: rest)) :=
  g_iald F hP (cin (cArr_lt hk)) (hn ▸ ce_a E _ hk) rfl hi hdg kk
theorem c_iast (F : gFx p m c cc nL s args own (cG E)) (hP : gW (cG E) σ H) (hS : va_S (gA (cG E)) s.heap H locs) {k n : Nat} (hk : cArr k) (hn : cn k = n) {i x : Int32} (hi : ix i n) (hdg : decode cc pc = .ok (.iastore, 1))
    (kk : ∀ (H1 : Heap) (locs1 : List Loc), gW (cG E) (up2 σ k (nt i) x) H1 → va_S (gA (cG E)) s.heap H1 locs1 → W p l e R s m args below meth c H1 locs1 cells slots Q (F0 m (pc + 1) ls rest)) : W p l e R s m args below meth c H locs cells slots Q (F0 m pc ls (.int x :: .int i :: .ref (cAd E k) :: rest)) :=
  g_iast F hP hS (cin (cArr_lt hk)) (fun r => hn ▸ ce_a E r hk) rfl hi hdg kk
theorem c_alen (F : gFx p m c cc nL s args own (cG E)) (hP : gW (cG E) σ H) {k n : Nat} (hk : cArr k) (hn : cn k = n) (hdg : decode cc pc = .ok (.arraylength, 1))
    (kk : W p l e R s m args below meth c H locs cells slots Q (F0 m (pc + 1) ls (.int (nI n) :: rest))) : W p l e R s m args below meth c H locs cells slots Q (F0 m pc ls (.ref (cAd E k) :: rest)) :=
  g_alen F hP (cin (cArr_lt hk)) (x := (n, .inl (σ k))) (hn ▸ ce_a E _ hk) (t0 := 0) rfl rfl hdg kk
theorem c_alenC (F : gFx p m c cc nL s args own (cG E)) (hP : gW (cG E) σ H) (hdg : decode cc pc = .ok (.arraylength, 1))
    (kk : W p l e R s m args below meth c H locs cells slots Q (F0 m (pc + 1) ls (.int 4 :: rest))) : W p l e R s m args below meth c H locs cells slots Q (F0 m pc ls (.ref (cAd E 20) :: rest)) :=
  g_alen F hP (cin (by decide)) (ce_c E (σ 20)) (t0 := 1) rfl (show Int32.ofNat 4 = 4 by decide) hdg kk
theorem c_alenD (F : gFx p m c cc nL s args own (cG E)) (hP : gW (cG E) σ H) (hdg : decode cc pc = .ok (.arraylength, 1))
    (kk : W p l e R s m args below meth c H locs cells slots Q (F0 m (pc + 1) ls (.int 8 :: rest))) : W p l e R s m args below meth c H locs cells slots Q (F0 m pc ls (.ref (cAd E 21) :: rest)) :=
  g_alen F hP (cin (by decide)) (ce_d E (σ 21)) (t0 := 2) rfl (show Int32.ofNat 8 = 8 by decide) hdg kk
theorem c_alenP (F : gFx p m c cc nL s args own (cG E)) (hP : gW (cG E) σ H) (hdg : decode cc pc = .ok (.arraylength, 1))
    (kk : W p l e R s m args below meth c H locs cells slots Q (F0 m (pc + 1) ls (.int 8 :: rest))) : W p l e R s m args below meth c H locs cells slots Q (F0 m pc ls (.ref (cAd E 7) :: rest)) :=
  g_alen F hP (cin (by decide)) (ce_p E (σ 7)) (t0 := 2) rfl (show Int32.ofNat 8 = 8 by decide) hdg kk
theorem c_aldC (F : gFx p m c cc nL s args own (cG E)) (hP : gW (cG E) σ H) {i : Int32} (hi : ix i 4) (hdg : decode cc pc = .ok (.aaload, 1))
    (kk : W p l e R s m args below meth c H locs cells slots Q (F0 m (pc + 1) ls (.ref (cAd E (22 + nt i)) :: rest))) : W p l e R s m args below meth c H locs cells slots Q (F0 m pc ls (.int i :: .ref (cAd E 20) :: rest)) :=
  g_aldq F hP (cin (by decide)) (f := coF E) (ce_c E (σ 20)) (t0 := 1) rfl hi hdg kk
theorem c_aldD (F : gFx p m c cc nL s args own (cG E)) (hP : gW (cG E) σ H) {i : Int32} (hi : ix i 8) (hdg : decode cc pc = .ok (.aaload, 1))
    (kk : W p l e R s m args below meth c H locs cells slots Q (F0 m (pc + 1) ls (.ref (cAd E (46 + nt i)) :: rest))) : W p l e R s m args below meth c H locs cells slots Q (F0 m pc ls (.int i :: .ref (cAd E 21) :: rest)) :=
  g_aldq F hP (cin (by decide)) (f := dvF E) (ce_d E (σ 21)) (t0 := 2) rfl hi hdg kk
theorem c_aldP (F : gFx p m c cc nL s args own (cG E)) (hP : gW (cG E) σ H) {i : Int32} (hi : ix i 8) (hx8 : isPy (σ 7 (nt i))) (hdg : decode cc pc = .ok (.aaload, 1))
    (kk : W p l e R s m args below meth c H locs cells slots Q (F0 m (pc + 1) ls (.ref (cAd E (46 + (nt (σ 7 (nt i)) - 1))) :: rest))) : W p l e R s m args below meth c H locs cells slots Q (F0 m pc ls (.int i :: .ref (cAd E 7) :: rest)) := by
  refine g_aldq F hP (cin (by decide)) (f := pyF E (σ 7)) (ce_p E (σ 7)) (t0 := 2) rfl hi hdg ?_
  have hpd : pdec (σ 7 (nt i)) = some (46 + (nt (σ 7 (nt i)) - 1)) := if_neg (isPy_ne hx8)
  show W p l e R s m args below meth c H locs cells slots Q (F0 m (pc + 1) ls (va_rf ((pdec (σ 7 (nt i))).map (cAd E)) :: rest))
  rw [hpd]
  exact kk
theorem c_astP (F : gFx p m c cc nL s args own (cG E)) (hP : gW (cG E) σ H) (hS : va_S (gA (cG E)) s.heap H locs) {i : Int32} {d : Nat} (hd : d < 8) (hi : ix i 8) (hdg : decode cc pc = .ok (.aastore, 1))
    (kk : ∀ (H1 : Heap) (locs1 : List Loc), gW (cG E) (up2 σ 7 (nt i) (nI (d + 1))) H1 → va_S (gA (cG E)) s.heap H1 locs1 → W p l e R s m args below meth c H1 locs1 cells slots Q (F0 m (pc + 1) ls rest)) : W p l e R s m args below meth c H locs cells slots Q (F0 m pc ls (.ref (cAd E (46 + d)) :: .int i :: .ref (cAd E 7) :: rest)) := by
  obtain ⟨hx, hb, -, hown, hts, -, hK, hI⟩ := F
  obtain ⟨q, hq, hs⟩ := gWs_at (ad := cAd E) (ce := cCe E) cL_nd (cin (show 7 < 54 by decide)) σ
  obtain ⟨q2, hq2, -⟩ := gWs_at (ad := cAd E) (ce := cCe E) cL_nd (cin (show 46 + d < 54 by omega)) σ
  refine va_astq hx hb hK hP (gW_D hI σ) hS q 2 q2 2 (r := (RX2, TX2, 20)) (f := pyF E (σ 7)) (by rw [hq, ce_p]) rfl (by rw [hq2, ce_2 E _ hd]) rfl hi hdg (fun H1 locs1 h1 _ h3 => kk H1 locs1 ?_ h3)
  have e := hs (nt i) (nI (d + 1))
  rw [ce_p, pyF_up E _ _ hd] at e
  show va_P E.1 classes (gWs cL (cAd E) (cCe E) (up2 σ 7 (nt i) (nI (d + 1)))) H1
  rw [← e]
  exact h1
end CROWS
/-! the reference's world: the object is cell 0, the array of field j is cell j -/
abbrev mEv : Type := va_G × ClassId × (Nat → Nat)
abbrev mAd (E : mEv) : Nat → Nat := E.2.2
def mn (k : Nat) : Nat := if k = 1 then 200 else if k = 4 then 3 else if k = 34 then 1536 else if k = 31 ∨ k = 32 ∨ k = 33 then 28 else if k = 10 ∨ k = 11 ∨ k = 25 ∨ k = 26 ∨ k = 27 ∨ k = 28 ∨ k = 29 ∨ k = 30 then 4 else 8
abbrev fs8 (E : mEv) (r : Nat → Int32) : List Value := [.int (r 0), .ref (mAd E 1), .int (r 2), .int (r 3), .ref (mAd E 4), .int (r 5), .int (r 6), .int (r 7), .int (r 8), .int (r 9), .ref (mAd E 10), .ref (mAd E 11), .int (r 12), .ref (mAd E 13), .ref (mAd E 14), .ref (mAd E 15), .int (r 16), .int (r 17), .int (r 18), .int (r 19), .int (r 20), .int (r 21), .int (r 22), .int (r 23), .int (r 24), .ref (mAd E 25), .ref (mAd E 26), .ref (mAd E 27), .ref (mAd E 28), .ref (mAd E 29), .ref (mAd E 30), .ref (mAd E 31), .ref (mAd E 32), .ref (mAd E 33), .ref (mAd E 34), .int (r 35), .ref (mAd E 36), .ref (mAd E 37), .ref (mAd E 38), .ref (mAd E 39), .ref (mAd E 40), .ref (mAd E 41), .ref (mAd E 42), .ref (mAd E 43), .ref (mAd E 44), .ref (mAd E 45), .ref (mAd E 46), .ref (mAd E 47), .ref (mAd E 48), .ref (mAd E 49), .ref (mAd E 50), .ref (mAd E 51), .ref (mAd E 52), .ref (mAd E 53), .ref (mAd E 54), .ref (mAd E 55), .int (r 56), .int (r 57)]
def mCe (E : mEv) (k : Nat) (r : Nat → Int32) : va_E := if k = 0 then .inr (8, fs8 E r) else .inl (E.2.1, mn k, .inl r)
abbrev mL : List Nat := [0, 1, 4, 10, 11, 13, 14, 15, 25, 26, 27, 28, 29, 30, 31, 32, 33, 34, 36, 37, 38, 39, 40, 41, 42, 43, 44, 45, 46, 47, 48, 49, 50, 51, 52, 53, 54, 55]
abbrev mTys (E : mEv) : List (ClassId × FieldType) := [(E.2.1, .int)]
abbrev mG (E : mEv) : gEv := (E.1, mTys E, mL, mAd E, mCe E)
theorem mL_nd : mL.Nodup := by decide
theorem me_0 (E : mEv) (r : Nat → Int32) : mCe E 0 r = .inr (8, fs8 E r) := rfl
def mArr (k : Nat) : Prop := k ∈ mL ∧ k ≠ 0
theorem me_a (E : mEv) (r : Nat → Int32) {k : Nat} (h : mArr k) : mCe E k r = .inl (E.2.1, mn k, .inl r) := if_neg h.2
section MROWS
variable {p : Program} {l : Launch} {e : Env} {R : Room} {s : State} {m : MethodId} {args : Array Value} {below : List Frame} {meth : Method} {c : Code} {H : Heap} {locs : List Loc} {cells slots : Nat} {Q : State → Prop}
variable {cc : ByteArray} {pc nL : Nat} {ls : Array Slot} {rest : List Value} {own : String} {E : mEv} {σ : St}
theorem m_iald (F : gFx p m c cc nL s args own (mG E)) (hP : gW (mG E) σ H) {k n : Nat} (hk : mArr k) (hn : mn k = n) {i : Int32} (hi : ix i n) (hdg : decode cc pc = .ok (.iaload, 1))
    (kk : W p l e R s m args below meth c H locs cells slots Q (F0 m (pc + 1) ls (.int (σ k (nt i)) :: rest))) : W p l e R s m args below meth c H locs cells slots Q (F0 m pc ls (.int i :: .ref (mAd E k) :: rest)) :=
  g_iald F hP hk.1 (hn ▸ me_a E _ hk) rfl hi hdg kk
theorem m_iast (F : gFx p m c cc nL s args own (mG E)) (hP : gW (mG E) σ H) (hS : va_S (gA (mG E)) s.heap H locs) {k n : Nat} (hk : mArr k) (hn : mn k = n) {i x : Int32} (hi : ix i n) (hdg : decode cc pc = .ok (.iastore, 1))
    (kk : ∀ (H1 : Heap) (locs1 : List Loc), gW (mG E) (up2 σ k (nt i) x) H1 → va_S (gA (mG E)) s.heap H1 locs1 → W p l e R s m args below meth c H1 locs1 cells slots Q (F0 m (pc + 1) ls rest)) : W p l e R s m args below meth c H locs cells slots Q (F0 m pc ls (.int x :: .int i :: .ref (mAd E k) :: rest)) :=
  g_iast F hP hS hk.1 (fun r => hn ▸ me_a E r hk) rfl hi hdg kk
end MROWS
end
