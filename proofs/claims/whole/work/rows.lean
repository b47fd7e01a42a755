section
/-- a private method of a class that the tables say can be made, by its rows of tables_1 -/
def lw_okq (q : MethodName × Nat) : Prop := (q.1.cls ≠ "java/lang/invoke/MethodHandle" ∧ q.1.cls ≠ "java/lang/invoke/VarHandle") ∧ Cond.instantiable q.1.cls q.2 ∈ tables_1 ∧ Cond.privateMethod q.1 ∈ tables_1 ∧ Cond.instanceMethod q.1 ∈ tables_1
theorem lw_p0 : lw_okq (⟨"PromisedSlots$Reader", "readItem", "(LPromisedSlots$Layout;)V"⟩, 4) := ⟨⟨by decide +kernel, by decide +kernel⟩, List.mem_of_getElem? (i := 44) (by decide +kernel), List.mem_of_getElem? (i := 342) (by decide +kernel), List.mem_of_getElem? (i := 343) (by decide +kernel)⟩
theorem lw_p1 : lw_okq (⟨"PromisedSlots$Reader", "readOrders", "(LPromisedSlots$Layout;)V"⟩, 4) := ⟨⟨by decide +kernel, by decide +kernel⟩, List.mem_of_getElem? (i := 44) (by decide +kernel), List.mem_of_getElem? (i := 350) (by decide +kernel), List.mem_of_getElem? (i := 351) (by decide +kernel)⟩
theorem lw_p2 : lw_okq (⟨"PromisedSlots$Reader", "readNumber", "(III)I"⟩, 4) := ⟨⟨by decide +kernel, by decide +kernel⟩, List.mem_of_getElem? (i := 44) (by decide +kernel), List.mem_of_getElem? (i := 354) (by decide +kernel), List.mem_of_getElem? (i := 355) (by decide +kernel)⟩
theorem lw_p3 : lw_okq (⟨"PromisedSlots$Reader", "readEnd", "()V"⟩, 4) := ⟨⟨by decide +kernel, by decide +kernel⟩, List.mem_of_getElem? (i := 44) (by decide +kernel), List.mem_of_getElem? (i := 361) (by decide +kernel), List.mem_of_getElem? (i := 362) (by decide +kernel)⟩
theorem lw_p4 : lw_okq (⟨"PromisedSlots$Reader", "readCoordinator", "(LPromisedSlots$Layout;)V"⟩, 4) := ⟨⟨by decide +kernel, by decide +kernel⟩, List.mem_of_getElem? (i := 44) (by decide +kernel), List.mem_of_getElem? (i := 369) (by decide +kernel), List.mem_of_getElem? (i := 370) (by decide +kernel)⟩
theorem lw_p5 : lw_okq (⟨"PromisedSlots$Reader", "readDevice", "(LPromisedSlots$Layout;)V"⟩, 4) := ⟨⟨by decide +kernel, by decide +kernel⟩, List.mem_of_getElem? (i := 44) (by decide +kernel), List.mem_of_getElem? (i := 389) (by decide +kernel), List.mem_of_getElem? (i := 390) (by decide +kernel)⟩
theorem lw_p6 : lw_okq (⟨"PromisedSlots$Reader", "readLife", "(LPromisedSlots$Layout;)V"⟩, 4) := ⟨⟨by decide +kernel, by decide +kernel⟩, List.mem_of_getElem? (i := 44) (by decide +kernel), List.mem_of_getElem? (i := 397) (by decide +kernel), List.mem_of_getElem? (i := 398) (by decide +kernel)⟩
theorem lw_p7 : lw_okq (⟨"PromisedSlots", "takeLayout", "()V"⟩, 10) := ⟨⟨by decide +kernel, by decide +kernel⟩, List.mem_of_getElem? (i := 17) (by decide +kernel), List.mem_of_getElem? (i := 401) (by decide +kernel), List.mem_of_getElem? (i := 402) (by decide +kernel)⟩
theorem lw_p8 : lw_okq (⟨"PromisedSlots", "coordinatorAt", "(I)LPromisedSlots$Coordinator;"⟩, 10) := ⟨⟨by decide +kernel, by decide +kernel⟩, List.mem_of_getElem? (i := 17) (by decide +kernel), List.mem_of_getElem? (i := 434) (by decide +kernel), List.mem_of_getElem? (i := 435) (by decide +kernel)⟩
theorem lw_p9 : lw_okq (⟨"PromisedSlots", "faultOfText", "()I"⟩, 10) := ⟨⟨by decide +kernel, by decide +kernel⟩, List.mem_of_getElem? (i := 17) (by decide +kernel), List.mem_of_getElem? (i := 490) (by decide +kernel), List.mem_of_getElem? (i := 491) (by decide +kernel)⟩
theorem lw_p10 : lw_okq (⟨"PromisedSlots", "deviceAt", "(I)LPromisedSlots$Device;"⟩, 10) := ⟨⟨by decide +kernel, by decide +kernel⟩, List.mem_of_getElem? (i := 17) (by decide +kernel), List.mem_of_getElem? (i := 524) (by decide +kernel), List.mem_of_getElem? (i := 525) (by decide +kernel)⟩
theorem lw_p11 : lw_okq (⟨"PromisedSlots$Promises", "removeAt", "(I)V"⟩, 4) := ⟨⟨by decide +kernel, by decide +kernel⟩, List.mem_of_getElem? (i := 151) (by decide +kernel), List.mem_of_getElem? (i := 552) (by decide +kernel), List.mem_of_getElem? (i := 553) (by decide +kernel)⟩
theorem lw_p12 : lw_okq (⟨"PromisedSlots", "promiserOf", "(I)LPromisedSlots$Coordinator;"⟩, 10) := ⟨⟨by decide +kernel, by decide +kernel⟩, List.mem_of_getElem? (i := 17) (by decide +kernel), List.mem_of_getElem? (i := 584) (by decide +kernel), List.mem_of_getElem? (i := 585) (by decide +kernel)⟩
theorem lw_p13 : lw_okq (⟨"PromisedSlots", "nextToBeacon", "()I"⟩, 10) := ⟨⟨by decide +kernel, by decide +kernel⟩, List.mem_of_getElem? (i := 17) (by decide +kernel), List.mem_of_getElem? (i := 612) (by decide +kernel), List.mem_of_getElem? (i := 613) (by decide +kernel)⟩
theorem lw_p14 : lw_okq (⟨"PromisedSlots", "activePart", "(ILPromisedSlots$Coordinator;)I"⟩, 10) := ⟨⟨by decide +kernel, by decide +kernel⟩, List.mem_of_getElem? (i := 17) (by decide +kernel), List.mem_of_getElem? (i := 616) (by decide +kernel), List.mem_of_getElem? (i := 617) (by decide +kernel)⟩
theorem lw_p15 : lw_okq (⟨"PromisedSlots", "hearBeacon", "(I)V"⟩, 10) := ⟨⟨by decide +kernel, by decide +kernel⟩, List.mem_of_getElem? (i := 17) (by decide +kernel), List.mem_of_getElem? (i := 627) (by decide +kernel), List.mem_of_getElem? (i := 628) (by decide +kernel)⟩
def lw_privs_1 : List (MethodName × Nat) := [(⟨"PromisedSlots$Reader", "readItem", "(LPromisedSlots$Layout;)V"⟩, 4), (⟨"PromisedSlots$Reader", "readOrders", "(LPromisedSlots$Layout;)V"⟩, 4), (⟨"PromisedSlots$Reader", "readNumber", "(III)I"⟩, 4), (⟨"PromisedSlots$Reader", "readEnd", "()V"⟩, 4), (⟨"PromisedSlots$Reader", "readCoordinator", "(LPromisedSlots$Layout;)V"⟩, 4), (⟨"PromisedSlots$Reader", "readDevice", "(LPromisedSlots$Layout;)V"⟩, 4), (⟨"PromisedSlots$Reader", "readLife", "(LPromisedSlots$Layout;)V"⟩, 4), (⟨"PromisedSlots", "takeLayout", "()V"⟩, 10), (⟨"PromisedSlots", "coordinatorAt", "(I)LPromisedSlots$Coordinator;"⟩, 10), (⟨"PromisedSlots", "faultOfText", "()I"⟩, 10), (⟨"PromisedSlots", "deviceAt", "(I)LPromisedSlots$Device;"⟩, 10), (⟨"PromisedSlots$Promises", "removeAt", "(I)V"⟩, 4), (⟨"PromisedSlots", "promiserOf", "(I)LPromisedSlots$Coordinator;"⟩, 10), (⟨"PromisedSlots", "nextToBeacon", "()I"⟩, 10), (⟨"PromisedSlots", "activePart", "(ILPromisedSlots$Coordinator;)I"⟩, 10), (⟨"PromisedSlots", "hearBeacon", "(I)V"⟩, 10)]
theorem lw_r1 : ∀ q ∈ lw_privs_1, lw_okq q := List.forall_mem_cons.mpr ⟨lw_p0, List.forall_mem_cons.mpr ⟨lw_p1, List.forall_mem_cons.mpr ⟨lw_p2, List.forall_mem_cons.mpr ⟨lw_p3, List.forall_mem_cons.mpr ⟨lw_p4, List.forall_mem_cons.mpr ⟨lw_p5, List.forall_mem_cons.mpr ⟨lw_p6, List.forall_mem_cons.mpr ⟨lw_p7, List.forall_mem_cons.mpr ⟨lw_p8, List.forall_mem_cons.mpr ⟨lw_p9, List.forall_mem_cons.mpr ⟨lw_p10, List.forall_mem_cons.mpr ⟨lw_p11, List.forall_mem_cons.mpr ⟨lw_p12, List.forall_mem_cons.mpr ⟨lw_p13, List.forall_mem_cons.mpr ⟨lw_p14, List.forall_mem_cons.mpr ⟨lw_p15, fun _ h => absurd h List.not_mem_nil⟩⟩⟩⟩⟩⟩⟩⟩⟩⟩⟩⟩⟩⟩⟩⟩
theorem lw_p16 : lw_okq (⟨"PromisedSlots$Contention", "takeUp", "(II)Z"⟩, 5) := ⟨⟨by decide +kernel, by decide +kernel⟩, List.mem_of_getElem? (i := 65) (by decide +kernel), List.mem_of_getElem? (i := 647) (by decide +kernel), List.mem_of_getElem? (i := 648) (by decide +kernel)⟩
theorem lw_p17 : lw_okq (⟨"PromisedSlots$Contention", "begin", "(LPromisedSlots$Device;I)V"⟩, 5) := ⟨⟨by decide +kernel, by decide +kernel⟩, List.mem_of_getElem? (i := 65) (by decide +kernel), List.mem_of_getElem? (i := 651) (by decide +kernel), List.mem_of_getElem? (i := 652) (by decide +kernel)⟩
theorem lw_p18 : lw_okq (⟨"PromisedSlots$Contention", "draw", "(LPromisedSlots$Device;)V"⟩, 5) := ⟨⟨by decide +kernel, by decide +kernel⟩, List.mem_of_getElem? (i := 65) (by decide +kernel), List.mem_of_getElem? (i := 659) (by decide +kernel), List.mem_of_getElem? (i := 660) (by decide +kernel)⟩
theorem lw_p19 : lw_okq (⟨"PromisedSlots$Contention", "airNow", "()I"⟩, 5) := ⟨⟨by decide +kernel, by decide +kernel⟩, List.mem_of_getElem? (i := 65) (by decide +kernel), List.mem_of_getElem? (i := 676) (by decide +kernel), List.mem_of_getElem? (i := 677) (by decide +kernel)⟩
theorem lw_p20 : lw_okq (⟨"PromisedSlots$Contention", "listenAndWait", "()V"⟩, 5) := ⟨⟨by decide +kernel, by decide +kernel⟩, List.mem_of_getElem? (i := 65) (by decide +kernel), List.mem_of_getElem? (i := 680) (by decide +kernel), List.mem_of_getElem? (i := 681) (by decide +kernel)⟩
theorem lw_p21 : lw_okq (⟨"PromisedSlots$Device", "giveUp", "()V"⟩, 20) := ⟨⟨by decide +kernel, by decide +kernel⟩, List.mem_of_getElem? (i := 197) (by decide +kernel), List.mem_of_getElem? (i := 689) (by decide +kernel), List.mem_of_getElem? (i := 690) (by decide +kernel)⟩
theorem lw_p22 : lw_okq (⟨"PromisedSlots$Device", "endFrame", "()V"⟩, 20) := ⟨⟨by decide +kernel, by decide +kernel⟩, List.mem_of_getElem? (i := 197) (by decide +kernel), List.mem_of_getElem? (i := 693) (by decide +kernel), List.mem_of_getElem? (i := 694) (by decide +kernel)⟩
theorem lw_p23 : lw_okq (⟨"PromisedSlots$Contention", "endFrames", "()I"⟩, 5) := ⟨⟨by decide +kernel, by decide +kernel⟩, List.mem_of_getElem? (i := 65) (by decide +kernel), List.mem_of_getElem? (i := 702) (by decide +kernel), List.mem_of_getElem? (i := 703) (by decide +kernel)⟩
theorem lw_p24 : lw_okq (⟨"PromisedSlots$Contention", "endFrame", "(LPromisedSlots$Device;)I"⟩, 5) := ⟨⟨by decide +kernel, by decide +kernel⟩, List.mem_of_getElem? (i := 65) (by decide +kernel), List.mem_of_getElem? (i := 706) (by decide +kernel), List.mem_of_getElem? (i := 707) (by decide +kernel)⟩
theorem lw_p25 : lw_okq (⟨"PromisedSlots$Contention", "holdAll", "()V"⟩, 5) := ⟨⟨by decide +kernel, by decide +kernel⟩, List.mem_of_getElem? (i := 65) (by decide +kernel), List.mem_of_getElem? (i := 718) (by decide +kernel), List.mem_of_getElem? (i := 719) (by decide +kernel)⟩
theorem lw_p26 : lw_okq (⟨"PromisedSlots", "keepPromises", "(LPromisedSlots$Coordinator;)I"⟩, 10) := ⟨⟨by decide +kernel, by decide +kernel⟩, List.mem_of_getElem? (i := 17) (by decide +kernel), List.mem_of_getElem? (i := 722) (by decide +kernel), List.mem_of_getElem? (i := 723) (by decide +kernel)⟩
theorem lw_p27 : lw_okq (⟨"PromisedSlots", "orphans", "()I"⟩, 10) := ⟨⟨by decide +kernel, by decide +kernel⟩, List.mem_of_getElem? (i := 17) (by decide +kernel), List.mem_of_getElem? (i := 759) (by decide +kernel), List.mem_of_getElem? (i := 760) (by decide +kernel)⟩
theorem lw_p28 : lw_okq (⟨"PromisedSlotsModel", "empty", "()V"⟩, 58) := ⟨⟨by decide +kernel, by decide +kernel⟩, List.mem_of_getElem? (i := 763) (by decide +kernel), List.mem_of_getElem? (i := 769) (by decide +kernel), List.mem_of_getElem? (i := 770) (by decide +kernel)⟩
theorem lw_p29 : lw_okq (⟨"PromisedSlotsModel", "deviceIs", "(III)V"⟩, 58) := ⟨⟨by decide +kernel, by decide +kernel⟩, List.mem_of_getElem? (i := 763) (by decide +kernel), List.mem_of_getElem? (i := 773) (by decide +kernel), List.mem_of_getElem? (i := 774) (by decide +kernel)⟩
theorem lw_p30 : lw_okq (⟨"PromisedSlotsModel", "coordIs", "(II)V"⟩, 58) := ⟨⟨by decide +kernel, by decide +kernel⟩, List.mem_of_getElem? (i := 763) (by decide +kernel), List.mem_of_getElem? (i := 777) (by decide +kernel), List.mem_of_getElem? (i := 778) (by decide +kernel)⟩
theorem lw_p31 : lw_okq (⟨"PromisedSlotsModel", "begin", "()V"⟩, 58) := ⟨⟨by decide +kernel, by decide +kernel⟩, List.mem_of_getElem? (i := 763) (by decide +kernel), List.mem_of_getElem? (i := 781) (by decide +kernel), List.mem_of_getElem? (i := 782) (by decide +kernel)⟩
def lw_privs_2 : List (MethodName × Nat) := [(⟨"PromisedSlots$Contention", "takeUp", "(II)Z"⟩, 5), (⟨"PromisedSlots$Contention", "begin", "(LPromisedSlots$Device;I)V"⟩, 5), (⟨"PromisedSlots$Contention", "draw", "(LPromisedSlots$Device;)V"⟩, 5), (⟨"PromisedSlots$Contention", "airNow", "()I"⟩, 5), (⟨"PromisedSlots$Contention", "listenAndWait", "()V"⟩, 5), (⟨"PromisedSlots$Device", "giveUp", "()V"⟩, 20), (⟨"PromisedSlots$Device", "endFrame", "()V"⟩, 20), (⟨"PromisedSlots$Contention", "endFrames", "()I"⟩, 5), (⟨"PromisedSlots$Contention", "endFrame", "(LPromisedSlots$Device;)I"⟩, 5), (⟨"PromisedSlots$Contention", "holdAll", "()V"⟩, 5), (⟨"PromisedSlots", "keepPromises", "(LPromisedSlots$Coordinator;)I"⟩, 10), (⟨"PromisedSlots", "orphans", "()I"⟩, 10), (⟨"PromisedSlotsModel", "empty", "()V"⟩, 58), (⟨"PromisedSlotsModel", "deviceIs", "(III)V"⟩, 58), (⟨"PromisedSlotsModel", "coordIs", "(II)V"⟩, 58), (⟨"PromisedSlotsModel", "begin", "()V"⟩, 58)]
theorem lw_r2 : ∀ q ∈ lw_privs_2, lw_okq q := List.forall_mem_cons.mpr ⟨lw_p16, List.forall_mem_cons.mpr ⟨lw_p17, List.forall_mem_cons.mpr ⟨lw_p18, List.forall_mem_cons.mpr ⟨lw_p19, List.forall_mem_cons.mpr ⟨lw_p20, List.forall_mem_cons.mpr ⟨lw_p21, List.forall_mem_cons.mpr ⟨lw_p22, List.forall_mem_cons.mpr ⟨lw_p23, List.forall_mem_cons.mpr ⟨lw_p24, List.forall_mem_cons.mpr ⟨lw_p25, List.forall_mem_cons.mpr ⟨lw_p26, List.forall_mem_cons.mpr ⟨lw_p27, List.forall_mem_cons.mpr ⟨lw_p28, List.forall_mem_cons.mpr ⟨lw_p29, List.forall_mem_cons.mpr ⟨lw_p30, List.forall_mem_cons.mpr ⟨lw_p31, fun _ h => absurd h List.not_mem_nil⟩⟩⟩⟩⟩⟩⟩⟩⟩⟩⟩⟩⟩⟩⟩⟩
theorem lw_p32 : lw_okq (⟨"PromisedSlotsModel", "coordBegins", "(III)V"⟩, 58) := ⟨⟨by decide +kernel, by decide +kernel⟩, List.mem_of_getElem? (i := 763) (by decide +kernel), List.mem_of_getElem? (i := 788) (by decide +kernel), List.mem_of_getElem? (i := 789) (by decide +kernel)⟩
theorem lw_p33 : lw_okq (⟨"PromisedSlotsModel", "deviceBegins", "(I)V"⟩, 58) := ⟨⟨by decide +kernel, by decide +kernel⟩, List.mem_of_getElem? (i := 763) (by decide +kernel), List.mem_of_getElem? (i := 792) (by decide +kernel), List.mem_of_getElem? (i := 793) (by decide +kernel)⟩
theorem lw_p34 : lw_okq (⟨"PromisedSlotsModel", "readAll", "()I"⟩, 58) := ⟨⟨by decide +kernel, by decide +kernel⟩, List.mem_of_getElem? (i := 763) (by decide +kernel), List.mem_of_getElem? (i := 992) (by decide +kernel), List.mem_of_getElem? (i := 993) (by decide +kernel)⟩
theorem lw_p35 : lw_okq (⟨"PromisedSlotsModel", "letterAt", "(I)I"⟩, 58) := ⟨⟨by decide +kernel, by decide +kernel⟩, List.mem_of_getElem? (i := 763) (by decide +kernel), List.mem_of_getElem? (i := 996) (by decide +kernel), List.mem_of_getElem? (i := 997) (by decide +kernel)⟩
theorem lw_p36 : lw_okq (⟨"PromisedSlotsModel", "item", "(IZ)V"⟩, 58) := ⟨⟨by decide +kernel, by decide +kernel⟩, List.mem_of_getElem? (i := 763) (by decide +kernel), List.mem_of_getElem? (i := 1000) (by decide +kernel), List.mem_of_getElem? (i := 1001) (by decide +kernel)⟩
theorem lw_p37 : lw_okq (⟨"PromisedSlotsModel", "ordersItem", "()V"⟩, 58) := ⟨⟨by decide +kernel, by decide +kernel⟩, List.mem_of_getElem? (i := 763) (by decide +kernel), List.mem_of_getElem? (i := 1004) (by decide +kernel), List.mem_of_getElem? (i := 1005) (by decide +kernel)⟩
theorem lw_p38 : lw_okq (⟨"PromisedSlotsModel", "number", "(III)I"⟩, 58) := ⟨⟨by decide +kernel, by decide +kernel⟩, List.mem_of_getElem? (i := 763) (by decide +kernel), List.mem_of_getElem? (i := 1008) (by decide +kernel), List.mem_of_getElem? (i := 1009) (by decide +kernel)⟩
theorem lw_p39 : lw_okq (⟨"PromisedSlotsModel", "coordItem", "()V"⟩, 58) := ⟨⟨by decide +kernel, by decide +kernel⟩, List.mem_of_getElem? (i := 763) (by decide +kernel), List.mem_of_getElem? (i := 1014) (by decide +kernel), List.mem_of_getElem? (i := 1015) (by decide +kernel)⟩
theorem lw_p40 : lw_okq (⟨"PromisedSlotsModel", "deviceItem", "()V"⟩, 58) := ⟨⟨by decide +kernel, by decide +kernel⟩, List.mem_of_getElem? (i := 763) (by decide +kernel), List.mem_of_getElem? (i := 1021) (by decide +kernel), List.mem_of_getElem? (i := 1022) (by decide +kernel)⟩
theorem lw_p41 : lw_okq (⟨"PromisedSlotsModel", "refusesText", "(III)I"⟩, 58) := ⟨⟨by decide +kernel, by decide +kernel⟩, List.mem_of_getElem? (i := 763) (by decide +kernel), List.mem_of_getElem? (i := 1025) (by decide +kernel), List.mem_of_getElem? (i := 1026) (by decide +kernel)⟩
theorem lw_p42 : lw_okq (⟨"PromisedSlotsModel", "refuses", "(III)I"⟩, 58) := ⟨⟨by decide +kernel, by decide +kernel⟩, List.mem_of_getElem? (i := 763) (by decide +kernel), List.mem_of_getElem? (i := 1033) (by decide +kernel), List.mem_of_getElem? (i := 1034) (by decide +kernel)⟩
theorem lw_p43 : lw_okq (⟨"PromisedSlotsModel", "isCoord", "(I)Z"⟩, 58) := ⟨⟨by decide +kernel, by decide +kernel⟩, List.mem_of_getElem? (i := 763) (by decide +kernel), List.mem_of_getElem? (i := 1041) (by decide +kernel), List.mem_of_getElem? (i := 1042) (by decide +kernel)⟩
theorem lw_p44 : lw_okq (⟨"PromisedSlotsModel", "isDevice", "(I)Z"⟩, 58) := ⟨⟨by decide +kernel, by decide +kernel⟩, List.mem_of_getElem? (i := 763) (by decide +kernel), List.mem_of_getElem? (i := 1054) (by decide +kernel), List.mem_of_getElem? (i := 1055) (by decide +kernel)⟩
theorem lw_p45 : lw_okq (⟨"PromisedSlotsModel", "goesFrom", "(II)I"⟩, 58) := ⟨⟨by decide +kernel, by decide +kernel⟩, List.mem_of_getElem? (i := 763) (by decide +kernel), List.mem_of_getElem? (i := 1061) (by decide +kernel), List.mem_of_getElem? (i := 1062) (by decide +kernel)⟩
theorem lw_p46 : lw_okq (⟨"PromisedSlotsModel", "promiseOf", "(II)I"⟩, 58) := ⟨⟨by decide +kernel, by decide +kernel⟩, List.mem_of_getElem? (i := 763) (by decide +kernel), List.mem_of_getElem? (i := 1065) (by decide +kernel), List.mem_of_getElem? (i := 1066) (by decide +kernel)⟩
theorem lw_p47 : lw_okq (⟨"PromisedSlotsModel", "letGo", "(II)V"⟩, 58) := ⟨⟨by decide +kernel, by decide +kernel⟩, List.mem_of_getElem? (i := 763) (by decide +kernel), List.mem_of_getElem? (i := 1069) (by decide +kernel), List.mem_of_getElem? (i := 1070) (by decide +kernel)⟩
def lw_privs_3 : List (MethodName × Nat) := [(⟨"PromisedSlotsModel", "coordBegins", "(III)V"⟩, 58), (⟨"PromisedSlotsModel", "deviceBegins", "(I)V"⟩, 58), (⟨"PromisedSlotsModel", "readAll", "()I"⟩, 58), (⟨"PromisedSlotsModel", "letterAt", "(I)I"⟩, 58), (⟨"PromisedSlotsModel", "item", "(IZ)V"⟩, 58), (⟨"PromisedSlotsModel", "ordersItem", "()V"⟩, 58), (⟨"PromisedSlotsModel", "number", "(III)I"⟩, 58), (⟨"PromisedSlotsModel", "coordItem", "()V"⟩, 58), (⟨"PromisedSlotsModel", "deviceItem", "()V"⟩, 58), (⟨"PromisedSlotsModel", "refusesText", "(III)I"⟩, 58), (⟨"PromisedSlotsModel", "refuses", "(III)I"⟩, 58), (⟨"PromisedSlotsModel", "isCoord", "(I)Z"⟩, 58), (⟨"PromisedSlotsModel", "isDevice", "(I)Z"⟩, 58), (⟨"PromisedSlotsModel", "goesFrom", "(II)I"⟩, 58), (⟨"PromisedSlotsModel", "promiseOf", "(II)I"⟩, 58), (⟨"PromisedSlotsModel", "letGo", "(II)V"⟩, 58)]
theorem lw_r3 : ∀ q ∈ lw_privs_3, lw_okq q := List.forall_mem_cons.mpr ⟨lw_p32, List.forall_mem_cons.mpr ⟨lw_p33, List.forall_mem_cons.mpr ⟨lw_p34, List.forall_mem_cons.mpr ⟨lw_p35, List.forall_mem_cons.mpr ⟨lw_p36, List.forall_mem_cons.mpr ⟨lw_p37, List.forall_mem_cons.mpr ⟨lw_p38, List.forall_mem_cons.mpr ⟨lw_p39, List.forall_mem_cons.mpr ⟨lw_p40, List.forall_mem_cons.mpr ⟨lw_p41, List.forall_mem_cons.mpr ⟨lw_p42, List.forall_mem_cons.mpr ⟨lw_p43, List.forall_mem_cons.mpr ⟨lw_p44, List.forall_mem_cons.mpr ⟨lw_p45, List.forall_mem_cons.mpr ⟨lw_p46, List.forall_mem_cons.mpr ⟨lw_p47, fun _ h => absurd h List.not_mem_nil⟩⟩⟩⟩⟩⟩⟩⟩⟩⟩⟩⟩⟩⟩⟩⟩
theorem lw_p48 : lw_okq (⟨"PromisedSlotsModel", "hasPromise", "(I)Z"⟩, 58) := ⟨⟨by decide +kernel, by decide +kernel⟩, List.mem_of_getElem? (i := 763) (by decide +kernel), List.mem_of_getElem? (i := 1096) (by decide +kernel), List.mem_of_getElem? (i := 1097) (by decide +kernel)⟩
theorem lw_p49 : lw_okq (⟨"PromisedSlotsModel", "shared", "(I)I"⟩, 58) := ⟨⟨by decide +kernel, by decide +kernel⟩, List.mem_of_getElem? (i := 763) (by decide +kernel), List.mem_of_getElem? (i := 1100) (by decide +kernel), List.mem_of_getElem? (i := 1101) (by decide +kernel)⟩
theorem lw_p50 : lw_okq (⟨"PromisedSlotsModel", "taken", "(I)I"⟩, 58) := ⟨⟨by decide +kernel, by decide +kernel⟩, List.mem_of_getElem? (i := 763) (by decide +kernel), List.mem_of_getElem? (i := 1104) (by decide +kernel), List.mem_of_getElem? (i := 1105) (by decide +kernel)⟩
theorem lw_p51 : lw_okq (⟨"PromisedSlotsModel", "firstSlot", "(II)I"⟩, 58) := ⟨⟨by decide +kernel, by decide +kernel⟩, List.mem_of_getElem? (i := 763) (by decide +kernel), List.mem_of_getElem? (i := 1108) (by decide +kernel), List.mem_of_getElem? (i := 1109) (by decide +kernel)⟩
theorem lw_p52 : lw_okq (⟨"PromisedSlotsModel", "part", "(I)I"⟩, 58) := ⟨⟨by decide +kernel, by decide +kernel⟩, List.mem_of_getElem? (i := 763) (by decide +kernel), List.mem_of_getElem? (i := 1126) (by decide +kernel), List.mem_of_getElem? (i := 1127) (by decide +kernel)⟩
theorem lw_p53 : lw_okq (⟨"PromisedSlotsModel", "beacon", "(I)V"⟩, 58) := ⟨⟨by decide +kernel, by decide +kernel⟩, List.mem_of_getElem? (i := 763) (by decide +kernel), List.mem_of_getElem? (i := 1130) (by decide +kernel), List.mem_of_getElem? (i := 1131) (by decide +kernel)⟩
theorem lw_p54 : lw_okq (⟨"PromisedSlotsModel", "stepA", "(I)V"⟩, 58) := ⟨⟨by decide +kernel, by decide +kernel⟩, List.mem_of_getElem? (i := 763) (by decide +kernel), List.mem_of_getElem? (i := 1134) (by decide +kernel), List.mem_of_getElem? (i := 1135) (by decide +kernel)⟩
theorem lw_p55 : lw_okq (⟨"PromisedSlotsModel", "begins", "(I)V"⟩, 58) := ⟨⟨by decide +kernel, by decide +kernel⟩, List.mem_of_getElem? (i := 763) (by decide +kernel), List.mem_of_getElem? (i := 1138) (by decide +kernel), List.mem_of_getElem? (i := 1139) (by decide +kernel)⟩
theorem lw_p56 : lw_okq (⟨"PromisedSlotsModel", "draws", "(I)V"⟩, 58) := ⟨⟨by decide +kernel, by decide +kernel⟩, List.mem_of_getElem? (i := 763) (by decide +kernel), List.mem_of_getElem? (i := 1142) (by decide +kernel), List.mem_of_getElem? (i := 1143) (by decide +kernel)⟩
theorem lw_p57 : lw_okq (⟨"PromisedSlotsModel", "stepsBC", "(II)V"⟩, 58) := ⟨⟨by decide +kernel, by decide +kernel⟩, List.mem_of_getElem? (i := 763) (by decide +kernel), List.mem_of_getElem? (i := 1147) (by decide +kernel), List.mem_of_getElem? (i := 1148) (by decide +kernel)⟩
theorem lw_p58 : lw_okq (⟨"PromisedSlotsModel", "sending", "(II)I"⟩, 58) := ⟨⟨by decide +kernel, by decide +kernel⟩, List.mem_of_getElem? (i := 763) (by decide +kernel), List.mem_of_getElem? (i := 1151) (by decide +kernel), List.mem_of_getElem? (i := 1152) (by decide +kernel)⟩
theorem lw_p59 : lw_okq (⟨"PromisedSlotsModel", "stepD", "(Z)V"⟩, 58) := ⟨⟨by decide +kernel, by decide +kernel⟩, List.mem_of_getElem? (i := 763) (by decide +kernel), List.mem_of_getElem? (i := 1155) (by decide +kernel), List.mem_of_getElem? (i := 1156) (by decide +kernel)⟩
theorem lw_p60 : lw_okq (⟨"PromisedSlotsModel", "goneFrame", "(I)V"⟩, 58) := ⟨⟨by decide +kernel, by decide +kernel⟩, List.mem_of_getElem? (i := 763) (by decide +kernel), List.mem_of_getElem? (i := 1159) (by decide +kernel), List.mem_of_getElem? (i := 1160) (by decide +kernel)⟩
theorem lw_p61 : lw_okq (⟨"PromisedSlotsModel", "stepE", "()V"⟩, 58) := ⟨⟨by decide +kernel, by decide +kernel⟩, List.mem_of_getElem? (i := 763) (by decide +kernel), List.mem_of_getElem? (i := 1163) (by decide +kernel), List.mem_of_getElem? (i := 1164) (by decide +kernel)⟩
theorem lw_p62 : lw_okq (⟨"PromisedSlotsModel", "stepF", "()I"⟩, 58) := ⟨⟨by decide +kernel, by decide +kernel⟩, List.mem_of_getElem? (i := 763) (by decide +kernel), List.mem_of_getElem? (i := 1167) (by decide +kernel), List.mem_of_getElem? (i := 1168) (by decide +kernel)⟩
theorem lw_p63 : lw_okq (⟨"PromisedSlotsModel", "ends", "(I)I"⟩, 58) := ⟨⟨by decide +kernel, by decide +kernel⟩, List.mem_of_getElem? (i := 763) (by decide +kernel), List.mem_of_getElem? (i := 1171) (by decide +kernel), List.mem_of_getElem? (i := 1172) (by decide +kernel)⟩
def lw_privs_4 : List (MethodName × Nat) := [(⟨"PromisedSlotsModel", "hasPromise", "(I)Z"⟩, 58), (⟨"PromisedSlotsModel", "shared", "(I)I"⟩, 58), (⟨"PromisedSlotsModel", "taken", "(I)I"⟩, 58), (⟨"PromisedSlotsModel", "firstSlot", "(II)I"⟩, 58), (⟨"PromisedSlotsModel", "part", "(I)I"⟩, 58), (⟨"PromisedSlotsModel", "beacon", "(I)V"⟩, 58), (⟨"PromisedSlotsModel", "stepA", "(I)V"⟩, 58), (⟨"PromisedSlotsModel", "begins", "(I)V"⟩, 58), (⟨"PromisedSlotsModel", "draws", "(I)V"⟩, 58), (⟨"PromisedSlotsModel", "stepsBC", "(II)V"⟩, 58), (⟨"PromisedSlotsModel", "sending", "(II)I"⟩, 58), (⟨"PromisedSlotsModel", "stepD", "(Z)V"⟩, 58), (⟨"PromisedSlotsModel", "goneFrame", "(I)V"⟩, 58), (⟨"PromisedSlotsModel", "stepE", "()V"⟩, 58), (⟨"PromisedSlotsModel", "stepF", "()I"⟩, 58), (⟨"PromisedSlotsModel", "ends", "(I)I"⟩, 58)]
theorem lw_r4 : ∀ q ∈ lw_privs_4, lw_okq q := List.forall_mem_cons.mpr ⟨lw_p48, List.forall_mem_cons.mpr ⟨lw_p49, List.forall_mem_cons.mpr ⟨lw_p50, List.forall_mem_cons.mpr ⟨lw_p51, List.forall_mem_cons.mpr ⟨lw_p52, List.forall_mem_cons.mpr ⟨lw_p53, List.forall_mem_cons.mpr ⟨lw_p54, List.forall_mem_cons.mpr ⟨lw_p55, List.forall_mem_cons.mpr ⟨lw_p56, List.forall_mem_cons.mpr ⟨lw_p57, List.forall_mem_cons.mpr ⟨lw_p58, List.forall_mem_cons.mpr ⟨lw_p59, List.forall_mem_cons.mpr ⟨lw_p60, List.forall_mem_cons.mpr ⟨lw_p61, List.forall_mem_cons.mpr ⟨lw_p62, List.forall_mem_cons.mpr ⟨lw_p63, fun _ h => absurd h List.not_mem_nil⟩⟩⟩⟩⟩⟩⟩⟩⟩⟩⟩⟩⟩⟩⟩⟩
theorem lw_p64 : lw_okq (⟨"PromisedSlotsModel", "uses", "(I)I"⟩, 58) := ⟨⟨by decide +kernel, by decide +kernel⟩, List.mem_of_getElem? (i := 763) (by decide +kernel), List.mem_of_getElem? (i := 1175) (by decide +kernel), List.mem_of_getElem? (i := 1176) (by decide +kernel)⟩
theorem lw_p65 : lw_okq (⟨"PromisedSlotsModel", "orphans", "()I"⟩, 58) := ⟨⟨by decide +kernel, by decide +kernel⟩, List.mem_of_getElem? (i := 763) (by decide +kernel), List.mem_of_getElem? (i := 1197) (by decide +kernel), List.mem_of_getElem? (i := 1198) (by decide +kernel)⟩
def lw_privs_5 : List (MethodName × Nat) := [(⟨"PromisedSlotsModel", "uses", "(I)I"⟩, 58), (⟨"PromisedSlotsModel", "orphans", "()I"⟩, 58)]
theorem lw_r5 : ∀ q ∈ lw_privs_5, lw_okq q := List.forall_mem_cons.mpr ⟨lw_p64, List.forall_mem_cons.mpr ⟨lw_p65, fun _ h => absurd h List.not_mem_nil⟩⟩
def lw_privs : List (MethodName × Nat) := lw_privs_1 ++ (lw_privs_2 ++ (lw_privs_3 ++ (lw_privs_4 ++ (lw_privs_5))))
def lw_tbl : List Cond := k2_sels lw_privs ++ tables_1
theorem lw_privs_ok : ∀ q ∈ lw_privs, lw_okq q := by
  show ∀ q ∈ lw_privs_1 ++ (lw_privs_2 ++ (lw_privs_3 ++ (lw_privs_4 ++ (lw_privs_5)))), lw_okq q
  exact List.forall_mem_append.mpr ⟨lw_r1, List.forall_mem_append.mpr ⟨lw_r2, List.forall_mem_append.mpr ⟨lw_r3, List.forall_mem_append.mpr ⟨lw_r4, lw_r5⟩⟩⟩⟩
def RX0 : String := "PromisedSlots$Contention"
def TX0 : u_T := fun k => match k with
  | 0 => ("PromisedSlots$Contention", "party", "[LPromisedSlots$Device;", true)
  | 1 => ("PromisedSlots$Contention", "partySize", "I", false)
  | 2 => ("PromisedSlots$Contention", "seed", "I", false)
  | 3 => ("PromisedSlots$Contention", "senders", "I", false)
  | _ => ("PromisedSlots$Contention", "lastSender", "I", false)
def tyX0 : Nat → FieldType := fun k => match k with
  | 0 => .array (.object "PromisedSlots$Device")
  | 1 => .int
  | 2 => .int
  | 3 => .int
  | _ => .int
abbrev wsX00 : List Cond := u_ws RX0 TX0 5
theorem nmX0 : ∀ a, a < 5 → ∀ b, b < 5 → a ≠ b → (TX0 a).2.1 ≠ (TX0 b).2.1 := by decide +kernel
theorem tyX0_ok : ∀ k, k < 5 → parseFieldDescriptor (TX0 k).2.2.1 = some (tyX0 k) := by decide +kernel
abbrev cX0_init : ByteArray := prog_2_method_1_code
def yX0_init : MethodName := ⟨RX0, "<init>", "()V"⟩
abbrev cX0_clear : ByteArray := prog_2_method_2_code
def yX0_clear : MethodName := ⟨RX0, "clear", "()V"⟩
abbrev cX0_admit : ByteArray := prog_2_method_3_code
def yX0_admit : MethodName := ⟨RX0, "admit", "(LPromisedSlots$Device;)V"⟩
abbrev cX0_play : ByteArray := prog_2_method_4_code
def yX0_play : MethodName := ⟨RX0, "play", "([II)I"⟩
abbrev cX0_takeUp : ByteArray := prog_2_method_5_code
def yX0_takeUp : MethodName := ⟨RX0, "takeUp", "(II)Z"⟩
abbrev cX0_begin : ByteArray := prog_2_method_6_code
def yX0_begin : MethodName := ⟨RX0, "begin", "(LPromisedSlots$Device;I)V"⟩
abbrev cX0_airNow : ByteArray := prog_2_method_7_code
def yX0_airNow : MethodName := ⟨RX0, "airNow", "()I"⟩
abbrev cX0_listenAndWait : ByteArray := prog_2_method_8_code
def yX0_listenAndWait : MethodName := ⟨RX0, "listenAndWait", "()V"⟩
abbrev cX0_endFrames : ByteArray := prog_2_method_9_code
def yX0_endFrames : MethodName := ⟨RX0, "endFrames", "()I"⟩
abbrev cX0_endFrame : ByteArray := prog_2_method_10_code
def yX0_endFrame : MethodName := ⟨RX0, "endFrame", "(LPromisedSlots$Device;)I"⟩
abbrev cX0_holdAll : ByteArray := prog_2_method_11_code
def yX0_holdAll : MethodName := ⟨RX0, "holdAll", "()V"⟩
abbrev cX0_draw : ByteArray := prog_2_method_12_code
def yX0_draw : MethodName := ⟨RX0, "draw", "(LPromisedSlots$Device;)V"⟩
def RX1 : String := "PromisedSlots$Coordinator"
def TX1 : u_T := fun k => match k with
  | 0 => ("PromisedSlots$Coordinator", "parent", "I", false)
  | 1 => ("PromisedSlots$Coordinator", "start", "I", false)
  | 2 => ("PromisedSlots$Coordinator", "list", "I", false)
  | 3 => ("PromisedSlots$Coordinator", "nextBeacon", "I", false)
  | 4 => ("PromisedSlots$Coordinator", "parts", "I", false)
  | 5 => ("PromisedSlots$Coordinator", "promises", "LPromisedSlots$Promises;", true)
  | _ => ("PromisedSlots$Coordinator", "air", "[I", true)
def tyX1 : Nat → FieldType := fun k => match k with
  | 0 => .int
  | 1 => .int
  | 2 => .int
  | 3 => .int
  | 4 => .int
  | 5 => .object "PromisedSlots$Promises"
  | _ => .array .int
abbrev wsX10 : List Cond := u_ws RX1 TX1 7
theorem nmX1 : ∀ a, a < 7 → ∀ b, b < 7 → a ≠ b → (TX1 a).2.1 ≠ (TX1 b).2.1 := by decide +kernel
theorem tyX1_ok : ∀ k, k < 7 → parseFieldDescriptor (TX1 k).2.2.1 = some (tyX1 k) := by decide +kernel
abbrev cX1_init : ByteArray := prog_3_method_1_code
def yX1_init : MethodName := ⟨RX1, "<init>", "()V"⟩
abbrev cX1_layAt : ByteArray := prog_3_method_2_code
def yX1_layAt : MethodName := ⟨RX1, "layAt", "(III)V"⟩
abbrev cX1_lists : ByteArray := prog_3_method_3_code
def yX1_lists : MethodName := ⟨RX1, "lists", "(I)Z"⟩
abbrev cX1_enlist : ByteArray := prog_3_method_4_code
def yX1_enlist : MethodName := ⟨RX1, "enlist", "(I)V"⟩
abbrev cX1_forget : ByteArray := prog_3_method_5_code
def yX1_forget : MethodName := ⟨RX1, "forget", "(I)V"⟩
abbrev cX1_tell : ByteArray := prog_3_method_6_code
def yX1_tell : MethodName := ⟨RX1, "tell", "(I)I"⟩
def RX2 : String := "PromisedSlots$Device"
def TX2 : u_T := fun k => match k with
  | 0 => ("PromisedSlots$Device", "number", "I", true)
  | 1 => ("PromisedSlots$Device", "home", "I", false)
  | 2 => ("PromisedSlots$Device", "length", "I", false)
  | 3 => ("PromisedSlots$Device", "firstExponent", "I", false)
  | 4 => ("PromisedSlots$Device", "toContend", "I", false)
  | 5 => ("PromisedSlots$Device", "toBePromised", "I", false)
  | 6 => ("PromisedSlots$Device", "sent", "I", false)
  | 7 => ("PromisedSlots$Device", "givenUp", "I", false)
  | 8 => ("PromisedSlots$Device", "missed", "I", false)
  | 9 => ("PromisedSlots$Device", "deaf", "I", false)
  | 10 => ("PromisedSlots$Device", "doing", "I", false)
  | 11 => ("PromisedSlots$Device", "exponent", "I", false)
  | 12 => ("PromisedSlots$Device", "busyLooks", "I", false)
  | 13 => ("PromisedSlots$Device", "tries", "I", false)
  | 14 => ("PromisedSlots$Device", "hurtFrames", "I", false)
  | 15 => ("PromisedSlots$Device", "heard", "Z", false)
  | 16 => ("PromisedSlots$Device", "wait", "I", false)
  | 17 => ("PromisedSlots$Device", "freeLooks", "I", false)
  | 18 => ("PromisedSlots$Device", "ticksToSend", "I", false)
  | _ => ("PromisedSlots$Device", "hurt", "Z", false)
def tyX2 : Nat → FieldType := fun k => match k with
  | 0 => .int
  | 1 => .int
  | 2 => .int
  | 3 => .int
  | 4 => .int
  | 5 => .int
  | 6 => .int
  | 7 => .int
  | 8 => .int
  | 9 => .int
  | 10 => .int
  | 11 => .int
  | 12 => .int
  | 13 => .int
  | 14 => .int
  | 15 => .boolean
  | 16 => .int
  | 17 => .int
  | 18 => .int
  | _ => .boolean
abbrev wsX20 : List Cond := u_ws RX2 TX2 20
theorem nmX2 : ∀ a, a < 20 → ∀ b, b < 20 → a ≠ b → (TX2 a).2.1 ≠ (TX2 b).2.1 := by decide +kernel
theorem tyX2_ok : ∀ k, k < 20 → parseFieldDescriptor (TX2 k).2.2.1 = some (tyX2 k) := by decide +kernel
abbrev cX2_init : ByteArray := prog_4_method_1_code
def yX2_init : MethodName := ⟨RX2, "<init>", "(I)V"⟩
abbrev cX2_layAt : ByteArray := prog_4_method_2_code
def yX2_layAt : MethodName := ⟨RX2, "layAt", "(III)V"⟩
abbrev cX2_isOrphan : ByteArray := prog_4_method_3_code
def yX2_isOrphan : MethodName := ⟨RX2, "isOrphan", "()Z"⟩
abbrev cX2_comeHome : ByteArray := prog_4_method_4_code
def yX2_comeHome : MethodName := ⟨RX2, "comeHome", "(I)V"⟩
abbrev cX2_hearsBeacon : ByteArray := prog_4_method_5_code
def yX2_hearsBeacon : MethodName := ⟨RX2, "hearsBeacon", "()Z"⟩
abbrev cX2_beginFrame : ByteArray := prog_4_method_6_code
def yX2_beginFrame : MethodName := ⟨RX2, "beginFrame", "()V"⟩
abbrev cX2_waitFor : ByteArray := prog_4_method_7_code
def yX2_waitFor : MethodName := ⟨RX2, "waitFor", "(I)V"⟩
abbrev cX2_waitLess : ByteArray := prog_4_method_8_code
def yX2_waitLess : MethodName := ⟨RX2, "waitLess", "()V"⟩
abbrev cX2_lookOrHold : ByteArray := prog_4_method_9_code
def yX2_lookOrHold : MethodName := ⟨RX2, "lookOrHold", "(II)V"⟩
abbrev cX2_startSending : ByteArray := prog_4_method_10_code
def yX2_startSending : MethodName := ⟨RX2, "startSending", "()V"⟩
abbrev cX2_foundBusy : ByteArray := prog_4_method_11_code
def yX2_foundBusy : MethodName := ⟨RX2, "foundBusy", "()Z"⟩
abbrev cX2_foundHurt : ByteArray := prog_4_method_12_code
def yX2_foundHurt : MethodName := ⟨RX2, "foundHurt", "()Z"⟩
abbrev cX2_frameSent : ByteArray := prog_4_method_13_code
def yX2_frameSent : MethodName := ⟨RX2, "frameSent", "()V"⟩
abbrev cX2_sendPromised : ByteArray := prog_4_method_14_code
def yX2_sendPromised : MethodName := ⟨RX2, "sendPromised", "([III)I"⟩
abbrev cX2_tell : ByteArray := prog_4_method_15_code
def yX2_tell : MethodName := ⟨RX2, "tell", "(I)I"⟩
abbrev cX2_giveUp : ByteArray := prog_4_method_16_code
def yX2_giveUp : MethodName := ⟨RX2, "giveUp", "()V"⟩
abbrev cX2_endFrame : ByteArray := prog_4_method_17_code
def yX2_endFrame : MethodName := ⟨RX2, "endFrame", "()V"⟩
def RX3 : String := "PromisedSlots$Layout"
def TX3 : u_T := fun k => match k with
  | 0 => ("PromisedSlots$Layout", "beat", "I", false)
  | 1 => ("PromisedSlots$Layout", "active", "I", false)
  | 2 => ("PromisedSlots$Layout", "slot", "I", false)
  | 3 => ("PromisedSlots$Layout", "least", "I", false)
  | 4 => ("PromisedSlots$Layout", "life", "I", false)
  | 5 => ("PromisedSlots$Layout", "coordinatorCount", "I", false)
  | 6 => ("PromisedSlots$Layout", "deviceCount", "I", false)
  | 7 => ("PromisedSlots$Layout", "parents", "[I", true)
  | 8 => ("PromisedSlots$Layout", "starts", "[I", true)
  | 9 => ("PromisedSlots$Layout", "homes", "[I", true)
  | 10 => ("PromisedSlots$Layout", "lengths", "[I", true)
  | _ => ("PromisedSlots$Layout", "exponents", "[I", true)
def tyX3 : Nat → FieldType := fun k => match k with
  | 0 => .int
  | 1 => .int
  | 2 => .int
  | 3 => .int
  | 4 => .int
  | 5 => .int
  | 6 => .int
  | 7 => .array .int
  | 8 => .array .int
  | 9 => .array .int
  | 10 => .array .int
  | _ => .array .int
abbrev wsX30 : List Cond := u_ws RX3 TX3 12
theorem nmX3 : ∀ a, a < 12 → ∀ b, b < 12 → a ≠ b → (TX3 a).2.1 ≠ (TX3 b).2.1 := by decide +kernel
theorem tyX3_ok : ∀ k, k < 12 → parseFieldDescriptor (TX3 k).2.2.1 = some (tyX3 k) := by decide +kernel
abbrev cX3_init : ByteArray := prog_5_method_1_code
def yX3_init : MethodName := ⟨RX3, "<init>", "()V"⟩
abbrev cX3_clear : ByteArray := prog_5_method_2_code
def yX3_clear : MethodName := ⟨RX3, "clear", "()V"⟩
abbrev cX3_setOrders : ByteArray := prog_5_method_3_code
def yX3_setOrders : MethodName := ⟨RX3, "setOrders", "(III)V"⟩
abbrev cX3_addCoordinator : ByteArray := prog_5_method_4_code
def yX3_addCoordinator : MethodName := ⟨RX3, "addCoordinator", "(II)V"⟩
abbrev cX3_addDevice : ByteArray := prog_5_method_5_code
def yX3_addDevice : MethodName := ⟨RX3, "addDevice", "(III)V"⟩
abbrev cX3_startBehind : ByteArray := prog_5_method_6_code
def yX3_startBehind : MethodName := ⟨RX3, "startBehind", "(II)I"⟩
abbrev cX3_clashOf : ByteArray := prog_5_method_7_code
def yX3_clashOf : MethodName := ⟨RX3, "clashOf", "(I)I"⟩
abbrev cX3_firstBeacon : ByteArray := prog_5_method_8_code
def yX3_firstBeacon : MethodName := ⟨RX3, "firstBeacon", "(II)I"⟩
abbrev cX3_parentAt : ByteArray := prog_5_method_9_code
def yX3_parentAt : MethodName := ⟨RX3, "parentAt", "(I)I"⟩
abbrev cX3_startAt : ByteArray := prog_5_method_10_code
def yX3_startAt : MethodName := ⟨RX3, "startAt", "(I)I"⟩
abbrev cX3_homeAt : ByteArray := prog_5_method_11_code
def yX3_homeAt : MethodName := ⟨RX3, "homeAt", "(I)I"⟩
abbrev cX3_lengthAt : ByteArray := prog_5_method_12_code
def yX3_lengthAt : MethodName := ⟨RX3, "lengthAt", "(I)I"⟩
abbrev cX3_exponentAt : ByteArray := prog_5_method_13_code
def yX3_exponentAt : MethodName := ⟨RX3, "exponentAt", "(I)I"⟩
def RX4 : String := "PromisedSlots$Promises"
def TX4 : u_T := fun k => match k with
  | 0 => ("PromisedSlots$Promises", "holders", "[I", true)
  | 1 => ("PromisedSlots$Promises", "slots", "[I", true)
  | 2 => ("PromisedSlots$Promises", "idle", "[I", true)
  | _ => ("PromisedSlots$Promises", "size", "I", false)
def tyX4 : Nat → FieldType := fun k => match k with
  | 0 => .array .int
  | 1 => .array .int
  | 2 => .array .int
  | _ => .int
abbrev wsX40 : List Cond := u_ws RX4 TX4 4
theorem nmX4 : ∀ a, a < 4 → ∀ b, b < 4 → a ≠ b → (TX4 a).2.1 ≠ (TX4 b).2.1 := by decide +kernel
theorem tyX4_ok : ∀ k, k < 4 → parseFieldDescriptor (TX4 k).2.2.1 = some (tyX4 k) := by decide +kernel
abbrev cX4_init : ByteArray := prog_6_method_1_code
def yX4_init : MethodName := ⟨RX4, "<init>", "()V"⟩
abbrev cX4_clear : ByteArray := prog_6_method_2_code
def yX4_clear : MethodName := ⟨RX4, "clear", "()V"⟩
abbrev cX4_add : ByteArray := prog_6_method_3_code
def yX4_add : MethodName := ⟨RX4, "add", "(II)V"⟩
abbrev cX4_firstSlot : ByteArray := prog_6_method_4_code
def yX4_firstSlot : MethodName := ⟨RX4, "firstSlot", "(I)I"⟩
abbrev cX4_sharedSlots : ByteArray := prog_6_method_5_code
def yX4_sharedSlots : MethodName := ⟨RX4, "sharedSlots", "()I"⟩
abbrev cX4_placeOf : ByteArray := prog_6_method_6_code
def yX4_placeOf : MethodName := ⟨RX4, "placeOf", "(I)I"⟩
abbrev cX4_removeOf : ByteArray := prog_6_method_7_code
def yX4_removeOf : MethodName := ⟨RX4, "removeOf", "(I)I"⟩
abbrev cX4_removeIdle : ByteArray := prog_6_method_8_code
def yX4_removeIdle : MethodName := ⟨RX4, "removeIdle", "(I)V"⟩
abbrev cX4_noteUse : ByteArray := prog_6_method_9_code
def yX4_noteUse : MethodName := ⟨RX4, "noteUse", "(IZ)V"⟩
abbrev cX4_tell : ByteArray := prog_6_method_10_code
def yX4_tell : MethodName := ⟨RX4, "tell", "(II)I"⟩
abbrev cX4_removeAt : ByteArray := prog_6_method_11_code
def yX4_removeAt : MethodName := ⟨RX4, "removeAt", "(I)V"⟩
def RX5 : String := "PromisedSlots$Reader"
def TX5 : u_T := fun k => match k with
  | 0 => ("PromisedSlots$Reader", "letters", "LPromisedSlots$Row;", true)
  | 1 => ("PromisedSlots$Reader", "place", "I", false)
  | 2 => ("PromisedSlots$Reader", "why", "I", false)
  | _ => ("PromisedSlots$Reader", "clash", "I", false)
def tyX5 : Nat → FieldType := fun k => match k with
  | 0 => .object "PromisedSlots$Row"
  | 1 => .int
  | 2 => .int
  | _ => .int
abbrev wsX50 : List Cond := u_ws RX5 TX5 4
theorem nmX5 : ∀ a, a < 4 → ∀ b, b < 4 → a ≠ b → (TX5 a).2.1 ≠ (TX5 b).2.1 := by decide +kernel
theorem tyX5_ok : ∀ k, k < 4 → parseFieldDescriptor (TX5 k).2.2.1 = some (tyX5 k) := by decide +kernel
abbrev cX5_init : ByteArray := prog_7_method_1_code
def yX5_init : MethodName := ⟨RX5, "<init>", "(LPromisedSlots$Row;)V"⟩
abbrev cX5_readInto : ByteArray := prog_7_method_2_code
def yX5_readInto : MethodName := ⟨RX5, "readInto", "(LPromisedSlots$Layout;)I"⟩
abbrev cX5_readItem : ByteArray := prog_7_method_3_code
def yX5_readItem : MethodName := ⟨RX5, "readItem", "(LPromisedSlots$Layout;)V"⟩
abbrev cX5_readOrders : ByteArray := prog_7_method_4_code
def yX5_readOrders : MethodName := ⟨RX5, "readOrders", "(LPromisedSlots$Layout;)V"⟩
abbrev cX5_readCoordinator : ByteArray := prog_7_method_5_code
def yX5_readCoordinator : MethodName := ⟨RX5, "readCoordinator", "(LPromisedSlots$Layout;)V"⟩
abbrev cX5_readDevice : ByteArray := prog_7_method_6_code
def yX5_readDevice : MethodName := ⟨RX5, "readDevice", "(LPromisedSlots$Layout;)V"⟩
abbrev cX5_readLife : ByteArray := prog_7_method_7_code
def yX5_readLife : MethodName := ⟨RX5, "readLife", "(LPromisedSlots$Layout;)V"⟩
abbrev cX5_readNumber : ByteArray := prog_7_method_8_code
def yX5_readNumber : MethodName := ⟨RX5, "readNumber", "(III)I"⟩
abbrev cX5_readEnd : ByteArray := prog_7_method_9_code
def yX5_readEnd : MethodName := ⟨RX5, "readEnd", "()V"⟩
def RX6 : String := "PromisedSlots$Row"
def TX6 : u_T := fun k => match k with
  | 0 => ("PromisedSlots$Row", "items", "[I", true)
  | _ => ("PromisedSlots$Row", "size", "I", false)
def tyX6 : Nat → FieldType := fun k => match k with
  | 0 => .array .int
  | _ => .int
abbrev wsX60 : List Cond := u_ws RX6 TX6 2
theorem nmX6 : ∀ a, a < 2 → ∀ b, b < 2 → a ≠ b → (TX6 a).2.1 ≠ (TX6 b).2.1 := by decide +kernel
theorem tyX6_ok : ∀ k, k < 2 → parseFieldDescriptor (TX6 k).2.2.1 = some (tyX6 k) := by decide +kernel
abbrev cX6_init : ByteArray := prog_8_method_1_code
def yX6_init : MethodName := ⟨RX6, "<init>", "(I)V"⟩
abbrev cX6_append : ByteArray := prog_8_method_2_code
def yX6_append : MethodName := ⟨RX6, "append", "(I)Z"⟩
abbrev cX6_clear : ByteArray := prog_8_method_3_code
def yX6_clear : MethodName := ⟨RX6, "clear", "()V"⟩
abbrev cX6_at : ByteArray := prog_8_method_4_code
def yX6_at : MethodName := ⟨RX6, "at", "(I)I"⟩
def RX7 : String := "PromisedSlots"
def TX7 : u_T := fun k => match k with
  | 0 => ("PromisedSlots", "letters", "LPromisedSlots$Row;", true)
  | 1 => ("PromisedSlots", "reader", "LPromisedSlots$Reader;", true)
  | 2 => ("PromisedSlots", "causes", "LPromisedSlots$Row;", true)
  | 3 => ("PromisedSlots", "coordinators", "[LPromisedSlots$Coordinator;", true)
  | 4 => ("PromisedSlots", "devices", "[LPromisedSlots$Device;", true)
  | 5 => ("PromisedSlots", "contention", "LPromisedSlots$Contention;", true)
  | 6 => ("PromisedSlots", "laid", "LPromisedSlots$Layout;", false)
  | 7 => ("PromisedSlots", "spare", "LPromisedSlots$Layout;", false)
  | 8 => ("PromisedSlots", "now", "I", false)
  | _ => ("PromisedSlots", "partsGone", "I", false)
def tyX7 : Nat → FieldType := fun k => match k with
  | 0 => .object "PromisedSlots$Row"
  | 1 => .object "PromisedSlots$Reader"
  | 2 => .object "PromisedSlots$Row"
  | 3 => .array (.object "PromisedSlots$Coordinator")
  | 4 => .array (.object "PromisedSlots$Device")
  | 5 => .object "PromisedSlots$Contention"
  | 6 => .object "PromisedSlots$Layout"
  | 7 => .object "PromisedSlots$Layout"
  | 8 => .int
  | _ => .int
abbrev wsX70 : List Cond := u_ws RX7 TX7 10
theorem nmX7 : ∀ a, a < 10 → ∀ b, b < 10 → a ≠ b → (TX7 a).2.1 ≠ (TX7 b).2.1 := by decide +kernel
theorem tyX7_ok : ∀ k, k < 10 → parseFieldDescriptor (TX7 k).2.2.1 = some (tyX7 k) := by decide +kernel
abbrev cX7_init : ByteArray := prog_1_method_1_code
def yX7_init : MethodName := ⟨RX7, "<init>", "()V"⟩
abbrev cX7_write : ByteArray := prog_1_method_2_code
def yX7_write : MethodName := ⟨RX7, "write", "(I)I"⟩
abbrev cX7_wipe : ByteArray := prog_1_method_3_code
def yX7_wipe : MethodName := ⟨RX7, "wipe", "()I"⟩
abbrev cX7_fault : ByteArray := prog_1_method_4_code
def yX7_fault : MethodName := ⟨RX7, "fault", "()I"⟩
abbrev cX7_lay : ByteArray := prog_1_method_5_code
def yX7_lay : MethodName := ⟨RX7, "lay", "()I"⟩
abbrev cX7_cause : ByteArray := prog_1_method_6_code
def yX7_cause : MethodName := ⟨RX7, "cause", "(I)I"⟩
abbrev cX7_nest : ByteArray := prog_1_method_7_code
def yX7_nest : MethodName := ⟨RX7, "nest", "(II)I"⟩
abbrev cX7_seed : ByteArray := prog_1_method_8_code
def yX7_seed : MethodName := ⟨RX7, "seed", "(I)I"⟩
abbrev cX7_join : ByteArray := prog_1_method_9_code
def yX7_join : MethodName := ⟨RX7, "join", "(II)I"⟩
abbrev cX7_drop : ByteArray := prog_1_method_10_code
def yX7_drop : MethodName := ⟨RX7, "drop", "(I)I"⟩
abbrev cX7_load : ByteArray := prog_1_method_11_code
def yX7_load : MethodName := ⟨RX7, "load", "(III)I"⟩
abbrev cX7_deafen : ByteArray := prog_1_method_12_code
def yX7_deafen : MethodName := ⟨RX7, "deafen", "(II)I"⟩
abbrev cX7_scan : ByteArray := prog_1_method_13_code
def yX7_scan : MethodName := ⟨RX7, "scan", "(I)I"⟩
abbrev cX7_ask : ByteArray := prog_1_method_14_code
def yX7_ask : MethodName := ⟨RX7, "ask", "(II)I"⟩
abbrev cX7_release : ByteArray := prog_1_method_15_code
def yX7_release : MethodName := ⟨RX7, "release", "(I)I"⟩
abbrev cX7_promise : ByteArray := prog_1_method_16_code
def yX7_promise : MethodName := ⟨RX7, "promise", "(III)I"⟩
abbrev cX7_run : ByteArray := prog_1_method_17_code
def yX7_run : MethodName := ⟨RX7, "run", "(I)I"⟩
abbrev cX7_air : ByteArray := prog_1_method_18_code
def yX7_air : MethodName := ⟨RX7, "air", "(II)I"⟩
abbrev cX7_coordinator : ByteArray := prog_1_method_19_code
def yX7_coordinator : MethodName := ⟨RX7, "coordinator", "(II)I"⟩
abbrev cX7_device : ByteArray := prog_1_method_20_code
def yX7_device : MethodName := ⟨RX7, "device", "(II)I"⟩
abbrev cX7_count : ByteArray := prog_1_method_21_code
def yX7_count : MethodName := ⟨RX7, "count", "(I)I"⟩
abbrev cX7_deviceAt : ByteArray := prog_1_method_22_code
def yX7_deviceAt : MethodName := ⟨RX7, "deviceAt", "(I)LPromisedSlots$Device;"⟩
abbrev cX7_coordinatorAt : ByteArray := prog_1_method_23_code
def yX7_coordinatorAt : MethodName := ⟨RX7, "coordinatorAt", "(I)LPromisedSlots$Coordinator;"⟩
abbrev cX7_faultOfText : ByteArray := prog_1_method_24_code
def yX7_faultOfText : MethodName := ⟨RX7, "faultOfText", "()I"⟩
abbrev cX7_takeLayout : ByteArray := prog_1_method_25_code
def yX7_takeLayout : MethodName := ⟨RX7, "takeLayout", "()V"⟩
abbrev cX7_promiserOf : ByteArray := prog_1_method_26_code
def yX7_promiserOf : MethodName := ⟨RX7, "promiserOf", "(I)LPromisedSlots$Coordinator;"⟩
abbrev cX7_orphans : ByteArray := prog_1_method_27_code
def yX7_orphans : MethodName := ⟨RX7, "orphans", "()I"⟩
abbrev cX7_nextToBeacon : ByteArray := prog_1_method_28_code
def yX7_nextToBeacon : MethodName := ⟨RX7, "nextToBeacon", "()I"⟩
abbrev cX7_activePart : ByteArray := prog_1_method_29_code
def yX7_activePart : MethodName := ⟨RX7, "activePart", "(ILPromisedSlots$Coordinator;)I"⟩
abbrev cX7_hearBeacon : ByteArray := prog_1_method_30_code
def yX7_hearBeacon : MethodName := ⟨RX7, "hearBeacon", "(I)V"⟩
abbrev cX7_keepPromises : ByteArray := prog_1_method_31_code
def yX7_keepPromises : MethodName := ⟨RX7, "keepPromises", "(LPromisedSlots$Coordinator;)I"⟩
def RX8 : String := "PromisedSlotsModel"
def TX8 : u_T := fun k => match k with
  | 0 => ("PromisedSlotsModel", "length", "I", false)
  | 1 => ("PromisedSlotsModel", "text", "[I", true)
  | 2 => ("PromisedSlotsModel", "spot", "I", false)
  | 3 => ("PromisedSlotsModel", "causeMany", "I", false)
  | 4 => ("PromisedSlotsModel", "causes", "[I", true)
  | 5 => ("PromisedSlotsModel", "readB", "I", false)
  | 6 => ("PromisedSlotsModel", "readS", "I", false)
  | 7 => ("PromisedSlotsModel", "readLeast", "I", false)
  | 8 => ("PromisedSlotsModel", "readLife", "I", false)
  | 9 => ("PromisedSlotsModel", "readCoords", "I", false)
  | 10 => ("PromisedSlotsModel", "readParent", "[I", true)
  | 11 => ("PromisedSlotsModel", "readStart", "[I", true)
  | 12 => ("PromisedSlotsModel", "readDevices", "I", false)
  | 13 => ("PromisedSlotsModel", "readHome", "[I", true)
  | 14 => ("PromisedSlotsModel", "readLength", "[I", true)
  | 15 => ("PromisedSlotsModel", "readExponent", "[I", true)
  | 16 => ("PromisedSlotsModel", "beat", "I", false)
  | 17 => ("PromisedSlotsModel", "active", "I", false)
  | 18 => ("PromisedSlotsModel", "slot", "I", false)
  | 19 => ("PromisedSlotsModel", "least", "I", false)
  | 20 => ("PromisedSlotsModel", "life", "I", false)
  | 21 => ("PromisedSlotsModel", "now", "I", false)
  | 22 => ("PromisedSlotsModel", "seed", "I", false)
  | 23 => ("PromisedSlotsModel", "went", "I", false)
  | 24 => ("PromisedSlotsModel", "coords", "I", false)
  | 25 => ("PromisedSlotsModel", "parent", "[I", true)
  | 26 => ("PromisedSlotsModel", "start", "[I", true)
  | 27 => ("PromisedSlotsModel", "next", "[I", true)
  | 28 => ("PromisedSlotsModel", "parts", "[I", true)
  | 29 => ("PromisedSlotsModel", "list", "[I", true)
  | 30 => ("PromisedSlotsModel", "promises", "[I", true)
  | 31 => ("PromisedSlotsModel", "promised", "[I", true)
  | 32 => ("PromisedSlotsModel", "slots", "[I", true)
  | 33 => ("PromisedSlotsModel", "idle", "[I", true)
  | 34 => ("PromisedSlotsModel", "air", "[I", true)
  | 35 => ("PromisedSlotsModel", "devices", "I", false)
  | 36 => ("PromisedSlotsModel", "home", "[I", true)
  | 37 => ("PromisedSlotsModel", "size", "[I", true)
  | 38 => ("PromisedSlotsModel", "first", "[I", true)
  | 39 => ("PromisedSlotsModel", "contend", "[I", true)
  | 40 => ("PromisedSlotsModel", "toPromise", "[I", true)
  | 41 => ("PromisedSlotsModel", "sent", "[I", true)
  | 42 => ("PromisedSlotsModel", "up", "[I", true)
  | 43 => ("PromisedSlotsModel", "missed", "[I", true)
  | 44 => ("PromisedSlotsModel", "deaf", "[I", true)
  | 45 => ("PromisedSlotsModel", "does", "[I", true)
  | 46 => ("PromisedSlotsModel", "exponent", "[I", true)
  | 47 => ("PromisedSlotsModel", "looks", "[I", true)
  | 48 => ("PromisedSlotsModel", "tries", "[I", true)
  | 49 => ("PromisedSlotsModel", "hurts", "[I", true)
  | 50 => ("PromisedSlotsModel", "heard", "[I", true)
  | 51 => ("PromisedSlotsModel", "waits", "[I", true)
  | 52 => ("PromisedSlotsModel", "looked", "[I", true)
  | 53 => ("PromisedSlotsModel", "left", "[I", true)
  | 54 => ("PromisedSlotsModel", "hurt", "[I", true)
  | 55 => ("PromisedSlotsModel", "drew", "[I", true)
  | 56 => ("PromisedSlotsModel", "why", "I", false)
  | _ => ("PromisedSlotsModel", "whyOther", "I", false)
def tyX8 : Nat → FieldType := fun k => match k with
  | 0 => .int
  | 1 => .array .int
  | 2 => .int
  | 3 => .int
  | 4 => .array .int
  | 5 => .int
  | 6 => .int
  | 7 => .int
  | 8 => .int
  | 9 => .int
  | 10 => .array .int
  | 11 => .array .int
  | 12 => .int
  | 13 => .array .int
  | 14 => .array .int
  | 15 => .array .int
  | 16 => .int
  | 17 => .int
  | 18 => .int
  | 19 => .int
  | 20 => .int
  | 21 => .int
  | 22 => .int
  | 23 => .int
  | 24 => .int
  | 25 => .array .int
  | 26 => .array .int
  | 27 => .array .int
  | 28 => .array .int
  | 29 => .array .int
  | 30 => .array .int
  | 31 => .array .int
  | 32 => .array .int
  | 33 => .array .int
  | 34 => .array .int
  | 35 => .int
  | 36 => .array .int
  | 37 => .array .int
  | 38 => .array .int
  | 39 => .array .int
  | 40 => .array .int
  | 41 => .array .int
  | 42 => .array .int
  | 43 => .array .int
  | 44 => .array .int
  | 45 => .array .int
  | 46 => .array .int
  | 47 => .array .int
  | 48 => .array .int
  | 49 => .array .int
  | 50 => .array .int
  | 51 => .array .int
  | 52 => .array .int
  | 53 => .array .int
  | 54 => .array .int
  | 55 => .array .int
  | 56 => .int
  | _ => .int
abbrev wsX80 : List Cond := u_ws RX8 TX8 58
theorem nmX8 : ∀ a, a < 58 → ∀ b, b < 58 → a ≠ b → (TX8 a).2.1 ≠ (TX8 b).2.1 := by decide +kernel
theorem tyX8_ok : ∀ k, k < 58 → parseFieldDescriptor (TX8 k).2.2.1 = some (tyX8 k) := by decide +kernel
abbrev cX8_init : ByteArray := prog_10_method_1_code
def yX8_init : MethodName := ⟨RX8, "<init>", "()V"⟩
abbrev cX8_in : ByteArray := prog_10_method_2_code
def yX8_in : MethodName := ⟨RX8, "in", "(JJJ)Z"⟩
abbrev cX8_has : ByteArray := prog_10_method_3_code
def yX8_has : MethodName := ⟨RX8, "has", "(II)Z"⟩
abbrev cX8_refuses : ByteArray := prog_10_method_4_code
def yX8_refuses : MethodName := ⟨RX8, "refuses", "(III)I"⟩
abbrev cX8_refusesText : ByteArray := prog_10_method_5_code
def yX8_refusesText : MethodName := ⟨RX8, "refusesText", "(III)I"⟩
abbrev cX8_cause : ByteArray := prog_10_method_6_code
def yX8_cause : MethodName := ⟨RX8, "cause", "(I)I"⟩
abbrev cX8_empty : ByteArray := prog_10_method_7_code
def yX8_empty : MethodName := ⟨RX8, "empty", "()V"⟩
abbrev cX8_beatOf : ByteArray := prog_10_method_8_code
def yX8_beatOf : MethodName := ⟨RX8, "beatOf", "(I)I"⟩
abbrev cX8_coordIs : ByteArray := prog_10_method_9_code
def yX8_coordIs : MethodName := ⟨RX8, "coordIs", "(II)V"⟩
abbrev cX8_deviceIs : ByteArray := prog_10_method_10_code
def yX8_deviceIs : MethodName := ⟨RX8, "deviceIs", "(III)V"⟩
abbrev cX8_write : ByteArray := prog_10_method_11_code
def yX8_write : MethodName := ⟨RX8, "write", "(I)I"⟩
abbrev cX8_wipe : ByteArray := prog_10_method_12_code
def yX8_wipe : MethodName := ⟨RX8, "wipe", "()I"⟩
abbrev cX8_letterAt : ByteArray := prog_10_method_13_code
def yX8_letterAt : MethodName := ⟨RX8, "letterAt", "(I)I"⟩
abbrev cX8_number : ByteArray := prog_10_method_14_code
def yX8_number : MethodName := ⟨RX8, "number", "(III)I"⟩
abbrev cX8_meets : ByteArray := prog_10_method_15_code
def yX8_meets : MethodName := ⟨RX8, "meets", "([IIIII)I"⟩
abbrev cX8_ordersItem : ByteArray := prog_10_method_16_code
def yX8_ordersItem : MethodName := ⟨RX8, "ordersItem", "()V"⟩
abbrev cX8_coordItem : ByteArray := prog_10_method_17_code
def yX8_coordItem : MethodName := ⟨RX8, "coordItem", "()V"⟩
abbrev cX8_deviceItem : ByteArray := prog_10_method_18_code
def yX8_deviceItem : MethodName := ⟨RX8, "deviceItem", "()V"⟩
abbrev cX8_item : ByteArray := prog_10_method_19_code
def yX8_item : MethodName := ⟨RX8, "item", "(IZ)V"⟩
abbrev cX8_readAll : ByteArray := prog_10_method_20_code
def yX8_readAll : MethodName := ⟨RX8, "readAll", "()I"⟩
abbrev cX8_fault : ByteArray := prog_10_method_21_code
def yX8_fault : MethodName := ⟨RX8, "fault", "()I"⟩
abbrev cX8_lay : ByteArray := prog_10_method_22_code
def yX8_lay : MethodName := ⟨RX8, "lay", "()I"⟩
abbrev cX8_begin : ByteArray := prog_10_method_23_code
def yX8_begin : MethodName := ⟨RX8, "begin", "()V"⟩
abbrev cX8_coordBegins : ByteArray := prog_10_method_24_code
def yX8_coordBegins : MethodName := ⟨RX8, "coordBegins", "(III)V"⟩
abbrev cX8_deviceBegins : ByteArray := prog_10_method_25_code
def yX8_deviceBegins : MethodName := ⟨RX8, "deviceBegins", "(I)V"⟩
abbrev cX8_isCoord : ByteArray := prog_10_method_26_code
def yX8_isCoord : MethodName := ⟨RX8, "isCoord", "(I)Z"⟩
abbrev cX8_isDevice : ByteArray := prog_10_method_27_code
def yX8_isDevice : MethodName := ⟨RX8, "isDevice", "(I)Z"⟩
abbrev cX8_nest : ByteArray := prog_10_method_28_code
def yX8_nest : MethodName := ⟨RX8, "nest", "(II)I"⟩
abbrev cX8_seed : ByteArray := prog_10_method_29_code
def yX8_seed : MethodName := ⟨RX8, "seed", "(I)I"⟩
abbrev cX8_taken : ByteArray := prog_10_method_30_code
def yX8_taken : MethodName := ⟨RX8, "taken", "(I)I"⟩
abbrev cX8_shared : ByteArray := prog_10_method_31_code
def yX8_shared : MethodName := ⟨RX8, "shared", "(I)I"⟩
abbrev cX8_firstSlot : ByteArray := prog_10_method_32_code
def yX8_firstSlot : MethodName := ⟨RX8, "firstSlot", "(II)I"⟩
abbrev cX8_promiseOf : ByteArray := prog_10_method_33_code
def yX8_promiseOf : MethodName := ⟨RX8, "promiseOf", "(II)I"⟩
abbrev cX8_letGo : ByteArray := prog_10_method_34_code
def yX8_letGo : MethodName := ⟨RX8, "letGo", "(II)V"⟩
abbrev cX8_goesFrom : ByteArray := prog_10_method_35_code
def yX8_goesFrom : MethodName := ⟨RX8, "goesFrom", "(II)I"⟩
abbrev cX8_join : ByteArray := prog_10_method_36_code
def yX8_join : MethodName := ⟨RX8, "join", "(II)I"⟩
abbrev cX8_drop : ByteArray := prog_10_method_37_code
def yX8_drop : MethodName := ⟨RX8, "drop", "(I)I"⟩
abbrev cX8_load : ByteArray := prog_10_method_38_code
def yX8_load : MethodName := ⟨RX8, "load", "(III)I"⟩
abbrev cX8_deafen : ByteArray := prog_10_method_39_code
def yX8_deafen : MethodName := ⟨RX8, "deafen", "(II)I"⟩
abbrev cX8_scan : ByteArray := prog_10_method_40_code
def yX8_scan : MethodName := ⟨RX8, "scan", "(I)I"⟩
abbrev cX8_hasPromise : ByteArray := prog_10_method_41_code
def yX8_hasPromise : MethodName := ⟨RX8, "hasPromise", "(I)Z"⟩
abbrev cX8_ask : ByteArray := prog_10_method_42_code
def yX8_ask : MethodName := ⟨RX8, "ask", "(II)I"⟩
abbrev cX8_release : ByteArray := prog_10_method_43_code
def yX8_release : MethodName := ⟨RX8, "release", "(I)I"⟩
abbrev cX8_promise : ByteArray := prog_10_method_44_code
def yX8_promise : MethodName := ⟨RX8, "promise", "(III)I"⟩
abbrev cX8_draws : ByteArray := prog_10_method_45_code
def yX8_draws : MethodName := ⟨RX8, "draws", "(I)V"⟩
abbrev cX8_begins : ByteArray := prog_10_method_46_code
def yX8_begins : MethodName := ⟨RX8, "begins", "(I)V"⟩
abbrev cX8_goneFrame : ByteArray := prog_10_method_47_code
def yX8_goneFrame : MethodName := ⟨RX8, "goneFrame", "(I)V"⟩
abbrev cX8_beacon : ByteArray := prog_10_method_48_code
def yX8_beacon : MethodName := ⟨RX8, "beacon", "(I)V"⟩
abbrev cX8_stepA : ByteArray := prog_10_method_49_code
def yX8_stepA : MethodName := ⟨RX8, "stepA", "(I)V"⟩
abbrev cX8_stepsBC : ByteArray := prog_10_method_50_code
def yX8_stepsBC : MethodName := ⟨RX8, "stepsBC", "(II)V"⟩
abbrev cX8_sending : ByteArray := prog_10_method_51_code
def yX8_sending : MethodName := ⟨RX8, "sending", "(II)I"⟩
abbrev cX8_stepD : ByteArray := prog_10_method_52_code
def yX8_stepD : MethodName := ⟨RX8, "stepD", "(Z)V"⟩
abbrev cX8_stepE : ByteArray := prog_10_method_53_code
def yX8_stepE : MethodName := ⟨RX8, "stepE", "()V"⟩
abbrev cX8_stepF : ByteArray := prog_10_method_54_code
def yX8_stepF : MethodName := ⟨RX8, "stepF", "()I"⟩
abbrev cX8_ends : ByteArray := prog_10_method_55_code
def yX8_ends : MethodName := ⟨RX8, "ends", "(I)I"⟩
abbrev cX8_uses : ByteArray := prog_10_method_56_code
def yX8_uses : MethodName := ⟨RX8, "uses", "(I)I"⟩
abbrev cX8_part : ByteArray := prog_10_method_57_code
def yX8_part : MethodName := ⟨RX8, "part", "(I)I"⟩
abbrev cX8_run : ByteArray := prog_10_method_58_code
def yX8_run : MethodName := ⟨RX8, "run", "(I)I"⟩
abbrev cX8_air : ByteArray := prog_10_method_59_code
def yX8_air : MethodName := ⟨RX8, "air", "(II)I"⟩
abbrev cX8_coordinator : ByteArray := prog_10_method_60_code
def yX8_coordinator : MethodName := ⟨RX8, "coordinator", "(II)I"⟩
abbrev cX8_device : ByteArray := prog_10_method_61_code
def yX8_device : MethodName := ⟨RX8, "device", "(II)I"⟩
abbrev cX8_count : ByteArray := prog_10_method_62_code
def yX8_count : MethodName := ⟨RX8, "count", "(I)I"⟩
abbrev cX8_orphans : ByteArray := prog_10_method_63_code
def yX8_orphans : MethodName := ⟨RX8, "orphans", "()I"⟩
def RJ7 : String := "java/util/Arrays"
abbrev cJ7_fill_53178 : ByteArray := prog_15_method_103_code
def yJ7_fill_53178 : MethodName := ⟨RJ7, "fill", "([II)V"⟩
/-- the tables' words that last over calls -/
def U0 : List Cond := lw_tbl.filter goodWord
theorem mkU (i : Nat) (w : Cond) (h : lw_tbl[i]? = some w) (g : goodWord w = true) : w ∈ U0 := List.mem_filter.mpr ⟨List.mem_of_getElem? h, g⟩
theorem U0_good {w : Cond} (h : w ∈ U0) : (w.onTables && w.keeps) = true ∨ ∃ ty, w = .arrayClass ty := good_of_word (List.mem_filter.mp h).2
theorem U0_tbl {w : Cond} (h : w ∈ U0) : w ∈ lw_tbl := (List.mem_filter.mp h).1
def isNest : Cond → Bool
  | .fieldLinkNest .. => true
  | .methodLinkNest .. => true
  | _ => false
/-- the tables' words on nest mates -/
def NW : List Cond := lw_tbl.filter isNest
theorem mkN (i : Nat) (w : Cond) (h : lw_tbl[i]? = some w) (g : isNest w = true) : w ∈ NW := List.mem_filter.mpr ⟨List.mem_of_getElem? h, g⟩
theorem NW_tbl {w : Cond} (h : w ∈ NW) : w ∈ lw_tbl := (List.mem_filter.mp h).1
def hasN (U : State) : Prop := ∀ w ∈ NW, va_Nw w U
theorem hasN.warm {s U : State} (hW : s.WarmedH U.vm) (h : hasN s) : hasN U := by
  intro w hw
  have h1 := h w hw
  have h2 := (List.mem_filter.mp hw).2
  cases w <;> first | exact va_Nw.warmF hW h1 | exact va_Nw.warmM hW h1 | (simp [isNest] at h2)
theorem hasN.same {u U : State} (h : u.vm = U.vm) (hz : hasN u) : hasN U := by
  intro w hw
  have h1 := hz w hw
  have h2 := (List.mem_filter.mp hw).2
  cases w <;> first | exact va_Nw.same rfl h h1 | (simp [isNest] at h2)
theorem inX0 : ∀ w ∈ u_ws RX0 TX0 5, w ∈ U0 := by decide +kernel
theorem inX1 : ∀ w ∈ u_ws RX1 TX1 7, w ∈ U0 := by decide +kernel
theorem inX2 : ∀ w ∈ u_ws RX2 TX2 20, w ∈ U0 := by decide +kernel
theorem inX3 : ∀ w ∈ u_ws RX3 TX3 12, w ∈ U0 := by decide +kernel
theorem inX4 : ∀ w ∈ u_ws RX4 TX4 4, w ∈ U0 := by decide +kernel
theorem inX5 : ∀ w ∈ u_ws RX5 TX5 4, w ∈ U0 := by decide +kernel
theorem inX6 : ∀ w ∈ u_ws RX6 TX6 2, w ∈ U0 := by decide +kernel
theorem inX7 : ∀ w ∈ u_ws RX7 TX7 10, w ∈ U0 := by decide +kernel
theorem inX8 : ∀ w ∈ u_ws RX8 TX8 58, w ∈ U0 := by decide +kernel
end
section
/-! the pure state: rows of ints, one a cell -/
abbrev St : Type := Nat → Nat → Int32
def up2 (σ : St) (k j : Nat) (v : Int32) : St := fun a => if a = k then upd (σ k) j v else σ a
theorem up2_row (σ : St) (k j : Nat) (v : Int32) : up2 σ k j v k = upd (σ k) j v := by simp [up2]
theorem up2_ne {σ : St} {k j a : Nat} {v : Int32} (h : a ≠ k) : up2 σ k j v a = σ a := by simp [up2, h]
/-! a world: cells by their places in a list, each made of its row -/
def gWs (L : List Nat) (ad : Nat → Nat) (ce : Nat → (Nat → Int32) → va_E) (σ : St) : va_W := L.map (fun k => (ad k, ce k (σ k)))
theorem gWs_at {L : List Nat} {ad : Nat → Nat} {ce : Nat → (Nat → Int32) → va_E} (hn : L.Nodup) {k : Nat} (hk : k ∈ L) (σ : St) : ∃ q, (gWs L ad ce σ)[q]? = some (ad k, ce k (σ k)) ∧ ∀ (j : Nat) (v : Int32), (gWs L ad ce σ).set q (ad k, ce k (upd (σ k) j v)) = gWs L ad ce (up2 σ k j v) := by
  obtain ⟨q, hq⟩ := List.getElem?_of_mem hk
  have hql : q < L.length := (List.getElem?_eq_some_iff.mp hq).1
  refine ⟨q, by simp [gWs, hq], fun j v => ?_⟩
  apply List.ext_getElem?
  intro i
  by_cases hi : i = q
  · subst hi
    rw [List.getElem?_set_self (by simp [gWs]; exact hql)]
    simp [gWs, hq, up2_row]
  · rw [List.getElem?_set_ne (Ne.symm hi)]
    simp only [gWs, List.getElem?_map]
    cases h : L[i]? with
    | none => rfl
    | some k' =>
      have hne : k' ≠ k := by
        intro e
        subst e
        exact hi ((List.getElem?_inj (List.getElem?_eq_some_iff.mp h).1 hn).mp (h.trans hq.symm))
      simp [up2_ne hne]
theorem gWs_D {L : List Nat} {ad : Nat → Nat} {ce : Nat → (Nat → Int32) → va_E} (hn : L.Nodup) (hI : ∀ i ∈ L, ∀ j ∈ L, ad i = ad j → i = j) {A : Nat → Prop} (hA : ∀ k ∈ L, A (ad k)) (σ : St) : va_D A (gWs L ad ce σ) := by
  refine ⟨fun i j x y hx hy hxy => ?_, fun i x hx => ?_⟩
  · simp only [gWs, List.getElem?_map, Option.map_eq_some_iff] at hx hy
    obtain ⟨a, ha, rfl⟩ := hx
    obtain ⟨b, hb, rfl⟩ := hy
    have e := hI a (List.mem_of_getElem? ha) b (List.mem_of_getElem? hb) hxy
    subst e
    exact (List.getElem?_inj (List.getElem?_eq_some_iff.mp ha).1 hn).mp (ha.trans hb.symm)
  · simp only [gWs, List.getElem?_map, Option.map_eq_some_iff] at hx
    obtain ⟨a, ha, rfl⟩ := hx
    exact hA a (List.mem_of_getElem? ha)
/-! words of the pure texts -/
abbrev ix (i : Int32) (n : Nat) : Prop := ¬ (i < 0 ∨ n ≤ i.toNatClampNeg)
abbrev nt (i : Int32) : Nat := i.toNatClampNeg
def vl {α β : Type} (x : α) (k : α → β) : β := k x
theorem vl_e {α β : Type} {x : α} {k : α → β} {y : β} (h : vl x k = y) : k x = y := h
def gd {α : Type} (c : Prop) [Decidable c] (x : Option α) : Option α := if c then x else none
theorem gd_e {α : Type} {c : Prop} [Decidable c] {x : Option α} {y : α} (h : gd c x = some y) : c ∧ x = some y := by
  unfold gd at h
  split at h
  · rename_i h1
    exact ⟨h1, h⟩
  · cases h
theorem gd_t {α : Type} {c : Prop} [Decidable c] {x : Option α} (h : c) : gd c x = x := if_pos h
def cl {α β : Type} (o : Option (α × St)) (k : α → St → Option β) : Option β := match o with
  | none => none
  | some u => k u.1 u.2
theorem cl_e {α β : Type} {o : Option (α × St)} {k : α → St → Option β} {y : β} (h : cl o k = some y) : ∃ r σ, o = some (r, σ) ∧ k r σ = some y := by
  cases o with
  | none => cases h
  | some u => exact ⟨u.1, u.2, rfl, h⟩
theorem cl_s {α β : Type} {o : Option (α × St)} {k : α → St → Option β} {r : α} {σ : St} (h : o = some (r, σ)) : cl o k = k r σ := by subst h; rfl
/-- an answer that may be null: both ways -/
def oc {β : Type} (o : Option Nat) (kn : Option β) (ks : Nat → Option β) : Option β := match o with
  | none => kn
  | some k => ks k
/-- a loop: its body with what goes on at its head -/
def lp {α ρ : Type} (b : (α → Option ρ) → α → Option ρ) : Nat → α → Option ρ
  | 0, _ => none
  | n + 1, a => b (lp b n) a
theorem lp_w {α ρ : Type} {b : (α → Option ρ) → α → Option ρ} {res : ρ} {P : α → Prop} (h : ∀ K : α → Option ρ, (∀ a, K a = some res → P a) → ∀ a, b K a = some res → P a) : ∀ n a, lp b n a = some res → P a := by
  intro n
  induction n with
  | zero => intro a h; cases h
  | succ n ih => intro a ha; exact h (lp b n) ih a ha
def FU : Nat := 3000
/-! the classes of the worlds -/
abbrev classes : List vw_C := [(RX0, TX0, 5), (RX1, TX1, 7), (RX2, TX2, 20), (RX3, TX3, 12), (RX4, TX4, 4), (RX5, TX5, 4), (RX6, TX6, 2), (RX7, TX7, 10), (RX8, TX8, 58)]
/-! a world's make: classes, array classes, the cells' numbers, their addresses, what a cell is by its row -/
abbrev gEv : Type := va_G × List (ClassId × FieldType) × List Nat × (Nat → Nat) × (Nat → (Nat → Int32) → va_E)
abbrev gAd (Γ : gEv) : Nat → Nat := Γ.2.2.2.1
abbrev gWS (Γ : gEv) (σ : St) : va_W := gWs Γ.2.2.1 Γ.2.2.2.1 Γ.2.2.2.2 σ
def gW (Γ : gEv) (σ : St) (H : Heap) : Prop := va_P Γ.1 classes (gWS Γ σ) H
def gK (Γ : gEv) (U : State) : Prop := va_K Γ.1 classes Γ.2.1 U
def gIj (Γ : gEv) : Prop := Γ.2.2.1.Nodup ∧ ∀ i ∈ Γ.2.2.1, ∀ j ∈ Γ.2.2.1, gAd Γ i = gAd Γ j → i = j
def gA (Γ : gEv) : Nat → Prop := fun q => ∃ k, k ∈ Γ.2.2.1 ∧ q = gAd Γ k
theorem gW_D {Γ : gEv} (hI : gIj Γ) (σ : St) : va_D (gA Γ) (gWS Γ σ) := gWs_D hI.1 hI.2 (fun k hk => ⟨k, hk, rfl⟩) σ
/-- what a method stands on -/
def gFx (p : Program) (m : MethodId) (c : Code) (cc : ByteArray) (nL : Nat) (s : State) (args : Array Value) (own : String) (Γ : gEv) : Prop :=
  p.tables.exec = Jvm.exec ∧ c.code = cc ∧ c.maxLocals = nL ∧ s.vm.findClass own = some m.cls ∧ (∀ w ∈ U0, w.before args s = true) ∧ hasN s ∧ gK Γ s ∧ gIj Γ
def gBx (p : Program) (m : MethodId) (meth : Method) (c : Code) (cc : ByteArray) (nL : Nat) (rt : Option FieldType) (s : State) (args : Array Value) (own : String) (Γ : gEv) : Prop :=
  gFx p m c cc nL s args own Γ ∧ meth.sig.returnType = rt ∧ meth.locks = false
def gPre (Γ : gEv) (σ : St) (U : State) : Prop := gW Γ σ U.heap ∧ gK Γ U ∧ hasN U
abbrev gPi (Γ : gEv) (r : Int32) (σ' : St) : Array Value → State → Outcome → State → Prop := va_Qi (fun (x : Int32) (_ : Unit) => x = r) (fun _ t => gW Γ σ' t.heap) (gA Γ)
abbrev gPv (Γ : gEv) (σ' : St) : Array Value → State → Outcome → State → Prop := va_Qv (fun (_ : Unit) => True) (fun _ t => gW Γ σ' t.heap) (gA Γ)
abbrev gPq (Γ : gEv) (r : Option Nat) (σ' : St) : Array Value → State → Outcome → State → Prop := va_Qq (fun (x : Option Nat) (_ : Unit) => x = r.map (gAd Γ)) (fun _ t => gW Γ σ' t.heap) (gA Γ)
abbrev gMi (l : Launch) (y : MethodName) (cc : ByteArray) (n : Nat) (rt : FieldType) (rm : Room) (av : List Value) (Γ : gEv) (σ : St) (r : Int32) (σ' : St) : Prop :=
  Met l y (.code y cc n (some rt) :: U0) rm (va_Pc av (gPre Γ σ)) (gPi Γ r σ') 0 0 (gA Γ)
abbrev gMv (l : Launch) (y : MethodName) (cc : ByteArray) (n : Nat) (rm : Room) (av : List Value) (Γ : gEv) (σ : St) (σ' : St) : Prop :=
  Met l y (.code y cc n none :: U0) rm (va_Pc av (gPre Γ σ)) (gPv Γ σ') 0 0 (gA Γ)
abbrev gMq (l : Launch) (y : MethodName) (cc : ByteArray) (n : Nat) (rt : FieldType) (rm : Room) (av : List Value) (Γ : gEv) (σ : St) (r : Option Nat) (σ' : St) : Prop :=
  Met l y (.code y cc n (some rt) :: U0) rm (va_Pc av (gPre Γ σ)) (gPq Γ r σ') 0 0 (gA Γ)
abbrev gQi (below : List Frame) (args : Array Value) (s : State) (Γ : gEv) (r : Int32) (σ' : St) : State → Prop := MQ below (gPi Γ r σ') args s 0 0 (gA Γ)
abbrev gQv (below : List Frame) (args : Array Value) (s : State) (Γ : gEv) (σ' : St) : State → Prop := MQ below (gPv Γ σ') args s 0 0 (gA Γ)
abbrev gQq (below : List Frame) (args : Array Value) (s : State) (Γ : gEv) (r : Option Nat) (σ' : St) : State → Prop := MQ below (gPq Γ r σ') args s 0 0 (gA Γ)
theorem nb_ok {x : Int32} (h : x = 0 ∨ x = 1) : narrow .boolean (.int x) = .int x := by rcases h with rfl | rfl <;> rfl
theorem nb_fit {x : Int32} (h : x = 0 ∨ x = 1) : fits .boolean (.int x) = true := by rcases h with rfl | rfl <;> rfl
theorem g_blind {av : List Value} {Γ : gEv} {σ : St} : FrameBlind (va_Pc av (gPre Γ σ)) := fun a U g mk q => ⟨q.1, q.2.1, va_K.moved (u := U) (U := U.calling g mk a) (Vm.Alike.refl U.vm) q.2.2.1, hasN.same (u := U) (U := U.calling g mk a) rfl q.2.2.2⟩
theorem g_good {own C : String} {idx : Nat} {y : MethodName} {bytes : ByteArray} {maxL : Nat} {rt : Option FieldType} (hl1 : Cond.methodLink own idx y ∈ U0) (hl2 : Cond.instanceMethod y ∈ U0) (hl3 : Cond.selects C y y ∈ U0) (hl4 : Cond.initialized C ∈ U0) (hl5 : Cond.code y bytes maxL rt ∈ U0) : GoodIn U0 (wsV own idx C y (.code y bytes maxL rt :: U0)) := by
  intro w hw
  have h : w ∈ U0 := by
    rcases List.mem_append.mp hw with h | h
    · simp only [List.mem_cons, List.not_mem_nil, or_false] at h
      rcases h with rfl | rfl | rfl | rfl <;> assumption
    · rcases List.mem_cons.mp h with rfl | h
      · exact hl5
      · exact h
  exact ⟨h, U0_good h⟩
theorem g_good1 {y : MethodName} {bytes : ByteArray} {maxL : Nat} {rt : Option FieldType} (hl5 : Cond.code y bytes maxL rt ∈ U0) : GoodIn U0 (.code y bytes maxL rt :: U0) := by
  intro w hw
  have h : w ∈ U0 := by
    rcases List.mem_cons.mp hw with rfl | h
    · exact hl5
    · exact h
  exact ⟨h, U0_good h⟩
section GROWS
variable {p : Program} {l : Launch} {e : Env} {R : Room} {s : State} {m : MethodId} {args : Array Value} {below : List Frame} {meth : Method} {c : Code} {H : Heap} {locs : List Loc} {cells slots : Nat} {Q : State → Prop}
variable {cc : ByteArray} {pc nL : Nat} {ls : Array Slot} {rest st : List Value} {own : String} {Γ : gEv} {σ : St}
theorem g_get (F : gFx p m c cc nL s args own Γ) (hP : gW Γ σ H) {k : Nat} (hk : k ∈ Γ.2.2.1) {ci : Nat} {fs : List Value} (he : Γ.2.2.2.2 k (σ k) = .inr (ci, fs)) {C : String} {T : u_T} {N : Nat} (hc : classes[ci]? = some (C, T, N)) (hin : ∀ w ∈ u_ws C T N, w ∈ U0) (j : Nat) (hj : j < N) {idx : Nat} {ref : String} (hlink : Cond.fieldLink own idx ref (T j).2.1 (T j).2.2.1 ∈ U0) (hsame : (T j).1 = ref) {v : Value} (hv : fs[j]? = some v) (hdg : decode cc pc = .ok (.getfield idx, 3))
    (kk : W p l e R s m args below meth c H locs cells slots Q (F0 m (pc + 3) ls (v :: rest))) : W p l e R s m args below meth c H locs cells slots Q (F0 m pc ls (.ref (gAd Γ k) :: rest)) := by
  obtain ⟨hx, hb, -, hown, hts, -, hK, hI⟩ := F
  obtain ⟨q, hq, -⟩ := gWs_at (ad := gAd Γ) (ce := Γ.2.2.2.2) hI.1 hk σ
  exact va_get hx hb hts hin hown hK hP q (by rw [hq, he]) hc j hj (hts _ hlink) (fun x h => by rw [← hsame]; exact h) hv hdg kk
theorem g_getN (F : gFx p m c cc nL s args own Γ) (hP : gW Γ σ H) {k : Nat} (hk : k ∈ Γ.2.2.1) {ci : Nat} {fs : List Value} (he : Γ.2.2.2.2 k (σ k) = .inr (ci, fs)) {C : String} {T : u_T} {N : Nat} (hc : classes[ci]? = some (C, T, N)) (hin : ∀ w ∈ u_ws C T N, w ∈ U0) (j : Nat) (hj : j < N) {idx : Nat} {ref host : String} (hlink : Cond.fieldLinkNest own idx ref (T j).2.1 (T j).2.2.1 host ∈ NW) (hsame : (T j).1 = ref) {v : Value} (hv : fs[j]? = some v) (hdg : decode cc pc = .ok (.getfield idx, 3))
    (kk : W p l e R s m args below meth c H locs cells slots Q (F0 m (pc + 3) ls (v :: rest))) : W p l e R s m args below meth c H locs cells slots Q (F0 m pc ls (.ref (gAd Γ k) :: rest)) := by
  obtain ⟨hx, hb, -, hown, hts, hN, hK, hI⟩ := F
  obtain ⟨q, hq, -⟩ := gWs_at (ad := gAd Γ) (ce := Γ.2.2.2.2) hI.1 hk σ
  exact va_getN hx hb hts hin hown hK hP q (by rw [hq, he]) hc j hj (va_Nw.use rfl (hN _ hlink)) (fun x h => by rw [← hsame]; exact h) hv hdg kk
theorem g_put (F : gFx p m c cc nL s args own Γ) (hP : gW Γ σ H) (hS : va_S (gA Γ) s.heap H locs) {k : Nat} (hk : k ∈ Γ.2.2.1) {ci : Nat} {fs : List Value} (he : Γ.2.2.2.2 k (σ k) = .inr (ci, fs)) {C : String} {T : u_T} {N : Nat} (hc : classes[ci]? = some (C, T, N)) (hin : ∀ w ∈ u_ws C T N, w ∈ U0) (ty0 : Nat → FieldType) (hty : ∀ k, k < N → parseFieldDescriptor (T k).2.2.1 = some (ty0 k)) (hnm : ∀ a, a < N → ∀ b, b < N → a ≠ b → (T a).2.1 ≠ (T b).2.1) (j : Nat) (hj : j < N) {idx : Nat} {ref : String} (hlink : Cond.fieldLink own idx ref (T j).2.1 (T j).2.2.1 ∈ U0) (hsame : (T j).1 = ref) (hfin : (T j).2.2.2 = false) {v : Value} (hn : narrow (ty0 j) v = v) (hfit : fits (ty0 j) v = true) (hl : j < fs.length) {x : Int32} (hset : Γ.2.2.2.2 k (upd (σ k) j x) = .inr (ci, fs.set j v)) (hdg : decode cc pc = .ok (.putfield idx, 3))
    (kk : ∀ (H1 : Heap) (locs1 : List Loc), gW Γ (up2 σ k j x) H1 → va_S (gA Γ) s.heap H1 locs1 → W p l e R s m args below meth c H1 locs1 cells slots Q (F0 m (pc + 3) ls rest)) : W p l e R s m args below meth c H locs cells slots Q (F0 m pc ls (v :: .ref (gAd Γ k) :: rest)) := by
  obtain ⟨hx, hb, -, hown, hts, -, hK, hI⟩ := F
  obtain ⟨q, hq, hs⟩ := gWs_at (ad := gAd Γ) (ce := Γ.2.2.2.2) hI.1 hk σ
  refine va_put hx hb hts hin ty0 hty hnm hown hK hP (gW_D hI σ) hS q (by rw [hq, he]) hc j hj (hts _ hlink) (fun x h => by rw [← hsame]; exact h) hfin (hty j hj) hn hfit hl hdg (fun H1 locs1 h1 _ h3 => kk H1 locs1 ?_ h3)
  rw [← hset, hs] at h1
  exact h1
theorem g_putN (F : gFx p m c cc nL s args own Γ) (hP : gW Γ σ H) (hS : va_S (gA Γ) s.heap H locs) {k : Nat} (hk : k ∈ Γ.2.2.1) {ci : Nat} {fs : List Value} (he : Γ.2.2.2.2 k (σ k) = .inr (ci, fs)) {C : String} {T : u_T} {N : Nat} (hc : classes[ci]? = some (C, T, N)) (hin : ∀ w ∈ u_ws C T N, w ∈ U0) (ty0 : Nat → FieldType) (hty : ∀ k, k < N → parseFieldDescriptor (T k).2.2.1 = some (ty0 k)) (hnm : ∀ a, a < N → ∀ b, b < N → a ≠ b → (T a).2.1 ≠ (T b).2.1) (j : Nat) (hj : j < N) {idx : Nat} {ref host : String} (hlink : Cond.fieldLinkNest own idx ref (T j).2.1 (T j).2.2.1 host ∈ NW) (hsame : (T j).1 = ref) (hfin : (T j).2.2.2 = false) {v : Value} (hn : narrow (ty0 j) v = v) (hfit : fits (ty0 j) v = true) (hl : j < fs.length) {x : Int32} (hset : Γ.2.2.2.2 k (upd (σ k) j x) = .inr (ci, fs.set j v)) (hdg : decode cc pc = .ok (.putfield idx, 3))
    (kk : ∀ (H1 : Heap) (locs1 : List Loc), gW Γ (up2 σ k j x) H1 → va_S (gA Γ) s.heap H1 locs1 → W p l e R s m args below meth c H1 locs1 cells slots Q (F0 m (pc + 3) ls rest)) : W p l e R s m args below meth c H locs cells slots Q (F0 m pc ls (v :: .ref (gAd Γ k) :: rest)) := by
  obtain ⟨hx, hb, -, hown, hts, hN, hK, hI⟩ := F
  obtain ⟨q, hq, hs⟩ := gWs_at (ad := gAd Γ) (ce := Γ.2.2.2.2) hI.1 hk σ
  refine va_putN hx hb hts hin ty0 hty hnm hown hK hP (gW_D hI σ) hS q (by rw [hq, he]) hc j hj (va_Nw.use rfl (hN _ hlink)) (fun x h => by rw [← hsame]; exact h) hfin (hty j hj) hn hfit hl hdg (fun H1 locs1 h1 _ h3 => kk H1 locs1 ?_ h3)
  rw [← hset, hs] at h1
  exact h1
theorem g_iald (F : gFx p m c cc nL s args own Γ) (hP : gW Γ σ H) {k : Nat} (hk : k ∈ Γ.2.2.1) {cA : ClassId} {n : Nat} (he : Γ.2.2.2.2 k (σ k) = .inl (cA, n, .inl (σ k))) (ht : Γ.2.1[0]? = some (cA, .int)) {i : Int32} (hi : ix i n) (hdg : decode cc pc = .ok (.iaload, 1))
    (kk : W p l e R s m args below meth c H locs cells slots Q (F0 m (pc + 1) ls (.int (σ k (nt i)) :: rest))) : W p l e R s m args below meth c H locs cells slots Q (F0 m pc ls (.int i :: .ref (gAd Γ k) :: rest)) := by
  obtain ⟨hx, hb, -, hown, hts, -, hK, hI⟩ := F
  obtain ⟨q, hq, -⟩ := gWs_at (ad := gAd Γ) (ce := Γ.2.2.2.2) hI.1 hk σ
  exact va_iald hx hb hK hP q 0 (f := σ k) (by rw [hq, he]) ht hi hdg kk
theorem g_iast (F : gFx p m c cc nL s args own Γ) (hP : gW Γ σ H) (hS : va_S (gA Γ) s.heap H locs) {k : Nat} (hk : k ∈ Γ.2.2.1) {cA : ClassId} {n : Nat} (he : ∀ r, Γ.2.2.2.2 k r = .inl (cA, n, .inl r)) (ht : Γ.2.1[0]? = some (cA, .int)) {i x : Int32} (hi : ix i n) (hdg : decode cc pc = .ok (.iastore, 1))
    (kk : ∀ (H1 : Heap) (locs1 : List Loc), gW Γ (up2 σ k (nt i) x) H1 → va_S (gA Γ) s.heap H1 locs1 → W p l e R s m args below meth c H1 locs1 cells slots Q (F0 m (pc + 1) ls rest)) : W p l e R s m args below meth c H locs cells slots Q (F0 m pc ls (.int x :: .int i :: .ref (gAd Γ k) :: rest)) := by
  obtain ⟨hx, hb, -, hown, hts, -, hK, hI⟩ := F
  obtain ⟨q, hq, hs⟩ := gWs_at (ad := gAd Γ) (ce := Γ.2.2.2.2) hI.1 hk σ
  refine va_iast hx hb hK hP (gW_D hI σ) hS q 0 (f := σ k) (by rw [hq, he]) ht hi hdg (fun H1 locs1 h1 _ h3 => kk H1 locs1 ?_ h3)
  rw [← he (upd (σ k) i.toNatClampNeg x), hs] at h1
  exact h1
theorem g_alen (F : gFx p m c cc nL s args own Γ) (hP : gW Γ σ H) {k : Nat} (hk : k ∈ Γ.2.2.1) {cA : ClassId} {x : vp_A} (he : Γ.2.2.2.2 k (σ k) = .inl (cA, x)) {t0 : Nat} {ty : FieldType} (ht : Γ.2.1[t0]? = some (cA, ty)) {v : Int32} (hv : Int32.ofNat x.1 = v) (hdg : decode cc pc = .ok (.arraylength, 1))
    (kk : W p l e R s m args below meth c H locs cells slots Q (F0 m (pc + 1) ls (.int v :: rest))) : W p l e R s m args below meth c H locs cells slots Q (F0 m pc ls (.ref (gAd Γ k) :: rest)) := by
  obtain ⟨hx, hb, -, hown, hts, -, hK, hI⟩ := F
  obtain ⟨q, hq, -⟩ := gWs_at (ad := gAd Γ) (ce := Γ.2.2.2.2) hI.1 hk σ
  exact va_alen hx hb hK hP q t0 (x := x) (by rw [hq, he]) ht hv hdg kk
theorem g_aldq (F : gFx p m c cc nL s args own Γ) (hP : gW Γ σ H) {k : Nat} (hk : k ∈ Γ.2.2.1) {cA : ClassId} {n : Nat} {f : Nat → Option Nat} (he : Γ.2.2.2.2 k (σ k) = .inl (cA, n, .inr (.inr (.inr (.inr f))))) {t0 : Nat} {C : String} (ht : Γ.2.1[t0]? = some (cA, .object C)) {i : Int32} (hi : ix i n) (hdg : decode cc pc = .ok (.aaload, 1))
    (kk : W p l e R s m args below meth c H locs cells slots Q (F0 m (pc + 1) ls (va_rf (f (nt i)) :: rest))) : W p l e R s m args below meth c H locs cells slots Q (F0 m pc ls (.int i :: .ref (gAd Γ k) :: rest)) := by
  obtain ⟨hx, hb, -, hown, hts, -, hK, hI⟩ := F
  obtain ⟨q, hq, -⟩ := gWs_at (ad := gAd Γ) (ce := Γ.2.2.2.2) hI.1 hk σ
  exact va_aldq hx hb hK hP q t0 (f := f) (by rw [hq, he]) ht hi hdg kk
/-! calls -/
theorem g_cwV (F : gFx p m c cc nL s args own Γ) {C : String} {idx : Nat} {y : MethodName} {bytes : ByteArray} {maxL n : Nat} {rt : Option FieldType} {rm : Room} (hl1 : Cond.methodLink own idx y ∈ U0) (hl2 : Cond.instanceMethod y ∈ U0) (hl3 : Cond.selects C y y ∈ U0) (hl4 : Cond.initialized C ∈ U0) (hl5 : Cond.code y bytes maxL rt ∈ U0)
    (hd : y.cls = C ∧ y.cls ≠ "java/lang/invoke/MethodHandle" ∧ y.cls ≠ "java/lang/invoke/VarHandle" ∧ (parseMethodDescriptor y.desc).map (fun d => d.parameters.length) = some n) (hrc : rm.cells = 0) (hrs : rm.slots = 0) (hR : rm.frames + 1 ≤ R.frames ∧ 8 + (maxL + 11) + rm.locals ≤ R.locals) :
    CallW R s args own C idx y bytes maxL rt (.code y bytes maxL rt :: U0) rm 0 0 n := cwV n F.2.2.2.2.1 (g_good hl1 hl2 hl3 hl4 hl5) rfl hrc hrs hd hR
theorem g_cwS (F : gFx p m c cc nL s args own Γ) {idx : Nat} {y : MethodName} {bytes : ByteArray} {maxL n : Nat} {rt : Option FieldType} {rm : Room} (hl1 : Cond.methodLink own idx y ∈ U0) (hl2 : Cond.static y ∈ U0) (hl4 : Cond.initialized y.cls ∈ U0) (hl5 : Cond.code y bytes maxL rt ∈ U0)
    (hd : y.cls ≠ "java/lang/invoke/MethodHandle" ∧ y.cls ≠ "java/lang/invoke/VarHandle" ∧ (parseMethodDescriptor y.desc).map (fun d => d.parameters.length) = some n) (hrc : rm.cells = 0) (hrs : rm.slots = 0) (hR : rm.frames + 1 ≤ R.frames ∧ 8 + (maxL + 11) + rm.locals ≤ R.locals) :
    CallB R s args own idx y bytes maxL rt (.code y bytes maxL rt :: U0) rm 0 0 n ∧ (Cond.static y).before args s = true := ⟨callB_of n F.2.2.2.2.1 (g_good1 hl5) rfl hrc hrs (F.2.2.2.2.1 _ hl4) (F.2.2.2.2.1 _ hl1) hd hR, F.2.2.2.2.1 _ hl2⟩
variable {y : MethodName} {bytes : ByteArray} {maxL n idx k ci N : Nat} {rt : FieldType} {rm : Room} {As : List Value} {r : Int32} {ro : Option Nat} {σ' : St} {C : String} {T : u_T} {fs : List Value}
theorem g_callVi (F : gFx p m c cc nL s args own Γ) (hP : gW Γ σ H) (hS : va_S (gA Γ) s.heap H locs) (hM : gMi l y bytes maxL rt rm (.ref (gAd Γ k) :: As) Γ σ r σ') (cw : CallW R s args own C idx y bytes maxL (some rt) (.code y bytes maxL (some rt) :: U0) rm 0 0 n) (hk : k ∈ Γ.2.2.1) (he : Γ.2.2.2.2 k (σ k) = .inr (ci, fs)) (hc : classes[ci]? = some (C, T, N))
    (hn : As.length = n) (hsz : ls.size = nL) (hst : st = As.reverse ++ .ref (gAd Γ k) :: rest) (hrest : (rest.map fun v => v.category).sum ≤ 8) (hdg : decode cc pc = .ok (.invokevirtual idx, 3)) (hcs : cells ≤ R.cells ∧ slots ≤ R.slots)
    (kk : ∀ (H1 : Heap) (locs1 : List Loc), gW Γ σ' H1 → va_S (gA Γ) s.heap H1 locs1 → W p l e R s m args below meth c H1 locs1 cells slots Q (F0 m (pc + 3) ls (.int r :: rest))) : W p l e R s m args below meth c H locs cells slots Q (F0 m pc ls st) := by
  obtain ⟨hx, hb, hml, hown, hts, hN, hK, hI⟩ := F
  obtain ⟨q, hq, -⟩ := gWs_at (ad := gAd Γ) (ce := Γ.2.2.2.2) hI.1 hk σ
  rw [he] at hq
  refine va_calli (va_runV (As := As) (rest := rest) ⟨hx, hb, hml, hown, hts⟩ hM cw ⟨g_blind, va_recv hK hP hc hq, fun U hU hW => ⟨rfl, by rw [hU]; exact hP, va_K.moved hW.alike hK, hasN.warm hW hN⟩⟩ rfl hn hsz hst (lv_room hrest) hdg hcs) hS (fun q _ h => h) (fun q h => h) (fun r' u t H1 locs1 ht hvm hw hB _ _ hS1 => ?_)
  subst hw
  subst ht
  exact kk _ locs1 hB hS1
theorem g_callVv (F : gFx p m c cc nL s args own Γ) (hP : gW Γ σ H) (hS : va_S (gA Γ) s.heap H locs) (hM : gMv l y bytes maxL rm (.ref (gAd Γ k) :: As) Γ σ σ') (cw : CallW R s args own C idx y bytes maxL none (.code y bytes maxL none :: U0) rm 0 0 n) (hk : k ∈ Γ.2.2.1) (he : Γ.2.2.2.2 k (σ k) = .inr (ci, fs)) (hc : classes[ci]? = some (C, T, N))
    (hn : As.length = n) (hsz : ls.size = nL) (hst : st = As.reverse ++ .ref (gAd Γ k) :: rest) (hrest : (rest.map fun v => v.category).sum ≤ 8) (hdg : decode cc pc = .ok (.invokevirtual idx, 3)) (hcs : cells ≤ R.cells ∧ slots ≤ R.slots)
    (kk : ∀ (H1 : Heap) (locs1 : List Loc), gW Γ σ' H1 → va_S (gA Γ) s.heap H1 locs1 → W p l e R s m args below meth c H1 locs1 cells slots Q (F0 m (pc + 3) ls rest)) : W p l e R s m args below meth c H locs cells slots Q (F0 m pc ls st) := by
  obtain ⟨hx, hb, hml, hown, hts, hN, hK, hI⟩ := F
  obtain ⟨q, hq, -⟩ := gWs_at (ad := gAd Γ) (ce := Γ.2.2.2.2) hI.1 hk σ
  rw [he] at hq
  refine va_callv (va_runV (As := As) (rest := rest) ⟨hx, hb, hml, hown, hts⟩ hM cw ⟨g_blind, va_recv hK hP hc hq, fun U hU hW => ⟨rfl, by rw [hU]; exact hP, va_K.moved hW.alike hK, hasN.warm hW hN⟩⟩ rfl hn hsz hst (lv_room hrest) hdg hcs) hS (fun q _ h => h) (fun q h => h) (fun u t H1 locs1 ht hvm hw hB _ _ hS1 => ?_)
  subst ht
  exact kk _ locs1 hB hS1
theorem g_callVq (F : gFx p m c cc nL s args own Γ) (hP : gW Γ σ H) (hS : va_S (gA Γ) s.heap H locs) (hM : gMq l y bytes maxL rt rm (.ref (gAd Γ k) :: As) Γ σ ro σ') (cw : CallW R s args own C idx y bytes maxL (some rt) (.code y bytes maxL (some rt) :: U0) rm 0 0 n) (hk : k ∈ Γ.2.2.1) (he : Γ.2.2.2.2 k (σ k) = .inr (ci, fs)) (hc : classes[ci]? = some (C, T, N))
    (hn : As.length = n) (hsz : ls.size = nL) (hst : st = As.reverse ++ .ref (gAd Γ k) :: rest) (hrest : (rest.map fun v => v.category).sum ≤ 8) (hdg : decode cc pc = .ok (.invokevirtual idx, 3)) (hcs : cells ≤ R.cells ∧ slots ≤ R.slots)
    (kk : ∀ (H1 : Heap) (locs1 : List Loc), gW Γ σ' H1 → va_S (gA Γ) s.heap H1 locs1 → W p l e R s m args below meth c H1 locs1 cells slots Q (F0 m (pc + 3) ls (va_rf (ro.map (gAd Γ)) :: rest))) : W p l e R s m args below meth c H locs cells slots Q (F0 m pc ls st) := by
  obtain ⟨hx, hb, hml, hown, hts, hN, hK, hI⟩ := F
  obtain ⟨q, hq, -⟩ := gWs_at (ad := gAd Γ) (ce := Γ.2.2.2.2) hI.1 hk σ
  rw [he] at hq
  refine va_callq (va_runV (As := As) (rest := rest) ⟨hx, hb, hml, hown, hts⟩ hM cw ⟨g_blind, va_recv hK hP hc hq, fun U hU hW => ⟨rfl, by rw [hU]; exact hP, va_K.moved hW.alike hK, hasN.warm hW hN⟩⟩ rfl hn hsz hst (lv_room hrest) hdg hcs) hS (fun q _ h => h) (fun q h => h) (fun r' u t H1 locs1 ht hvm hw hB _ _ hS1 => ?_)
  subst hw
  subst ht
  exact kk _ locs1 hB hS1
theorem g_callSi (F : gFx p m c cc nL s args own Γ) (hP : gW Γ σ H) (hS : va_S (gA Γ) s.heap H locs) (hM : gMi l y bytes maxL rt rm As Γ σ r σ') (cw : CallB R s args own idx y bytes maxL (some rt) (.code y bytes maxL (some rt) :: U0) rm 0 0 n ∧ (Cond.static y).before args s = true)
    (hn : As.length = n) (hsz : ls.size = nL) (hst : st = As.reverse ++ rest) (hrest : (rest.map fun v => v.category).sum ≤ 8) (hdg : decode cc pc = .ok (.invokestatic idx, 3)) (hcs : cells ≤ R.cells ∧ slots ≤ R.slots)
    (kk : ∀ (H1 : Heap) (locs1 : List Loc), gW Γ σ' H1 → va_S (gA Γ) s.heap H1 locs1 → W p l e R s m args below meth c H1 locs1 cells slots Q (F0 m (pc + 3) ls (.int r :: rest))) : W p l e R s m args below meth c H locs cells slots Q (F0 m pc ls st) := by
  obtain ⟨hx, hb, hml, hown, hts, hN, hK, hI⟩ := F
  refine va_calli (va_runS (As := As) (rest := rest) ⟨hx, hb, hml, hown, hts⟩ hM cw ⟨g_blind, fun U hU hW => ⟨rfl, by rw [hU]; exact hP, va_K.moved hW.alike hK, hasN.warm hW hN⟩⟩ rfl hn hsz hst (lv_room hrest) hdg hcs) hS (fun q _ h => h) (fun q h => h) (fun r' u t H1 locs1 ht hvm hw hB _ _ hS1 => ?_)
  subst hw
  subst ht
  exact kk _ locs1 hB hS1
theorem g_callSv (F : gFx p m c cc nL s args own Γ) (hP : gW Γ σ H) (hS : va_S (gA Γ) s.heap H locs) (hM : gMv l y bytes maxL rm As Γ σ σ') (cw : CallB R s args own idx y bytes maxL none (.code y bytes maxL none :: U0) rm 0 0 n ∧ (Cond.static y).before args s = true)
    (hn : As.length = n) (hsz : ls.size = nL) (hst : st = As.reverse ++ rest) (hrest : (rest.map fun v => v.category).sum ≤ 8) (hdg : decode cc pc = .ok (.invokestatic idx, 3)) (hcs : cells ≤ R.cells ∧ slots ≤ R.slots)
    (kk : ∀ (H1 : Heap) (locs1 : List Loc), gW Γ σ' H1 → va_S (gA Γ) s.heap H1 locs1 → W p l e R s m args below meth c H1 locs1 cells slots Q (F0 m (pc + 3) ls rest)) : W p l e R s m args below meth c H locs cells slots Q (F0 m pc ls st) := by
  obtain ⟨hx, hb, hml, hown, hts, hN, hK, hI⟩ := F
  refine va_callv (va_runS (As := As) (rest := rest) ⟨hx, hb, hml, hown, hts⟩ hM cw ⟨g_blind, fun U hU hW => ⟨rfl, by rw [hU]; exact hP, va_K.moved hW.alike hK, hasN.warm hW hN⟩⟩ rfl hn hsz hst (lv_room hrest) hdg hcs) hS (fun q _ h => h) (fun q h => h) (fun u t H1 locs1 ht hvm hw hB _ _ hS1 => ?_)
  subst ht
  exact kk _ locs1 hB hS1
/-! ends -/
theorem g_iret {v : Int32} (B : gBx p m meth c cc nL (some .int) s args own Γ) (hP : gW Γ σ H) (hS : va_S (gA Γ) s.heap H locs) (hf : some (v, σ) = some (r, σ')) (hdg : decode cc pc = .ok (.ireturn, 1)) : W p l e R s m args below meth c H locs 0 0 (gQi below args s Γ r σ') (F0 m pc ls [.int v]) := by
  cases hf
  have hlocks := B.2.2
  exact W.iret B.1.1 B.1.2.1 B.2.1 (fun t ht _ => ⟨⟨_, (), rfl, rfl, by subst ht; exact hP⟩, hS.F ht⟩) hS.2.2 hdg
theorem g_zret {v : Int32} (B : gBx p m meth c cc nL (some .boolean) s args own Γ) (hP : gW Γ σ H) (hS : va_S (gA Γ) s.heap H locs) (hf : some (v, σ) = some (r, σ')) (hv : v = 0 ∨ v = 1) (hdg : decode cc pc = .ok (.ireturn, 1)) : W p l e R s m args below meth c H locs 0 0 (gQi below args s Γ r σ') (F0 m pc ls [.int v]) := by
  cases hf
  have hlocks := B.2.2
  exact W.zret B.1.1 B.1.2.1 B.2.1 (nb_ok hv) (fun t ht _ => ⟨⟨_, (), rfl, rfl, by subst ht; exact hP⟩, hS.F ht⟩) hS.2.2 hdg
theorem g_vret {u : Unit} (B : gBx p m meth c cc nL none s args own Γ) (hP : gW Γ σ H) (hS : va_S (gA Γ) s.heap H locs) (hf : some ((), σ) = some (u, σ')) (hdg : decode cc pc = .ok (.return_, 1)) : W p l e R s m args below meth c H locs 0 0 (gQv below args s Γ σ') (F0 m pc ls []) := by
  cases hf
  have hlocks := B.2.2
  exact W.vret B.1.1 B.1.2.1 B.2.1 (fun t ht _ => ⟨⟨(), rfl, trivial, by subst ht; exact hP⟩, hS.F ht⟩) hS.2.2 hdg
theorem g_aretN {nm : String} (B : gBx p m meth c cc nL (some (.object nm)) s args own Γ) (hP : gW Γ σ H) (hS : va_S (gA Γ) s.heap H locs) (hf : some ((none : Option Nat), σ) = some (ro, σ')) (hdg : decode cc pc = .ok (.areturn, 1)) : W p l e R s m args below meth c H locs 0 0 (gQq below args s Γ ro σ') (F0 m pc ls [.null]) := by
  cases hf
  have hlocks := B.2.2
  exact W.aret B.1.1 B.1.2.1 B.2.1 (Or.inl ⟨_, rfl⟩) (Or.inl rfl) (fun t ht _ => ⟨⟨none, (), rfl, rfl, by subst ht; exact hP⟩, hS.F ht⟩) hS.2.2 hdg
theorem g_aretS {nm : String} (B : gBx p m meth c cc nL (some (.object nm)) s args own Γ) (hP : gW Γ σ H) (hS : va_S (gA Γ) s.heap H locs) (hf : some (some k, σ) = some (ro, σ')) (hdg : decode cc pc = .ok (.areturn, 1)) : W p l e R s m args below meth c H locs 0 0 (gQq below args s Γ ro σ') (F0 m pc ls [.ref (gAd Γ k)]) := by
  cases hf
  have hlocks := B.2.2
  exact W.aret B.1.1 B.1.2.1 B.2.1 (Or.inl ⟨_, rfl⟩) (Or.inr ⟨_, rfl⟩) (fun t ht _ => ⟨⟨some (gAd Γ k), (), rfl, rfl, by subst ht; exact hP⟩, hS.F ht⟩) hS.2.2 hdg
end GROWS
/-! a contract out of a walk from the entry -/
theorem g_entry {l : Launch} {y : MethodName} {cc : ByteArray} {n : Nat} {rt : Option FieldType} {rm : Room} {av : List Value} {Γ : gEv} {σ : St} {Qc : Array Value → State → Outcome → State → Prop} (hy : plainName y.cls = true) (hn : (lg_sl av).length ≤ n) (hI : gIj Γ)
    (body : ∀ (p : Program) (e : Env) (s : State) (m : MethodId) (args : Array Value) (below : List Frame) (meth : Method) (c : Code), gBx p m meth c cc n rt s args y.cls Γ → gW Γ σ s.heap → va_S (gA Γ) s.heap s.heap [] → ∀ ls : Array Slot, lv_has ls n (lv_args 0 av) → W p l e rm s m args below meth c s.heap [] 0 0 (MQ below Qc args s 0 0 (gA Γ)) (F0 m 0 ls [])) :
    Met l y (.code y cc n rt :: U0) rm (va_Pc av (gPre Γ σ)) Qc 0 0 (gA Γ) := by
  refine Met.ofW (cc := cc) (maxL := n) (ret := rt) hy rfl ?_
  intro p e s m args below meth c s₁ B hml hv
  obtain ⟨rfl, hP, hK, hN⟩ := hv
  have hts := atoms_spec (ws := .code y cc n rt :: U0) B.pre
  have hown : s.vm.findClass y.cls = some m.cls := findClass_of_methodNamed B.named
  have hl := lv_entry av (n := n) hn
  rw [lg_entry_eq]
  generalize (lg_sl av ++ List.replicate (n - (lg_sl av).length) Slot.unset).toArray = ls at hl ⊢
  exact body p e s m av.toArray below meth c ⟨⟨B.exec, B.bytes, hml, hown, fun w hw => hts w (List.mem_cons_of_mem _ hw), hN, hK, hI⟩, B.returns, B.notSynchronized⟩ hP va_S.rf ls hl
/-! the class's world: 54 cells -/
abbrev cEv : Type := va_G × ClassId × ClassId × ClassId × (Nat → Nat)
abbrev cAd (E : cEv) : Nat → Nat := E.2.2.2.2
def cn (k : Nat) : Nat := if k = 2 then 200 else if k = 5 then 3 else if k = 9 ∨ k = 10 ∨ k = 15 ∨ k = 16 then 4 else if k < 20 then 8 else if k < 42 then 7 else 384
def cArr (k : Nat) : Prop := k = 2 ∨ k = 5 ∨ (9 ≤ k ∧ k ≤ 13) ∨ (15 ≤ k ∧ k ≤ 19) ∨ (30 ≤ k ∧ k < 46)
/-- which layout a code names -/
def lay (x : Int32) : Nat := if x = 0 then 8 else 14
def layC (b : Nat) : Int32 := if b = 8 then 0 else 1
theorem lay_ok (x : Int32) : lay x = 8 ∨ lay x = 14 := by unfold lay; split <;> simp
theorem layC_ok {b : Nat} (h : b = 8 ∨ b = 14) : lay (layC b) = b := by rcases h with rfl | rfl <;> decide
/-- which device a code in the party names -/
def pdec (x : Int32) : Option Nat := if x = 0 then none else some (46 + (x.toNatClampNeg - 1))
abbrev fs0 (E : cEv) (r : Nat → Int32) : List Value := [.ref (cAd E 7), .int (r 1), .int (r 2), .int (r 3), .int (r 4)]
abbrev fs1 (E : cEv) (k : Nat) (r : Nat → Int32) : List Value := [.int (r 0), .int (r 1), .int (r 2), .int (r 3), .int (r 4), .ref (cAd E (k + 4)), .ref (cAd E (k + 20))]
abbrev fs2 (r : Nat → Int32) : List Value := [.int (r 0), .int (r 1), .int (r 2), .int (r 3), .int (r 4), .int (r 5), .int (r 6), .int (r 7), .int (r 8), .int (r 9), .int (r 10), .int (r 11), .int (r 12), .int (r 13), .int (r 14), .int (r 15), .int (r 16), .int (r 17), .int (r 18), .int (r 19)]
abbrev fs3 (E : cEv) (k : Nat) (r : Nat → Int32) : List Value := [.int (r 0), .int (r 1), .int (r 2), .int (r 3), .int (r 4), .int (r 5), .int (r 6), .ref (cAd E (k + 1)), .ref (cAd E (k + 2)), .ref (cAd E (k + 3)), .ref (cAd E (k + 4)), .ref (cAd E (k + 5))]
abbrev fs4 (E : cEv) (k : Nat) (r : Nat → Int32) : List Value := [.ref (cAd E (k + 4)), .ref (cAd E (k + 8)), .ref (cAd E (k + 12)), .int (r 3)]
abbrev fs5 (E : cEv) (r : Nat → Int32) : List Value := [.ref (cAd E 1), .int (r 1), .int (r 2), .int (r 3)]
abbrev fs6 (E : cEv) (k : Nat) (r : Nat → Int32) : List Value := [.ref (cAd E (k + 1)), .int (r 1)]
abbrev fs7 (E : cEv) (r : Nat → Int32) : List Value := [.ref (cAd E 1), .ref (cAd E 3), .ref (cAd E 4), .ref (cAd E 20), .ref (cAd E 21), .ref (cAd E 6), .ref (cAd E (lay (r 6))), .ref (cAd E (lay (r 7))), .int (r 8), .int (r 9)]
abbrev pyF (E : cEv) (r : Nat → Int32) : Nat → Option Nat := fun j => (pdec (r j)).map (cAd E)
abbrev dvF (E : cEv) : Nat → Option Nat := fun j => some (cAd E (46 + j))
abbrev coF (E : cEv) : Nat → Option Nat := fun j => some (cAd E (22 + j))
def cCe (E : cEv) (k : Nat) (r : Nat → Int32) : va_E :=
  if k = 0 then .inr (7, fs7 E r) else if k = 1 ∨ k = 4 then .inr (6, fs6 E k r) else if k = 3 then .inr (5, fs5 E r) else if k = 6 then .inr (0, fs0 E r)
  else if k = 7 then .inl (E.2.2.2.1, 8, .inr (.inr (.inr (.inr (pyF E r))))) else if k = 8 ∨ k = 14 then .inr (3, fs3 E k r)
  else if k = 20 then .inl (E.2.2.1, 4, .inr (.inr (.inr (.inr (coF E))))) else if k = 21 then .inl (E.2.2.2.1, 8, .inr (.inr (.inr (.inr (dvF E)))))
  else if 22 ≤ k ∧ k < 26 then .inr (1, fs1 E k r) else if 26 ≤ k ∧ k < 30 then .inr (4, fs4 E k r) else if 46 ≤ k then .inr (2, fs2 r) else .inl (E.2.1, cn k, .inl r)
theorem ce_7 (E : cEv) (r : Nat → Int32) : cCe E 0 r = .inr (7, fs7 E r) := rfl
theorem ce_6 (E : cEv) (r : Nat → Int32) {k : Nat} (h : k = 1 ∨ k = 4) : cCe E k r = .inr (6, fs6 E k r) := by rcases h with rfl | rfl <;> rfl
theorem ce_5 (E : cEv) (r : Nat → Int32) : cCe E 3 r = .inr (5, fs5 E r) := rfl
theorem ce_0 (E : cEv) (r : Nat → Int32) : cCe E 6 r = .inr (0, fs0 E r) := rfl
theorem ce_p (E : cEv) (r : Nat → Int32) : cCe E 7 r = .inl (E.2.2.2.1, 8, .inr (.inr (.inr (.inr (pyF E r))))) := rfl
theorem ce_3 (E : cEv) (r : Nat → Int32) {k : Nat} (h : k = 8 ∨ k = 14) : cCe E k r = .inr (3, fs3 E k r) := by rcases h with rfl | rfl <;> rfl
theorem ce_c (E : cEv) (r : Nat → Int32) : cCe E 20 r = .inl (E.2.2.1, 4, .inr (.inr (.inr (.inr (coF E))))) := rfl
theorem ce_d (E : cEv) (r : Nat → Int32) : cCe E 21 r = .inl (E.2.2.2.1, 8, .inr (.inr (.inr (.inr (dvF E))))) := rfl
theorem ce_1 (E : cEv) (r : Nat → Int32) {c : Nat} (h : c < 4) : cCe E (22 + c) r = .inr (1, fs1 E (22 + c) r) := by
  unfold cCe; repeat (first | rw [if_neg (by omega)] | rw [if_pos (by omega)])
theorem ce_4 (E : cEv) (r : Nat → Int32) {c : Nat} (h : c < 4) : cCe E (26 + c) r = .inr (4, fs4 E (26 + c) r) := by
  unfold cCe; repeat (first | rw [if_neg (by omega)] | rw [if_pos (by omega)])
theorem ce_2 (E : cEv) (r : Nat → Int32) {d : Nat} (h : d < 8) : cCe E (46 + d) r = .inr (2, fs2 r) := by
  unfold cCe; repeat (first | rw [if_neg (by omega)] | rw [if_pos (by omega)])
theorem ce_a (E : cEv) (r : Nat → Int32) {k : Nat} (h : cArr k) : cCe E k r = .inl (E.2.1, cn k, .inl r) := by
  unfold cArr at h
  unfold cCe; repeat rw [if_neg (by omega)]
theorem cArr_lt {k : Nat} (h : cArr k) : k < 54 := by unfold cArr at h; omega
abbrev cL : List Nat := List.range 54
abbrev cTys (E : cEv) : List (ClassId × FieldType) := [(E.2.1, .int), (E.2.2.1, .object "PromisedSlots$Coordinator"), (E.2.2.2.1, .object "PromisedSlots$Device")]
abbrev cG (E : cEv) : gEv := (E.1, cTys E, cL, cAd E, cCe E)
theorem cL_nd : cL.Nodup := List.nodup_range
theorem cin {k : Nat} (h : k < 54) : k ∈ cL := List.mem_range.mpr h
/-- a device of the party: the code at that place names one -/
abbrev isPy (x : Int32) : Prop := 0 < x ∧ x ≤ 8
theorem isPy_ne {x : Int32} (h : isPy x) : ¬ x = 0 := by
  intro e
  subst e
  exact absurd h.1 (by decide)
theorem isPy_lt {x : Int32} (h : isPy x) : nt x - 1 < 8 := by
  have h1 := Int32.lt_iff_toInt_lt.mp h.1
  have h2 := Int32.le_iff_toInt_le.mp h.2
  have e0 : (0 : Int32).toInt = 0 := by decide
  have e8 : (8 : Int32).toInt = 8 := by decide
  rw [e0] at h1
  rw [e8] at h2
  show x.toInt.toNat - 1 < 8
  omega
theorem pyF_up (E : cEv) (r : Nat → Int32) (j : Nat) {d : Nat} (hd : d < 8) : pyF E (upd r j (nI (d + 1))) = va_up (pyF E r) j (some (cAd E (46 + d))) := by
  funext q
  by_cases h : q = j
  · subst h
    have h1 : ¬ nI (d + 1) = 0 := nI_ne0 (by omega) (by omega)
    have h2 : (nI (d + 1)).toNatClampNeg = d + 1 := nI_clamp (by omega)
    simp [pyF, va_up, upd, pdec, h1, h2]
  · simp [pyF, va_up, upd, h]
theorem ix_lt {i : Int32} {n : Nat} (h : ix i n) : nt i < n := Nat.not_le.mp fun q => h (Or.inr q)
section CROWS
variable {p : Program} {l : Launch} {e : Env} {R : Room} {s : State} {m : MethodId} {args : Array Value} {below : List Frame} {meth : Method} {c : Code} {H : Heap} {locs : List Loc} {cells slots : Nat} {Q : State → Prop}
variable {cc : ByteArray} {pc nL : Nat} {ls : Array Slot} {rest : List Value} {own : String} {E : cEv} {σ : St}
theorem c_iald (F : gFx p m c cc nL s args own (cG E)) (hP : gW (cG E) σ H) {k : Nat} (hk : cArr k) {i : Int32} (hi : ix i (cn k)) (hdg : decode cc pc = .ok (.iaload, 1))
    (kk : W p l e R s m args below meth c H locs cells slots Q (F0 m (pc + 1) ls (.int (σ k (nt i)) :: rest))) : W p l e R s m args below meth c H locs cells slots Q (F0 m pc ls (.int i :: .ref (cAd E k) :: rest)) :=
  g_iald F hP (cin (cArr_lt hk)) (ce_a E _ hk) rfl hi hdg kk
theorem c_iast (F : gFx p m c cc nL s args own (cG E)) (hP : gW (cG E) σ H) (hS : va_S (gA (cG E)) s.heap H locs) {k : Nat} (hk : cArr k) {i x : Int32} (hi : ix i (cn k)) (hdg : decode cc pc = .ok (.iastore, 1))
    (kk : ∀ (H1 : Heap) (locs1 : List Loc), gW (cG E) (up2 σ k (nt i) x) H1 → va_S (gA (cG E)) s.heap H1 locs1 → W p l e R s m args below meth c H1 locs1 cells slots Q (F0 m (pc + 1) ls rest)) : W p l e R s m args below meth c H locs cells slots Q (F0 m pc ls (.int x :: .int i :: .ref (cAd E k) :: rest)) :=
  g_iast F hP hS (cin (cArr_lt hk)) (fun r => ce_a E r hk) rfl hi hdg kk
theorem c_alen (F : gFx p m c cc nL s args own (cG E)) (hP : gW (cG E) σ H) {k : Nat} (hk : cArr k) (hdg : decode cc pc = .ok (.arraylength, 1))
    (kk : W p l e R s m args below meth c H locs cells slots Q (F0 m (pc + 1) ls (.int (nI (cn k)) :: rest))) : W p l e R s m args below meth c H locs cells slots Q (F0 m pc ls (.ref (cAd E k) :: rest)) :=
  g_alen F hP (cin (cArr_lt hk)) (x := (cn k, .inl (σ k))) (ce_a E _ hk) (t0 := 0) rfl rfl hdg kk
theorem c_alenC (F : gFx p m c cc nL s args own (cG E)) (hP : gW (cG E) σ H) (hdg : decode cc pc = .ok (.arraylength, 1))
    (kk : W p l e R s m args below meth c H locs cells slots Q (F0 m (pc + 1) ls (.int 4 :: rest))) : W p l e R s m args below meth c H locs cells slots Q (F0 m pc ls (.ref (cAd E 20) :: rest)) :=
  g_alen F hP (cin (by decide)) (ce_c E (σ 20)) (t0 := 1) rfl (show Int32.ofNat 4 = 4 by decide) hdg kk
theorem c_alenD (F : gFx p m c cc nL s args own (cG E)) (hP : gW (cG E) σ H) (hdg : decode cc pc = .ok (.arraylength, 1))
    (kk : W p l e R s m args below meth c H locs cells slots Q (F0 m (pc + 1) ls (.int 8 :: rest))) : W p l e R s m args below meth c H locs cells slots Q (F0 m pc ls (.ref (cAd E 21) :: rest)) :=
  g_alen F hP (cin (by decide)) (ce_d E (σ 21)) (t0 := 2) rfl (show Int32.ofNat 8 = 8 by decide) hdg kk
theorem c_alenP (F : gFx p m c cc nL s args own (cG E)) (hP : gW (cG E) σ H) (hdg : decode cc pc = .ok (.arraylength, 1))
    (kk : W p l e R s m args below meth c H locs cells slots Q (F0 m (pc + 1) ls (.int 8 :: rest))) : W p l e R s m args below meth c H locs cells slots Q (F0 m pc ls (.ref (cAd E 7) :: rest)) :=
  g_alen F hP (cin (by decide)) (ce_p E (σ 7)) (t0 := 2) rfl (show Int32.ofNat 8 = 8 by decide) hdg kk
theorem c_aldC (F : gFx p m c cc nL s args own (cG E)) (hP : gW (cG E) σ H) {i : Int32} (hi : ix i 4) (hdg : decode cc pc = .ok (.aaload, 1))
    (kk : W p l e R s m args below meth c H locs cells slots Q (F0 m (pc + 1) ls (.ref (cAd E (22 + nt i)) :: rest))) : W p l e R s m args below meth c H locs cells slots Q (F0 m pc ls (.int i :: .ref (cAd E 20) :: rest)) :=
  g_aldq F hP (cin (by decide)) (f := coF E) (ce_c E (σ 20)) (t0 := 1) rfl hi hdg kk
theorem c_aldD (F : gFx p m c cc nL s args own (cG E)) (hP : gW (cG E) σ H) {i : Int32} (hi : ix i 8) (hdg : decode cc pc = .ok (.aaload, 1))
    (kk : W p l e R s m args below meth c H locs cells slots Q (F0 m (pc + 1) ls (.ref (cAd E (46 + nt i)) :: rest))) : W p l e R s m args below meth c H locs cells slots Q (F0 m pc ls (.int i :: .ref (cAd E 21) :: rest)) :=
  g_aldq F hP (cin (by decide)) (f := dvF E) (ce_d E (σ 21)) (t0 := 2) rfl hi hdg kk
theorem c_aldP (F : gFx p m c cc nL s args own (cG E)) (hP : gW (cG E) σ H) {i : Int32} (hi : ix i 8) (hx8 : isPy (σ 7 (nt i))) (hdg : decode cc pc = .ok (.aaload, 1))
    (kk : W p l e R s m args below meth c H locs cells slots Q (F0 m (pc + 1) ls (.ref (cAd E (46 + (nt (σ 7 (nt i)) - 1))) :: rest))) : W p l e R s m args below meth c H locs cells slots Q (F0 m pc ls (.int i :: .ref (cAd E 7) :: rest)) := by
  refine g_aldq F hP (cin (by decide)) (f := pyF E (σ 7)) (ce_p E (σ 7)) (t0 := 2) rfl hi hdg ?_
  have hpd : pdec (σ 7 (nt i)) = some (46 + (nt (σ 7 (nt i)) - 1)) := if_neg (isPy_ne hx8)
  show W p l e R s m args below meth c H locs cells slots Q (F0 m (pc + 1) ls (va_rf ((pdec (σ 7 (nt i))).map (cAd E)) :: rest))
  rw [hpd]
  exact kk
theorem c_astP (F : gFx p m c cc nL s args own (cG E)) (hP : gW (cG E) σ H) (hS : va_S (gA (cG E)) s.heap H locs) {i : Int32} {d : Nat} (hd : d < 8) (hi : ix i 8) (hdg : decode cc pc = .ok (.aastore, 1))
    (kk : ∀ (H1 : Heap) (locs1 : List Loc), gW (cG E) (up2 σ 7 (nt i) (nI (d + 1))) H1 → va_S (gA (cG E)) s.heap H1 locs1 → W p l e R s m args below meth c H1 locs1 cells slots Q (F0 m (pc + 1) ls rest)) : W p l e R s m args below meth c H locs cells slots Q (F0 m pc ls (.ref (cAd E (46 + d)) :: .int i :: .ref (cAd E 7) :: rest)) := by
  obtain ⟨hx, hb, -, hown, hts, -, hK, hI⟩ := F
  obtain ⟨q, hq, hs⟩ := gWs_at (ad := cAd E) (ce := cCe E) cL_nd (cin (show 7 < 54 by decide)) σ
  obtain ⟨q2, hq2, -⟩ := gWs_at (ad := cAd E) (ce := cCe E) cL_nd (cin (show 46 + d < 54 by omega)) σ
  refine va_astq hx hb hK hP (gW_D hI σ) hS q 2 q2 2 (r := (RX2, TX2, 20)) (f := pyF E (σ 7)) (by rw [hq, ce_p]) rfl (by rw [hq2, ce_2 E _ hd]) rfl hi hdg (fun H1 locs1 h1 _ h3 => kk H1 locs1 ?_ h3)
  have e := hs (nt i) (nI (d + 1))
  rw [ce_p, pyF_up E _ _ hd] at e
  show va_P E.1 classes (gWs cL (cAd E) (cCe E) (up2 σ 7 (nt i) (nI (d + 1)))) H1
  rw [← e]
  exact h1
end CROWS
end
