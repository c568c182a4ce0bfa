section
-- ===== PART A: goes FIRST, ahead of the names: the tables' words, and 'selects' of the private methods out of them =====
/-- a private method of a class that the tables say can be made, by its rows of tables_1 -/
def lw_okq (q : MethodName × Nat) : Prop := (q.1.cls ≠ "java/lang/invoke/MethodHandle" ∧ q.1.cls ≠ "java/lang/invoke/VarHandle") ∧ Cond.instantiable q.1.cls q.2 ∈ tables_1 ∧ Cond.privateMethod q.1 ∈ tables_1 ∧ Cond.instanceMethod q.1 ∈ tables_1
theorem lw_p0 : lw_okq (⟨"NextBellboy$Script", "append", "(I)Z"⟩, 3) := ⟨⟨by decide +kernel, by decide +kernel⟩, List.mem_of_getElem? (i := 25) (by decide +kernel), List.mem_of_getElem? (i := 371) (by decide +kernel), List.mem_of_getElem? (i := 372) (by decide +kernel)⟩
theorem lw_p1 : lw_okq (⟨"NextBellboy", "layScript", "()Z"⟩, 11) := ⟨⟨by decide +kernel, by decide +kernel⟩, List.mem_of_getElem? (i := 17) (by decide +kernel), List.mem_of_getElem? (i := 375) (by decide +kernel), List.mem_of_getElem? (i := 376) (by decide +kernel)⟩
theorem lw_p2 : lw_okq (⟨"NextBellboy$Script", "readInto", "(LNextBellboy$Plan;)I"⟩, 3) := ⟨⟨by decide +kernel, by decide +kernel⟩, List.mem_of_getElem? (i := 25) (by decide +kernel), List.mem_of_getElem? (i := 379) (by decide +kernel), List.mem_of_getElem? (i := 380) (by decide +kernel)⟩
theorem lw_p3 : lw_okq (⟨"NextBellboy$Plan", "clear", "()V"⟩, 8) := ⟨⟨by decide +kernel, by decide +kernel⟩, List.mem_of_getElem? (i := 43) (by decide +kernel), List.mem_of_getElem? (i := 383) (by decide +kernel), List.mem_of_getElem? (i := 384) (by decide +kernel)⟩
theorem lw_p4 : lw_okq (⟨"NextBellboy$Script", "readItem", "(ILNextBellboy$Plan;)I"⟩, 3) := ⟨⟨by decide +kernel, by decide +kernel⟩, List.mem_of_getElem? (i := 25) (by decide +kernel), List.mem_of_getElem? (i := 387) (by decide +kernel), List.mem_of_getElem? (i := 388) (by decide +kernel)⟩
theorem lw_p5 : lw_okq (⟨"NextBellboy$Script", "letterAt", "(I)I"⟩, 3) := ⟨⟨by decide +kernel, by decide +kernel⟩, List.mem_of_getElem? (i := 25) (by decide +kernel), List.mem_of_getElem? (i := 391) (by decide +kernel), List.mem_of_getElem? (i := 392) (by decide +kernel)⟩
theorem lw_p6 : lw_okq (⟨"NextBellboy$Script", "readNumbers", "(I[I[I)I"⟩, 3) := ⟨⟨by decide +kernel, by decide +kernel⟩, List.mem_of_getElem? (i := 25) (by decide +kernel), List.mem_of_getElem? (i := 399) (by decide +kernel), List.mem_of_getElem? (i := 400) (by decide +kernel)⟩
theorem lw_p7 : lw_okq (⟨"NextBellboy$Script", "isFigure", "(I)Z"⟩, 3) := ⟨⟨by decide +kernel, by decide +kernel⟩, List.mem_of_getElem? (i := 25) (by decide +kernel), List.mem_of_getElem? (i := 406) (by decide +kernel), List.mem_of_getElem? (i := 407) (by decide +kernel)⟩
theorem lw_p8 : lw_okq (⟨"NextBellboy$Plan", "addGuest", "([I)Z"⟩, 8) := ⟨⟨by decide +kernel, by decide +kernel⟩, List.mem_of_getElem? (i := 43) (by decide +kernel), List.mem_of_getElem? (i := 410) (by decide +kernel), List.mem_of_getElem? (i := 411) (by decide +kernel)⟩
theorem lw_p9 : lw_okq (⟨"NextBellboy$Plan", "addRoom", "(I)Z"⟩, 8) := ⟨⟨by decide +kernel, by decide +kernel⟩, List.mem_of_getElem? (i := 43) (by decide +kernel), List.mem_of_getElem? (i := 418) (by decide +kernel), List.mem_of_getElem? (i := 419) (by decide +kernel)⟩
theorem lw_p10 : lw_okq (⟨"NextBellboy$Plan", "copyFrom", "(LNextBellboy$Plan;)V"⟩, 8) := ⟨⟨by decide +kernel, by decide +kernel⟩, List.mem_of_getElem? (i := 43) (by decide +kernel), List.mem_of_getElem? (i := 422) (by decide +kernel), List.mem_of_getElem? (i := 423) (by decide +kernel)⟩
theorem lw_p11 : lw_okq (⟨"NextBellboy$House", "open", "()V"⟩, 10) := ⟨⟨by decide +kernel, by decide +kernel⟩, List.mem_of_getElem? (i := 94) (by decide +kernel), List.mem_of_getElem? (i := 426) (by decide +kernel), List.mem_of_getElem? (i := 427) (by decide +kernel)⟩
theorem lw_p12 : lw_okq (⟨"NextBellboy$Shelf", "clear", "()V"⟩, 2) := ⟨⟨by decide +kernel, by decide +kernel⟩, List.mem_of_getElem? (i := 187) (by decide +kernel), List.mem_of_getElem? (i := 430) (by decide +kernel), List.mem_of_getElem? (i := 431) (by decide +kernel)⟩
theorem lw_p13 : lw_okq (⟨"NextBellboy$Sightings", "clear", "()V"⟩, 9) := ⟨⟨by decide +kernel, by decide +kernel⟩, List.mem_of_getElem? (i := 252) (by decide +kernel), List.mem_of_getElem? (i := 434) (by decide +kernel), List.mem_of_getElem? (i := 435) (by decide +kernel)⟩
theorem lw_p14 : lw_okq (⟨"NextBellboy$Dealing", "goStale", "()V"⟩, 11) := ⟨⟨by decide +kernel, by decide +kernel⟩, List.mem_of_getElem? (i := 207) (by decide +kernel), List.mem_of_getElem? (i := 438) (by decide +kernel), List.mem_of_getElem? (i := 439) (by decide +kernel)⟩
theorem lw_p15 : lw_okq (⟨"NextBellboy$Script", "clear", "()V"⟩, 3) := ⟨⟨by decide +kernel, by decide +kernel⟩, List.mem_of_getElem? (i := 25) (by decide +kernel), List.mem_of_getElem? (i := 442) (by decide +kernel), List.mem_of_getElem? (i := 443) (by decide +kernel)⟩
def lw_privs_1 : List (MethodName × Nat) := [(⟨"NextBellboy$Script", "append", "(I)Z"⟩, 3), (⟨"NextBellboy", "layScript", "()Z"⟩, 11), (⟨"NextBellboy$Script", "readInto", "(LNextBellboy$Plan;)I"⟩, 3), (⟨"NextBellboy$Plan", "clear", "()V"⟩, 8), (⟨"NextBellboy$Script", "readItem", "(ILNextBellboy$Plan;)I"⟩, 3), (⟨"NextBellboy$Script", "letterAt", "(I)I"⟩, 3), (⟨"NextBellboy$Script", "readNumbers", "(I[I[I)I"⟩, 3), (⟨"NextBellboy$Script", "isFigure", "(I)Z"⟩, 3), (⟨"NextBellboy$Plan", "addGuest", "([I)Z"⟩, 8), (⟨"NextBellboy$Plan", "addRoom", "(I)Z"⟩, 8), (⟨"NextBellboy$Plan", "copyFrom", "(LNextBellboy$Plan;)V"⟩, 8), (⟨"NextBellboy$House", "open", "()V"⟩, 10), (⟨"NextBellboy$Shelf", "clear", "()V"⟩, 2), (⟨"NextBellboy$Sightings", "clear", "()V"⟩, 9), (⟨"NextBellboy$Dealing", "goStale", "()V"⟩, 11), (⟨"NextBellboy$Script", "clear", "()V"⟩, 3)]
theorem lw_r1 : ∀ q ∈ lw_privs_1, lw_okq q := List.forall_mem_cons.mpr ⟨lw_p0, List.forall_mem_cons.mpr ⟨lw_p1, List.forall_mem_cons.mpr ⟨lw_p2, List.forall_mem_cons.mpr ⟨lw_p3, List.forall_mem_cons.mpr ⟨lw_p4, List.forall_mem_cons.mpr ⟨lw_p5, List.forall_mem_cons.mpr ⟨lw_p6, List.forall_mem_cons.mpr ⟨lw_p7, List.forall_mem_cons.mpr ⟨lw_p8, List.forall_mem_cons.mpr ⟨lw_p9, List.forall_mem_cons.mpr ⟨lw_p10, List.forall_mem_cons.mpr ⟨lw_p11, List.forall_mem_cons.mpr ⟨lw_p12, List.forall_mem_cons.mpr ⟨lw_p13, List.forall_mem_cons.mpr ⟨lw_p14, List.forall_mem_cons.mpr ⟨lw_p15, fun _ h => absurd h List.not_mem_nil⟩⟩⟩⟩⟩⟩⟩⟩⟩⟩⟩⟩⟩⟩⟩⟩
theorem lw_p16 : lw_okq (⟨"NextBellboy$Plan", "has", "(I)Z"⟩, 8) := ⟨⟨by decide +kernel, by decide +kernel⟩, List.mem_of_getElem? (i := 43) (by decide +kernel), List.mem_of_getElem? (i := 501) (by decide +kernel), List.mem_of_getElem? (i := 502) (by decide +kernel)⟩
theorem lw_p17 : lw_okq (⟨"NextBellboy", "beginAct", "()V"⟩, 11) := ⟨⟨by decide +kernel, by decide +kernel⟩, List.mem_of_getElem? (i := 17) (by decide +kernel), List.mem_of_getElem? (i := 513) (by decide +kernel), List.mem_of_getElem? (i := 514) (by decide +kernel)⟩
theorem lw_p18 : lw_okq (⟨"NextBellboy$Shelf", "put", "(LNextBellboy$House;)V"⟩, 2) := ⟨⟨by decide +kernel, by decide +kernel⟩, List.mem_of_getElem? (i := 187) (by decide +kernel), List.mem_of_getElem? (i := 517) (by decide +kernel), List.mem_of_getElem? (i := 518) (by decide +kernel)⟩
theorem lw_p19 : lw_okq (⟨"NextBellboy$Shelf", "isFull", "()Z"⟩, 2) := ⟨⟨by decide +kernel, by decide +kernel⟩, List.mem_of_getElem? (i := 187) (by decide +kernel), List.mem_of_getElem? (i := 521) (by decide +kernel), List.mem_of_getElem? (i := 522) (by decide +kernel)⟩
theorem lw_p20 : lw_okq (⟨"NextBellboy$Shelf", "dropOldest", "()V"⟩, 2) := ⟨⟨by decide +kernel, by decide +kernel⟩, List.mem_of_getElem? (i := 187) (by decide +kernel), List.mem_of_getElem? (i := 525) (by decide +kernel), List.mem_of_getElem? (i := 526) (by decide +kernel)⟩
theorem lw_p21 : lw_okq (⟨"NextBellboy$House", "copyFrom", "(LNextBellboy$House;)V"⟩, 10) := ⟨⟨by decide +kernel, by decide +kernel⟩, List.mem_of_getElem? (i := 94) (by decide +kernel), List.mem_of_getElem? (i := 529) (by decide +kernel), List.mem_of_getElem? (i := 530) (by decide +kernel)⟩
theorem lw_p22 : lw_okq (⟨"NextBellboy$House", "oneHour", "()V"⟩, 10) := ⟨⟨by decide +kernel, by decide +kernel⟩, List.mem_of_getElem? (i := 94) (by decide +kernel), List.mem_of_getElem? (i := 533) (by decide +kernel), List.mem_of_getElem? (i := 534) (by decide +kernel)⟩
theorem lw_p23 : lw_okq (⟨"NextBellboy$House", "comes", "(I)V"⟩, 10) := ⟨⟨by decide +kernel, by decide +kernel⟩, List.mem_of_getElem? (i := 94) (by decide +kernel), List.mem_of_getElem? (i := 537) (by decide +kernel), List.mem_of_getElem? (i := 538) (by decide +kernel)⟩
theorem lw_p24 : lw_okq (⟨"NextBellboy$House", "brings", "(I)I"⟩, 10) := ⟨⟨by decide +kernel, by decide +kernel⟩, List.mem_of_getElem? (i := 94) (by decide +kernel), List.mem_of_getElem? (i := 542) (by decide +kernel), List.mem_of_getElem? (i := 543) (by decide +kernel)⟩
theorem lw_p25 : lw_okq (⟨"NextBellboy$House", "setFree", "(I)V"⟩, 10) := ⟨⟨by decide +kernel, by decide +kernel⟩, List.mem_of_getElem? (i := 94) (by decide +kernel), List.mem_of_getElem? (i := 547) (by decide +kernel), List.mem_of_getElem? (i := 548) (by decide +kernel)⟩
theorem lw_p26 : lw_okq (⟨"NextBellboy$House", "isBooked", "(I)Z"⟩, 10) := ⟨⟨by decide +kernel, by decide +kernel⟩, List.mem_of_getElem? (i := 94) (by decide +kernel), List.mem_of_getElem? (i := 555) (by decide +kernel), List.mem_of_getElem? (i := 556) (by decide +kernel)⟩
theorem lw_p27 : lw_okq (⟨"NextBellboy$House", "rebook", "(II)V"⟩, 10) := ⟨⟨by decide +kernel, by decide +kernel⟩, List.mem_of_getElem? (i := 94) (by decide +kernel), List.mem_of_getElem? (i := 559) (by decide +kernel), List.mem_of_getElem? (i := 560) (by decide +kernel)⟩
theorem lw_p28 : lw_okq (⟨"NextBellboy$House", "callOff", "(I)V"⟩, 10) := ⟨⟨by decide +kernel, by decide +kernel⟩, List.mem_of_getElem? (i := 94) (by decide +kernel), List.mem_of_getElem? (i := 568) (by decide +kernel), List.mem_of_getElem? (i := 569) (by decide +kernel)⟩
theorem lw_p29 : lw_okq (⟨"NextBellboy$House", "howMany", "(I)I"⟩, 10) := ⟨⟨by decide +kernel, by decide +kernel⟩, List.mem_of_getElem? (i := 94) (by decide +kernel), List.mem_of_getElem? (i := 572) (by decide +kernel), List.mem_of_getElem? (i := 573) (by decide +kernel)⟩
theorem lw_p30 : lw_okq (⟨"NextBellboy$House", "swapRooms", "(II)V"⟩, 10) := ⟨⟨by decide +kernel, by decide +kernel⟩, List.mem_of_getElem? (i := 94) (by decide +kernel), List.mem_of_getElem? (i := 580) (by decide +kernel), List.mem_of_getElem? (i := 581) (by decide +kernel)⟩
theorem lw_p31 : lw_okq (⟨"NextBellboy$Shelf", "takeInto", "(LNextBellboy$House;)Z"⟩, 2) := ⟨⟨by decide +kernel, by decide +kernel⟩, List.mem_of_getElem? (i := 187) (by decide +kernel), List.mem_of_getElem? (i := 588) (by decide +kernel), List.mem_of_getElem? (i := 589) (by decide +kernel)⟩
def lw_privs_2 : List (MethodName × Nat) := [(⟨"NextBellboy$Plan", "has", "(I)Z"⟩, 8), (⟨"NextBellboy", "beginAct", "()V"⟩, 11), (⟨"NextBellboy$Shelf", "put", "(LNextBellboy$House;)V"⟩, 2), (⟨"NextBellboy$Shelf", "isFull", "()Z"⟩, 2), (⟨"NextBellboy$Shelf", "dropOldest", "()V"⟩, 2), (⟨"NextBellboy$House", "copyFrom", "(LNextBellboy$House;)V"⟩, 10), (⟨"NextBellboy$House", "oneHour", "()V"⟩, 10), (⟨"NextBellboy$House", "comes", "(I)V"⟩, 10), (⟨"NextBellboy$House", "brings", "(I)I"⟩, 10), (⟨"NextBellboy$House", "setFree", "(I)V"⟩, 10), (⟨"NextBellboy$House", "isBooked", "(I)Z"⟩, 10), (⟨"NextBellboy$House", "rebook", "(II)V"⟩, 10), (⟨"NextBellboy$House", "callOff", "(I)V"⟩, 10), (⟨"NextBellboy$House", "howMany", "(I)I"⟩, 10), (⟨"NextBellboy$House", "swapRooms", "(II)V"⟩, 10), (⟨"NextBellboy$Shelf", "takeInto", "(LNextBellboy$House;)Z"⟩, 2)]
theorem lw_r2 : ∀ q ∈ lw_privs_2, lw_okq q := List.forall_mem_cons.mpr ⟨lw_p16, List.forall_mem_cons.mpr ⟨lw_p17, List.forall_mem_cons.mpr ⟨lw_p18, List.forall_mem_cons.mpr ⟨lw_p19, List.forall_mem_cons.mpr ⟨lw_p20, List.forall_mem_cons.mpr ⟨lw_p21, List.forall_mem_cons.mpr ⟨lw_p22, List.forall_mem_cons.mpr ⟨lw_p23, List.forall_mem_cons.mpr ⟨lw_p24, List.forall_mem_cons.mpr ⟨lw_p25, List.forall_mem_cons.mpr ⟨lw_p26, List.forall_mem_cons.mpr ⟨lw_p27, List.forall_mem_cons.mpr ⟨lw_p28, List.forall_mem_cons.mpr ⟨lw_p29, List.forall_mem_cons.mpr ⟨lw_p30, List.forall_mem_cons.mpr ⟨lw_p31, fun _ h => absurd h List.not_mem_nil⟩⟩⟩⟩⟩⟩⟩⟩⟩⟩⟩⟩⟩⟩⟩⟩
theorem lw_p32 : lw_okq (⟨"NextBellboy$Outlook", "look", "(LNextBellboy$House;)V"⟩, 9) := ⟨⟨by decide +kernel, by decide +kernel⟩, List.mem_of_getElem? (i := 148) (by decide +kernel), List.mem_of_getElem? (i := 596) (by decide +kernel), List.mem_of_getElem? (i := 597) (by decide +kernel)⟩
theorem lw_p33 : lw_okq (⟨"NextBellboy$Outlook", "lineUp", "(LNextBellboy$House;)V"⟩, 9) := ⟨⟨by decide +kernel, by decide +kernel⟩, List.mem_of_getElem? (i := 148) (by decide +kernel), List.mem_of_getElem? (i := 600) (by decide +kernel), List.mem_of_getElem? (i := 601) (by decide +kernel)⟩
theorem lw_p34 : lw_okq (⟨"NextBellboy$Outlook", "reckon", "(LNextBellboy$House;)V"⟩, 9) := ⟨⟨by decide +kernel, by decide +kernel⟩, List.mem_of_getElem? (i := 148) (by decide +kernel), List.mem_of_getElem? (i := 604) (by decide +kernel), List.mem_of_getElem? (i := 605) (by decide +kernel)⟩
theorem lw_p35 : lw_okq (⟨"NextBellboy$Outlook", "begin", "(LNextBellboy$House;)V"⟩, 9) := ⟨⟨by decide +kernel, by decide +kernel⟩, List.mem_of_getElem? (i := 148) (by decide +kernel), List.mem_of_getElem? (i := 608) (by decide +kernel), List.mem_of_getElem? (i := 609) (by decide +kernel)⟩
theorem lw_p36 : lw_okq (⟨"NextBellboy$Outlook", "leaves", "(II)V"⟩, 9) := ⟨⟨by decide +kernel, by decide +kernel⟩, List.mem_of_getElem? (i := 148) (by decide +kernel), List.mem_of_getElem? (i := 613) (by decide +kernel), List.mem_of_getElem? (i := 614) (by decide +kernel)⟩
theorem lw_p37 : lw_okq (⟨"NextBellboy$Outlook", "meets", "(ILNextBellboy$House;)V"⟩, 9) := ⟨⟨by decide +kernel, by decide +kernel⟩, List.mem_of_getElem? (i := 148) (by decide +kernel), List.mem_of_getElem? (i := 619) (by decide +kernel), List.mem_of_getElem? (i := 620) (by decide +kernel)⟩
theorem lw_p38 : lw_okq (⟨"NextBellboy$House", "loadSoFar", "(I)I"⟩, 10) := ⟨⟨by decide +kernel, by decide +kernel⟩, List.mem_of_getElem? (i := 94) (by decide +kernel), List.mem_of_getElem? (i := 631) (by decide +kernel), List.mem_of_getElem? (i := 632) (by decide +kernel)⟩
theorem lw_p39 : lw_okq (⟨"NextBellboy$Dealing", "refresh", "(LNextBellboy$House;)V"⟩, 11) := ⟨⟨by decide +kernel, by decide +kernel⟩, List.mem_of_getElem? (i := 207) (by decide +kernel), List.mem_of_getElem? (i := 649) (by decide +kernel), List.mem_of_getElem? (i := 650) (by decide +kernel)⟩
theorem lw_p40 : lw_okq (⟨"NextBellboy$Dealing", "begin", "()V"⟩, 11) := ⟨⟨by decide +kernel, by decide +kernel⟩, List.mem_of_getElem? (i := 207) (by decide +kernel), List.mem_of_getElem? (i := 654) (by decide +kernel), List.mem_of_getElem? (i := 655) (by decide +kernel)⟩
theorem lw_p41 : lw_okq (⟨"NextBellboy$Dealing", "search", "(LNextBellboy$House;)V"⟩, 11) := ⟨⟨by decide +kernel, by decide +kernel⟩, List.mem_of_getElem? (i := 207) (by decide +kernel), List.mem_of_getElem? (i := 661) (by decide +kernel), List.mem_of_getElem? (i := 662) (by decide +kernel)⟩
theorem lw_p42 : lw_okq (⟨"NextBellboy$Dealing", "pickNext", "(ILNextBellboy$House;)Z"⟩, 11) := ⟨⟨by decide +kernel, by decide +kernel⟩, List.mem_of_getElem? (i := 207) (by decide +kernel), List.mem_of_getElem? (i := 666) (by decide +kernel), List.mem_of_getElem? (i := 667) (by decide +kernel)⟩
theorem lw_p43 : lw_okq (⟨"NextBellboy$Dealing", "writeDown", "()V"⟩, 11) := ⟨⟨by decide +kernel, by decide +kernel⟩, List.mem_of_getElem? (i := 207) (by decide +kernel), List.mem_of_getElem? (i := 671) (by decide +kernel), List.mem_of_getElem? (i := 672) (by decide +kernel)⟩
theorem lw_p44 : lw_okq (⟨"NextBellboy$Dealing", "ownerFor", "(I)I"⟩, 11) := ⟨⟨by decide +kernel, by decide +kernel⟩, List.mem_of_getElem? (i := 207) (by decide +kernel), List.mem_of_getElem? (i := 675) (by decide +kernel), List.mem_of_getElem? (i := 676) (by decide +kernel)⟩
theorem lw_p45 : lw_okq (⟨"NextBellboy$Sightings", "add", "(II)Z"⟩, 9) := ⟨⟨by decide +kernel, by decide +kernel⟩, List.mem_of_getElem? (i := 252) (by decide +kernel), List.mem_of_getElem? (i := 688) (by decide +kernel), List.mem_of_getElem? (i := 689) (by decide +kernel)⟩
theorem lw_p46 : lw_okq (⟨"NextBellboy$Sightings", "refresh", "()V"⟩, 9) := ⟨⟨by decide +kernel, by decide +kernel⟩, List.mem_of_getElem? (i := 252) (by decide +kernel), List.mem_of_getElem? (i := 700) (by decide +kernel), List.mem_of_getElem? (i := 701) (by decide +kernel)⟩
theorem lw_p47 : lw_okq (⟨"NextBellboy$Sightings", "comeInOrder", "()V"⟩, 9) := ⟨⟨by decide +kernel, by decide +kernel⟩, List.mem_of_getElem? (i := 252) (by decide +kernel), List.mem_of_getElem? (i := 705) (by decide +kernel), List.mem_of_getElem? (i := 706) (by decide +kernel)⟩
def lw_privs_3 : List (MethodName × Nat) := [(⟨"NextBellboy$Outlook", "look", "(LNextBellboy$House;)V"⟩, 9), (⟨"NextBellboy$Outlook", "lineUp", "(LNextBellboy$House;)V"⟩, 9), (⟨"NextBellboy$Outlook", "reckon", "(LNextBellboy$House;)V"⟩, 9), (⟨"NextBellboy$Outlook", "begin", "(LNextBellboy$House;)V"⟩, 9), (⟨"NextBellboy$Outlook", "leaves", "(II)V"⟩, 9), (⟨"NextBellboy$Outlook", "meets", "(ILNextBellboy$House;)V"⟩, 9), (⟨"NextBellboy$House", "loadSoFar", "(I)I"⟩, 10), (⟨"NextBellboy$Dealing", "refresh", "(LNextBellboy$House;)V"⟩, 11), (⟨"NextBellboy$Dealing", "begin", "()V"⟩, 11), (⟨"NextBellboy$Dealing", "search", "(LNextBellboy$House;)V"⟩, 11), (⟨"NextBellboy$Dealing", "pickNext", "(ILNextBellboy$House;)Z"⟩, 11), (⟨"NextBellboy$Dealing", "writeDown", "()V"⟩, 11), (⟨"NextBellboy$Dealing", "ownerFor", "(I)I"⟩, 11), (⟨"NextBellboy$Sightings", "add", "(II)Z"⟩, 9), (⟨"NextBellboy$Sightings", "refresh", "()V"⟩, 9), (⟨"NextBellboy$Sightings", "comeInOrder", "()V"⟩, 9)]
theorem lw_r3 : ∀ q ∈ lw_privs_3, lw_okq q := List.forall_mem_cons.mpr ⟨lw_p32, List.forall_mem_cons.mpr ⟨lw_p33, List.forall_mem_cons.mpr ⟨lw_p34, List.forall_mem_cons.mpr ⟨lw_p35, List.forall_mem_cons.mpr ⟨lw_p36, List.forall_mem_cons.mpr ⟨lw_p37, List.forall_mem_cons.mpr ⟨lw_p38, List.forall_mem_cons.mpr ⟨lw_p39, List.forall_mem_cons.mpr ⟨lw_p40, List.forall_mem_cons.mpr ⟨lw_p41, List.forall_mem_cons.mpr ⟨lw_p42, List.forall_mem_cons.mpr ⟨lw_p43, List.forall_mem_cons.mpr ⟨lw_p44, List.forall_mem_cons.mpr ⟨lw_p45, List.forall_mem_cons.mpr ⟨lw_p46, List.forall_mem_cons.mpr ⟨lw_p47, fun _ h => absurd h List.not_mem_nil⟩⟩⟩⟩⟩⟩⟩⟩⟩⟩⟩⟩⟩⟩⟩⟩
theorem lw_p48 : lw_okq (⟨"NextBellboy$Sightings", "payOut", "(III)V"⟩, 9) := ⟨⟨by decide +kernel, by decide +kernel⟩, List.mem_of_getElem? (i := 252) (by decide +kernel), List.mem_of_getElem? (i := 710) (by decide +kernel), List.mem_of_getElem? (i := 711) (by decide +kernel)⟩
theorem lw_p49 : lw_okq (⟨"NextBellboy$Sightings", "isAsSeen", "()Z"⟩, 9) := ⟨⟨by decide +kernel, by decide +kernel⟩, List.mem_of_getElem? (i := 252) (by decide +kernel), List.mem_of_getElem? (i := 714) (by decide +kernel), List.mem_of_getElem? (i := 715) (by decide +kernel)⟩
theorem lw_p50 : lw_okq (⟨"NextBellboy$Sightings", "noteOrder", "()V"⟩, 9) := ⟨⟨by decide +kernel, by decide +kernel⟩, List.mem_of_getElem? (i := 252) (by decide +kernel), List.mem_of_getElem? (i := 718) (by decide +kernel), List.mem_of_getElem? (i := 719) (by decide +kernel)⟩
theorem lw_p51 : lw_okq (⟨"NextBellboy$Sightings", "nextOrder", "()Z"⟩, 9) := ⟨⟨by decide +kernel, by decide +kernel⟩, List.mem_of_getElem? (i := 252) (by decide +kernel), List.mem_of_getElem? (i := 722) (by decide +kernel), List.mem_of_getElem? (i := 723) (by decide +kernel)⟩
theorem lw_p52 : lw_okq (⟨"NextBellboy$Sightings", "swap", "(II)V"⟩, 9) := ⟨⟨by decide +kernel, by decide +kernel⟩, List.mem_of_getElem? (i := 252) (by decide +kernel), List.mem_of_getElem? (i := 726) (by decide +kernel), List.mem_of_getElem? (i := 727) (by decide +kernel)⟩
theorem lw_p53 : lw_okq (⟨"NextBellboy$Sightings", "firstOrderAt", "(I)I"⟩, 9) := ⟨⟨by decide +kernel, by decide +kernel⟩, List.mem_of_getElem? (i := 252) (by decide +kernel), List.mem_of_getElem? (i := 730) (by decide +kernel), List.mem_of_getElem? (i := 731) (by decide +kernel)⟩
theorem lw_p54 : lw_okq (⟨"NextBellboy$Chance", "weigh", "(LNextBellboy$House;II)V"⟩, 7) := ⟨⟨by decide +kernel, by decide +kernel⟩, List.mem_of_getElem? (i := 288) (by decide +kernel), List.mem_of_getElem? (i := 738) (by decide +kernel), List.mem_of_getElem? (i := 739) (by decide +kernel)⟩
theorem lw_p55 : lw_okq (⟨"NextBellboy$Chance", "weightOf", "(II)I"⟩, 7) := ⟨⟨by decide +kernel, by decide +kernel⟩, List.mem_of_getElem? (i := 288) (by decide +kernel), List.mem_of_getElem? (i := 743) (by decide +kernel), List.mem_of_getElem? (i := 744) (by decide +kernel)⟩
theorem lw_p56 : lw_okq (⟨"NextBellboy$Chance", "isFreeWithout", "(II)Z"⟩, 7) := ⟨⟨by decide +kernel, by decide +kernel⟩, List.mem_of_getElem? (i := 288) (by decide +kernel), List.mem_of_getElem? (i := 747) (by decide +kernel), List.mem_of_getElem? (i := 748) (by decide +kernel)⟩
theorem lw_p57 : lw_okq (⟨"NextBellboy$Chance", "lower", "()V"⟩, 7) := ⟨⟨by decide +kernel, by decide +kernel⟩, List.mem_of_getElem? (i := 288) (by decide +kernel), List.mem_of_getElem? (i := 753) (by decide +kernel), List.mem_of_getElem? (i := 754) (by decide +kernel)⟩
theorem lw_p58 : lw_okq (⟨"NextBellboy$House", "disturb", "(I)V"⟩, 10) := ⟨⟨by decide +kernel, by decide +kernel⟩, List.mem_of_getElem? (i := 94) (by decide +kernel), List.mem_of_getElem? (i := 767) (by decide +kernel), List.mem_of_getElem? (i := 768) (by decide +kernel)⟩
theorem lw_p59 : lw_okq (⟨"NextBellboy$House", "allCoins", "()I"⟩, 10) := ⟨⟨by decide +kernel, by decide +kernel⟩, List.mem_of_getElem? (i := 94) (by decide +kernel), List.mem_of_getElem? (i := 775) (by decide +kernel), List.mem_of_getElem? (i := 776) (by decide +kernel)⟩
theorem lw_p60 : lw_okq (⟨"NextBellboy$House", "allWork", "()I"⟩, 10) := ⟨⟨by decide +kernel, by decide +kernel⟩, List.mem_of_getElem? (i := 94) (by decide +kernel), List.mem_of_getElem? (i := 792) (by decide +kernel), List.mem_of_getElem? (i := 793) (by decide +kernel)⟩
theorem lw_p61 : lw_okq (⟨"NextBellboyModel", "starts", "()V"⟩, 24) := ⟨⟨by decide +kernel, by decide +kernel⟩, List.mem_of_getElem? (i := 796) (by decide +kernel), List.mem_of_getElem? (i := 802) (by decide +kernel), List.mem_of_getElem? (i := 803) (by decide +kernel)⟩
theorem lw_p62 : lw_okq (⟨"NextBellboyModel", "addsGuest", "(IIIII)V"⟩, 24) := ⟨⟨by decide +kernel, by decide +kernel⟩, List.mem_of_getElem? (i := 796) (by decide +kernel), List.mem_of_getElem? (i := 806) (by decide +kernel), List.mem_of_getElem? (i := 807) (by decide +kernel)⟩
theorem lw_p63 : lw_okq (⟨"NextBellboyModel", "addsRoom", "(I)V"⟩, 24) := ⟨⟨by decide +kernel, by decide +kernel⟩, List.mem_of_getElem? (i := 796) (by decide +kernel), List.mem_of_getElem? (i := 810) (by decide +kernel), List.mem_of_getElem? (i := 811) (by decide +kernel)⟩
def lw_privs_4 : List (MethodName × Nat) := [(⟨"NextBellboy$Sightings", "payOut", "(III)V"⟩, 9), (⟨"NextBellboy$Sightings", "isAsSeen", "()Z"⟩, 9), (⟨"NextBellboy$Sightings", "noteOrder", "()V"⟩, 9), (⟨"NextBellboy$Sightings", "nextOrder", "()Z"⟩, 9), (⟨"NextBellboy$Sightings", "swap", "(II)V"⟩, 9), (⟨"NextBellboy$Sightings", "firstOrderAt", "(I)I"⟩, 9), (⟨"NextBellboy$Chance", "weigh", "(LNextBellboy$House;II)V"⟩, 7), (⟨"NextBellboy$Chance", "weightOf", "(II)I"⟩, 7), (⟨"NextBellboy$Chance", "isFreeWithout", "(II)Z"⟩, 7), (⟨"NextBellboy$Chance", "lower", "()V"⟩, 7), (⟨"NextBellboy$House", "disturb", "(I)V"⟩, 10), (⟨"NextBellboy$House", "allCoins", "()I"⟩, 10), (⟨"NextBellboy$House", "allWork", "()I"⟩, 10), (⟨"NextBellboyModel", "starts", "()V"⟩, 24), (⟨"NextBellboyModel", "addsGuest", "(IIIII)V"⟩, 24), (⟨"NextBellboyModel", "addsRoom", "(I)V"⟩, 24)]
theorem lw_r4 : ∀ q ∈ lw_privs_4, lw_okq q := List.forall_mem_cons.mpr ⟨lw_p48, List.forall_mem_cons.mpr ⟨lw_p49, List.forall_mem_cons.mpr ⟨lw_p50, List.forall_mem_cons.mpr ⟨lw_p51, List.forall_mem_cons.mpr ⟨lw_p52, List.forall_mem_cons.mpr ⟨lw_p53, List.forall_mem_cons.mpr ⟨lw_p54, List.forall_mem_cons.mpr ⟨lw_p55, List.forall_mem_cons.mpr ⟨lw_p56, List.forall_mem_cons.mpr ⟨lw_p57, List.forall_mem_cons.mpr ⟨lw_p58, List.forall_mem_cons.mpr ⟨lw_p59, List.forall_mem_cons.mpr ⟨lw_p60, List.forall_mem_cons.mpr ⟨lw_p61, List.forall_mem_cons.mpr ⟨lw_p62, List.forall_mem_cons.mpr ⟨lw_p63, fun _ h => absurd h List.not_mem_nil⟩⟩⟩⟩⟩⟩⟩⟩⟩⟩⟩⟩⟩⟩⟩⟩
theorem lw_p64 : lw_okq (⟨"NextBellboyModel", "begins", "()V"⟩, 24) := ⟨⟨by decide +kernel, by decide +kernel⟩, List.mem_of_getElem? (i := 796) (by decide +kernel), List.mem_of_getElem? (i := 814) (by decide +kernel), List.mem_of_getElem? (i := 815) (by decide +kernel)⟩
theorem lw_p65 : lw_okq (⟨"NextBellboyModel", "faultOf", "()I"⟩, 24) := ⟨⟨by decide +kernel, by decide +kernel⟩, List.mem_of_getElem? (i := 796) (by decide +kernel), List.mem_of_getElem? (i := 908) (by decide +kernel), List.mem_of_getElem? (i := 909) (by decide +kernel)⟩
theorem lw_p66 : lw_okq (⟨"NextBellboyModel", "takesItem", "()Z"⟩, 24) := ⟨⟨by decide +kernel, by decide +kernel⟩, List.mem_of_getElem? (i := 796) (by decide +kernel), List.mem_of_getElem? (i := 912) (by decide +kernel), List.mem_of_getElem? (i := 913) (by decide +kernel)⟩
theorem lw_p67 : lw_okq (⟨"NextBellboyModel", "letterAt", "(I)I"⟩, 24) := ⟨⟨by decide +kernel, by decide +kernel⟩, List.mem_of_getElem? (i := 796) (by decide +kernel), List.mem_of_getElem? (i := 916) (by decide +kernel), List.mem_of_getElem? (i := 917) (by decide +kernel)⟩
theorem lw_p68 : lw_okq (⟨"NextBellboyModel", "takesGuest", "()Z"⟩, 24) := ⟨⟨by decide +kernel, by decide +kernel⟩, List.mem_of_getElem? (i := 796) (by decide +kernel), List.mem_of_getElem? (i := 920) (by decide +kernel), List.mem_of_getElem? (i := 921) (by decide +kernel)⟩
theorem lw_p69 : lw_okq (⟨"NextBellboyModel", "takesNumber", "(III)Z"⟩, 24) := ⟨⟨by decide +kernel, by decide +kernel⟩, List.mem_of_getElem? (i := 796) (by decide +kernel), List.mem_of_getElem? (i := 924) (by decide +kernel), List.mem_of_getElem? (i := 925) (by decide +kernel)⟩
theorem lw_p70 : lw_okq (⟨"NextBellboyModel", "takesRoom", "()Z"⟩, 24) := ⟨⟨by decide +kernel, by decide +kernel⟩, List.mem_of_getElem? (i := 796) (by decide +kernel), List.mem_of_getElem? (i := 930) (by decide +kernel), List.mem_of_getElem? (i := 931) (by decide +kernel)⟩
theorem lw_p71 : lw_okq (⟨"NextBellboyModel", "isGuest", "(I)Z"⟩, 24) := ⟨⟨by decide +kernel, by decide +kernel⟩, List.mem_of_getElem? (i := 796) (by decide +kernel), List.mem_of_getElem? (i := 942) (by decide +kernel), List.mem_of_getElem? (i := 943) (by decide +kernel)⟩
theorem lw_p72 : lw_okq (⟨"NextBellboyModel", "minds", "()V"⟩, 24) := ⟨⟨by decide +kernel, by decide +kernel⟩, List.mem_of_getElem? (i := 796) (by decide +kernel), List.mem_of_getElem? (i := 956) (by decide +kernel), List.mem_of_getElem? (i := 957) (by decide +kernel)⟩
theorem lw_p73 : lw_okq (⟨"NextBellboyModel", "copy", "(II)V"⟩, 24) := ⟨⟨by decide +kernel, by decide +kernel⟩, List.mem_of_getElem? (i := 796) (by decide +kernel), List.mem_of_getElem? (i := 960) (by decide +kernel), List.mem_of_getElem? (i := 961) (by decide +kernel)⟩
theorem lw_p74 : lw_okq (⟨"NextBellboyModel", "passes", "(I)V"⟩, 24) := ⟨⟨by decide +kernel, by decide +kernel⟩, List.mem_of_getElem? (i := 796) (by decide +kernel), List.mem_of_getElem? (i := 964) (by decide +kernel), List.mem_of_getElem? (i := 965) (by decide +kernel)⟩
theorem lw_p75 : lw_okq (⟨"NextBellboyModel", "comes", "(II)V"⟩, 24) := ⟨⟨by decide +kernel, by decide +kernel⟩, List.mem_of_getElem? (i := 796) (by decide +kernel), List.mem_of_getElem? (i := 968) (by decide +kernel), List.mem_of_getElem? (i := 969) (by decide +kernel)⟩
theorem lw_p76 : lw_okq (⟨"NextBellboyModel", "bringsIn", "(II)I"⟩, 24) := ⟨⟨by decide +kernel, by decide +kernel⟩, List.mem_of_getElem? (i := 796) (by decide +kernel), List.mem_of_getElem? (i := 972) (by decide +kernel), List.mem_of_getElem? (i := 973) (by decide +kernel)⟩
theorem lw_p77 : lw_okq (⟨"NextBellboyModel", "freesThose", "(I)V"⟩, 24) := ⟨⟨by decide +kernel, by decide +kernel⟩, List.mem_of_getElem? (i := 796) (by decide +kernel), List.mem_of_getElem? (i := 976) (by decide +kernel), List.mem_of_getElem? (i := 977) (by decide +kernel)⟩
theorem lw_p78 : lw_okq (⟨"NextBellboyModel", "goesFree", "(II)V"⟩, 24) := ⟨⟨by decide +kernel, by decide +kernel⟩, List.mem_of_getElem? (i := 796) (by decide +kernel), List.mem_of_getElem? (i := 980) (by decide +kernel), List.mem_of_getElem? (i := 981) (by decide +kernel)⟩
theorem lw_p79 : lw_okq (⟨"NextBellboyModel", "canBook", "(III)Z"⟩, 24) := ⟨⟨by decide +kernel, by decide +kernel⟩, List.mem_of_getElem? (i := 796) (by decide +kernel), List.mem_of_getElem? (i := 992) (by decide +kernel), List.mem_of_getElem? (i := 993) (by decide +kernel)⟩
def lw_privs_5 : List (MethodName × Nat) := [(⟨"NextBellboyModel", "begins", "()V"⟩, 24), (⟨"NextBellboyModel", "faultOf", "()I"⟩, 24), (⟨"NextBellboyModel", "takesItem", "()Z"⟩, 24), (⟨"NextBellboyModel", "letterAt", "(I)I"⟩, 24), (⟨"NextBellboyModel", "takesGuest", "()Z"⟩, 24), (⟨"NextBellboyModel", "takesNumber", "(III)Z"⟩, 24), (⟨"NextBellboyModel", "takesRoom", "()Z"⟩, 24), (⟨"NextBellboyModel", "isGuest", "(I)Z"⟩, 24), (⟨"NextBellboyModel", "minds", "()V"⟩, 24), (⟨"NextBellboyModel", "copy", "(II)V"⟩, 24), (⟨"NextBellboyModel", "passes", "(I)V"⟩, 24), (⟨"NextBellboyModel", "comes", "(II)V"⟩, 24), (⟨"NextBellboyModel", "bringsIn", "(II)I"⟩, 24), (⟨"NextBellboyModel", "freesThose", "(I)V"⟩, 24), (⟨"NextBellboyModel", "goesFree", "(II)V"⟩, 24), (⟨"NextBellboyModel", "canBook", "(III)Z"⟩, 24)]
theorem lw_r5 : ∀ q ∈ lw_privs_5, lw_okq q := List.forall_mem_cons.mpr ⟨lw_p64, List.forall_mem_cons.mpr ⟨lw_p65, List.forall_mem_cons.mpr ⟨lw_p66, List.forall_mem_cons.mpr ⟨lw_p67, List.forall_mem_cons.mpr ⟨lw_p68, List.forall_mem_cons.mpr ⟨lw_p69, List.forall_mem_cons.mpr ⟨lw_p70, List.forall_mem_cons.mpr ⟨lw_p71, List.forall_mem_cons.mpr ⟨lw_p72, List.forall_mem_cons.mpr ⟨lw_p73, List.forall_mem_cons.mpr ⟨lw_p74, List.forall_mem_cons.mpr ⟨lw_p75, List.forall_mem_cons.mpr ⟨lw_p76, List.forall_mem_cons.mpr ⟨lw_p77, List.forall_mem_cons.mpr ⟨lw_p78, List.forall_mem_cons.mpr ⟨lw_p79, fun _ h => absurd h List.not_mem_nil⟩⟩⟩⟩⟩⟩⟩⟩⟩⟩⟩⟩⟩⟩⟩⟩
theorem lw_p80 : lw_okq (⟨"NextBellboyModel", "manyHow", "(II)I"⟩, 24) := ⟨⟨by decide +kernel, by decide +kernel⟩, List.mem_of_getElem? (i := 796) (by decide +kernel), List.mem_of_getElem? (i := 1000) (by decide +kernel), List.mem_of_getElem? (i := 1001) (by decide +kernel)⟩
theorem lw_p81 : lw_okq (⟨"NextBellboyModel", "canChange", "(III)Z"⟩, 24) := ⟨⟨by decide +kernel, by decide +kernel⟩, List.mem_of_getElem? (i := 796) (by decide +kernel), List.mem_of_getElem? (i := 1008) (by decide +kernel), List.mem_of_getElem? (i := 1009) (by decide +kernel)⟩
theorem lw_p82 : lw_okq (⟨"NextBellboyModel", "changes", "(III)V"⟩, 24) := ⟨⟨by decide +kernel, by decide +kernel⟩, List.mem_of_getElem? (i := 796) (by decide +kernel), List.mem_of_getElem? (i := 1012) (by decide +kernel), List.mem_of_getElem? (i := 1013) (by decide +kernel)⟩
theorem lw_p83 : lw_okq (⟨"NextBellboyModel", "tries", "()V"⟩, 24) := ⟨⟨by decide +kernel, by decide +kernel⟩, List.mem_of_getElem? (i := 796) (by decide +kernel), List.mem_of_getElem? (i := 1024) (by decide +kernel), List.mem_of_getElem? (i := 1025) (by decide +kernel)⟩
theorem lw_p84 : lw_okq (⟨"NextBellboyModel", "taskOf", "(I)I"⟩, 24) := ⟨⟨by decide +kernel, by decide +kernel⟩, List.mem_of_getElem? (i := 796) (by decide +kernel), List.mem_of_getElem? (i := 1032) (by decide +kernel), List.mem_of_getElem? (i := 1033) (by decide +kernel)⟩
theorem lw_p85 : lw_okq (⟨"NextBellboyModel", "doneBy", "()I"⟩, 24) := ⟨⟨by decide +kernel, by decide +kernel⟩, List.mem_of_getElem? (i := 796) (by decide +kernel), List.mem_of_getElem? (i := 1045) (by decide +kernel), List.mem_of_getElem? (i := 1046) (by decide +kernel)⟩
theorem lw_p86 : lw_okq (⟨"NextBellboyModel", "isDone", "(I)Z"⟩, 24) := ⟨⟨by decide +kernel, by decide +kernel⟩, List.mem_of_getElem? (i := 796) (by decide +kernel), List.mem_of_getElem? (i := 1049) (by decide +kernel), List.mem_of_getElem? (i := 1050) (by decide +kernel)⟩
theorem lw_p87 : lw_okq (⟨"NextBellboyModel", "bestDeal", "()I"⟩, 24) := ⟨⟨by decide +kernel, by decide +kernel⟩, List.mem_of_getElem? (i := 796) (by decide +kernel), List.mem_of_getElem? (i := 1057) (by decide +kernel), List.mem_of_getElem? (i := 1058) (by decide +kernel)⟩
theorem lw_p88 : lw_okq (⟨"NextBellboyModel", "manyOrders", "()I"⟩, 24) := ⟨⟨by decide +kernel, by decide +kernel⟩, List.mem_of_getElem? (i := 796) (by decide +kernel), List.mem_of_getElem? (i := 1079) (by decide +kernel), List.mem_of_getElem? (i := 1080) (by decide +kernel)⟩
theorem lw_p89 : lw_okq (⟨"NextBellboyModel", "areSo", "()Z"⟩, 24) := ⟨⟨by decide +kernel, by decide +kernel⟩, List.mem_of_getElem? (i := 796) (by decide +kernel), List.mem_of_getElem? (i := 1083) (by decide +kernel), List.mem_of_getElem? (i := 1084) (by decide +kernel)⟩
theorem lw_p90 : lw_okq (⟨"NextBellboyModel", "doesBy", "(I)V"⟩, 24) := ⟨⟨by decide +kernel, by decide +kernel⟩, List.mem_of_getElem? (i := 796) (by decide +kernel), List.mem_of_getElem? (i := 1101) (by decide +kernel), List.mem_of_getElem? (i := 1102) (by decide +kernel)⟩
theorem lw_p91 : lw_okq (⟨"NextBellboyModel", "coinsOf", "(I)I"⟩, 24) := ⟨⟨by decide +kernel, by decide +kernel⟩, List.mem_of_getElem? (i := 796) (by decide +kernel), List.mem_of_getElem? (i := 1105) (by decide +kernel), List.mem_of_getElem? (i := 1106) (by decide +kernel)⟩
theorem lw_p92 : lw_okq (⟨"NextBellboyModel", "allToDo", "()I"⟩, 24) := ⟨⟨by decide +kernel, by decide +kernel⟩, List.mem_of_getElem? (i := 796) (by decide +kernel), List.mem_of_getElem? (i := 1121) (by decide +kernel), List.mem_of_getElem? (i := 1122) (by decide +kernel)⟩
def lw_privs_6 : List (MethodName × Nat) := [(⟨"NextBellboyModel", "manyHow", "(II)I"⟩, 24), (⟨"NextBellboyModel", "canChange", "(III)Z"⟩, 24), (⟨"NextBellboyModel", "changes", "(III)V"⟩, 24), (⟨"NextBellboyModel", "tries", "()V"⟩, 24), (⟨"NextBellboyModel", "taskOf", "(I)I"⟩, 24), (⟨"NextBellboyModel", "doneBy", "()I"⟩, 24), (⟨"NextBellboyModel", "isDone", "(I)Z"⟩, 24), (⟨"NextBellboyModel", "bestDeal", "()I"⟩, 24), (⟨"NextBellboyModel", "manyOrders", "()I"⟩, 24), (⟨"NextBellboyModel", "areSo", "()Z"⟩, 24), (⟨"NextBellboyModel", "doesBy", "(I)V"⟩, 24), (⟨"NextBellboyModel", "coinsOf", "(I)I"⟩, 24), (⟨"NextBellboyModel", "allToDo", "()I"⟩, 24)]
theorem lw_r6 : ∀ q ∈ lw_privs_6, lw_okq q := List.forall_mem_cons.mpr ⟨lw_p80, List.forall_mem_cons.mpr ⟨lw_p81, List.forall_mem_cons.mpr ⟨lw_p82, List.forall_mem_cons.mpr ⟨lw_p83, List.forall_mem_cons.mpr ⟨lw_p84, List.forall_mem_cons.mpr ⟨lw_p85, List.forall_mem_cons.mpr ⟨lw_p86, List.forall_mem_cons.mpr ⟨lw_p87, List.forall_mem_cons.mpr ⟨lw_p88, List.forall_mem_cons.mpr ⟨lw_p89, List.forall_mem_cons.mpr ⟨lw_p90, List.forall_mem_cons.mpr ⟨lw_p91, List.forall_mem_cons.mpr ⟨lw_p92, fun _ h => absurd h List.not_mem_nil⟩⟩⟩⟩⟩⟩⟩⟩⟩⟩⟩⟩⟩
def lw_privs : List (MethodName × Nat) := lw_privs_1 ++ (lw_privs_2 ++ (lw_privs_3 ++ (lw_privs_4 ++ (lw_privs_5 ++ (lw_privs_6)))))
def lw_tbl : List Cond := k2_sels lw_privs ++ tables_1
theorem lw_privs_ok : ∀ q ∈ lw_privs, lw_okq q := by
  show ∀ q ∈ lw_privs_1 ++ (lw_privs_2 ++ (lw_privs_3 ++ (lw_privs_4 ++ (lw_privs_5 ++ (lw_privs_6))))), lw_okq q
  exact List.forall_mem_append.mpr ⟨lw_r1, List.forall_mem_append.mpr ⟨lw_r2, List.forall_mem_append.mpr ⟨lw_r3, List.forall_mem_append.mpr ⟨lw_r4, List.forall_mem_append.mpr ⟨lw_r5, lw_r6⟩⟩⟩⟩⟩
-- ===== end of PART A; then your names; then what follows =====
end
section
def RX0 : String := "NextBellboy$Chance"
def TX0 : u_T := fun k => match k with
  | 0 => ("NextBellboy$Chance", "plan", "LNextBellboy$Plan;", true)
  | 1 => ("NextBellboy$Chance", "trial", "LNextBellboy$House;", true)
  | 2 => ("NextBellboy$Chance", "outlook", "LNextBellboy$Outlook;", true)
  | 3 => ("NextBellboy$Chance", "who", "[I", true)
  | 4 => ("NextBellboy$Chance", "many", "I", false)
  | 5 => ("NextBellboy$Chance", "above", "I", false)
  | _ => ("NextBellboy$Chance", "below", "I", false)
def tyX0 : Nat → FieldType := fun k => match k with
  | 0 => .object "NextBellboy$Plan"
  | 1 => .object "NextBellboy$House"
  | 2 => .object "NextBellboy$Outlook"
  | 3 => .array .int
  | 4 => .int
  | 5 => .int
  | _ => .int
abbrev wsX00 : List Cond := u_ws RX0 TX0 7
theorem nmX0 : ∀ a, a < 7 → ∀ b, b < 7 → a ≠ b → (TX0 a).2.1 ≠ (TX0 b).2.1 := by decide +kernel
theorem tyX0_ok : ∀ k, k < 7 → parseFieldDescriptor (TX0 k).2.2.1 = some (tyX0 k) := by decide +kernel
abbrev cX0_init : ByteArray := prog_2_method_1_code
def yX0_init : MethodName := ⟨RX0, "<init>", "(LNextBellboy$Plan;)V"⟩
abbrev cX0_weigh : ByteArray := prog_2_method_2_code
def yX0_weigh : MethodName := ⟨RX0, "weigh", "(LNextBellboy$House;II)V"⟩
abbrev cX0_weightOf : ByteArray := prog_2_method_3_code
def yX0_weightOf : MethodName := ⟨RX0, "weightOf", "(II)I"⟩
abbrev cX0_isFreeWithout : ByteArray := prog_2_method_4_code
def yX0_isFreeWithout : MethodName := ⟨RX0, "isFreeWithout", "(II)Z"⟩
abbrev cX0_lower : ByteArray := prog_2_method_5_code
def yX0_lower : MethodName := ⟨RX0, "lower", "()V"⟩
def RX1 : String := "NextBellboy$Dealing"
def TX1 : u_T := fun k => match k with
  | 0 => ("NextBellboy$Dealing", "plan", "LNextBellboy$Plan;", true)
  | 1 => ("NextBellboy$Dealing", "trial", "LNextBellboy$House;", true)
  | 2 => ("NextBellboy$Dealing", "outlook", "LNextBellboy$Outlook;", true)
  | 3 => ("NextBellboy$Dealing", "who", "[I", true)
  | 4 => ("NextBellboy$Dealing", "pick", "[I", true)
  | 5 => ("NextBellboy$Dealing", "owner", "[I", true)
  | 6 => ("NextBellboy$Dealing", "many", "I", false)
  | 7 => ("NextBellboy$Dealing", "taken", "I", false)
  | 8 => ("NextBellboy$Dealing", "nearest", "I", false)
  | 9 => ("NextBellboy$Dealing", "soonest", "I", false)
  | _ => ("NextBellboy$Dealing", "stale", "Z", false)
def tyX1 : Nat → FieldType := fun k => match k with
  | 0 => .object "NextBellboy$Plan"
  | 1 => .object "NextBellboy$House"
  | 2 => .object "NextBellboy$Outlook"
  | 3 => .array .int
  | 4 => .array .int
  | 5 => .array .int
  | 6 => .int
  | 7 => .int
  | 8 => .int
  | 9 => .int
  | _ => .boolean
abbrev wsX10 : List Cond := u_ws RX1 TX1 11
theorem nmX1 : ∀ a, a < 11 → ∀ b, b < 11 → a ≠ b → (TX1 a).2.1 ≠ (TX1 b).2.1 := by decide +kernel
theorem tyX1_ok : ∀ k, k < 11 → parseFieldDescriptor (TX1 k).2.2.1 = some (tyX1 k) := by decide +kernel
abbrev cX1_init : ByteArray := prog_3_method_1_code
def yX1_init : MethodName := ⟨RX1, "<init>", "(LNextBellboy$Plan;)V"⟩
abbrev cX1_goStale : ByteArray := prog_3_method_2_code
def yX1_goStale : MethodName := ⟨RX1, "goStale", "()V"⟩
abbrev cX1_ownerFor : ByteArray := prog_3_method_3_code
def yX1_ownerFor : MethodName := ⟨RX1, "ownerFor", "(I)I"⟩
abbrev cX1_refresh : ByteArray := prog_3_method_4_code
def yX1_refresh : MethodName := ⟨RX1, "refresh", "(LNextBellboy$House;)V"⟩
abbrev cX1_begin : ByteArray := prog_3_method_5_code
def yX1_begin : MethodName := ⟨RX1, "begin", "()V"⟩
abbrev cX1_search : ByteArray := prog_3_method_6_code
def yX1_search : MethodName := ⟨RX1, "search", "(LNextBellboy$House;)V"⟩
abbrev cX1_pickNext : ByteArray := prog_3_method_7_code
def yX1_pickNext : MethodName := ⟨RX1, "pickNext", "(ILNextBellboy$House;)Z"⟩
abbrev cX1_writeDown : ByteArray := prog_3_method_8_code
def yX1_writeDown : MethodName := ⟨RX1, "writeDown", "()V"⟩
def RX2 : String := "NextBellboy$House"
def TX2 : u_T := fun k => match k with
  | 0 => ("NextBellboy$House", "plan", "LNextBellboy$Plan;", true)
  | 1 => ("NextBellboy$House", "status", "[I", true)
  | 2 => ("NextBellboy$House", "hour", "[I", true)
  | 3 => ("NextBellboy$House", "far", "[I", true)
  | 4 => ("NextBellboy$House", "work", "[I", true)
  | 5 => ("NextBellboy$House", "seer", "[I", true)
  | 6 => ("NextBellboy$House", "saw", "[I", true)
  | 7 => ("NextBellboy$House", "coins", "[I", true)
  | 8 => ("NextBellboy$House", "cap", "I", false)
  | _ => ("NextBellboy$House", "gone", "I", false)
def tyX2 : Nat → FieldType := fun k => match k with
  | 0 => .object "NextBellboy$Plan"
  | 1 => .array .int
  | 2 => .array .int
  | 3 => .array .int
  | 4 => .array .int
  | 5 => .array .int
  | 6 => .array .int
  | 7 => .array .int
  | 8 => .int
  | _ => .int
abbrev wsX20 : List Cond := u_ws RX2 TX2 10
theorem nmX2 : ∀ a, a < 10 → ∀ b, b < 10 → a ≠ b → (TX2 a).2.1 ≠ (TX2 b).2.1 := by decide +kernel
theorem tyX2_ok : ∀ k, k < 10 → parseFieldDescriptor (TX2 k).2.2.1 = some (tyX2 k) := by decide +kernel
abbrev cX2_init : ByteArray := prog_4_method_1_code
def yX2_init : MethodName := ⟨RX2, "<init>", "(LNextBellboy$Plan;)V"⟩
abbrev cX2_open : ByteArray := prog_4_method_2_code
def yX2_open : MethodName := ⟨RX2, "open", "()V"⟩
abbrev cX2_copyFrom : ByteArray := prog_4_method_3_code
def yX2_copyFrom : MethodName := ⟨RX2, "copyFrom", "(LNextBellboy$House;)V"⟩
abbrev cX2_isBooked : ByteArray := prog_4_method_4_code
def yX2_isBooked : MethodName := ⟨RX2, "isBooked", "(I)Z"⟩
abbrev cX2_rebook : ByteArray := prog_4_method_5_code
def yX2_rebook : MethodName := ⟨RX2, "rebook", "(II)V"⟩
abbrev cX2_callOff : ByteArray := prog_4_method_6_code
def yX2_callOff : MethodName := ⟨RX2, "callOff", "(I)V"⟩
abbrev cX2_swapRooms : ByteArray := prog_4_method_7_code
def yX2_swapRooms : MethodName := ⟨RX2, "swapRooms", "(II)V"⟩
abbrev cX2_brings : ByteArray := prog_4_method_8_code
def yX2_brings : MethodName := ⟨RX2, "brings", "(I)I"⟩
abbrev cX2_oneHour : ByteArray := prog_4_method_9_code
def yX2_oneHour : MethodName := ⟨RX2, "oneHour", "()V"⟩
abbrev cX2_comes : ByteArray := prog_4_method_10_code
def yX2_comes : MethodName := ⟨RX2, "comes", "(I)V"⟩
abbrev cX2_setFree : ByteArray := prog_4_method_11_code
def yX2_setFree : MethodName := ⟨RX2, "setFree", "(I)V"⟩
abbrev cX2_disturb : ByteArray := prog_4_method_12_code
def yX2_disturb : MethodName := ⟨RX2, "disturb", "(I)V"⟩
abbrev cX2_loadSoFar : ByteArray := prog_4_method_13_code
def yX2_loadSoFar : MethodName := ⟨RX2, "loadSoFar", "(I)I"⟩
abbrev cX2_howMany : ByteArray := prog_4_method_14_code
def yX2_howMany : MethodName := ⟨RX2, "howMany", "(I)I"⟩
abbrev cX2_allCoins : ByteArray := prog_4_method_15_code
def yX2_allCoins : MethodName := ⟨RX2, "allCoins", "()I"⟩
abbrev cX2_allWork : ByteArray := prog_4_method_16_code
def yX2_allWork : MethodName := ⟨RX2, "allWork", "()I"⟩
def RX3 : String := "NextBellboy$Outlook"
def TX3 : u_T := fun k => match k with
  | 0 => ("NextBellboy$Outlook", "plan", "LNextBellboy$Plan;", true)
  | 1 => ("NextBellboy$Outlook", "line", "[I", true)
  | 2 => ("NextBellboy$Outlook", "work", "[I", true)
  | 3 => ("NextBellboy$Outlook", "since", "[I", true)
  | 4 => ("NextBellboy$Outlook", "freeBehind", "[I", true)
  | 5 => ("NextBellboy$Outlook", "load", "[I", true)
  | 6 => ("NextBellboy$Outlook", "waiting", "I", false)
  | 7 => ("NextBellboy$Outlook", "cap", "I", false)
  | _ => ("NextBellboy$Outlook", "allDone", "I", false)
def tyX3 : Nat → FieldType := fun k => match k with
  | 0 => .object "NextBellboy$Plan"
  | 1 => .array .int
  | 2 => .array .int
  | 3 => .array .int
  | 4 => .array .int
  | 5 => .array .int
  | 6 => .int
  | 7 => .int
  | _ => .int
abbrev wsX30 : List Cond := u_ws RX3 TX3 9
theorem nmX3 : ∀ a, a < 9 → ∀ b, b < 9 → a ≠ b → (TX3 a).2.1 ≠ (TX3 b).2.1 := by decide +kernel
theorem tyX3_ok : ∀ k, k < 9 → parseFieldDescriptor (TX3 k).2.2.1 = some (tyX3 k) := by decide +kernel
abbrev cX3_init : ByteArray := prog_5_method_1_code
def yX3_init : MethodName := ⟨RX3, "<init>", "(LNextBellboy$Plan;)V"⟩
abbrev cX3_look : ByteArray := prog_5_method_2_code
def yX3_look : MethodName := ⟨RX3, "look", "(LNextBellboy$House;)V"⟩
abbrev cX3_lineUp : ByteArray := prog_5_method_3_code
def yX3_lineUp : MethodName := ⟨RX3, "lineUp", "(LNextBellboy$House;)V"⟩
abbrev cX3_reckon : ByteArray := prog_5_method_4_code
def yX3_reckon : MethodName := ⟨RX3, "reckon", "(LNextBellboy$House;)V"⟩
abbrev cX3_begin : ByteArray := prog_5_method_5_code
def yX3_begin : MethodName := ⟨RX3, "begin", "(LNextBellboy$House;)V"⟩
abbrev cX3_meets : ByteArray := prog_5_method_6_code
def yX3_meets : MethodName := ⟨RX3, "meets", "(ILNextBellboy$House;)V"⟩
abbrev cX3_leaves : ByteArray := prog_5_method_7_code
def yX3_leaves : MethodName := ⟨RX3, "leaves", "(II)V"⟩
def RX4 : String := "NextBellboy$Plan"
def TX4 : u_T := fun k => match k with
  | 0 => ("NextBellboy$Plan", "kind", "[I", true)
  | 1 => ("NextBellboy$Plan", "hour", "[I", true)
  | 2 => ("NextBellboy$Plan", "need", "[I", true)
  | 3 => ("NextBellboy$Plan", "tip", "[I", true)
  | 4 => ("NextBellboy$Plan", "speed", "[I", true)
  | 5 => ("NextBellboy$Plan", "far", "[I", true)
  | 6 => ("NextBellboy$Plan", "size", "I", false)
  | _ => ("NextBellboy$Plan", "rooms", "I", false)
def tyX4 : Nat → FieldType := fun k => match k with
  | 0 => .array .int
  | 1 => .array .int
  | 2 => .array .int
  | 3 => .array .int
  | 4 => .array .int
  | 5 => .array .int
  | 6 => .int
  | _ => .int
abbrev wsX40 : List Cond := u_ws RX4 TX4 8
theorem nmX4 : ∀ a, a < 8 → ∀ b, b < 8 → a ≠ b → (TX4 a).2.1 ≠ (TX4 b).2.1 := by decide +kernel
theorem tyX4_ok : ∀ k, k < 8 → parseFieldDescriptor (TX4 k).2.2.1 = some (tyX4 k) := by decide +kernel
abbrev cX4_init : ByteArray := prog_6_method_1_code
def yX4_init : MethodName := ⟨RX4, "<init>", "()V"⟩
abbrev cX4_has : ByteArray := prog_6_method_2_code
def yX4_has : MethodName := ⟨RX4, "has", "(I)Z"⟩
abbrev cX4_clear : ByteArray := prog_6_method_3_code
def yX4_clear : MethodName := ⟨RX4, "clear", "()V"⟩
abbrev cX4_addGuest : ByteArray := prog_6_method_4_code
def yX4_addGuest : MethodName := ⟨RX4, "addGuest", "([I)Z"⟩
abbrev cX4_addRoom : ByteArray := prog_6_method_5_code
def yX4_addRoom : MethodName := ⟨RX4, "addRoom", "(I)Z"⟩
abbrev cX4_copyFrom : ByteArray := prog_6_method_6_code
def yX4_copyFrom : MethodName := ⟨RX4, "copyFrom", "(LNextBellboy$Plan;)V"⟩
def RX5 : String := "NextBellboy$Script"
def TX5 : u_T := fun k => match k with
  | 0 => ("NextBellboy$Script", "letters", "[I", true)
  | 1 => ("NextBellboy$Script", "numbers", "[I", true)
  | _ => ("NextBellboy$Script", "length", "I", false)
def tyX5 : Nat → FieldType := fun k => match k with
  | 0 => .array .int
  | 1 => .array .int
  | _ => .int
abbrev wsX50 : List Cond := u_ws RX5 TX5 3
theorem nmX5 : ∀ a, a < 3 → ∀ b, b < 3 → a ≠ b → (TX5 a).2.1 ≠ (TX5 b).2.1 := by decide +kernel
theorem tyX5_ok : ∀ k, k < 3 → parseFieldDescriptor (TX5 k).2.2.1 = some (tyX5 k) := by decide +kernel
abbrev cX5_init : ByteArray := prog_7_method_1_code
def yX5_init : MethodName := ⟨RX5, "<init>", "()V"⟩
abbrev cX5_append : ByteArray := prog_7_method_2_code
def yX5_append : MethodName := ⟨RX5, "append", "(I)Z"⟩
abbrev cX5_clear : ByteArray := prog_7_method_3_code
def yX5_clear : MethodName := ⟨RX5, "clear", "()V"⟩
abbrev cX5_readInto : ByteArray := prog_7_method_4_code
def yX5_readInto : MethodName := ⟨RX5, "readInto", "(LNextBellboy$Plan;)I"⟩
abbrev cX5_readItem : ByteArray := prog_7_method_5_code
def yX5_readItem : MethodName := ⟨RX5, "readItem", "(ILNextBellboy$Plan;)I"⟩
abbrev cX5_readNumbers : ByteArray := prog_7_method_6_code
def yX5_readNumbers : MethodName := ⟨RX5, "readNumbers", "(I[I[I)I"⟩
abbrev cX5_isFigure : ByteArray := prog_7_method_7_code
def yX5_isFigure : MethodName := ⟨RX5, "isFigure", "(I)Z"⟩
abbrev cX5_letterAt : ByteArray := prog_7_method_8_code
def yX5_letterAt : MethodName := ⟨RX5, "letterAt", "(I)I"⟩
def RX6 : String := "NextBellboy$Shelf"
def TX6 : u_T := fun k => match k with
  | 0 => ("NextBellboy$Shelf", "rows", "[LNextBellboy$House;", true)
  | _ => ("NextBellboy$Shelf", "size", "I", false)
def tyX6 : Nat → FieldType := fun k => match k with
  | 0 => .array (.object "NextBellboy$House")
  | _ => .int
abbrev wsX60 : List Cond := u_ws RX6 TX6 2
theorem nmX6 : ∀ a, a < 2 → ∀ b, b < 2 → a ≠ b → (TX6 a).2.1 ≠ (TX6 b).2.1 := by decide +kernel
theorem tyX6_ok : ∀ k, k < 2 → parseFieldDescriptor (TX6 k).2.2.1 = some (tyX6 k) := by decide +kernel
abbrev cX6_init : ByteArray := prog_8_method_1_code
def yX6_init : MethodName := ⟨RX6, "<init>", "(LNextBellboy$Plan;I)V"⟩
abbrev cX6_isFull : ByteArray := prog_8_method_2_code
def yX6_isFull : MethodName := ⟨RX6, "isFull", "()Z"⟩
abbrev cX6_clear : ByteArray := prog_8_method_3_code
def yX6_clear : MethodName := ⟨RX6, "clear", "()V"⟩
abbrev cX6_put : ByteArray := prog_8_method_4_code
def yX6_put : MethodName := ⟨RX6, "put", "(LNextBellboy$House;)V"⟩
abbrev cX6_dropOldest : ByteArray := prog_8_method_5_code
def yX6_dropOldest : MethodName := ⟨RX6, "dropOldest", "()V"⟩
abbrev cX6_takeInto : ByteArray := prog_8_method_6_code
def yX6_takeInto : MethodName := ⟨RX6, "takeInto", "(LNextBellboy$House;)Z"⟩
def RX7 : String := "NextBellboy$Sightings"
def TX7 : u_T := fun k => match k with
  | 0 => ("NextBellboy$Sightings", "plan", "LNextBellboy$Plan;", true)
  | 1 => ("NextBellboy$Sightings", "who", "[I", true)
  | 2 => ("NextBellboy$Sightings", "sum", "[I", true)
  | 3 => ("NextBellboy$Sightings", "order", "[I", true)
  | 4 => ("NextBellboy$Sightings", "first", "[I", true)
  | 5 => ("NextBellboy$Sightings", "coins", "[I", true)
  | 6 => ("NextBellboy$Sightings", "size", "I", false)
  | 7 => ("NextBellboy$Sightings", "total", "I", false)
  | _ => ("NextBellboy$Sightings", "stale", "Z", false)
def tyX7 : Nat → FieldType := fun k => match k with
  | 0 => .object "NextBellboy$Plan"
  | 1 => .array .int
  | 2 => .array .int
  | 3 => .array .int
  | 4 => .array .int
  | 5 => .array .int
  | 6 => .int
  | 7 => .int
  | _ => .boolean
abbrev wsX70 : List Cond := u_ws RX7 TX7 9
theorem nmX7 : ∀ a, a < 9 → ∀ b, b < 9 → a ≠ b → (TX7 a).2.1 ≠ (TX7 b).2.1 := by decide +kernel
theorem tyX7_ok : ∀ k, k < 9 → parseFieldDescriptor (TX7 k).2.2.1 = some (tyX7 k) := by decide +kernel
abbrev cX7_init : ByteArray := prog_9_method_1_code
def yX7_init : MethodName := ⟨RX7, "<init>", "(LNextBellboy$Plan;)V"⟩
abbrev cX7_add : ByteArray := prog_9_method_2_code
def yX7_add : MethodName := ⟨RX7, "add", "(II)Z"⟩
abbrev cX7_clear : ByteArray := prog_9_method_3_code
def yX7_clear : MethodName := ⟨RX7, "clear", "()V"⟩
abbrev cX7_firstOrderAt : ByteArray := prog_9_method_4_code
def yX7_firstOrderAt : MethodName := ⟨RX7, "firstOrderAt", "(I)I"⟩
abbrev cX7_refresh : ByteArray := prog_9_method_5_code
def yX7_refresh : MethodName := ⟨RX7, "refresh", "()V"⟩
abbrev cX7_noteOrder : ByteArray := prog_9_method_6_code
def yX7_noteOrder : MethodName := ⟨RX7, "noteOrder", "()V"⟩
abbrev cX7_isAsSeen : ByteArray := prog_9_method_7_code
def yX7_isAsSeen : MethodName := ⟨RX7, "isAsSeen", "()Z"⟩
abbrev cX7_comeInOrder : ByteArray := prog_9_method_8_code
def yX7_comeInOrder : MethodName := ⟨RX7, "comeInOrder", "()V"⟩
abbrev cX7_payOut : ByteArray := prog_9_method_9_code
def yX7_payOut : MethodName := ⟨RX7, "payOut", "(III)V"⟩
abbrev cX7_nextOrder : ByteArray := prog_9_method_10_code
def yX7_nextOrder : MethodName := ⟨RX7, "nextOrder", "()Z"⟩
abbrev cX7_swap : ByteArray := prog_9_method_11_code
def yX7_swap : MethodName := ⟨RX7, "swap", "(II)V"⟩
def RX8 : String := "NextBellboy"
def TX8 : u_T := fun k => match k with
  | 0 => ("NextBellboy", "script", "LNextBellboy$Script;", true)
  | 1 => ("NextBellboy", "plan", "LNextBellboy$Plan;", true)
  | 2 => ("NextBellboy", "draft", "LNextBellboy$Plan;", true)
  | 3 => ("NextBellboy", "house", "LNextBellboy$House;", true)
  | 4 => ("NextBellboy", "trial", "LNextBellboy$House;", true)
  | 5 => ("NextBellboy", "outlook", "LNextBellboy$Outlook;", true)
  | 6 => ("NextBellboy", "past", "LNextBellboy$Shelf;", true)
  | 7 => ("NextBellboy", "kept", "LNextBellboy$Shelf;", true)
  | 8 => ("NextBellboy", "dealing", "LNextBellboy$Dealing;", true)
  | 9 => ("NextBellboy", "sightings", "LNextBellboy$Sightings;", true)
  | _ => ("NextBellboy", "chance", "LNextBellboy$Chance;", true)
def tyX8 : Nat → FieldType := fun k => match k with
  | 0 => .object "NextBellboy$Script"
  | 1 => .object "NextBellboy$Plan"
  | 2 => .object "NextBellboy$Plan"
  | 3 => .object "NextBellboy$House"
  | 4 => .object "NextBellboy$House"
  | 5 => .object "NextBellboy$Outlook"
  | 6 => .object "NextBellboy$Shelf"
  | 7 => .object "NextBellboy$Shelf"
  | 8 => .object "NextBellboy$Dealing"
  | 9 => .object "NextBellboy$Sightings"
  | _ => .object "NextBellboy$Chance"
abbrev wsX80 : List Cond := u_ws RX8 TX8 11
theorem nmX8 : ∀ a, a < 11 → ∀ b, b < 11 → a ≠ b → (TX8 a).2.1 ≠ (TX8 b).2.1 := by decide +kernel
theorem tyX8_ok : ∀ k, k < 11 → parseFieldDescriptor (TX8 k).2.2.1 = some (tyX8 k) := by decide +kernel
abbrev cX8_init : ByteArray := prog_1_method_1_code
def yX8_init : MethodName := ⟨RX8, "<init>", "()V"⟩
abbrev cX8_write : ByteArray := prog_1_method_2_code
def yX8_write : MethodName := ⟨RX8, "write", "(I)I"⟩
abbrev cX8_wipe : ByteArray := prog_1_method_3_code
def yX8_wipe : MethodName := ⟨RX8, "wipe", "()I"⟩
abbrev cX8_fault : ByteArray := prog_1_method_4_code
def yX8_fault : MethodName := ⟨RX8, "fault", "()I"⟩
abbrev cX8_lay : ByteArray := prog_1_method_5_code
def yX8_lay : MethodName := ⟨RX8, "lay", "()I"⟩
abbrev cX8_guest : ByteArray := prog_1_method_6_code
def yX8_guest : MethodName := ⟨RX8, "guest", "(II)I"⟩
abbrev cX8_state : ByteArray := prog_1_method_7_code
def yX8_state : MethodName := ⟨RX8, "state", "(II)I"⟩
abbrev cX8_pass : ByteArray := prog_1_method_8_code
def yX8_pass : MethodName := ⟨RX8, "pass", "(I)I"⟩
abbrev cX8_book : ByteArray := prog_1_method_9_code
def yX8_book : MethodName := ⟨RX8, "book", "(II)I"⟩
abbrev cX8_call : ByteArray := prog_1_method_10_code
def yX8_call : MethodName := ⟨RX8, "call", "(I)I"⟩
abbrev cX8_change : ByteArray := prog_1_method_11_code
def yX8_change : MethodName := ⟨RX8, "change", "(II)I"⟩
abbrev cX8_undo : ByteArray := prog_1_method_12_code
def yX8_undo : MethodName := ⟨RX8, "undo", "()I"⟩
abbrev cX8_freed : ByteArray := prog_1_method_13_code
def yX8_freed : MethodName := ⟨RX8, "freed", "(I)I"⟩
abbrev cX8_task : ByteArray := prog_1_method_14_code
def yX8_task : MethodName := ⟨RX8, "task", "(I)I"⟩
abbrev cX8_early : ByteArray := prog_1_method_15_code
def yX8_early : MethodName := ⟨RX8, "early", "(II)I"⟩
abbrev cX8_done : ByteArray := prog_1_method_16_code
def yX8_done : MethodName := ⟨RX8, "done", "()I"⟩
abbrev cX8_deal : ByteArray := prog_1_method_17_code
def yX8_deal : MethodName := ⟨RX8, "deal", "(I)I"⟩
abbrev cX8_off : ByteArray := prog_1_method_18_code
def yX8_off : MethodName := ⟨RX8, "off", "(I)I"⟩
abbrev cX8_see : ByteArray := prog_1_method_19_code
def yX8_see : MethodName := ⟨RX8, "see", "(II)I"⟩
abbrev cX8_forget : ByteArray := prog_1_method_20_code
def yX8_forget : MethodName := ⟨RX8, "forget", "()I"⟩
abbrev cX8_orders : ByteArray := prog_1_method_21_code
def yX8_orders : MethodName := ⟨RX8, "orders", "(I)I"⟩
abbrev cX8_absent : ByteArray := prog_1_method_22_code
def yX8_absent : MethodName := ⟨RX8, "absent", "(III)I"⟩
abbrev cX8_season : ByteArray := prog_1_method_23_code
def yX8_season : MethodName := ⟨RX8, "season", "(III)I"⟩
abbrev cX8_keep : ByteArray := prog_1_method_24_code
def yX8_keep : MethodName := ⟨RX8, "keep", "()I"⟩
abbrev cX8_back : ByteArray := prog_1_method_25_code
def yX8_back : MethodName := ⟨RX8, "back", "()I"⟩
abbrev cX8_count : ByteArray := prog_1_method_26_code
def yX8_count : MethodName := ⟨RX8, "count", "(I)I"⟩
abbrev cX8_layScript : ByteArray := prog_1_method_27_code
def yX8_layScript : MethodName := ⟨RX8, "layScript", "()Z"⟩
abbrev cX8_beginAct : ByteArray := prog_1_method_28_code
def yX8_beginAct : MethodName := ⟨RX8, "beginAct", "()V"⟩
abbrev cX8_withinHorizon : ByteArray := prog_1_method_29_code
def yX8_withinHorizon : MethodName := ⟨RX8, "withinHorizon", "(I)I"⟩
abbrev cX8_drawOf : ByteArray := prog_1_method_30_code
def yX8_drawOf : MethodName := ⟨RX8, "drawOf", "(II)I"⟩
def RX9 : String := "NextBellboyModel"
def TX9 : u_T := fun k => match k with
  | 0 => ("NextBellboyModel", "w", "[I", true)
  | 1 => ("NextBellboyModel", "undoes", "I", false)
  | 2 => ("NextBellboyModel", "kept", "I", false)
  | 3 => ("NextBellboyModel", "guests", "I", false)
  | 4 => ("NextBellboyModel", "kind", "[I", true)
  | 5 => ("NextBellboyModel", "needs", "[I", true)
  | 6 => ("NextBellboyModel", "tips", "[I", true)
  | 7 => ("NextBellboyModel", "pace", "[I", true)
  | 8 => ("NextBellboyModel", "seen", "I", false)
  | 9 => ("NextBellboyModel", "seenGuest", "[I", true)
  | 10 => ("NextBellboyModel", "seenCoins", "[I", true)
  | 11 => ("NextBellboyModel", "text", "[I", true)
  | 12 => ("NextBellboyModel", "texted", "I", false)
  | 13 => ("NextBellboyModel", "place", "I", false)
  | 14 => ("NextBellboyModel", "number", "I", false)
  | 15 => ("NextBellboyModel", "readGuests", "I", false)
  | 16 => ("NextBellboyModel", "readGuest", "[I", true)
  | 17 => ("NextBellboyModel", "readRooms", "I", false)
  | 18 => ("NextBellboyModel", "readRoom", "[I", true)
  | 19 => ("NextBellboyModel", "lot", "[I", true)
  | 20 => ("NextBellboyModel", "dealt", "[I", true)
  | 21 => ("NextBellboyModel", "bestDealt", "[I", true)
  | 22 => ("NextBellboyModel", "order", "[I", true)
  | _ => ("NextBellboyModel", "first", "[I", true)
def tyX9 : Nat → FieldType := fun k => match k with
  | 0 => .array .int
  | 1 => .int
  | 2 => .int
  | 3 => .int
  | 4 => .array .int
  | 5 => .array .int
  | 6 => .array .int
  | 7 => .array .int
  | 8 => .int
  | 9 => .array .int
  | 10 => .array .int
  | 11 => .array .int
  | 12 => .int
  | 13 => .int
  | 14 => .int
  | 15 => .int
  | 16 => .array .int
  | 17 => .int
  | 18 => .array .int
  | 19 => .array .int
  | 20 => .array .int
  | 21 => .array .int
  | 22 => .array .int
  | _ => .array .int
abbrev wsX90 : List Cond := u_ws RX9 TX9 24
theorem nmX9 : ∀ a, a < 24 → ∀ b, b < 24 → a ≠ b → (TX9 a).2.1 ≠ (TX9 b).2.1 := by decide +kernel
theorem tyX9_ok : ∀ k, k < 24 → parseFieldDescriptor (TX9 k).2.2.1 = some (tyX9 k) := by decide +kernel
abbrev cX9_init : ByteArray := prog_11_method_1_code
def yX9_init : MethodName := ⟨RX9, "<init>", "()V"⟩
abbrev cX9_in : ByteArray := prog_11_method_3_code
def yX9_in : MethodName := ⟨RX9, "in", "(JJJ)Z"⟩
abbrev cX9_has : ByteArray := prog_11_method_4_code
def yX9_has : MethodName := ⟨RX9, "has", "(II)Z"⟩
abbrev cX9_copy : ByteArray := prog_11_method_5_code
def yX9_copy : MethodName := ⟨RX9, "copy", "(II)V"⟩
abbrev cX9_isGuest : ByteArray := prog_11_method_6_code
def yX9_isGuest : MethodName := ⟨RX9, "isGuest", "(I)Z"⟩
abbrev cX9_starts : ByteArray := prog_11_method_7_code
def yX9_starts : MethodName := ⟨RX9, "starts", "()V"⟩
abbrev cX9_addsGuest : ByteArray := prog_11_method_8_code
def yX9_addsGuest : MethodName := ⟨RX9, "addsGuest", "(IIIII)V"⟩
abbrev cX9_addsRoom : ByteArray := prog_11_method_9_code
def yX9_addsRoom : MethodName := ⟨RX9, "addsRoom", "(I)V"⟩
abbrev cX9_begins : ByteArray := prog_11_method_10_code
def yX9_begins : MethodName := ⟨RX9, "begins", "()V"⟩
abbrev cX9_write : ByteArray := prog_11_method_11_code
def yX9_write : MethodName := ⟨RX9, "write", "(I)I"⟩
abbrev cX9_wipe : ByteArray := prog_11_method_12_code
def yX9_wipe : MethodName := ⟨RX9, "wipe", "()I"⟩
abbrev cX9_letterAt : ByteArray := prog_11_method_13_code
def yX9_letterAt : MethodName := ⟨RX9, "letterAt", "(I)I"⟩
abbrev cX9_takesNumber : ByteArray := prog_11_method_14_code
def yX9_takesNumber : MethodName := ⟨RX9, "takesNumber", "(III)Z"⟩
abbrev cX9_takesGuest : ByteArray := prog_11_method_15_code
def yX9_takesGuest : MethodName := ⟨RX9, "takesGuest", "()Z"⟩
abbrev cX9_takesRoom : ByteArray := prog_11_method_16_code
def yX9_takesRoom : MethodName := ⟨RX9, "takesRoom", "()Z"⟩
abbrev cX9_takesItem : ByteArray := prog_11_method_17_code
def yX9_takesItem : MethodName := ⟨RX9, "takesItem", "()Z"⟩
abbrev cX9_faultOf : ByteArray := prog_11_method_18_code
def yX9_faultOf : MethodName := ⟨RX9, "faultOf", "()I"⟩
abbrev cX9_fault : ByteArray := prog_11_method_19_code
def yX9_fault : MethodName := ⟨RX9, "fault", "()I"⟩
abbrev cX9_lay : ByteArray := prog_11_method_20_code
def yX9_lay : MethodName := ⟨RX9, "lay", "()I"⟩
abbrev cX9_guest : ByteArray := prog_11_method_21_code
def yX9_guest : MethodName := ⟨RX9, "guest", "(II)I"⟩
abbrev cX9_state : ByteArray := prog_11_method_22_code
def yX9_state : MethodName := ⟨RX9, "state", "(II)I"⟩
abbrev cX9_bringsIn : ByteArray := prog_11_method_23_code
def yX9_bringsIn : MethodName := ⟨RX9, "bringsIn", "(II)I"⟩
abbrev cX9_comes : ByteArray := prog_11_method_24_code
def yX9_comes : MethodName := ⟨RX9, "comes", "(II)V"⟩
abbrev cX9_goesFree : ByteArray := prog_11_method_25_code
def yX9_goesFree : MethodName := ⟨RX9, "goesFree", "(II)V"⟩
abbrev cX9_freesThose : ByteArray := prog_11_method_26_code
def yX9_freesThose : MethodName := ⟨RX9, "freesThose", "(I)V"⟩
abbrev cX9_passes : ByteArray := prog_11_method_27_code
def yX9_passes : MethodName := ⟨RX9, "passes", "(I)V"⟩
abbrev cX9_canBook : ByteArray := prog_11_method_28_code
def yX9_canBook : MethodName := ⟨RX9, "canBook", "(III)Z"⟩
abbrev cX9_canChange : ByteArray := prog_11_method_29_code
def yX9_canChange : MethodName := ⟨RX9, "canChange", "(III)Z"⟩
abbrev cX9_changes : ByteArray := prog_11_method_30_code
def yX9_changes : MethodName := ⟨RX9, "changes", "(III)V"⟩
abbrev cX9_minds : ByteArray := prog_11_method_31_code
def yX9_minds : MethodName := ⟨RX9, "minds", "()V"⟩
abbrev cX9_pass : ByteArray := prog_11_method_32_code
def yX9_pass : MethodName := ⟨RX9, "pass", "(I)I"⟩
abbrev cX9_book : ByteArray := prog_11_method_33_code
def yX9_book : MethodName := ⟨RX9, "book", "(II)I"⟩
abbrev cX9_manyHow : ByteArray := prog_11_method_34_code
def yX9_manyHow : MethodName := ⟨RX9, "manyHow", "(II)I"⟩
abbrev cX9_call : ByteArray := prog_11_method_35_code
def yX9_call : MethodName := ⟨RX9, "call", "(I)I"⟩
abbrev cX9_change : ByteArray := prog_11_method_36_code
def yX9_change : MethodName := ⟨RX9, "change", "(II)I"⟩
abbrev cX9_undo : ByteArray := prog_11_method_37_code
def yX9_undo : MethodName := ⟨RX9, "undo", "()I"⟩
abbrev cX9_tries : ByteArray := prog_11_method_38_code
def yX9_tries : MethodName := ⟨RX9, "tries", "()V"⟩
abbrev cX9_freed : ByteArray := prog_11_method_39_code
def yX9_freed : MethodName := ⟨RX9, "freed", "(I)I"⟩
abbrev cX9_taskOf : ByteArray := prog_11_method_40_code
def yX9_taskOf : MethodName := ⟨RX9, "taskOf", "(I)I"⟩
abbrev cX9_task : ByteArray := prog_11_method_41_code
def yX9_task : MethodName := ⟨RX9, "task", "(I)I"⟩
abbrev cX9_early : ByteArray := prog_11_method_42_code
def yX9_early : MethodName := ⟨RX9, "early", "(II)I"⟩
abbrev cX9_isDone : ByteArray := prog_11_method_43_code
def yX9_isDone : MethodName := ⟨RX9, "isDone", "(I)Z"⟩
abbrev cX9_doneBy : ByteArray := prog_11_method_44_code
def yX9_doneBy : MethodName := ⟨RX9, "doneBy", "()I"⟩
abbrev cX9_done : ByteArray := prog_11_method_45_code
def yX9_done : MethodName := ⟨RX9, "done", "()I"⟩
abbrev cX9_bestDeal : ByteArray := prog_11_method_46_code
def yX9_bestDeal : MethodName := ⟨RX9, "bestDeal", "()I"⟩
abbrev cX9_deal : ByteArray := prog_11_method_47_code
def yX9_deal : MethodName := ⟨RX9, "deal", "(I)I"⟩
abbrev cX9_off : ByteArray := prog_11_method_48_code
def yX9_off : MethodName := ⟨RX9, "off", "(I)I"⟩
abbrev cX9_see : ByteArray := prog_11_method_49_code
def yX9_see : MethodName := ⟨RX9, "see", "(II)I"⟩
abbrev cX9_forget : ByteArray := prog_11_method_50_code
def yX9_forget : MethodName := ⟨RX9, "forget", "()I"⟩
abbrev cX9_areSo : ByteArray := prog_11_method_51_code
def yX9_areSo : MethodName := ⟨RX9, "areSo", "()Z"⟩
abbrev cX9_manyOrders : ByteArray := prog_11_method_52_code
def yX9_manyOrders : MethodName := ⟨RX9, "manyOrders", "()I"⟩
abbrev cX9_orders : ByteArray := prog_11_method_53_code
def yX9_orders : MethodName := ⟨RX9, "orders", "(I)I"⟩
abbrev cX9_absent : ByteArray := prog_11_method_54_code
def yX9_absent : MethodName := ⟨RX9, "absent", "(III)I"⟩
abbrev cX9_doesBy : ByteArray := prog_11_method_55_code
def yX9_doesBy : MethodName := ⟨RX9, "doesBy", "(I)V"⟩
abbrev cX9_coinsOf : ByteArray := prog_11_method_56_code
def yX9_coinsOf : MethodName := ⟨RX9, "coinsOf", "(I)I"⟩
abbrev cX9_season : ByteArray := prog_11_method_57_code
def yX9_season : MethodName := ⟨RX9, "season", "(III)I"⟩
abbrev cX9_keep : ByteArray := prog_11_method_58_code
def yX9_keep : MethodName := ⟨RX9, "keep", "()I"⟩
abbrev cX9_back : ByteArray := prog_11_method_59_code
def yX9_back : MethodName := ⟨RX9, "back", "()I"⟩
abbrev cX9_allToDo : ByteArray := prog_11_method_60_code
def yX9_allToDo : MethodName := ⟨RX9, "allToDo", "()I"⟩
abbrev cX9_count : ByteArray := prog_11_method_61_code
def yX9_count : MethodName := ⟨RX9, "count", "(I)I"⟩
def RJ9 : String := "java/lang/Math"
def TJ9 : u_T := fun k => match k with
  | _ => ("", "", "", false)
def tyJ9 : Nat → FieldType := fun k => match k with
  | _ => .int
abbrev wsJ90 : List Cond := u_ws RJ9 TJ9 0
theorem nmJ9 : ∀ a, a < 0 → ∀ b, b < 0 → a ≠ b → (TJ9 a).2.1 ≠ (TJ9 b).2.1 := by decide +kernel
theorem tyJ9_ok : ∀ k, k < 0 → parseFieldDescriptor (TJ9 k).2.2.1 = some (tyJ9 k) := by decide +kernel
abbrev cJ9_max_7cf53 : ByteArray := prog_12_method_65_code
def yJ9_max_7cf53 : MethodName := ⟨RJ9, "max", "(II)I"⟩
abbrev cJ9_min_7cf53 : ByteArray := prog_12_method_69_code
def yJ9_min_7cf53 : MethodName := ⟨RJ9, "min", "(II)I"⟩
def RJ0 : String := "java/lang/String"
def TJ0 : u_T := fun k => match k with
  | _ => ("", "", "", false)
def tyJ0 : Nat → FieldType := fun k => match k with
  | _ => .int
abbrev wsJ00 : List Cond := u_ws RJ0 TJ0 0
theorem nmJ0 : ∀ a, a < 0 → ∀ b, b < 0 → a ≠ b → (TJ0 a).2.1 ≠ (TJ0 b).2.1 := by decide +kernel
theorem tyJ0_ok : ∀ k, k < 0 → parseFieldDescriptor (TJ0 k).2.2.1 = some (tyJ0 k) := by decide +kernel
abbrev cJ0_length_8abf5 : ByteArray := prog_13_method_54_code
def yJ0_length_8abf5 : MethodName := ⟨RJ0, "length", "()I"⟩
abbrev cJ0_charAt_5068e : ByteArray := prog_13_method_56_code
def yJ0_charAt_5068e : MethodName := ⟨RJ0, "charAt", "(I)C"⟩
abbrev cJ0_coder_7d493 : ByteArray := prog_13_method_152_code
def yJ0_coder_7d493 : MethodName := ⟨RJ0, "coder", "()B"⟩
abbrev cJ0_isLatin1_aae02 : ByteArray := prog_13_method_154_code
def yJ0_isLatin1_aae02 : MethodName := ⟨RJ0, "isLatin1", "()Z"⟩
abbrev cJ0_checkIndex_df160 : ByteArray := prog_13_method_155_code
def yJ0_checkIndex_df160 : MethodName := ⟨RJ0, "checkIndex", "(II)V"⟩
def RJ1 : String := "java/lang/StringLatin1"
def TJ1 : u_T := fun k => match k with
  | _ => ("", "", "", false)
def tyJ1 : Nat → FieldType := fun k => match k with
  | _ => .int
abbrev wsJ10 : List Cond := u_ws RJ1 TJ1 0
theorem nmJ1 : ∀ a, a < 0 → ∀ b, b < 0 → a ≠ b → (TJ1 a).2.1 ≠ (TJ1 b).2.1 := by decide +kernel
theorem tyJ1_ok : ∀ k, k < 0 → parseFieldDescriptor (TJ1 k).2.2.1 = some (tyJ1 k) := by decide +kernel
abbrev cJ1_charAt_3b067 : ByteArray := prog_14_method_2_code
def yJ1_charAt_3b067 : MethodName := ⟨RJ1, "charAt", "([BI)C"⟩
def RJ2 : String := "java/lang/StringUTF16"
def TJ2 : u_T := fun k => match k with
  | _ => ("", "", "", false)
def tyJ2 : Nat → FieldType := fun k => match k with
  | _ => .int
abbrev wsJ20 : List Cond := u_ws RJ2 TJ2 0
theorem nmJ2 : ∀ a, a < 0 → ∀ b, b < 0 → a ≠ b → (TJ2 a).2.1 ≠ (TJ2 b).2.1 := by decide +kernel
theorem tyJ2_ok : ∀ k, k < 0 → parseFieldDescriptor (TJ2 k).2.2.1 = some (tyJ2 k) := by decide +kernel
abbrev cJ2_getChar_3b067 : ByteArray := prog_15_method_5_code
def yJ2_getChar_3b067 : MethodName := ⟨RJ2, "getChar", "([BI)C"⟩
abbrev cJ2_length_9d52b : ByteArray := prog_15_method_6_code
def yJ2_length_9d52b : MethodName := ⟨RJ2, "length", "([B)I"⟩
abbrev cJ2_charAt_3b067 : ByteArray := prog_15_method_83_code
def yJ2_charAt_3b067 : MethodName := ⟨RJ2, "charAt", "([BI)C"⟩
abbrev cJ2_checkIndex_2214a : ByteArray := prog_15_method_91_code
def yJ2_checkIndex_2214a : MethodName := ⟨RJ2, "checkIndex", "(I[B)V"⟩
def RJ3 : String := "jdk/internal/util/Preconditions"
def TJ3 : u_T := fun k => match k with
  | _ => ("", "", "", false)
def tyJ3 : Nat → FieldType := fun k => match k with
  | _ => .int
abbrev wsJ30 : List Cond := u_ws RJ3 TJ3 0
theorem nmJ3 : ∀ a, a < 0 → ∀ b, b < 0 → a ≠ b → (TJ3 a).2.1 ≠ (TJ3 b).2.1 := by decide +kernel
theorem tyJ3_ok : ∀ k, k < 0 → parseFieldDescriptor (TJ3 k).2.2.1 = some (tyJ3 k) := by decide +kernel
abbrev cJ3_checkIndex_8e157 : ByteArray := prog_16_method_11_code
def yJ3_checkIndex_8e157 : MethodName := ⟨RJ3, "checkIndex", "(IILjava/util/function/BiFunction;)I"⟩
def RL : String := "NextBellboyLaw"
abbrev cL_law : ByteArray := code
def yL_law : MethodName := ⟨RL, "law", "([I)Z"⟩
abbrev vwCl : List vw_C := [(RX0, TX0, 7), (RX1, TX1, 11), (RX2, TX2, 10), (RX3, TX3, 9), (RX4, TX4, 8), (RX5, TX5, 3), (RX6, TX6, 2), (RX7, TX7, 9), (RX8, TX8, 11), (RX9, TX9, 24)]
end
section
theorem dX0_init_0 : decode cX0_init 0 = .ok (.aload_n 0, 1) := by decide +kernel
theorem dX0_init_1 : decode cX0_init 1 = .ok (.invokespecial 3, 3) := by decide +kernel
theorem dX0_init_4 : decode cX0_init 4 = .ok (.aload_n 0, 1) := by decide +kernel
theorem dX0_init_5 : decode cX0_init 5 = .ok (.bipush 7, 2) := by decide +kernel
theorem dX0_init_7 : decode cX0_init 7 = .ok (.newarray .int, 2) := by decide +kernel
theorem dX0_init_9 : decode cX0_init 9 = .ok (.putfield 9, 3) := by decide +kernel
theorem dX0_init_12 : decode cX0_init 12 = .ok (.aload_n 0, 1) := by decide +kernel
theorem dX0_init_13 : decode cX0_init 13 = .ok (.iconst 0, 1) := by decide +kernel
theorem dX0_init_14 : decode cX0_init 14 = .ok (.putfield 15, 3) := by decide +kernel
theorem dX0_init_17 : decode cX0_init 17 = .ok (.aload_n 0, 1) := by decide +kernel
theorem dX0_init_18 : decode cX0_init 18 = .ok (.iconst 0, 1) := by decide +kernel
theorem dX0_init_19 : decode cX0_init 19 = .ok (.putfield 19, 3) := by decide +kernel
theorem dX0_init_22 : decode cX0_init 22 = .ok (.aload_n 0, 1) := by decide +kernel
theorem dX0_init_23 : decode cX0_init 23 = .ok (.iconst 1, 1) := by decide +kernel
theorem dX0_init_24 : decode cX0_init 24 = .ok (.putfield 22, 3) := by decide +kernel
theorem dX0_init_27 : decode cX0_init 27 = .ok (.aload_n 0, 1) := by decide +kernel
theorem dX0_init_28 : decode cX0_init 28 = .ok (.aload_n 1, 1) := by decide +kernel
theorem dX0_init_29 : decode cX0_init 29 = .ok (.putfield 25, 3) := by decide +kernel
theorem dX0_init_32 : decode cX0_init 32 = .ok (.aload_n 0, 1) := by decide +kernel
theorem dX0_init_33 : decode cX0_init 33 = .ok (.new 29, 3) := by decide +kernel
theorem dX0_init_36 : decode cX0_init 36 = .ok (.dup, 1) := by decide +kernel
theorem dX0_init_37 : decode cX0_init 37 = .ok (.aload_n 1, 1) := by decide +kernel
theorem dX0_init_38 : decode cX0_init 38 = .ok (.invokespecial 31, 3) := by decide +kernel
theorem dX0_init_41 : decode cX0_init 41 = .ok (.putfield 34, 3) := by decide +kernel
theorem dX0_init_44 : decode cX0_init 44 = .ok (.aload_n 0, 1) := by decide +kernel
theorem dX0_init_45 : decode cX0_init 45 = .ok (.new 38, 3) := by decide +kernel
theorem dX0_init_48 : decode cX0_init 48 = .ok (.dup, 1) := by decide +kernel
theorem dX0_init_49 : decode cX0_init 49 = .ok (.aload_n 1, 1) := by decide +kernel
theorem dX0_init_50 : decode cX0_init 50 = .ok (.invokespecial 40, 3) := by decide +kernel
theorem dX0_init_53 : decode cX0_init 53 = .ok (.putfield 41, 3) := by decide +kernel
theorem dX0_init_56 : decode cX0_init 56 = .ok (.return_, 1) := by decide +kernel
theorem dX0_weigh_0 : decode cX0_weigh 0 = .ok (.aload_n 0, 1) := by decide +kernel
theorem dX0_weigh_1 : decode cX0_weigh 1 = .ok (.iconst 0, 1) := by decide +kernel
theorem dX0_weigh_2 : decode cX0_weigh 2 = .ok (.putfield 15, 3) := by decide +kernel
theorem dX0_weigh_5 : decode cX0_weigh 5 = .ok (.iconst 0, 1) := by decide +kernel
theorem dX0_weigh_6 : decode cX0_weigh 6 = .ok (.istore 4, 2) := by decide +kernel
theorem dX0_weigh_8 : decode cX0_weigh 8 = .ok (.iload 4, 2) := by decide +kernel
theorem dX0_weigh_10 : decode cX0_weigh 10 = .ok (.aload_n 0, 1) := by decide +kernel
theorem dX0_weigh_11 : decode cX0_weigh 11 = .ok (.getfield 25, 3) := by decide +kernel
theorem dX0_weigh_14 : decode cX0_weigh 14 = .ok (.getfield 45, 3) := by decide +kernel
theorem dX0_weigh_17 : decode cX0_weigh 17 = .ok (.if_icmp .ge 40, 3) := by decide +kernel
theorem dX0_weigh_20 : decode cX0_weigh 20 = .ok (.aload_n 1, 1) := by decide +kernel
theorem dX0_weigh_21 : decode cX0_weigh 21 = .ok (.getfield 50, 3) := by decide +kernel
theorem dX0_weigh_24 : decode cX0_weigh 24 = .ok (.iload 4, 2) := by decide +kernel
theorem dX0_weigh_26 : decode cX0_weigh 26 = .ok (.iaload, 1) := by decide +kernel
theorem dX0_weigh_27 : decode cX0_weigh 27 = .ok (.ifCond .ne 24, 3) := by decide +kernel
theorem dX0_weigh_30 : decode cX0_weigh 30 = .ok (.aload_n 0, 1) := by decide +kernel
theorem dX0_weigh_31 : decode cX0_weigh 31 = .ok (.getfield 9, 3) := by decide +kernel
theorem dX0_weigh_34 : decode cX0_weigh 34 = .ok (.aload_n 0, 1) := by decide +kernel
theorem dX0_weigh_35 : decode cX0_weigh 35 = .ok (.getfield 15, 3) := by decide +kernel
theorem dX0_weigh_38 : decode cX0_weigh 38 = .ok (.iload 4, 2) := by decide +kernel
theorem dX0_weigh_40 : decode cX0_weigh 40 = .ok (.iastore, 1) := by decide +kernel
theorem dX0_weigh_41 : decode cX0_weigh 41 = .ok (.aload_n 0, 1) := by decide +kernel
theorem dX0_weigh_42 : decode cX0_weigh 42 = .ok (.dup, 1) := by decide +kernel
theorem dX0_weigh_43 : decode cX0_weigh 43 = .ok (.getfield 15, 3) := by decide +kernel
theorem dX0_weigh_46 : decode cX0_weigh 46 = .ok (.iconst 1, 1) := by decide +kernel
theorem dX0_weigh_47 : decode cX0_weigh 47 = .ok (.iadd, 1) := by decide +kernel
theorem dX0_weigh_48 : decode cX0_weigh 48 = .ok (.putfield 15, 3) := by decide +kernel
theorem dX0_weigh_51 : decode cX0_weigh 51 = .ok (.iinc 4 1, 3) := by decide +kernel
theorem dX0_weigh_54 : decode cX0_weigh 54 = .ok (.goto (-46), 3) := by decide +kernel
theorem dX0_weigh_57 : decode cX0_weigh 57 = .ok (.aload_n 0, 1) := by decide +kernel
theorem dX0_weigh_58 : decode cX0_weigh 58 = .ok (.getfield 34, 3) := by decide +kernel
theorem dX0_weigh_61 : decode cX0_weigh 61 = .ok (.aload_n 1, 1) := by decide +kernel
theorem dX0_weigh_62 : decode cX0_weigh 62 = .ok (.invokevirtual 53, 3) := by decide +kernel
theorem dX0_weigh_65 : decode cX0_weigh 65 = .ok (.aload_n 0, 1) := by decide +kernel
theorem dX0_weigh_66 : decode cX0_weigh 66 = .ok (.iconst 0, 1) := by decide +kernel
theorem dX0_weigh_67 : decode cX0_weigh 67 = .ok (.putfield 19, 3) := by decide +kernel
theorem dX0_weigh_70 : decode cX0_weigh 70 = .ok (.iconst 0, 1) := by decide +kernel
theorem dX0_weigh_71 : decode cX0_weigh 71 = .ok (.istore 4, 2) := by decide +kernel
theorem dX0_weigh_73 : decode cX0_weigh 73 = .ok (.iload 4, 2) := by decide +kernel
theorem dX0_weigh_75 : decode cX0_weigh 75 = .ok (.iconst 1, 1) := by decide +kernel
theorem dX0_weigh_76 : decode cX0_weigh 76 = .ok (.aload_n 0, 1) := by decide +kernel
theorem dX0_weigh_77 : decode cX0_weigh 77 = .ok (.getfield 15, 3) := by decide +kernel
theorem dX0_weigh_80 : decode cX0_weigh 80 = .ok (.ishl, 1) := by decide +kernel
theorem dX0_weigh_81 : decode cX0_weigh 81 = .ok (.if_icmp .ge 44, 3) := by decide +kernel
theorem dX0_weigh_84 : decode cX0_weigh 84 = .ok (.aload_n 0, 1) := by decide +kernel
theorem dX0_weigh_85 : decode cX0_weigh 85 = .ok (.iload 4, 2) := by decide +kernel
theorem dX0_weigh_87 : decode cX0_weigh 87 = .ok (.iload_n 3, 1) := by decide +kernel
theorem dX0_weigh_88 : decode cX0_weigh 88 = .ok (.invokevirtual 57, 3) := by decide +kernel
theorem dX0_weigh_91 : decode cX0_weigh 91 = .ok (.istore 5, 2) := by decide +kernel
theorem dX0_weigh_93 : decode cX0_weigh 93 = .ok (.iload 5, 2) := by decide +kernel
theorem dX0_weigh_95 : decode cX0_weigh 95 = .ok (.ifCond .le 24, 3) := by decide +kernel
theorem dX0_weigh_98 : decode cX0_weigh 98 = .ok (.aload_n 0, 1) := by decide +kernel
theorem dX0_weigh_99 : decode cX0_weigh 99 = .ok (.iload 4, 2) := by decide +kernel
theorem dX0_weigh_101 : decode cX0_weigh 101 = .ok (.iload_n 2, 1) := by decide +kernel
theorem dX0_weigh_102 : decode cX0_weigh 102 = .ok (.invokevirtual 61, 3) := by decide +kernel
theorem dX0_weigh_105 : decode cX0_weigh 105 = .ok (.ifCond .eq 14, 3) := by decide +kernel
theorem dX0_weigh_108 : decode cX0_weigh 108 = .ok (.aload_n 0, 1) := by decide +kernel
theorem dX0_weigh_109 : decode cX0_weigh 109 = .ok (.dup, 1) := by decide +kernel
theorem dX0_weigh_110 : decode cX0_weigh 110 = .ok (.getfield 19, 3) := by decide +kernel
theorem dX0_weigh_113 : decode cX0_weigh 113 = .ok (.iload 5, 2) := by decide +kernel
theorem dX0_weigh_115 : decode cX0_weigh 115 = .ok (.iadd, 1) := by decide +kernel
theorem dX0_weigh_116 : decode cX0_weigh 116 = .ok (.putfield 19, 3) := by decide +kernel
theorem dX0_weigh_119 : decode cX0_weigh 119 = .ok (.iinc 4 1, 3) := by decide +kernel
theorem dX0_weigh_122 : decode cX0_weigh 122 = .ok (.goto (-49), 3) := by decide +kernel
theorem dX0_weigh_125 : decode cX0_weigh 125 = .ok (.aload_n 0, 1) := by decide +kernel
theorem dX0_weigh_126 : decode cX0_weigh 126 = .ok (.iconst 1, 1) := by decide +kernel
theorem dX0_weigh_127 : decode cX0_weigh 127 = .ok (.putfield 22, 3) := by decide +kernel
theorem dX0_weigh_130 : decode cX0_weigh 130 = .ok (.iconst 0, 1) := by decide +kernel
theorem dX0_weigh_131 : decode cX0_weigh 131 = .ok (.istore 4, 2) := by decide +kernel
theorem dX0_weigh_133 : decode cX0_weigh 133 = .ok (.iload 4, 2) := by decide +kernel
theorem dX0_weigh_135 : decode cX0_weigh 135 = .ok (.aload_n 0, 1) := by decide +kernel
theorem dX0_weigh_136 : decode cX0_weigh 136 = .ok (.getfield 15, 3) := by decide +kernel
theorem dX0_weigh_139 : decode cX0_weigh 139 = .ok (.if_icmp .ge 20, 3) := by decide +kernel
theorem dX0_weigh_142 : decode cX0_weigh 142 = .ok (.aload_n 0, 1) := by decide +kernel
theorem dX0_weigh_143 : decode cX0_weigh 143 = .ok (.dup, 1) := by decide +kernel
theorem dX0_weigh_144 : decode cX0_weigh 144 = .ok (.getfield 22, 3) := by decide +kernel
theorem dX0_weigh_147 : decode cX0_weigh 147 = .ok (.bipush 10, 2) := by decide +kernel
theorem dX0_weigh_149 : decode cX0_weigh 149 = .ok (.imul, 1) := by decide +kernel
theorem dX0_weigh_150 : decode cX0_weigh 150 = .ok (.putfield 22, 3) := by decide +kernel
theorem dX0_weigh_153 : decode cX0_weigh 153 = .ok (.iinc 4 1, 3) := by decide +kernel
theorem dX0_weigh_156 : decode cX0_weigh 156 = .ok (.goto (-23), 3) := by decide +kernel
theorem dX0_weigh_159 : decode cX0_weigh 159 = .ok (.aload_n 0, 1) := by decide +kernel
theorem dX0_weigh_160 : decode cX0_weigh 160 = .ok (.invokevirtual 65, 3) := by decide +kernel
theorem dX0_weigh_163 : decode cX0_weigh 163 = .ok (.return_, 1) := by decide +kernel
theorem dX0_weightOf_0 : decode cX0_weightOf 0 = .ok (.iconst 1, 1) := by decide +kernel
theorem dX0_weightOf_1 : decode cX0_weightOf 1 = .ok (.istore_n 3, 1) := by decide +kernel
theorem dX0_weightOf_2 : decode cX0_weightOf 2 = .ok (.iconst 0, 1) := by decide +kernel
theorem dX0_weightOf_3 : decode cX0_weightOf 3 = .ok (.istore 4, 2) := by decide +kernel
theorem dX0_weightOf_5 : decode cX0_weightOf 5 = .ok (.iload 4, 2) := by decide +kernel
theorem dX0_weightOf_7 : decode cX0_weightOf 7 = .ok (.aload_n 0, 1) := by decide +kernel
theorem dX0_weightOf_8 : decode cX0_weightOf 8 = .ok (.getfield 15, 3) := by decide +kernel
theorem dX0_weightOf_11 : decode cX0_weightOf 11 = .ok (.if_icmp .ge 30, 3) := by decide +kernel
theorem dX0_weightOf_14 : decode cX0_weightOf 14 = .ok (.iload_n 3, 1) := by decide +kernel
theorem dX0_weightOf_15 : decode cX0_weightOf 15 = .ok (.iload_n 1, 1) := by decide +kernel
theorem dX0_weightOf_16 : decode cX0_weightOf 16 = .ok (.iload 4, 2) := by decide +kernel
theorem dX0_weightOf_18 : decode cX0_weightOf 18 = .ok (.ishr, 1) := by decide +kernel
theorem dX0_weightOf_19 : decode cX0_weightOf 19 = .ok (.iconst 1, 1) := by decide +kernel
theorem dX0_weightOf_20 : decode cX0_weightOf 20 = .ok (.iand, 1) := by decide +kernel
theorem dX0_weightOf_21 : decode cX0_weightOf 21 = .ok (.iconst 1, 1) := by decide +kernel
theorem dX0_weightOf_22 : decode cX0_weightOf 22 = .ok (.if_icmp .ne 7, 3) := by decide +kernel
theorem dX0_weightOf_25 : decode cX0_weightOf 25 = .ok (.iload_n 2, 1) := by decide +kernel
theorem dX0_weightOf_26 : decode cX0_weightOf 26 = .ok (.goto 7, 3) := by decide +kernel
theorem dX0_weightOf_29 : decode cX0_weightOf 29 = .ok (.bipush 10, 2) := by decide +kernel
theorem dX0_weightOf_31 : decode cX0_weightOf 31 = .ok (.iload_n 2, 1) := by decide +kernel
theorem dX0_weightOf_32 : decode cX0_weightOf 32 = .ok (.isub, 1) := by decide +kernel
theorem dX0_weightOf_33 : decode cX0_weightOf 33 = .ok (.imul, 1) := by decide +kernel
theorem dX0_weightOf_34 : decode cX0_weightOf 34 = .ok (.istore_n 3, 1) := by decide +kernel
theorem dX0_weightOf_35 : decode cX0_weightOf 35 = .ok (.iinc 4 1, 3) := by decide +kernel
theorem dX0_weightOf_38 : decode cX0_weightOf 38 = .ok (.goto (-33), 3) := by decide +kernel
theorem dX0_weightOf_41 : decode cX0_weightOf 41 = .ok (.iload_n 3, 1) := by decide +kernel
theorem dX0_weightOf_42 : decode cX0_weightOf 42 = .ok (.ireturn, 1) := by decide +kernel
theorem dX0_isFreeWithout_0 : decode cX0_isFreeWithout 0 = .ok (.iconst 0, 1) := by decide +kernel
theorem dX0_isFreeWithout_1 : decode cX0_isFreeWithout 1 = .ok (.istore_n 3, 1) := by decide +kernel
theorem dX0_isFreeWithout_2 : decode cX0_isFreeWithout 2 = .ok (.iload_n 3, 1) := by decide +kernel
theorem dX0_isFreeWithout_3 : decode cX0_isFreeWithout 3 = .ok (.aload_n 0, 1) := by decide +kernel
theorem dX0_isFreeWithout_4 : decode cX0_isFreeWithout 4 = .ok (.getfield 15, 3) := by decide +kernel
theorem dX0_isFreeWithout_7 : decode cX0_isFreeWithout 7 = .ok (.if_icmp .ge 37, 3) := by decide +kernel
theorem dX0_isFreeWithout_10 : decode cX0_isFreeWithout 10 = .ok (.aload_n 0, 1) := by decide +kernel
theorem dX0_isFreeWithout_11 : decode cX0_isFreeWithout 11 = .ok (.getfield 34, 3) := by decide +kernel
theorem dX0_isFreeWithout_14 : decode cX0_isFreeWithout 14 = .ok (.getfield 50, 3) := by decide +kernel
theorem dX0_isFreeWithout_17 : decode cX0_isFreeWithout 17 = .ok (.aload_n 0, 1) := by decide +kernel
theorem dX0_isFreeWithout_18 : decode cX0_isFreeWithout 18 = .ok (.getfield 9, 3) := by decide +kernel
theorem dX0_isFreeWithout_21 : decode cX0_isFreeWithout 21 = .ok (.iload_n 3, 1) := by decide +kernel
theorem dX0_isFreeWithout_22 : decode cX0_isFreeWithout 22 = .ok (.iaload, 1) := by decide +kernel
theorem dX0_isFreeWithout_23 : decode cX0_isFreeWithout 23 = .ok (.iload_n 1, 1) := by decide +kernel
theorem dX0_isFreeWithout_24 : decode cX0_isFreeWithout 24 = .ok (.iload_n 3, 1) := by decide +kernel
theorem dX0_isFreeWithout_25 : decode cX0_isFreeWithout 25 = .ok (.ishr, 1) := by decide +kernel
theorem dX0_isFreeWithout_26 : decode cX0_isFreeWithout 26 = .ok (.iconst 1, 1) := by decide +kernel
theorem dX0_isFreeWithout_27 : decode cX0_isFreeWithout 27 = .ok (.iand, 1) := by decide +kernel
theorem dX0_isFreeWithout_28 : decode cX0_isFreeWithout 28 = .ok (.iconst 1, 1) := by decide +kernel
theorem dX0_isFreeWithout_29 : decode cX0_isFreeWithout 29 = .ok (.if_icmp .ne 7, 3) := by decide +kernel
theorem dX0_isFreeWithout_32 : decode cX0_isFreeWithout 32 = .ok (.iconst 3, 1) := by decide +kernel
theorem dX0_isFreeWithout_33 : decode cX0_isFreeWithout 33 = .ok (.goto 4, 3) := by decide +kernel
theorem dX0_isFreeWithout_36 : decode cX0_isFreeWithout 36 = .ok (.iconst 0, 1) := by decide +kernel
theorem dX0_isFreeWithout_37 : decode cX0_isFreeWithout 37 = .ok (.iastore, 1) := by decide +kernel
theorem dX0_isFreeWithout_38 : decode cX0_isFreeWithout 38 = .ok (.iinc 3 1, 3) := by decide +kernel
theorem dX0_isFreeWithout_41 : decode cX0_isFreeWithout 41 = .ok (.goto (-39), 3) := by decide +kernel
theorem dX0_isFreeWithout_44 : decode cX0_isFreeWithout 44 = .ok (.aload_n 0, 1) := by decide +kernel
theorem dX0_isFreeWithout_45 : decode cX0_isFreeWithout 45 = .ok (.getfield 41, 3) := by decide +kernel
theorem dX0_isFreeWithout_48 : decode cX0_isFreeWithout 48 = .ok (.aload_n 0, 1) := by decide +kernel
theorem dX0_isFreeWithout_49 : decode cX0_isFreeWithout 49 = .ok (.getfield 34, 3) := by decide +kernel
theorem dX0_isFreeWithout_52 : decode cX0_isFreeWithout 52 = .ok (.invokevirtual 68, 3) := by decide +kernel
theorem dX0_isFreeWithout_55 : decode cX0_isFreeWithout 55 = .ok (.aload_n 0, 1) := by decide +kernel
theorem dX0_isFreeWithout_56 : decode cX0_isFreeWithout 56 = .ok (.getfield 25, 3) := by decide +kernel
theorem dX0_isFreeWithout_59 : decode cX0_isFreeWithout 59 = .ok (.iload_n 2, 1) := by decide +kernel
theorem dX0_isFreeWithout_60 : decode cX0_isFreeWithout 60 = .ok (.invokevirtual 71, 3) := by decide +kernel
theorem dX0_isFreeWithout_63 : decode cX0_isFreeWithout 63 = .ok (.ifCond .eq 21, 3) := by decide +kernel
theorem dX0_isFreeWithout_66 : decode cX0_isFreeWithout 66 = .ok (.aload_n 0, 1) := by decide +kernel
theorem dX0_isFreeWithout_67 : decode cX0_isFreeWithout 67 = .ok (.getfield 41, 3) := by decide +kernel
theorem dX0_isFreeWithout_70 : decode cX0_isFreeWithout 70 = .ok (.getfield 75, 3) := by decide +kernel
theorem dX0_isFreeWithout_73 : decode cX0_isFreeWithout 73 = .ok (.iload_n 2, 1) := by decide +kernel
theorem dX0_isFreeWithout_74 : decode cX0_isFreeWithout 74 = .ok (.iaload, 1) := by decide +kernel
theorem dX0_isFreeWithout_75 : decode cX0_isFreeWithout 75 = .ok (.bipush 99, 2) := by decide +kernel
theorem dX0_isFreeWithout_77 : decode cX0_isFreeWithout 77 = .ok (.if_icmp .gt 7, 3) := by decide +kernel
theorem dX0_isFreeWithout_80 : decode cX0_isFreeWithout 80 = .ok (.iconst 1, 1) := by decide +kernel
theorem dX0_isFreeWithout_81 : decode cX0_isFreeWithout 81 = .ok (.goto 4, 3) := by decide +kernel
theorem dX0_isFreeWithout_84 : decode cX0_isFreeWithout 84 = .ok (.iconst 0, 1) := by decide +kernel
theorem dX0_isFreeWithout_85 : decode cX0_isFreeWithout 85 = .ok (.ireturn, 1) := by decide +kernel
theorem dX0_lower_0 : decode cX0_lower 0 = .ok (.aload_n 0, 1) := by decide +kernel
theorem dX0_lower_1 : decode cX0_lower 1 = .ok (.getfield 22, 3) := by decide +kernel
theorem dX0_lower_4 : decode cX0_lower 4 = .ok (.istore_n 1, 1) := by decide +kernel
theorem dX0_lower_5 : decode cX0_lower 5 = .ok (.aload_n 0, 1) := by decide +kernel
theorem dX0_lower_6 : decode cX0_lower 6 = .ok (.getfield 19, 3) := by decide +kernel
theorem dX0_lower_9 : decode cX0_lower 9 = .ok (.istore_n 2, 1) := by decide +kernel
theorem dX0_lower_10 : decode cX0_lower 10 = .ok (.iconst 0, 1) := by decide +kernel
theorem dX0_lower_11 : decode cX0_lower 11 = .ok (.istore_n 3, 1) := by decide +kernel
theorem dX0_lower_12 : decode cX0_lower 12 = .ok (.iload_n 3, 1) := by decide +kernel
theorem dX0_lower_13 : decode cX0_lower 13 = .ok (.bipush 100, 2) := by decide +kernel
theorem dX0_lower_15 : decode cX0_lower 15 = .ok (.if_icmp .ge 23, 3) := by decide +kernel
theorem dX0_lower_18 : decode cX0_lower 18 = .ok (.iload_n 2, 1) := by decide +kernel
theorem dX0_lower_19 : decode cX0_lower 19 = .ok (.ifCond .eq 19, 3) := by decide +kernel
theorem dX0_lower_22 : decode cX0_lower 22 = .ok (.iload_n 1, 1) := by decide +kernel
theorem dX0_lower_23 : decode cX0_lower 23 = .ok (.iload_n 2, 1) := by decide +kernel
theorem dX0_lower_24 : decode cX0_lower 24 = .ok (.irem, 1) := by decide +kernel
theorem dX0_lower_25 : decode cX0_lower 25 = .ok (.istore 4, 2) := by decide +kernel
theorem dX0_lower_27 : decode cX0_lower 27 = .ok (.iload_n 2, 1) := by decide +kernel
theorem dX0_lower_28 : decode cX0_lower 28 = .ok (.istore_n 1, 1) := by decide +kernel
theorem dX0_lower_29 : decode cX0_lower 29 = .ok (.iload 4, 2) := by decide +kernel
theorem dX0_lower_31 : decode cX0_lower 31 = .ok (.istore_n 2, 1) := by decide +kernel
theorem dX0_lower_32 : decode cX0_lower 32 = .ok (.iinc 3 1, 3) := by decide +kernel
theorem dX0_lower_35 : decode cX0_lower 35 = .ok (.goto (-23), 3) := by decide +kernel
theorem dX0_lower_38 : decode cX0_lower 38 = .ok (.iload_n 1, 1) := by decide +kernel
theorem dX0_lower_39 : decode cX0_lower 39 = .ok (.ifCond .le 23, 3) := by decide +kernel
theorem dX0_lower_42 : decode cX0_lower 42 = .ok (.aload_n 0, 1) := by decide +kernel
theorem dX0_lower_43 : decode cX0_lower 43 = .ok (.dup, 1) := by decide +kernel
theorem dX0_lower_44 : decode cX0_lower 44 = .ok (.getfield 19, 3) := by decide +kernel
theorem dX0_lower_47 : decode cX0_lower 47 = .ok (.iload_n 1, 1) := by decide +kernel
theorem dX0_lower_48 : decode cX0_lower 48 = .ok (.idiv, 1) := by decide +kernel
theorem dX0_lower_49 : decode cX0_lower 49 = .ok (.putfield 19, 3) := by decide +kernel
theorem dX0_lower_52 : decode cX0_lower 52 = .ok (.aload_n 0, 1) := by decide +kernel
theorem dX0_lower_53 : decode cX0_lower 53 = .ok (.dup, 1) := by decide +kernel
theorem dX0_lower_54 : decode cX0_lower 54 = .ok (.getfield 22, 3) := by decide +kernel
theorem dX0_lower_57 : decode cX0_lower 57 = .ok (.iload_n 1, 1) := by decide +kernel
theorem dX0_lower_58 : decode cX0_lower 58 = .ok (.idiv, 1) := by decide +kernel
theorem dX0_lower_59 : decode cX0_lower 59 = .ok (.putfield 22, 3) := by decide +kernel
theorem dX0_lower_62 : decode cX0_lower 62 = .ok (.return_, 1) := by decide +kernel
theorem dX1_init_0 : decode cX1_init 0 = .ok (.aload_n 0, 1) := by decide +kernel
theorem dX1_init_1 : decode cX1_init 1 = .ok (.invokespecial 3, 3) := by decide +kernel
theorem dX1_init_4 : decode cX1_init 4 = .ok (.aload_n 0, 1) := by decide +kernel
theorem dX1_init_5 : decode cX1_init 5 = .ok (.bipush 7, 2) := by decide +kernel
theorem dX1_init_7 : decode cX1_init 7 = .ok (.newarray .int, 2) := by decide +kernel
theorem dX1_init_9 : decode cX1_init 9 = .ok (.putfield 9, 3) := by decide +kernel
theorem dX1_init_12 : decode cX1_init 12 = .ok (.aload_n 0, 1) := by decide +kernel
theorem dX1_init_13 : decode cX1_init 13 = .ok (.bipush 7, 2) := by decide +kernel
theorem dX1_init_15 : decode cX1_init 15 = .ok (.newarray .int, 2) := by decide +kernel
theorem dX1_init_17 : decode cX1_init 17 = .ok (.putfield 15, 3) := by decide +kernel
theorem dX1_init_20 : decode cX1_init 20 = .ok (.aload_n 0, 1) := by decide +kernel
theorem dX1_init_21 : decode cX1_init 21 = .ok (.bipush 7, 2) := by decide +kernel
theorem dX1_init_23 : decode cX1_init 23 = .ok (.newarray .int, 2) := by decide +kernel
theorem dX1_init_25 : decode cX1_init 25 = .ok (.putfield 18, 3) := by decide +kernel
theorem dX1_init_28 : decode cX1_init 28 = .ok (.aload_n 0, 1) := by decide +kernel
theorem dX1_init_29 : decode cX1_init 29 = .ok (.iconst 0, 1) := by decide +kernel
theorem dX1_init_30 : decode cX1_init 30 = .ok (.putfield 21, 3) := by decide +kernel
theorem dX1_init_33 : decode cX1_init 33 = .ok (.aload_n 0, 1) := by decide +kernel
theorem dX1_init_34 : decode cX1_init 34 = .ok (.iconst 0, 1) := by decide +kernel
theorem dX1_init_35 : decode cX1_init 35 = .ok (.putfield 25, 3) := by decide +kernel
theorem dX1_init_38 : decode cX1_init 38 = .ok (.aload_n 0, 1) := by decide +kernel
theorem dX1_init_39 : decode cX1_init 39 = .ok (.iconst 0, 1) := by decide +kernel
theorem dX1_init_40 : decode cX1_init 40 = .ok (.putfield 28, 3) := by decide +kernel
theorem dX1_init_43 : decode cX1_init 43 = .ok (.aload_n 0, 1) := by decide +kernel
theorem dX1_init_44 : decode cX1_init 44 = .ok (.iconst 0, 1) := by decide +kernel
theorem dX1_init_45 : decode cX1_init 45 = .ok (.putfield 31, 3) := by decide +kernel
theorem dX1_init_48 : decode cX1_init 48 = .ok (.aload_n 0, 1) := by decide +kernel
theorem dX1_init_49 : decode cX1_init 49 = .ok (.iconst 1, 1) := by decide +kernel
theorem dX1_init_50 : decode cX1_init 50 = .ok (.putfield 34, 3) := by decide +kernel
theorem dX1_init_53 : decode cX1_init 53 = .ok (.aload_n 0, 1) := by decide +kernel
theorem dX1_init_54 : decode cX1_init 54 = .ok (.aload_n 1, 1) := by decide +kernel
theorem dX1_init_55 : decode cX1_init 55 = .ok (.putfield 38, 3) := by decide +kernel
theorem dX1_init_58 : decode cX1_init 58 = .ok (.aload_n 0, 1) := by decide +kernel
theorem dX1_init_59 : decode cX1_init 59 = .ok (.new 42, 3) := by decide +kernel
theorem dX1_init_62 : decode cX1_init 62 = .ok (.dup, 1) := by decide +kernel
theorem dX1_init_63 : decode cX1_init 63 = .ok (.aload_n 1, 1) := by decide +kernel
theorem dX1_init_64 : decode cX1_init 64 = .ok (.invokespecial 44, 3) := by decide +kernel
theorem dX1_init_67 : decode cX1_init 67 = .ok (.putfield 47, 3) := by decide +kernel
theorem dX1_init_70 : decode cX1_init 70 = .ok (.aload_n 0, 1) := by decide +kernel
theorem dX1_init_71 : decode cX1_init 71 = .ok (.new 51, 3) := by decide +kernel
theorem dX1_init_74 : decode cX1_init 74 = .ok (.dup, 1) := by decide +kernel
theorem dX1_init_75 : decode cX1_init 75 = .ok (.aload_n 1, 1) := by decide +kernel
theorem dX1_init_76 : decode cX1_init 76 = .ok (.invokespecial 53, 3) := by decide +kernel
theorem dX1_init_79 : decode cX1_init 79 = .ok (.putfield 54, 3) := by decide +kernel
theorem dX1_init_82 : decode cX1_init 82 = .ok (.return_, 1) := by decide +kernel
theorem dX1_goStale_0 : decode cX1_goStale 0 = .ok (.aload_n 0, 1) := by decide +kernel
theorem dX1_goStale_1 : decode cX1_goStale 1 = .ok (.iconst 1, 1) := by decide +kernel
theorem dX1_goStale_2 : decode cX1_goStale 2 = .ok (.putfield 34, 3) := by decide +kernel
theorem dX1_goStale_5 : decode cX1_goStale 5 = .ok (.return_, 1) := by decide +kernel
theorem dX1_ownerFor_0 : decode cX1_ownerFor 0 = .ok (.aload_n 0, 1) := by decide +kernel
theorem dX1_ownerFor_1 : decode cX1_ownerFor 1 = .ok (.getfield 38, 3) := by decide +kernel
theorem dX1_ownerFor_4 : decode cX1_ownerFor 4 = .ok (.iload_n 1, 1) := by decide +kernel
theorem dX1_ownerFor_5 : decode cX1_ownerFor 5 = .ok (.invokevirtual 58, 3) := by decide +kernel
theorem dX1_ownerFor_8 : decode cX1_ownerFor 8 = .ok (.ifCond .eq 12, 3) := by decide +kernel
theorem dX1_ownerFor_11 : decode cX1_ownerFor 11 = .ok (.aload_n 0, 1) := by decide +kernel
theorem dX1_ownerFor_12 : decode cX1_ownerFor 12 = .ok (.getfield 18, 3) := by decide +kernel
theorem dX1_ownerFor_15 : decode cX1_ownerFor 15 = .ok (.iload_n 1, 1) := by decide +kernel
theorem dX1_ownerFor_16 : decode cX1_ownerFor 16 = .ok (.iaload, 1) := by decide +kernel
theorem dX1_ownerFor_17 : decode cX1_ownerFor 17 = .ok (.goto 5, 3) := by decide +kernel
theorem dX1_ownerFor_20 : decode cX1_ownerFor 20 = .ok (.bipush (-4), 2) := by decide +kernel
theorem dX1_ownerFor_22 : decode cX1_ownerFor 22 = .ok (.ireturn, 1) := by decide +kernel
theorem dX1_refresh_0 : decode cX1_refresh 0 = .ok (.aload_n 0, 1) := by decide +kernel
theorem dX1_refresh_1 : decode cX1_refresh 1 = .ok (.getfield 34, 3) := by decide +kernel
theorem dX1_refresh_4 : decode cX1_refresh 4 = .ok (.ifCond .ne 4, 3) := by decide +kernel
theorem dX1_refresh_7 : decode cX1_refresh 7 = .ok (.return_, 1) := by decide +kernel
theorem dX1_refresh_8 : decode cX1_refresh 8 = .ok (.aload_n 0, 1) := by decide +kernel
theorem dX1_refresh_9 : decode cX1_refresh 9 = .ok (.iconst 0, 1) := by decide +kernel
theorem dX1_refresh_10 : decode cX1_refresh 10 = .ok (.putfield 34, 3) := by decide +kernel
theorem dX1_refresh_13 : decode cX1_refresh 13 = .ok (.aload_n 0, 1) := by decide +kernel
theorem dX1_refresh_14 : decode cX1_refresh 14 = .ok (.getfield 47, 3) := by decide +kernel
theorem dX1_refresh_17 : decode cX1_refresh 17 = .ok (.aload_n 1, 1) := by decide +kernel
theorem dX1_refresh_18 : decode cX1_refresh 18 = .ok (.invokevirtual 64, 3) := by decide +kernel
theorem dX1_refresh_21 : decode cX1_refresh 21 = .ok (.aload_n 0, 1) := by decide +kernel
theorem dX1_refresh_22 : decode cX1_refresh 22 = .ok (.invokevirtual 68, 3) := by decide +kernel
theorem dX1_refresh_25 : decode cX1_refresh 25 = .ok (.aload_n 0, 1) := by decide +kernel
theorem dX1_refresh_26 : decode cX1_refresh 26 = .ok (.getfield 21, 3) := by decide +kernel
theorem dX1_refresh_29 : decode cX1_refresh 29 = .ok (.ifCond .ne 28, 3) := by decide +kernel
theorem dX1_refresh_32 : decode cX1_refresh 32 = .ok (.aload_n 0, 1) := by decide +kernel
theorem dX1_refresh_33 : decode cX1_refresh 33 = .ok (.getfield 54, 3) := by decide +kernel
theorem dX1_refresh_36 : decode cX1_refresh 36 = .ok (.aload_n 0, 1) := by decide +kernel
theorem dX1_refresh_37 : decode cX1_refresh 37 = .ok (.getfield 47, 3) := by decide +kernel
theorem dX1_refresh_40 : decode cX1_refresh 40 = .ok (.invokevirtual 71, 3) := by decide +kernel
theorem dX1_refresh_43 : decode cX1_refresh 43 = .ok (.aload_n 0, 1) := by decide +kernel
theorem dX1_refresh_44 : decode cX1_refresh 44 = .ok (.aload_n 0, 1) := by decide +kernel
theorem dX1_refresh_45 : decode cX1_refresh 45 = .ok (.getfield 54, 3) := by decide +kernel
theorem dX1_refresh_48 : decode cX1_refresh 48 = .ok (.getfield 74, 3) := by decide +kernel
theorem dX1_refresh_51 : decode cX1_refresh 51 = .ok (.putfield 31, 3) := by decide +kernel
theorem dX1_refresh_54 : decode cX1_refresh 54 = .ok (.goto 14, 3) := by decide +kernel
theorem dX1_refresh_57 : decode cX1_refresh 57 = .ok (.aload_n 0, 1) := by decide +kernel
theorem dX1_refresh_58 : decode cX1_refresh 58 = .ok (.bipush 100, 2) := by decide +kernel
theorem dX1_refresh_60 : decode cX1_refresh 60 = .ok (.putfield 31, 3) := by decide +kernel
theorem dX1_refresh_63 : decode cX1_refresh 63 = .ok (.aload_n 0, 1) := by decide +kernel
theorem dX1_refresh_64 : decode cX1_refresh 64 = .ok (.aload_n 1, 1) := by decide +kernel
theorem dX1_refresh_65 : decode cX1_refresh 65 = .ok (.invokevirtual 77, 3) := by decide +kernel
theorem dX1_refresh_68 : decode cX1_refresh 68 = .ok (.return_, 1) := by decide +kernel
theorem dX1_begin_0 : decode cX1_begin 0 = .ok (.aload_n 0, 1) := by decide +kernel
theorem dX1_begin_1 : decode cX1_begin 1 = .ok (.iconst 0, 1) := by decide +kernel
theorem dX1_begin_2 : decode cX1_begin 2 = .ok (.putfield 21, 3) := by decide +kernel
theorem dX1_begin_5 : decode cX1_begin 5 = .ok (.aload_n 0, 1) := by decide +kernel
theorem dX1_begin_6 : decode cX1_begin 6 = .ok (.iconst 0, 1) := by decide +kernel
theorem dX1_begin_7 : decode cX1_begin 7 = .ok (.putfield 25, 3) := by decide +kernel
theorem dX1_begin_10 : decode cX1_begin 10 = .ok (.aload_n 0, 1) := by decide +kernel
theorem dX1_begin_11 : decode cX1_begin 11 = .ok (.ldc 80, 2) := by decide +kernel
theorem dX1_begin_13 : decode cX1_begin 13 = .ok (.putfield 28, 3) := by decide +kernel
theorem dX1_begin_16 : decode cX1_begin 16 = .ok (.iconst 0, 1) := by decide +kernel
theorem dX1_begin_17 : decode cX1_begin 17 = .ok (.istore_n 1, 1) := by decide +kernel
theorem dX1_begin_18 : decode cX1_begin 18 = .ok (.iload_n 1, 1) := by decide +kernel
theorem dX1_begin_19 : decode cX1_begin 19 = .ok (.aload_n 0, 1) := by decide +kernel
theorem dX1_begin_20 : decode cX1_begin 20 = .ok (.getfield 38, 3) := by decide +kernel
theorem dX1_begin_23 : decode cX1_begin 23 = .ok (.getfield 81, 3) := by decide +kernel
theorem dX1_begin_26 : decode cX1_begin 26 = .ok (.if_icmp .ge 69, 3) := by decide +kernel
theorem dX1_begin_29 : decode cX1_begin 29 = .ok (.aload_n 0, 1) := by decide +kernel
theorem dX1_begin_30 : decode cX1_begin 30 = .ok (.getfield 18, 3) := by decide +kernel
theorem dX1_begin_33 : decode cX1_begin 33 = .ok (.iload_n 1, 1) := by decide +kernel
theorem dX1_begin_34 : decode cX1_begin 34 = .ok (.bipush (-4), 2) := by decide +kernel
theorem dX1_begin_36 : decode cX1_begin 36 = .ok (.iastore, 1) := by decide +kernel
theorem dX1_begin_37 : decode cX1_begin 37 = .ok (.aload_n 0, 1) := by decide +kernel
theorem dX1_begin_38 : decode cX1_begin 38 = .ok (.getfield 47, 3) := by decide +kernel
theorem dX1_begin_41 : decode cX1_begin 41 = .ok (.getfield 84, 3) := by decide +kernel
theorem dX1_begin_44 : decode cX1_begin 44 = .ok (.iload_n 1, 1) := by decide +kernel
theorem dX1_begin_45 : decode cX1_begin 45 = .ok (.iaload, 1) := by decide +kernel
theorem dX1_begin_46 : decode cX1_begin 46 = .ok (.ifCond .ne 43, 3) := by decide +kernel
theorem dX1_begin_49 : decode cX1_begin 49 = .ok (.aload_n 0, 1) := by decide +kernel
theorem dX1_begin_50 : decode cX1_begin 50 = .ok (.getfield 9, 3) := by decide +kernel
theorem dX1_begin_53 : decode cX1_begin 53 = .ok (.aload_n 0, 1) := by decide +kernel
theorem dX1_begin_54 : decode cX1_begin 54 = .ok (.getfield 21, 3) := by decide +kernel
theorem dX1_begin_57 : decode cX1_begin 57 = .ok (.iload_n 1, 1) := by decide +kernel
theorem dX1_begin_58 : decode cX1_begin 58 = .ok (.iastore, 1) := by decide +kernel
theorem dX1_begin_59 : decode cX1_begin 59 = .ok (.aload_n 0, 1) := by decide +kernel
theorem dX1_begin_60 : decode cX1_begin 60 = .ok (.dup, 1) := by decide +kernel
theorem dX1_begin_61 : decode cX1_begin 61 = .ok (.getfield 21, 3) := by decide +kernel
theorem dX1_begin_64 : decode cX1_begin 64 = .ok (.iconst 1, 1) := by decide +kernel
theorem dX1_begin_65 : decode cX1_begin 65 = .ok (.iadd, 1) := by decide +kernel
theorem dX1_begin_66 : decode cX1_begin 66 = .ok (.putfield 21, 3) := by decide +kernel
theorem dX1_begin_69 : decode cX1_begin 69 = .ok (.aload_n 0, 1) := by decide +kernel
theorem dX1_begin_70 : decode cX1_begin 70 = .ok (.aload_n 0, 1) := by decide +kernel
theorem dX1_begin_71 : decode cX1_begin 71 = .ok (.getfield 28, 3) := by decide +kernel
theorem dX1_begin_74 : decode cX1_begin 74 = .ok (.aload_n 0, 1) := by decide +kernel
theorem dX1_begin_75 : decode cX1_begin 75 = .ok (.getfield 47, 3) := by decide +kernel
theorem dX1_begin_78 : decode cX1_begin 78 = .ok (.getfield 87, 3) := by decide +kernel
theorem dX1_begin_81 : decode cX1_begin 81 = .ok (.iload_n 1, 1) := by decide +kernel
theorem dX1_begin_82 : decode cX1_begin 82 = .ok (.iaload, 1) := by decide +kernel
theorem dX1_begin_83 : decode cX1_begin 83 = .ok (.invokestatic 90, 3) := by decide +kernel
theorem dX1_begin_86 : decode cX1_begin 86 = .ok (.putfield 28, 3) := by decide +kernel
theorem dX1_begin_89 : decode cX1_begin 89 = .ok (.iinc 1 1, 3) := by decide +kernel
theorem dX1_begin_92 : decode cX1_begin 92 = .ok (.goto (-74), 3) := by decide +kernel
theorem dX1_begin_95 : decode cX1_begin 95 = .ok (.iconst 0, 1) := by decide +kernel
theorem dX1_begin_96 : decode cX1_begin 96 = .ok (.istore_n 1, 1) := by decide +kernel
theorem dX1_begin_97 : decode cX1_begin 97 = .ok (.iload_n 1, 1) := by decide +kernel
theorem dX1_begin_98 : decode cX1_begin 98 = .ok (.aload_n 0, 1) := by decide +kernel
theorem dX1_begin_99 : decode cX1_begin 99 = .ok (.getfield 21, 3) := by decide +kernel
theorem dX1_begin_102 : decode cX1_begin 102 = .ok (.if_icmp .ge 27, 3) := by decide +kernel
theorem dX1_begin_105 : decode cX1_begin 105 = .ok (.aload_n 0, 1) := by decide +kernel
theorem dX1_begin_106 : decode cX1_begin 106 = .ok (.getfield 47, 3) := by decide +kernel
theorem dX1_begin_109 : decode cX1_begin 109 = .ok (.getfield 87, 3) := by decide +kernel
theorem dX1_begin_112 : decode cX1_begin 112 = .ok (.aload_n 0, 1) := by decide +kernel
theorem dX1_begin_113 : decode cX1_begin 113 = .ok (.getfield 9, 3) := by decide +kernel
theorem dX1_begin_116 : decode cX1_begin 116 = .ok (.iload_n 1, 1) := by decide +kernel
theorem dX1_begin_117 : decode cX1_begin 117 = .ok (.iaload, 1) := by decide +kernel
theorem dX1_begin_118 : decode cX1_begin 118 = .ok (.aload_n 0, 1) := by decide +kernel
theorem dX1_begin_119 : decode cX1_begin 119 = .ok (.getfield 28, 3) := by decide +kernel
theorem dX1_begin_122 : decode cX1_begin 122 = .ok (.iastore, 1) := by decide +kernel
theorem dX1_begin_123 : decode cX1_begin 123 = .ok (.iinc 1 1, 3) := by decide +kernel
theorem dX1_begin_126 : decode cX1_begin 126 = .ok (.goto (-29), 3) := by decide +kernel
theorem dX1_begin_129 : decode cX1_begin 129 = .ok (.return_, 1) := by decide +kernel
theorem dX1_search_0 : decode cX1_search 0 = .ok (.aload_n 0, 1) := by decide +kernel
theorem dX1_search_1 : decode cX1_search 1 = .ok (.getfield 54, 3) := by decide +kernel
theorem dX1_search_4 : decode cX1_search 4 = .ok (.aload_n 0, 1) := by decide +kernel
theorem dX1_search_5 : decode cX1_search 5 = .ok (.getfield 47, 3) := by decide +kernel
theorem dX1_search_8 : decode cX1_search 8 = .ok (.invokevirtual 96, 3) := by decide +kernel
theorem dX1_search_11 : decode cX1_search 11 = .ok (.iconst 0, 1) := by decide +kernel
theorem dX1_search_12 : decode cX1_search 12 = .ok (.istore_n 2, 1) := by decide +kernel
theorem dX1_search_13 : decode cX1_search 13 = .ok (.aload_n 0, 1) := by decide +kernel
theorem dX1_search_14 : decode cX1_search 14 = .ok (.getfield 15, 3) := by decide +kernel
theorem dX1_search_17 : decode cX1_search 17 = .ok (.iconst 0, 1) := by decide +kernel
theorem dX1_search_18 : decode cX1_search 18 = .ok (.iconst (-1), 1) := by decide +kernel
theorem dX1_search_19 : decode cX1_search 19 = .ok (.iastore, 1) := by decide +kernel
theorem dX1_search_20 : decode cX1_search 20 = .ok (.iconst 0, 1) := by decide +kernel
theorem dX1_search_21 : decode cX1_search 21 = .ok (.istore_n 3, 1) := by decide +kernel
theorem dX1_search_22 : decode cX1_search 22 = .ok (.iload_n 3, 1) := by decide +kernel
theorem dX1_search_23 : decode cX1_search 23 = .ok (.ldc 80, 2) := by decide +kernel
theorem dX1_search_25 : decode cX1_search 25 = .ok (.if_icmp .ge 102, 3) := by decide +kernel
theorem dX1_search_28 : decode cX1_search 28 = .ok (.iload_n 2, 1) := by decide +kernel
theorem dX1_search_29 : decode cX1_search 29 = .ok (.ifCond .lt 98, 3) := by decide +kernel
theorem dX1_search_32 : decode cX1_search 32 = .ok (.iload_n 2, 1) := by decide +kernel
theorem dX1_search_33 : decode cX1_search 33 = .ok (.aload_n 0, 1) := by decide +kernel
theorem dX1_search_34 : decode cX1_search 34 = .ok (.getfield 21, 3) := by decide +kernel
theorem dX1_search_37 : decode cX1_search 37 = .ok (.if_icmp .ge 90, 3) := by decide +kernel
theorem dX1_search_40 : decode cX1_search 40 = .ok (.aload_n 0, 1) := by decide +kernel
theorem dX1_search_41 : decode cX1_search 41 = .ok (.iload_n 2, 1) := by decide +kernel
theorem dX1_search_42 : decode cX1_search 42 = .ok (.aload_n 1, 1) := by decide +kernel
theorem dX1_search_43 : decode cX1_search 43 = .ok (.invokevirtual 99, 3) := by decide +kernel
theorem dX1_search_46 : decode cX1_search 46 = .ok (.ifCond .ne 9, 3) := by decide +kernel
theorem dX1_search_49 : decode cX1_search 49 = .ok (.iinc 2 (-1), 3) := by decide +kernel
theorem dX1_search_52 : decode cX1_search 52 = .ok (.goto 69, 3) := by decide +kernel
theorem dX1_search_55 : decode cX1_search 55 = .ok (.aload_n 0, 1) := by decide +kernel
theorem dX1_search_56 : decode cX1_search 56 = .ok (.getfield 54, 3) := by decide +kernel
theorem dX1_search_59 : decode cX1_search 59 = .ok (.aload_n 0, 1) := by decide +kernel
theorem dX1_search_60 : decode cX1_search 60 = .ok (.getfield 47, 3) := by decide +kernel
theorem dX1_search_63 : decode cX1_search 63 = .ok (.invokevirtual 103, 3) := by decide +kernel
theorem dX1_search_66 : decode cX1_search 66 = .ok (.aload_n 0, 1) := by decide +kernel
theorem dX1_search_67 : decode cX1_search 67 = .ok (.getfield 54, 3) := by decide +kernel
theorem dX1_search_70 : decode cX1_search 70 = .ok (.getfield 74, 3) := by decide +kernel
theorem dX1_search_73 : decode cX1_search 73 = .ok (.aload_n 0, 1) := by decide +kernel
theorem dX1_search_74 : decode cX1_search 74 = .ok (.getfield 31, 3) := by decide +kernel
theorem dX1_search_77 : decode cX1_search 77 = .ok (.if_icmp .lt 6, 3) := by decide +kernel
theorem dX1_search_80 : decode cX1_search 80 = .ok (.goto 41, 3) := by decide +kernel
theorem dX1_search_83 : decode cX1_search 83 = .ok (.iload_n 2, 1) := by decide +kernel
theorem dX1_search_84 : decode cX1_search 84 = .ok (.aload_n 0, 1) := by decide +kernel
theorem dX1_search_85 : decode cX1_search 85 = .ok (.getfield 21, 3) := by decide +kernel
theorem dX1_search_88 : decode cX1_search 88 = .ok (.iconst 1, 1) := by decide +kernel
theorem dX1_search_89 : decode cX1_search 89 = .ok (.isub, 1) := by decide +kernel
theorem dX1_search_90 : decode cX1_search 90 = .ok (.if_icmp .ne 21, 3) := by decide +kernel
theorem dX1_search_93 : decode cX1_search 93 = .ok (.aload_n 0, 1) := by decide +kernel
theorem dX1_search_94 : decode cX1_search 94 = .ok (.aload_n 0, 1) := by decide +kernel
theorem dX1_search_95 : decode cX1_search 95 = .ok (.getfield 54, 3) := by decide +kernel
theorem dX1_search_98 : decode cX1_search 98 = .ok (.getfield 74, 3) := by decide +kernel
theorem dX1_search_101 : decode cX1_search 101 = .ok (.putfield 31, 3) := by decide +kernel
theorem dX1_search_104 : decode cX1_search 104 = .ok (.aload_n 0, 1) := by decide +kernel
theorem dX1_search_105 : decode cX1_search 105 = .ok (.invokevirtual 106, 3) := by decide +kernel
theorem dX1_search_108 : decode cX1_search 108 = .ok (.goto 13, 3) := by decide +kernel
theorem dX1_search_111 : decode cX1_search 111 = .ok (.iinc 2 1, 3) := by decide +kernel
theorem dX1_search_114 : decode cX1_search 114 = .ok (.aload_n 0, 1) := by decide +kernel
theorem dX1_search_115 : decode cX1_search 115 = .ok (.getfield 15, 3) := by decide +kernel
theorem dX1_search_118 : decode cX1_search 118 = .ok (.iload_n 2, 1) := by decide +kernel
theorem dX1_search_119 : decode cX1_search 119 = .ok (.iconst (-1), 1) := by decide +kernel
theorem dX1_search_120 : decode cX1_search 120 = .ok (.iastore, 1) := by decide +kernel
theorem dX1_search_121 : decode cX1_search 121 = .ok (.iinc 3 1, 3) := by decide +kernel
theorem dX1_search_124 : decode cX1_search 124 = .ok (.goto (-102), 3) := by decide +kernel
theorem dX1_search_127 : decode cX1_search 127 = .ok (.return_, 1) := by decide +kernel
theorem dX1_pickNext_0 : decode cX1_pickNext 0 = .ok (.aload_n 0, 1) := by decide +kernel
theorem dX1_pickNext_1 : decode cX1_pickNext 1 = .ok (.getfield 15, 3) := by decide +kernel
theorem dX1_pickNext_4 : decode cX1_pickNext 4 = .ok (.iload_n 1, 1) := by decide +kernel
theorem dX1_pickNext_5 : decode cX1_pickNext 5 = .ok (.iaload, 1) := by decide +kernel
theorem dX1_pickNext_6 : decode cX1_pickNext 6 = .ok (.istore_n 3, 1) := by decide +kernel
theorem dX1_pickNext_7 : decode cX1_pickNext 7 = .ok (.iload_n 3, 1) := by decide +kernel
theorem dX1_pickNext_8 : decode cX1_pickNext 8 = .ok (.ifCond .lt 17, 3) := by decide +kernel
theorem dX1_pickNext_11 : decode cX1_pickNext 11 = .ok (.aload_n 0, 1) := by decide +kernel
theorem dX1_pickNext_12 : decode cX1_pickNext 12 = .ok (.dup, 1) := by decide +kernel
theorem dX1_pickNext_13 : decode cX1_pickNext 13 = .ok (.getfield 25, 3) := by decide +kernel
theorem dX1_pickNext_16 : decode cX1_pickNext 16 = .ok (.iconst 1, 1) := by decide +kernel
theorem dX1_pickNext_17 : decode cX1_pickNext 17 = .ok (.iload_n 3, 1) := by decide +kernel
theorem dX1_pickNext_18 : decode cX1_pickNext 18 = .ok (.ishl, 1) := by decide +kernel
theorem dX1_pickNext_19 : decode cX1_pickNext 19 = .ok (.iconst (-1), 1) := by decide +kernel
theorem dX1_pickNext_20 : decode cX1_pickNext 20 = .ok (.ixor, 1) := by decide +kernel
theorem dX1_pickNext_21 : decode cX1_pickNext 21 = .ok (.iand, 1) := by decide +kernel
theorem dX1_pickNext_22 : decode cX1_pickNext 22 = .ok (.putfield 25, 3) := by decide +kernel
theorem dX1_pickNext_25 : decode cX1_pickNext 25 = .ok (.iload_n 3, 1) := by decide +kernel
theorem dX1_pickNext_26 : decode cX1_pickNext 26 = .ok (.iconst 1, 1) := by decide +kernel
theorem dX1_pickNext_27 : decode cX1_pickNext 27 = .ok (.iadd, 1) := by decide +kernel
theorem dX1_pickNext_28 : decode cX1_pickNext 28 = .ok (.istore 4, 2) := by decide +kernel
theorem dX1_pickNext_30 : decode cX1_pickNext 30 = .ok (.iload 4, 2) := by decide +kernel
theorem dX1_pickNext_32 : decode cX1_pickNext 32 = .ok (.aload_n 0, 1) := by decide +kernel
theorem dX1_pickNext_33 : decode cX1_pickNext 33 = .ok (.getfield 21, 3) := by decide +kernel
theorem dX1_pickNext_36 : decode cX1_pickNext 36 = .ok (.if_icmp .ge 22, 3) := by decide +kernel
theorem dX1_pickNext_39 : decode cX1_pickNext 39 = .ok (.aload_n 0, 1) := by decide +kernel
theorem dX1_pickNext_40 : decode cX1_pickNext 40 = .ok (.getfield 25, 3) := by decide +kernel
theorem dX1_pickNext_43 : decode cX1_pickNext 43 = .ok (.iload 4, 2) := by decide +kernel
theorem dX1_pickNext_45 : decode cX1_pickNext 45 = .ok (.ishr, 1) := by decide +kernel
theorem dX1_pickNext_46 : decode cX1_pickNext 46 = .ok (.iconst 1, 1) := by decide +kernel
theorem dX1_pickNext_47 : decode cX1_pickNext 47 = .ok (.iand, 1) := by decide +kernel
theorem dX1_pickNext_48 : decode cX1_pickNext 48 = .ok (.iconst 1, 1) := by decide +kernel
theorem dX1_pickNext_49 : decode cX1_pickNext 49 = .ok (.if_icmp .ne 9, 3) := by decide +kernel
theorem dX1_pickNext_52 : decode cX1_pickNext 52 = .ok (.iinc 4 1, 3) := by decide +kernel
theorem dX1_pickNext_55 : decode cX1_pickNext 55 = .ok (.goto (-25), 3) := by decide +kernel
theorem dX1_pickNext_58 : decode cX1_pickNext 58 = .ok (.iload 4, 2) := by decide +kernel
theorem dX1_pickNext_60 : decode cX1_pickNext 60 = .ok (.aload_n 0, 1) := by decide +kernel
theorem dX1_pickNext_61 : decode cX1_pickNext 61 = .ok (.getfield 21, 3) := by decide +kernel
theorem dX1_pickNext_64 : decode cX1_pickNext 64 = .ok (.if_icmp .lt 23, 3) := by decide +kernel
theorem dX1_pickNext_67 : decode cX1_pickNext 67 = .ok (.aload_n 0, 1) := by decide +kernel
theorem dX1_pickNext_68 : decode cX1_pickNext 68 = .ok (.getfield 47, 3) := by decide +kernel
theorem dX1_pickNext_71 : decode cX1_pickNext 71 = .ok (.getfield 87, 3) := by decide +kernel
theorem dX1_pickNext_74 : decode cX1_pickNext 74 = .ok (.aload_n 0, 1) := by decide +kernel
theorem dX1_pickNext_75 : decode cX1_pickNext 75 = .ok (.getfield 9, 3) := by decide +kernel
theorem dX1_pickNext_78 : decode cX1_pickNext 78 = .ok (.iload_n 1, 1) := by decide +kernel
theorem dX1_pickNext_79 : decode cX1_pickNext 79 = .ok (.iaload, 1) := by decide +kernel
theorem dX1_pickNext_80 : decode cX1_pickNext 80 = .ok (.aload_n 0, 1) := by decide +kernel
theorem dX1_pickNext_81 : decode cX1_pickNext 81 = .ok (.getfield 28, 3) := by decide +kernel
theorem dX1_pickNext_84 : decode cX1_pickNext 84 = .ok (.iastore, 1) := by decide +kernel
theorem dX1_pickNext_85 : decode cX1_pickNext 85 = .ok (.iconst 0, 1) := by decide +kernel
theorem dX1_pickNext_86 : decode cX1_pickNext 86 = .ok (.ireturn, 1) := by decide +kernel
theorem dX1_pickNext_87 : decode cX1_pickNext 87 = .ok (.aload_n 0, 1) := by decide +kernel
theorem dX1_pickNext_88 : decode cX1_pickNext 88 = .ok (.getfield 15, 3) := by decide +kernel
theorem dX1_pickNext_91 : decode cX1_pickNext 91 = .ok (.iload_n 1, 1) := by decide +kernel
theorem dX1_pickNext_92 : decode cX1_pickNext 92 = .ok (.iload 4, 2) := by decide +kernel
theorem dX1_pickNext_94 : decode cX1_pickNext 94 = .ok (.iastore, 1) := by decide +kernel
theorem dX1_pickNext_95 : decode cX1_pickNext 95 = .ok (.aload_n 0, 1) := by decide +kernel
theorem dX1_pickNext_96 : decode cX1_pickNext 96 = .ok (.dup, 1) := by decide +kernel
theorem dX1_pickNext_97 : decode cX1_pickNext 97 = .ok (.getfield 25, 3) := by decide +kernel
theorem dX1_pickNext_100 : decode cX1_pickNext 100 = .ok (.iconst 1, 1) := by decide +kernel
theorem dX1_pickNext_101 : decode cX1_pickNext 101 = .ok (.iload 4, 2) := by decide +kernel
theorem dX1_pickNext_103 : decode cX1_pickNext 103 = .ok (.ishl, 1) := by decide +kernel
theorem dX1_pickNext_104 : decode cX1_pickNext 104 = .ok (.ior, 1) := by decide +kernel
theorem dX1_pickNext_105 : decode cX1_pickNext 105 = .ok (.putfield 25, 3) := by decide +kernel
theorem dX1_pickNext_108 : decode cX1_pickNext 108 = .ok (.aload_n 0, 1) := by decide +kernel
theorem dX1_pickNext_109 : decode cX1_pickNext 109 = .ok (.getfield 47, 3) := by decide +kernel
theorem dX1_pickNext_112 : decode cX1_pickNext 112 = .ok (.getfield 87, 3) := by decide +kernel
theorem dX1_pickNext_115 : decode cX1_pickNext 115 = .ok (.aload_n 0, 1) := by decide +kernel
theorem dX1_pickNext_116 : decode cX1_pickNext 116 = .ok (.getfield 9, 3) := by decide +kernel
theorem dX1_pickNext_119 : decode cX1_pickNext 119 = .ok (.iload_n 1, 1) := by decide +kernel
theorem dX1_pickNext_120 : decode cX1_pickNext 120 = .ok (.iaload, 1) := by decide +kernel
theorem dX1_pickNext_121 : decode cX1_pickNext 121 = .ok (.aload_n 2, 1) := by decide +kernel
theorem dX1_pickNext_122 : decode cX1_pickNext 122 = .ok (.getfield 87, 3) := by decide +kernel
theorem dX1_pickNext_125 : decode cX1_pickNext 125 = .ok (.aload_n 0, 1) := by decide +kernel
theorem dX1_pickNext_126 : decode cX1_pickNext 126 = .ok (.getfield 9, 3) := by decide +kernel
theorem dX1_pickNext_129 : decode cX1_pickNext 129 = .ok (.iload 4, 2) := by decide +kernel
theorem dX1_pickNext_131 : decode cX1_pickNext 131 = .ok (.iaload, 1) := by decide +kernel
theorem dX1_pickNext_132 : decode cX1_pickNext 132 = .ok (.iaload, 1) := by decide +kernel
theorem dX1_pickNext_133 : decode cX1_pickNext 133 = .ok (.iastore, 1) := by decide +kernel
theorem dX1_pickNext_134 : decode cX1_pickNext 134 = .ok (.iconst 1, 1) := by decide +kernel
theorem dX1_pickNext_135 : decode cX1_pickNext 135 = .ok (.ireturn, 1) := by decide +kernel
theorem dX1_writeDown_0 : decode cX1_writeDown 0 = .ok (.iconst 0, 1) := by decide +kernel
theorem dX1_writeDown_1 : decode cX1_writeDown 1 = .ok (.istore_n 1, 1) := by decide +kernel
theorem dX1_writeDown_2 : decode cX1_writeDown 2 = .ok (.iload_n 1, 1) := by decide +kernel
theorem dX1_writeDown_3 : decode cX1_writeDown 3 = .ok (.aload_n 0, 1) := by decide +kernel
theorem dX1_writeDown_4 : decode cX1_writeDown 4 = .ok (.getfield 21, 3) := by decide +kernel
theorem dX1_writeDown_7 : decode cX1_writeDown 7 = .ok (.if_icmp .ge 31, 3) := by decide +kernel
theorem dX1_writeDown_10 : decode cX1_writeDown 10 = .ok (.aload_n 0, 1) := by decide +kernel
theorem dX1_writeDown_11 : decode cX1_writeDown 11 = .ok (.getfield 18, 3) := by decide +kernel
theorem dX1_writeDown_14 : decode cX1_writeDown 14 = .ok (.aload_n 0, 1) := by decide +kernel
theorem dX1_writeDown_15 : decode cX1_writeDown 15 = .ok (.getfield 9, 3) := by decide +kernel
theorem dX1_writeDown_18 : decode cX1_writeDown 18 = .ok (.iload_n 1, 1) := by decide +kernel
theorem dX1_writeDown_19 : decode cX1_writeDown 19 = .ok (.iaload, 1) := by decide +kernel
theorem dX1_writeDown_20 : decode cX1_writeDown 20 = .ok (.aload_n 0, 1) := by decide +kernel
theorem dX1_writeDown_21 : decode cX1_writeDown 21 = .ok (.getfield 9, 3) := by decide +kernel
theorem dX1_writeDown_24 : decode cX1_writeDown 24 = .ok (.aload_n 0, 1) := by decide +kernel
theorem dX1_writeDown_25 : decode cX1_writeDown 25 = .ok (.getfield 15, 3) := by decide +kernel
theorem dX1_writeDown_28 : decode cX1_writeDown 28 = .ok (.iload_n 1, 1) := by decide +kernel
theorem dX1_writeDown_29 : decode cX1_writeDown 29 = .ok (.iaload, 1) := by decide +kernel
theorem dX1_writeDown_30 : decode cX1_writeDown 30 = .ok (.iaload, 1) := by decide +kernel
theorem dX1_writeDown_31 : decode cX1_writeDown 31 = .ok (.iastore, 1) := by decide +kernel
theorem dX1_writeDown_32 : decode cX1_writeDown 32 = .ok (.iinc 1 1, 3) := by decide +kernel
theorem dX1_writeDown_35 : decode cX1_writeDown 35 = .ok (.goto (-33), 3) := by decide +kernel
theorem dX1_writeDown_38 : decode cX1_writeDown 38 = .ok (.return_, 1) := by decide +kernel
theorem dX2_init_0 : decode cX2_init 0 = .ok (.aload_n 0, 1) := by decide +kernel
theorem dX2_init_1 : decode cX2_init 1 = .ok (.invokespecial 3, 3) := by decide +kernel
theorem dX2_init_4 : decode cX2_init 4 = .ok (.aload_n 0, 1) := by decide +kernel
theorem dX2_init_5 : decode cX2_init 5 = .ok (.bipush 7, 2) := by decide +kernel
theorem dX2_init_7 : decode cX2_init 7 = .ok (.newarray .int, 2) := by decide +kernel
theorem dX2_init_9 : decode cX2_init 9 = .ok (.putfield 9, 3) := by decide +kernel
theorem dX2_init_12 : decode cX2_init 12 = .ok (.aload_n 0, 1) := by decide +kernel
theorem dX2_init_13 : decode cX2_init 13 = .ok (.bipush 7, 2) := by decide +kernel
theorem dX2_init_15 : decode cX2_init 15 = .ok (.newarray .int, 2) := by decide +kernel
theorem dX2_init_17 : decode cX2_init 17 = .ok (.putfield 15, 3) := by decide +kernel
theorem dX2_init_20 : decode cX2_init 20 = .ok (.aload_n 0, 1) := by decide +kernel
theorem dX2_init_21 : decode cX2_init 21 = .ok (.bipush 7, 2) := by decide +kernel
theorem dX2_init_23 : decode cX2_init 23 = .ok (.newarray .int, 2) := by decide +kernel
theorem dX2_init_25 : decode cX2_init 25 = .ok (.putfield 18, 3) := by decide +kernel
theorem dX2_init_28 : decode cX2_init 28 = .ok (.aload_n 0, 1) := by decide +kernel
theorem dX2_init_29 : decode cX2_init 29 = .ok (.bipush 7, 2) := by decide +kernel
theorem dX2_init_31 : decode cX2_init 31 = .ok (.newarray .int, 2) := by decide +kernel
theorem dX2_init_33 : decode cX2_init 33 = .ok (.putfield 21, 3) := by decide +kernel
theorem dX2_init_36 : decode cX2_init 36 = .ok (.aload_n 0, 1) := by decide +kernel
theorem dX2_init_37 : decode cX2_init 37 = .ok (.bipush 7, 2) := by decide +kernel
theorem dX2_init_39 : decode cX2_init 39 = .ok (.newarray .int, 2) := by decide +kernel
theorem dX2_init_41 : decode cX2_init 41 = .ok (.putfield 24, 3) := by decide +kernel
theorem dX2_init_44 : decode cX2_init 44 = .ok (.aload_n 0, 1) := by decide +kernel
theorem dX2_init_45 : decode cX2_init 45 = .ok (.bipush 7, 2) := by decide +kernel
theorem dX2_init_47 : decode cX2_init 47 = .ok (.newarray .int, 2) := by decide +kernel
theorem dX2_init_49 : decode cX2_init 49 = .ok (.putfield 27, 3) := by decide +kernel
theorem dX2_init_52 : decode cX2_init 52 = .ok (.aload_n 0, 1) := by decide +kernel
theorem dX2_init_53 : decode cX2_init 53 = .ok (.bipush 7, 2) := by decide +kernel
theorem dX2_init_55 : decode cX2_init 55 = .ok (.newarray .int, 2) := by decide +kernel
theorem dX2_init_57 : decode cX2_init 57 = .ok (.putfield 30, 3) := by decide +kernel
theorem dX2_init_60 : decode cX2_init 60 = .ok (.aload_n 0, 1) := by decide +kernel
theorem dX2_init_61 : decode cX2_init 61 = .ok (.bipush (-4), 2) := by decide +kernel
theorem dX2_init_63 : decode cX2_init 63 = .ok (.putfield 33, 3) := by decide +kernel
theorem dX2_init_66 : decode cX2_init 66 = .ok (.aload_n 0, 1) := by decide +kernel
theorem dX2_init_67 : decode cX2_init 67 = .ok (.iconst 0, 1) := by decide +kernel
theorem dX2_init_68 : decode cX2_init 68 = .ok (.putfield 37, 3) := by decide +kernel
theorem dX2_init_71 : decode cX2_init 71 = .ok (.aload_n 0, 1) := by decide +kernel
theorem dX2_init_72 : decode cX2_init 72 = .ok (.aload_n 1, 1) := by decide +kernel
theorem dX2_init_73 : decode cX2_init 73 = .ok (.putfield 40, 3) := by decide +kernel
theorem dX2_init_76 : decode cX2_init 76 = .ok (.return_, 1) := by decide +kernel
theorem dX2_open_0 : decode cX2_open 0 = .ok (.aload_n 0, 1) := by decide +kernel
theorem dX2_open_1 : decode cX2_open 1 = .ok (.bipush (-4), 2) := by decide +kernel
theorem dX2_open_3 : decode cX2_open 3 = .ok (.putfield 33, 3) := by decide +kernel
theorem dX2_open_6 : decode cX2_open 6 = .ok (.aload_n 0, 1) := by decide +kernel
theorem dX2_open_7 : decode cX2_open 7 = .ok (.iconst 0, 1) := by decide +kernel
theorem dX2_open_8 : decode cX2_open 8 = .ok (.putfield 37, 3) := by decide +kernel
theorem dX2_open_11 : decode cX2_open 11 = .ok (.iconst 0, 1) := by decide +kernel
theorem dX2_open_12 : decode cX2_open 12 = .ok (.istore_n 1, 1) := by decide +kernel
theorem dX2_open_13 : decode cX2_open 13 = .ok (.iload_n 1, 1) := by decide +kernel
theorem dX2_open_14 : decode cX2_open 14 = .ok (.bipush 7, 2) := by decide +kernel
theorem dX2_open_16 : decode cX2_open 16 = .ok (.if_icmp .ge 75, 3) := by decide +kernel
theorem dX2_open_19 : decode cX2_open 19 = .ok (.aload_n 0, 1) := by decide +kernel
theorem dX2_open_20 : decode cX2_open 20 = .ok (.getfield 9, 3) := by decide +kernel
theorem dX2_open_23 : decode cX2_open 23 = .ok (.iload_n 1, 1) := by decide +kernel
theorem dX2_open_24 : decode cX2_open 24 = .ok (.iconst 0, 1) := by decide +kernel
theorem dX2_open_25 : decode cX2_open 25 = .ok (.iastore, 1) := by decide +kernel
theorem dX2_open_26 : decode cX2_open 26 = .ok (.aload_n 0, 1) := by decide +kernel
theorem dX2_open_27 : decode cX2_open 27 = .ok (.getfield 15, 3) := by decide +kernel
theorem dX2_open_30 : decode cX2_open 30 = .ok (.iload_n 1, 1) := by decide +kernel
theorem dX2_open_31 : decode cX2_open 31 = .ok (.aload_n 0, 1) := by decide +kernel
theorem dX2_open_32 : decode cX2_open 32 = .ok (.getfield 40, 3) := by decide +kernel
theorem dX2_open_35 : decode cX2_open 35 = .ok (.getfield 44, 3) := by decide +kernel
theorem dX2_open_38 : decode cX2_open 38 = .ok (.iload_n 1, 1) := by decide +kernel
theorem dX2_open_39 : decode cX2_open 39 = .ok (.iaload, 1) := by decide +kernel
theorem dX2_open_40 : decode cX2_open 40 = .ok (.iastore, 1) := by decide +kernel
theorem dX2_open_41 : decode cX2_open 41 = .ok (.aload_n 0, 1) := by decide +kernel
theorem dX2_open_42 : decode cX2_open 42 = .ok (.getfield 18, 3) := by decide +kernel
theorem dX2_open_45 : decode cX2_open 45 = .ok (.iload_n 1, 1) := by decide +kernel
theorem dX2_open_46 : decode cX2_open 46 = .ok (.aload_n 0, 1) := by decide +kernel
theorem dX2_open_47 : decode cX2_open 47 = .ok (.getfield 40, 3) := by decide +kernel
theorem dX2_open_50 : decode cX2_open 50 = .ok (.getfield 47, 3) := by decide +kernel
theorem dX2_open_53 : decode cX2_open 53 = .ok (.iload_n 1, 1) := by decide +kernel
theorem dX2_open_54 : decode cX2_open 54 = .ok (.iaload, 1) := by decide +kernel
theorem dX2_open_55 : decode cX2_open 55 = .ok (.iastore, 1) := by decide +kernel
theorem dX2_open_56 : decode cX2_open 56 = .ok (.aload_n 0, 1) := by decide +kernel
theorem dX2_open_57 : decode cX2_open 57 = .ok (.getfield 21, 3) := by decide +kernel
theorem dX2_open_60 : decode cX2_open 60 = .ok (.iload_n 1, 1) := by decide +kernel
theorem dX2_open_61 : decode cX2_open 61 = .ok (.iconst 0, 1) := by decide +kernel
theorem dX2_open_62 : decode cX2_open 62 = .ok (.iastore, 1) := by decide +kernel
theorem dX2_open_63 : decode cX2_open 63 = .ok (.aload_n 0, 1) := by decide +kernel
theorem dX2_open_64 : decode cX2_open 64 = .ok (.getfield 24, 3) := by decide +kernel
theorem dX2_open_67 : decode cX2_open 67 = .ok (.iload_n 1, 1) := by decide +kernel
theorem dX2_open_68 : decode cX2_open 68 = .ok (.bipush (-4), 2) := by decide +kernel
theorem dX2_open_70 : decode cX2_open 70 = .ok (.iastore, 1) := by decide +kernel
theorem dX2_open_71 : decode cX2_open 71 = .ok (.aload_n 0, 1) := by decide +kernel
theorem dX2_open_72 : decode cX2_open 72 = .ok (.getfield 27, 3) := by decide +kernel
theorem dX2_open_75 : decode cX2_open 75 = .ok (.iload_n 1, 1) := by decide +kernel
theorem dX2_open_76 : decode cX2_open 76 = .ok (.iconst 0, 1) := by decide +kernel
theorem dX2_open_77 : decode cX2_open 77 = .ok (.iastore, 1) := by decide +kernel
theorem dX2_open_78 : decode cX2_open 78 = .ok (.aload_n 0, 1) := by decide +kernel
theorem dX2_open_79 : decode cX2_open 79 = .ok (.getfield 30, 3) := by decide +kernel
theorem dX2_open_82 : decode cX2_open 82 = .ok (.iload_n 1, 1) := by decide +kernel
theorem dX2_open_83 : decode cX2_open 83 = .ok (.iconst 0, 1) := by decide +kernel
theorem dX2_open_84 : decode cX2_open 84 = .ok (.iastore, 1) := by decide +kernel
theorem dX2_open_85 : decode cX2_open 85 = .ok (.iinc 1 1, 3) := by decide +kernel
theorem dX2_open_88 : decode cX2_open 88 = .ok (.goto (-75), 3) := by decide +kernel
theorem dX2_open_91 : decode cX2_open 91 = .ok (.return_, 1) := by decide +kernel
theorem dX2_copyFrom_0 : decode cX2_copyFrom 0 = .ok (.aload_n 0, 1) := by decide +kernel
theorem dX2_copyFrom_1 : decode cX2_copyFrom 1 = .ok (.aload_n 1, 1) := by decide +kernel
theorem dX2_copyFrom_2 : decode cX2_copyFrom 2 = .ok (.getfield 33, 3) := by decide +kernel
theorem dX2_copyFrom_5 : decode cX2_copyFrom 5 = .ok (.putfield 33, 3) := by decide +kernel
theorem dX2_copyFrom_8 : decode cX2_copyFrom 8 = .ok (.aload_n 0, 1) := by decide +kernel
theorem dX2_copyFrom_9 : decode cX2_copyFrom 9 = .ok (.aload_n 1, 1) := by decide +kernel
theorem dX2_copyFrom_10 : decode cX2_copyFrom 10 = .ok (.getfield 37, 3) := by decide +kernel
theorem dX2_copyFrom_13 : decode cX2_copyFrom 13 = .ok (.putfield 37, 3) := by decide +kernel
theorem dX2_copyFrom_16 : decode cX2_copyFrom 16 = .ok (.iconst 0, 1) := by decide +kernel
theorem dX2_copyFrom_17 : decode cX2_copyFrom 17 = .ok (.istore_n 2, 1) := by decide +kernel
theorem dX2_copyFrom_18 : decode cX2_copyFrom 18 = .ok (.iload_n 2, 1) := by decide +kernel
theorem dX2_copyFrom_19 : decode cX2_copyFrom 19 = .ok (.bipush 7, 2) := by decide +kernel
theorem dX2_copyFrom_21 : decode cX2_copyFrom 21 = .ok (.if_icmp .ge 93, 3) := by decide +kernel
theorem dX2_copyFrom_24 : decode cX2_copyFrom 24 = .ok (.aload_n 0, 1) := by decide +kernel
theorem dX2_copyFrom_25 : decode cX2_copyFrom 25 = .ok (.getfield 9, 3) := by decide +kernel
theorem dX2_copyFrom_28 : decode cX2_copyFrom 28 = .ok (.iload_n 2, 1) := by decide +kernel
theorem dX2_copyFrom_29 : decode cX2_copyFrom 29 = .ok (.aload_n 1, 1) := by decide +kernel
theorem dX2_copyFrom_30 : decode cX2_copyFrom 30 = .ok (.getfield 9, 3) := by decide +kernel
theorem dX2_copyFrom_33 : decode cX2_copyFrom 33 = .ok (.iload_n 2, 1) := by decide +kernel
theorem dX2_copyFrom_34 : decode cX2_copyFrom 34 = .ok (.iaload, 1) := by decide +kernel
theorem dX2_copyFrom_35 : decode cX2_copyFrom 35 = .ok (.iastore, 1) := by decide +kernel
theorem dX2_copyFrom_36 : decode cX2_copyFrom 36 = .ok (.aload_n 0, 1) := by decide +kernel
theorem dX2_copyFrom_37 : decode cX2_copyFrom 37 = .ok (.getfield 15, 3) := by decide +kernel
theorem dX2_copyFrom_40 : decode cX2_copyFrom 40 = .ok (.iload_n 2, 1) := by decide +kernel
theorem dX2_copyFrom_41 : decode cX2_copyFrom 41 = .ok (.aload_n 1, 1) := by decide +kernel
theorem dX2_copyFrom_42 : decode cX2_copyFrom 42 = .ok (.getfield 15, 3) := by decide +kernel
theorem dX2_copyFrom_45 : decode cX2_copyFrom 45 = .ok (.iload_n 2, 1) := by decide +kernel
theorem dX2_copyFrom_46 : decode cX2_copyFrom 46 = .ok (.iaload, 1) := by decide +kernel
theorem dX2_copyFrom_47 : decode cX2_copyFrom 47 = .ok (.iastore, 1) := by decide +kernel
theorem dX2_copyFrom_48 : decode cX2_copyFrom 48 = .ok (.aload_n 0, 1) := by decide +kernel
theorem dX2_copyFrom_49 : decode cX2_copyFrom 49 = .ok (.getfield 18, 3) := by decide +kernel
theorem dX2_copyFrom_52 : decode cX2_copyFrom 52 = .ok (.iload_n 2, 1) := by decide +kernel
theorem dX2_copyFrom_53 : decode cX2_copyFrom 53 = .ok (.aload_n 1, 1) := by decide +kernel
theorem dX2_copyFrom_54 : decode cX2_copyFrom 54 = .ok (.getfield 18, 3) := by decide +kernel
theorem dX2_copyFrom_57 : decode cX2_copyFrom 57 = .ok (.iload_n 2, 1) := by decide +kernel
theorem dX2_copyFrom_58 : decode cX2_copyFrom 58 = .ok (.iaload, 1) := by decide +kernel
theorem dX2_copyFrom_59 : decode cX2_copyFrom 59 = .ok (.iastore, 1) := by decide +kernel
theorem dX2_copyFrom_60 : decode cX2_copyFrom 60 = .ok (.aload_n 0, 1) := by decide +kernel
theorem dX2_copyFrom_61 : decode cX2_copyFrom 61 = .ok (.getfield 21, 3) := by decide +kernel
theorem dX2_copyFrom_64 : decode cX2_copyFrom 64 = .ok (.iload_n 2, 1) := by decide +kernel
theorem dX2_copyFrom_65 : decode cX2_copyFrom 65 = .ok (.aload_n 1, 1) := by decide +kernel
theorem dX2_copyFrom_66 : decode cX2_copyFrom 66 = .ok (.getfield 21, 3) := by decide +kernel
theorem dX2_copyFrom_69 : decode cX2_copyFrom 69 = .ok (.iload_n 2, 1) := by decide +kernel
theorem dX2_copyFrom_70 : decode cX2_copyFrom 70 = .ok (.iaload, 1) := by decide +kernel
theorem dX2_copyFrom_71 : decode cX2_copyFrom 71 = .ok (.iastore, 1) := by decide +kernel
theorem dX2_copyFrom_72 : decode cX2_copyFrom 72 = .ok (.aload_n 0, 1) := by decide +kernel
theorem dX2_copyFrom_73 : decode cX2_copyFrom 73 = .ok (.getfield 24, 3) := by decide +kernel
theorem dX2_copyFrom_76 : decode cX2_copyFrom 76 = .ok (.iload_n 2, 1) := by decide +kernel
theorem dX2_copyFrom_77 : decode cX2_copyFrom 77 = .ok (.aload_n 1, 1) := by decide +kernel
theorem dX2_copyFrom_78 : decode cX2_copyFrom 78 = .ok (.getfield 24, 3) := by decide +kernel
theorem dX2_copyFrom_81 : decode cX2_copyFrom 81 = .ok (.iload_n 2, 1) := by decide +kernel
theorem dX2_copyFrom_82 : decode cX2_copyFrom 82 = .ok (.iaload, 1) := by decide +kernel
theorem dX2_copyFrom_83 : decode cX2_copyFrom 83 = .ok (.iastore, 1) := by decide +kernel
theorem dX2_copyFrom_84 : decode cX2_copyFrom 84 = .ok (.aload_n 0, 1) := by decide +kernel
theorem dX2_copyFrom_85 : decode cX2_copyFrom 85 = .ok (.getfield 27, 3) := by decide +kernel
theorem dX2_copyFrom_88 : decode cX2_copyFrom 88 = .ok (.iload_n 2, 1) := by decide +kernel
theorem dX2_copyFrom_89 : decode cX2_copyFrom 89 = .ok (.aload_n 1, 1) := by decide +kernel
theorem dX2_copyFrom_90 : decode cX2_copyFrom 90 = .ok (.getfield 27, 3) := by decide +kernel
theorem dX2_copyFrom_93 : decode cX2_copyFrom 93 = .ok (.iload_n 2, 1) := by decide +kernel
theorem dX2_copyFrom_94 : decode cX2_copyFrom 94 = .ok (.iaload, 1) := by decide +kernel
theorem dX2_copyFrom_95 : decode cX2_copyFrom 95 = .ok (.iastore, 1) := by decide +kernel
theorem dX2_copyFrom_96 : decode cX2_copyFrom 96 = .ok (.aload_n 0, 1) := by decide +kernel
theorem dX2_copyFrom_97 : decode cX2_copyFrom 97 = .ok (.getfield 30, 3) := by decide +kernel
theorem dX2_copyFrom_100 : decode cX2_copyFrom 100 = .ok (.iload_n 2, 1) := by decide +kernel
theorem dX2_copyFrom_101 : decode cX2_copyFrom 101 = .ok (.aload_n 1, 1) := by decide +kernel
theorem dX2_copyFrom_102 : decode cX2_copyFrom 102 = .ok (.getfield 30, 3) := by decide +kernel
theorem dX2_copyFrom_105 : decode cX2_copyFrom 105 = .ok (.iload_n 2, 1) := by decide +kernel
theorem dX2_copyFrom_106 : decode cX2_copyFrom 106 = .ok (.iaload, 1) := by decide +kernel
theorem dX2_copyFrom_107 : decode cX2_copyFrom 107 = .ok (.iastore, 1) := by decide +kernel
theorem dX2_copyFrom_108 : decode cX2_copyFrom 108 = .ok (.iinc 2 1, 3) := by decide +kernel
theorem dX2_copyFrom_111 : decode cX2_copyFrom 111 = .ok (.goto (-93), 3) := by decide +kernel
theorem dX2_copyFrom_114 : decode cX2_copyFrom 114 = .ok (.return_, 1) := by decide +kernel
theorem dX2_isBooked_0 : decode cX2_isBooked 0 = .ok (.aload_n 0, 1) := by decide +kernel
theorem dX2_isBooked_1 : decode cX2_isBooked 1 = .ok (.getfield 40, 3) := by decide +kernel
theorem dX2_isBooked_4 : decode cX2_isBooked 4 = .ok (.iload_n 1, 1) := by decide +kernel
theorem dX2_isBooked_5 : decode cX2_isBooked 5 = .ok (.invokevirtual 48, 3) := by decide +kernel
theorem dX2_isBooked_8 : decode cX2_isBooked 8 = .ok (.ifCond .eq 16, 3) := by decide +kernel
theorem dX2_isBooked_11 : decode cX2_isBooked 11 = .ok (.aload_n 0, 1) := by decide +kernel
theorem dX2_isBooked_12 : decode cX2_isBooked 12 = .ok (.getfield 9, 3) := by decide +kernel
theorem dX2_isBooked_15 : decode cX2_isBooked 15 = .ok (.iload_n 1, 1) := by decide +kernel
theorem dX2_isBooked_16 : decode cX2_isBooked 16 = .ok (.iaload, 1) := by decide +kernel
theorem dX2_isBooked_17 : decode cX2_isBooked 17 = .ok (.ifCond .ne 7, 3) := by decide +kernel
theorem dX2_isBooked_20 : decode cX2_isBooked 20 = .ok (.iconst 1, 1) := by decide +kernel
theorem dX2_isBooked_21 : decode cX2_isBooked 21 = .ok (.goto 4, 3) := by decide +kernel
theorem dX2_isBooked_24 : decode cX2_isBooked 24 = .ok (.iconst 0, 1) := by decide +kernel
theorem dX2_isBooked_25 : decode cX2_isBooked 25 = .ok (.ireturn, 1) := by decide +kernel
theorem dX2_rebook_0 : decode cX2_rebook 0 = .ok (.aload_n 0, 1) := by decide +kernel
theorem dX2_rebook_1 : decode cX2_rebook 1 = .ok (.iload_n 1, 1) := by decide +kernel
theorem dX2_rebook_2 : decode cX2_rebook 2 = .ok (.invokevirtual 52, 3) := by decide +kernel
theorem dX2_rebook_5 : decode cX2_rebook 5 = .ok (.ifCond .eq 18, 3) := by decide +kernel
theorem dX2_rebook_8 : decode cX2_rebook 8 = .ok (.iload_n 2, 1) := by decide +kernel
theorem dX2_rebook_9 : decode cX2_rebook 9 = .ok (.aload_n 0, 1) := by decide +kernel
theorem dX2_rebook_10 : decode cX2_rebook 10 = .ok (.getfield 37, 3) := by decide +kernel
theorem dX2_rebook_13 : decode cX2_rebook 13 = .ok (.if_icmp .lt 10, 3) := by decide +kernel
theorem dX2_rebook_16 : decode cX2_rebook 16 = .ok (.aload_n 0, 1) := by decide +kernel
theorem dX2_rebook_17 : decode cX2_rebook 17 = .ok (.getfield 15, 3) := by decide +kernel
theorem dX2_rebook_20 : decode cX2_rebook 20 = .ok (.iload_n 1, 1) := by decide +kernel
theorem dX2_rebook_21 : decode cX2_rebook 21 = .ok (.iload_n 2, 1) := by decide +kernel
theorem dX2_rebook_22 : decode cX2_rebook 22 = .ok (.iastore, 1) := by decide +kernel
theorem dX2_rebook_23 : decode cX2_rebook 23 = .ok (.return_, 1) := by decide +kernel
theorem dX2_callOff_0 : decode cX2_callOff 0 = .ok (.aload_n 0, 1) := by decide +kernel
theorem dX2_callOff_1 : decode cX2_callOff 1 = .ok (.iload_n 1, 1) := by decide +kernel
theorem dX2_callOff_2 : decode cX2_callOff 2 = .ok (.invokevirtual 52, 3) := by decide +kernel
theorem dX2_callOff_5 : decode cX2_callOff 5 = .ok (.ifCond .eq 10, 3) := by decide +kernel
theorem dX2_callOff_8 : decode cX2_callOff 8 = .ok (.aload_n 0, 1) := by decide +kernel
theorem dX2_callOff_9 : decode cX2_callOff 9 = .ok (.getfield 9, 3) := by decide +kernel
theorem dX2_callOff_12 : decode cX2_callOff 12 = .ok (.iload_n 1, 1) := by decide +kernel
theorem dX2_callOff_13 : decode cX2_callOff 13 = .ok (.iconst 3, 1) := by decide +kernel
theorem dX2_callOff_14 : decode cX2_callOff 14 = .ok (.iastore, 1) := by decide +kernel
theorem dX2_callOff_15 : decode cX2_callOff 15 = .ok (.return_, 1) := by decide +kernel
theorem dX2_swapRooms_0 : decode cX2_swapRooms 0 = .ok (.aload_n 0, 1) := by decide +kernel
theorem dX2_swapRooms_1 : decode cX2_swapRooms 1 = .ok (.iload_n 1, 1) := by decide +kernel
theorem dX2_swapRooms_2 : decode cX2_swapRooms 2 = .ok (.invokevirtual 52, 3) := by decide +kernel
theorem dX2_swapRooms_5 : decode cX2_swapRooms 5 = .ok (.ifCond .eq 37, 3) := by decide +kernel
theorem dX2_swapRooms_8 : decode cX2_swapRooms 8 = .ok (.aload_n 0, 1) := by decide +kernel
theorem dX2_swapRooms_9 : decode cX2_swapRooms 9 = .ok (.iload_n 2, 1) := by decide +kernel
theorem dX2_swapRooms_10 : decode cX2_swapRooms 10 = .ok (.invokevirtual 52, 3) := by decide +kernel
theorem dX2_swapRooms_13 : decode cX2_swapRooms 13 = .ok (.ifCond .eq 29, 3) := by decide +kernel
theorem dX2_swapRooms_16 : decode cX2_swapRooms 16 = .ok (.aload_n 0, 1) := by decide +kernel
theorem dX2_swapRooms_17 : decode cX2_swapRooms 17 = .ok (.getfield 18, 3) := by decide +kernel
theorem dX2_swapRooms_20 : decode cX2_swapRooms 20 = .ok (.iload_n 1, 1) := by decide +kernel
theorem dX2_swapRooms_21 : decode cX2_swapRooms 21 = .ok (.iaload, 1) := by decide +kernel
theorem dX2_swapRooms_22 : decode cX2_swapRooms 22 = .ok (.istore_n 3, 1) := by decide +kernel
theorem dX2_swapRooms_23 : decode cX2_swapRooms 23 = .ok (.aload_n 0, 1) := by decide +kernel
theorem dX2_swapRooms_24 : decode cX2_swapRooms 24 = .ok (.getfield 18, 3) := by decide +kernel
theorem dX2_swapRooms_27 : decode cX2_swapRooms 27 = .ok (.iload_n 1, 1) := by decide +kernel
theorem dX2_swapRooms_28 : decode cX2_swapRooms 28 = .ok (.aload_n 0, 1) := by decide +kernel
theorem dX2_swapRooms_29 : decode cX2_swapRooms 29 = .ok (.getfield 18, 3) := by decide +kernel
theorem dX2_swapRooms_32 : decode cX2_swapRooms 32 = .ok (.iload_n 2, 1) := by decide +kernel
theorem dX2_swapRooms_33 : decode cX2_swapRooms 33 = .ok (.iaload, 1) := by decide +kernel
theorem dX2_swapRooms_34 : decode cX2_swapRooms 34 = .ok (.iastore, 1) := by decide +kernel
theorem dX2_swapRooms_35 : decode cX2_swapRooms 35 = .ok (.aload_n 0, 1) := by decide +kernel
theorem dX2_swapRooms_36 : decode cX2_swapRooms 36 = .ok (.getfield 18, 3) := by decide +kernel
theorem dX2_swapRooms_39 : decode cX2_swapRooms 39 = .ok (.iload_n 2, 1) := by decide +kernel
theorem dX2_swapRooms_40 : decode cX2_swapRooms 40 = .ok (.iload_n 3, 1) := by decide +kernel
theorem dX2_swapRooms_41 : decode cX2_swapRooms 41 = .ok (.iastore, 1) := by decide +kernel
theorem dX2_swapRooms_42 : decode cX2_swapRooms 42 = .ok (.return_, 1) := by decide +kernel
theorem dX2_brings_0 : decode cX2_brings 0 = .ok (.aload_n 0, 1) := by decide +kernel
theorem dX2_brings_1 : decode cX2_brings 1 = .ok (.getfield 40, 3) := by decide +kernel
theorem dX2_brings_4 : decode cX2_brings 4 = .ok (.iload_n 1, 1) := by decide +kernel
theorem dX2_brings_5 : decode cX2_brings 5 = .ok (.invokevirtual 48, 3) := by decide +kernel
theorem dX2_brings_8 : decode cX2_brings 8 = .ok (.ifCond .ne 5, 3) := by decide +kernel
theorem dX2_brings_11 : decode cX2_brings 11 = .ok (.iconst 0, 1) := by decide +kernel
theorem dX2_brings_12 : decode cX2_brings 12 = .ok (.ireturn, 1) := by decide +kernel
theorem dX2_brings_13 : decode cX2_brings 13 = .ok (.aload_n 0, 1) := by decide +kernel
theorem dX2_brings_14 : decode cX2_brings 14 = .ok (.getfield 40, 3) := by decide +kernel
theorem dX2_brings_17 : decode cX2_brings 17 = .ok (.getfield 55, 3) := by decide +kernel
theorem dX2_brings_20 : decode cX2_brings 20 = .ok (.iload_n 1, 1) := by decide +kernel
theorem dX2_brings_21 : decode cX2_brings 21 = .ok (.iaload, 1) := by decide +kernel
theorem dX2_brings_22 : decode cX2_brings 22 = .ok (.istore_n 2, 1) := by decide +kernel
theorem dX2_brings_23 : decode cX2_brings 23 = .ok (.aload_n 0, 1) := by decide +kernel
theorem dX2_brings_24 : decode cX2_brings 24 = .ok (.getfield 40, 3) := by decide +kernel
theorem dX2_brings_27 : decode cX2_brings 27 = .ok (.getfield 58, 3) := by decide +kernel
theorem dX2_brings_30 : decode cX2_brings 30 = .ok (.iload_n 1, 1) := by decide +kernel
theorem dX2_brings_31 : decode cX2_brings 31 = .ok (.iaload, 1) := by decide +kernel
theorem dX2_brings_32 : decode cX2_brings 32 = .ok (.iconst 1, 1) := by decide +kernel
theorem dX2_brings_33 : decode cX2_brings 33 = .ok (.if_icmp .ne 10, 3) := by decide +kernel
theorem dX2_brings_36 : decode cX2_brings 36 = .ok (.iconst 2, 1) := by decide +kernel
theorem dX2_brings_37 : decode cX2_brings 37 = .ok (.iload_n 2, 1) := by decide +kernel
theorem dX2_brings_38 : decode cX2_brings 38 = .ok (.imul, 1) := by decide +kernel
theorem dX2_brings_39 : decode cX2_brings 39 = .ok (.istore_n 2, 1) := by decide +kernel
theorem dX2_brings_40 : decode cX2_brings 40 = .ok (.goto 20, 3) := by decide +kernel
theorem dX2_brings_43 : decode cX2_brings 43 = .ok (.aload_n 0, 1) := by decide +kernel
theorem dX2_brings_44 : decode cX2_brings 44 = .ok (.getfield 40, 3) := by decide +kernel
theorem dX2_brings_47 : decode cX2_brings 47 = .ok (.getfield 58, 3) := by decide +kernel
theorem dX2_brings_50 : decode cX2_brings 50 = .ok (.iload_n 1, 1) := by decide +kernel
theorem dX2_brings_51 : decode cX2_brings 51 = .ok (.iaload, 1) := by decide +kernel
theorem dX2_brings_52 : decode cX2_brings 52 = .ok (.iconst 3, 1) := by decide +kernel
theorem dX2_brings_53 : decode cX2_brings 53 = .ok (.if_icmp .ne 7, 3) := by decide +kernel
theorem dX2_brings_56 : decode cX2_brings 56 = .ok (.iload_n 2, 1) := by decide +kernel
theorem dX2_brings_57 : decode cX2_brings 57 = .ok (.iconst 2, 1) := by decide +kernel
theorem dX2_brings_58 : decode cX2_brings 58 = .ok (.idiv, 1) := by decide +kernel
theorem dX2_brings_59 : decode cX2_brings 59 = .ok (.istore_n 2, 1) := by decide +kernel
theorem dX2_brings_60 : decode cX2_brings 60 = .ok (.iload_n 2, 1) := by decide +kernel
theorem dX2_brings_61 : decode cX2_brings 61 = .ok (.aload_n 0, 1) := by decide +kernel
theorem dX2_brings_62 : decode cX2_brings 62 = .ok (.getfield 18, 3) := by decide +kernel
theorem dX2_brings_65 : decode cX2_brings 65 = .ok (.iload_n 1, 1) := by decide +kernel
theorem dX2_brings_66 : decode cX2_brings 66 = .ok (.iaload, 1) := by decide +kernel
theorem dX2_brings_67 : decode cX2_brings 67 = .ok (.iadd, 1) := by decide +kernel
theorem dX2_brings_68 : decode cX2_brings 68 = .ok (.ireturn, 1) := by decide +kernel
theorem dX2_oneHour_0 : decode cX2_oneHour 0 = .ok (.iconst 0, 1) := by decide +kernel
theorem dX2_oneHour_1 : decode cX2_oneHour 1 = .ok (.istore_n 1, 1) := by decide +kernel
theorem dX2_oneHour_2 : decode cX2_oneHour 2 = .ok (.iload_n 1, 1) := by decide +kernel
theorem dX2_oneHour_3 : decode cX2_oneHour 3 = .ok (.aload_n 0, 1) := by decide +kernel
theorem dX2_oneHour_4 : decode cX2_oneHour 4 = .ok (.getfield 40, 3) := by decide +kernel
theorem dX2_oneHour_7 : decode cX2_oneHour 7 = .ok (.getfield 61, 3) := by decide +kernel
theorem dX2_oneHour_10 : decode cX2_oneHour 10 = .ok (.if_icmp .ge 36, 3) := by decide +kernel
theorem dX2_oneHour_13 : decode cX2_oneHour 13 = .ok (.aload_n 0, 1) := by decide +kernel
theorem dX2_oneHour_14 : decode cX2_oneHour 14 = .ok (.getfield 9, 3) := by decide +kernel
theorem dX2_oneHour_17 : decode cX2_oneHour 17 = .ok (.iload_n 1, 1) := by decide +kernel
theorem dX2_oneHour_18 : decode cX2_oneHour 18 = .ok (.iaload, 1) := by decide +kernel
theorem dX2_oneHour_19 : decode cX2_oneHour 19 = .ok (.ifCond .ne 21, 3) := by decide +kernel
theorem dX2_oneHour_22 : decode cX2_oneHour 22 = .ok (.aload_n 0, 1) := by decide +kernel
theorem dX2_oneHour_23 : decode cX2_oneHour 23 = .ok (.getfield 15, 3) := by decide +kernel
theorem dX2_oneHour_26 : decode cX2_oneHour 26 = .ok (.iload_n 1, 1) := by decide +kernel
theorem dX2_oneHour_27 : decode cX2_oneHour 27 = .ok (.iaload, 1) := by decide +kernel
theorem dX2_oneHour_28 : decode cX2_oneHour 28 = .ok (.aload_n 0, 1) := by decide +kernel
theorem dX2_oneHour_29 : decode cX2_oneHour 29 = .ok (.getfield 37, 3) := by decide +kernel
theorem dX2_oneHour_32 : decode cX2_oneHour 32 = .ok (.if_icmp .ne 8, 3) := by decide +kernel
theorem dX2_oneHour_35 : decode cX2_oneHour 35 = .ok (.aload_n 0, 1) := by decide +kernel
theorem dX2_oneHour_36 : decode cX2_oneHour 36 = .ok (.iload_n 1, 1) := by decide +kernel
theorem dX2_oneHour_37 : decode cX2_oneHour 37 = .ok (.invokevirtual 64, 3) := by decide +kernel
theorem dX2_oneHour_40 : decode cX2_oneHour 40 = .ok (.iinc 1 1, 3) := by decide +kernel
theorem dX2_oneHour_43 : decode cX2_oneHour 43 = .ok (.goto (-41), 3) := by decide +kernel
theorem dX2_oneHour_46 : decode cX2_oneHour 46 = .ok (.iconst 0, 1) := by decide +kernel
theorem dX2_oneHour_47 : decode cX2_oneHour 47 = .ok (.istore_n 1, 1) := by decide +kernel
theorem dX2_oneHour_48 : decode cX2_oneHour 48 = .ok (.iload_n 1, 1) := by decide +kernel
theorem dX2_oneHour_49 : decode cX2_oneHour 49 = .ok (.aload_n 0, 1) := by decide +kernel
theorem dX2_oneHour_50 : decode cX2_oneHour 50 = .ok (.getfield 40, 3) := by decide +kernel
theorem dX2_oneHour_53 : decode cX2_oneHour 53 = .ok (.getfield 61, 3) := by decide +kernel
theorem dX2_oneHour_56 : decode cX2_oneHour 56 = .ok (.if_icmp .ge 45, 3) := by decide +kernel
theorem dX2_oneHour_59 : decode cX2_oneHour 59 = .ok (.aload_n 0, 1) := by decide +kernel
theorem dX2_oneHour_60 : decode cX2_oneHour 60 = .ok (.getfield 9, 3) := by decide +kernel
theorem dX2_oneHour_63 : decode cX2_oneHour 63 = .ok (.iload_n 1, 1) := by decide +kernel
theorem dX2_oneHour_64 : decode cX2_oneHour 64 = .ok (.iaload, 1) := by decide +kernel
theorem dX2_oneHour_65 : decode cX2_oneHour 65 = .ok (.iconst 1, 1) := by decide +kernel
theorem dX2_oneHour_66 : decode cX2_oneHour 66 = .ok (.if_icmp .ne 29, 3) := by decide +kernel
theorem dX2_oneHour_69 : decode cX2_oneHour 69 = .ok (.aload_n 0, 1) := by decide +kernel
theorem dX2_oneHour_70 : decode cX2_oneHour 70 = .ok (.getfield 21, 3) := by decide +kernel
theorem dX2_oneHour_73 : decode cX2_oneHour 73 = .ok (.iload_n 1, 1) := by decide +kernel
theorem dX2_oneHour_74 : decode cX2_oneHour 74 = .ok (.iconst 0, 1) := by decide +kernel
theorem dX2_oneHour_75 : decode cX2_oneHour 75 = .ok (.aload_n 0, 1) := by decide +kernel
theorem dX2_oneHour_76 : decode cX2_oneHour 76 = .ok (.getfield 21, 3) := by decide +kernel
theorem dX2_oneHour_79 : decode cX2_oneHour 79 = .ok (.iload_n 1, 1) := by decide +kernel
theorem dX2_oneHour_80 : decode cX2_oneHour 80 = .ok (.iaload, 1) := by decide +kernel
theorem dX2_oneHour_81 : decode cX2_oneHour 81 = .ok (.aload_n 0, 1) := by decide +kernel
theorem dX2_oneHour_82 : decode cX2_oneHour 82 = .ok (.getfield 40, 3) := by decide +kernel
theorem dX2_oneHour_85 : decode cX2_oneHour 85 = .ok (.getfield 68, 3) := by decide +kernel
theorem dX2_oneHour_88 : decode cX2_oneHour 88 = .ok (.iload_n 1, 1) := by decide +kernel
theorem dX2_oneHour_89 : decode cX2_oneHour 89 = .ok (.iaload, 1) := by decide +kernel
theorem dX2_oneHour_90 : decode cX2_oneHour 90 = .ok (.isub, 1) := by decide +kernel
theorem dX2_oneHour_91 : decode cX2_oneHour 91 = .ok (.invokestatic 71, 3) := by decide +kernel
theorem dX2_oneHour_94 : decode cX2_oneHour 94 = .ok (.iastore, 1) := by decide +kernel
theorem dX2_oneHour_95 : decode cX2_oneHour 95 = .ok (.iinc 1 1, 3) := by decide +kernel
theorem dX2_oneHour_98 : decode cX2_oneHour 98 = .ok (.goto (-50), 3) := by decide +kernel
theorem dX2_oneHour_101 : decode cX2_oneHour 101 = .ok (.iconst 0, 1) := by decide +kernel
theorem dX2_oneHour_102 : decode cX2_oneHour 102 = .ok (.istore_n 1, 1) := by decide +kernel
theorem dX2_oneHour_103 : decode cX2_oneHour 103 = .ok (.iload_n 1, 1) := by decide +kernel
theorem dX2_oneHour_104 : decode cX2_oneHour 104 = .ok (.aload_n 0, 1) := by decide +kernel
theorem dX2_oneHour_105 : decode cX2_oneHour 105 = .ok (.getfield 40, 3) := by decide +kernel
theorem dX2_oneHour_108 : decode cX2_oneHour 108 = .ok (.getfield 61, 3) := by decide +kernel
theorem dX2_oneHour_111 : decode cX2_oneHour 111 = .ok (.if_icmp .ge 41, 3) := by decide +kernel
theorem dX2_oneHour_114 : decode cX2_oneHour 114 = .ok (.aload_n 0, 1) := by decide +kernel
theorem dX2_oneHour_115 : decode cX2_oneHour 115 = .ok (.getfield 9, 3) := by decide +kernel
theorem dX2_oneHour_118 : decode cX2_oneHour 118 = .ok (.iload_n 1, 1) := by decide +kernel
theorem dX2_oneHour_119 : decode cX2_oneHour 119 = .ok (.iaload, 1) := by decide +kernel
theorem dX2_oneHour_120 : decode cX2_oneHour 120 = .ok (.iconst 1, 1) := by decide +kernel
theorem dX2_oneHour_121 : decode cX2_oneHour 121 = .ok (.if_icmp .ne 25, 3) := by decide +kernel
theorem dX2_oneHour_124 : decode cX2_oneHour 124 = .ok (.iload_n 1, 1) := by decide +kernel
theorem dX2_oneHour_125 : decode cX2_oneHour 125 = .ok (.aload_n 0, 1) := by decide +kernel
theorem dX2_oneHour_126 : decode cX2_oneHour 126 = .ok (.getfield 33, 3) := by decide +kernel
theorem dX2_oneHour_129 : decode cX2_oneHour 129 = .ok (.if_icmp .eq 17, 3) := by decide +kernel
theorem dX2_oneHour_132 : decode cX2_oneHour 132 = .ok (.aload_n 0, 1) := by decide +kernel
theorem dX2_oneHour_133 : decode cX2_oneHour 133 = .ok (.getfield 21, 3) := by decide +kernel
theorem dX2_oneHour_136 : decode cX2_oneHour 136 = .ok (.iload_n 1, 1) := by decide +kernel
theorem dX2_oneHour_137 : decode cX2_oneHour 137 = .ok (.iaload, 1) := by decide +kernel
theorem dX2_oneHour_138 : decode cX2_oneHour 138 = .ok (.ifCond .ne 8, 3) := by decide +kernel
theorem dX2_oneHour_141 : decode cX2_oneHour 141 = .ok (.aload_n 0, 1) := by decide +kernel
theorem dX2_oneHour_142 : decode cX2_oneHour 142 = .ok (.iload_n 1, 1) := by decide +kernel
theorem dX2_oneHour_143 : decode cX2_oneHour 143 = .ok (.invokevirtual 77, 3) := by decide +kernel
theorem dX2_oneHour_146 : decode cX2_oneHour 146 = .ok (.iinc 1 1, 3) := by decide +kernel
theorem dX2_oneHour_149 : decode cX2_oneHour 149 = .ok (.goto (-46), 3) := by decide +kernel
theorem dX2_oneHour_152 : decode cX2_oneHour 152 = .ok (.aload_n 0, 1) := by decide +kernel
theorem dX2_oneHour_153 : decode cX2_oneHour 153 = .ok (.dup, 1) := by decide +kernel
theorem dX2_oneHour_154 : decode cX2_oneHour 154 = .ok (.getfield 37, 3) := by decide +kernel
theorem dX2_oneHour_157 : decode cX2_oneHour 157 = .ok (.iconst 1, 1) := by decide +kernel
theorem dX2_oneHour_158 : decode cX2_oneHour 158 = .ok (.iadd, 1) := by decide +kernel
theorem dX2_oneHour_159 : decode cX2_oneHour 159 = .ok (.putfield 37, 3) := by decide +kernel
theorem dX2_oneHour_162 : decode cX2_oneHour 162 = .ok (.return_, 1) := by decide +kernel
theorem dX2_comes_0 : decode cX2_comes 0 = .ok (.aload_n 0, 1) := by decide +kernel
theorem dX2_comes_1 : decode cX2_comes 1 = .ok (.getfield 40, 3) := by decide +kernel
theorem dX2_comes_4 : decode cX2_comes 4 = .ok (.aload_n 0, 1) := by decide +kernel
theorem dX2_comes_5 : decode cX2_comes 5 = .ok (.getfield 33, 3) := by decide +kernel
theorem dX2_comes_8 : decode cX2_comes 8 = .ok (.invokevirtual 48, 3) := by decide +kernel
theorem dX2_comes_11 : decode cX2_comes 11 = .ok (.ifCond .eq 45, 3) := by decide +kernel
theorem dX2_comes_14 : decode cX2_comes 14 = .ok (.aload_n 0, 1) := by decide +kernel
theorem dX2_comes_15 : decode cX2_comes 15 = .ok (.getfield 21, 3) := by decide +kernel
theorem dX2_comes_18 : decode cX2_comes 18 = .ok (.aload_n 0, 1) := by decide +kernel
theorem dX2_comes_19 : decode cX2_comes 19 = .ok (.getfield 33, 3) := by decide +kernel
theorem dX2_comes_22 : decode cX2_comes 22 = .ok (.dup2, 1) := by decide +kernel
theorem dX2_comes_23 : decode cX2_comes 23 = .ok (.iaload, 1) := by decide +kernel
theorem dX2_comes_24 : decode cX2_comes 24 = .ok (.aload_n 0, 1) := by decide +kernel
theorem dX2_comes_25 : decode cX2_comes 25 = .ok (.iload_n 1, 1) := by decide +kernel
theorem dX2_comes_26 : decode cX2_comes 26 = .ok (.invokevirtual 80, 3) := by decide +kernel
theorem dX2_comes_29 : decode cX2_comes 29 = .ok (.iadd, 1) := by decide +kernel
theorem dX2_comes_30 : decode cX2_comes 30 = .ok (.iastore, 1) := by decide +kernel
theorem dX2_comes_31 : decode cX2_comes 31 = .ok (.aload_n 0, 1) := by decide +kernel
theorem dX2_comes_32 : decode cX2_comes 32 = .ok (.getfield 27, 3) := by decide +kernel
theorem dX2_comes_35 : decode cX2_comes 35 = .ok (.aload_n 0, 1) := by decide +kernel
theorem dX2_comes_36 : decode cX2_comes 36 = .ok (.getfield 33, 3) := by decide +kernel
theorem dX2_comes_39 : decode cX2_comes 39 = .ok (.dup2, 1) := by decide +kernel
theorem dX2_comes_40 : decode cX2_comes 40 = .ok (.iaload, 1) := by decide +kernel
theorem dX2_comes_41 : decode cX2_comes 41 = .ok (.iconst 1, 1) := by decide +kernel
theorem dX2_comes_42 : decode cX2_comes 42 = .ok (.iload_n 1, 1) := by decide +kernel
theorem dX2_comes_43 : decode cX2_comes 43 = .ok (.ishl, 1) := by decide +kernel
theorem dX2_comes_44 : decode cX2_comes 44 = .ok (.ior, 1) := by decide +kernel
theorem dX2_comes_45 : decode cX2_comes 45 = .ok (.iastore, 1) := by decide +kernel
theorem dX2_comes_46 : decode cX2_comes 46 = .ok (.aload_n 0, 1) := by decide +kernel
theorem dX2_comes_47 : decode cX2_comes 47 = .ok (.getfield 24, 3) := by decide +kernel
theorem dX2_comes_50 : decode cX2_comes 50 = .ok (.iload_n 1, 1) := by decide +kernel
theorem dX2_comes_51 : decode cX2_comes 51 = .ok (.aload_n 0, 1) := by decide +kernel
theorem dX2_comes_52 : decode cX2_comes 52 = .ok (.getfield 33, 3) := by decide +kernel
theorem dX2_comes_55 : decode cX2_comes 55 = .ok (.iastore, 1) := by decide +kernel
theorem dX2_comes_56 : decode cX2_comes 56 = .ok (.aload_n 0, 1) := by decide +kernel
theorem dX2_comes_57 : decode cX2_comes 57 = .ok (.getfield 40, 3) := by decide +kernel
theorem dX2_comes_60 : decode cX2_comes 60 = .ok (.getfield 58, 3) := by decide +kernel
theorem dX2_comes_63 : decode cX2_comes 63 = .ok (.iload_n 1, 1) := by decide +kernel
theorem dX2_comes_64 : decode cX2_comes 64 = .ok (.iaload, 1) := by decide +kernel
theorem dX2_comes_65 : decode cX2_comes 65 = .ok (.iconst 2, 1) := by decide +kernel
theorem dX2_comes_66 : decode cX2_comes 66 = .ok (.if_icmp .ne 13, 3) := by decide +kernel
theorem dX2_comes_69 : decode cX2_comes 69 = .ok (.aload_n 0, 1) := by decide +kernel
theorem dX2_comes_70 : decode cX2_comes 70 = .ok (.getfield 9, 3) := by decide +kernel
theorem dX2_comes_73 : decode cX2_comes 73 = .ok (.iload_n 1, 1) := by decide +kernel
theorem dX2_comes_74 : decode cX2_comes 74 = .ok (.iconst 2, 1) := by decide +kernel
theorem dX2_comes_75 : decode cX2_comes 75 = .ok (.iastore, 1) := by decide +kernel
theorem dX2_comes_76 : decode cX2_comes 76 = .ok (.goto 15, 3) := by decide +kernel
theorem dX2_comes_79 : decode cX2_comes 79 = .ok (.aload_n 0, 1) := by decide +kernel
theorem dX2_comes_80 : decode cX2_comes 80 = .ok (.getfield 9, 3) := by decide +kernel
theorem dX2_comes_83 : decode cX2_comes 83 = .ok (.iload_n 1, 1) := by decide +kernel
theorem dX2_comes_84 : decode cX2_comes 84 = .ok (.iconst 1, 1) := by decide +kernel
theorem dX2_comes_85 : decode cX2_comes 85 = .ok (.iastore, 1) := by decide +kernel
theorem dX2_comes_86 : decode cX2_comes 86 = .ok (.aload_n 0, 1) := by decide +kernel
theorem dX2_comes_87 : decode cX2_comes 87 = .ok (.iload_n 1, 1) := by decide +kernel
theorem dX2_comes_88 : decode cX2_comes 88 = .ok (.putfield 33, 3) := by decide +kernel
theorem dX2_comes_91 : decode cX2_comes 91 = .ok (.return_, 1) := by decide +kernel
theorem dX2_setFree_0 : decode cX2_setFree 0 = .ok (.aload_n 0, 1) := by decide +kernel
theorem dX2_setFree_1 : decode cX2_setFree 1 = .ok (.getfield 9, 3) := by decide +kernel
theorem dX2_setFree_4 : decode cX2_setFree 4 = .ok (.iload_n 1, 1) := by decide +kernel
theorem dX2_setFree_5 : decode cX2_setFree 5 = .ok (.iconst 2, 1) := by decide +kernel
theorem dX2_setFree_6 : decode cX2_setFree 6 = .ok (.iastore, 1) := by decide +kernel
theorem dX2_setFree_7 : decode cX2_setFree 7 = .ok (.iconst 0, 1) := by decide +kernel
theorem dX2_setFree_8 : decode cX2_setFree 8 = .ok (.istore_n 2, 1) := by decide +kernel
theorem dX2_setFree_9 : decode cX2_setFree 9 = .ok (.iload_n 2, 1) := by decide +kernel
theorem dX2_setFree_10 : decode cX2_setFree 10 = .ok (.aload_n 0, 1) := by decide +kernel
theorem dX2_setFree_11 : decode cX2_setFree 11 = .ok (.getfield 40, 3) := by decide +kernel
theorem dX2_setFree_14 : decode cX2_setFree 14 = .ok (.getfield 61, 3) := by decide +kernel
theorem dX2_setFree_17 : decode cX2_setFree 17 = .ok (.if_icmp .ge 41, 3) := by decide +kernel
theorem dX2_setFree_20 : decode cX2_setFree 20 = .ok (.aload_n 0, 1) := by decide +kernel
theorem dX2_setFree_21 : decode cX2_setFree 21 = .ok (.getfield 27, 3) := by decide +kernel
theorem dX2_setFree_24 : decode cX2_setFree 24 = .ok (.iload_n 1, 1) := by decide +kernel
theorem dX2_setFree_25 : decode cX2_setFree 25 = .ok (.iaload, 1) := by decide +kernel
theorem dX2_setFree_26 : decode cX2_setFree 26 = .ok (.iload_n 2, 1) := by decide +kernel
theorem dX2_setFree_27 : decode cX2_setFree 27 = .ok (.ishr, 1) := by decide +kernel
theorem dX2_setFree_28 : decode cX2_setFree 28 = .ok (.iconst 1, 1) := by decide +kernel
theorem dX2_setFree_29 : decode cX2_setFree 29 = .ok (.iand, 1) := by decide +kernel
theorem dX2_setFree_30 : decode cX2_setFree 30 = .ok (.iconst 1, 1) := by decide +kernel
theorem dX2_setFree_31 : decode cX2_setFree 31 = .ok (.if_icmp .ne 21, 3) := by decide +kernel
theorem dX2_setFree_34 : decode cX2_setFree 34 = .ok (.aload_n 0, 1) := by decide +kernel
theorem dX2_setFree_35 : decode cX2_setFree 35 = .ok (.getfield 30, 3) := by decide +kernel
theorem dX2_setFree_38 : decode cX2_setFree 38 = .ok (.iload_n 1, 1) := by decide +kernel
theorem dX2_setFree_39 : decode cX2_setFree 39 = .ok (.dup2, 1) := by decide +kernel
theorem dX2_setFree_40 : decode cX2_setFree 40 = .ok (.iaload, 1) := by decide +kernel
theorem dX2_setFree_41 : decode cX2_setFree 41 = .ok (.aload_n 0, 1) := by decide +kernel
theorem dX2_setFree_42 : decode cX2_setFree 42 = .ok (.getfield 40, 3) := by decide +kernel
theorem dX2_setFree_45 : decode cX2_setFree 45 = .ok (.getfield 84, 3) := by decide +kernel
theorem dX2_setFree_48 : decode cX2_setFree 48 = .ok (.iload_n 2, 1) := by decide +kernel
theorem dX2_setFree_49 : decode cX2_setFree 49 = .ok (.iaload, 1) := by decide +kernel
theorem dX2_setFree_50 : decode cX2_setFree 50 = .ok (.iadd, 1) := by decide +kernel
theorem dX2_setFree_51 : decode cX2_setFree 51 = .ok (.iastore, 1) := by decide +kernel
theorem dX2_setFree_52 : decode cX2_setFree 52 = .ok (.iinc 2 1, 3) := by decide +kernel
theorem dX2_setFree_55 : decode cX2_setFree 55 = .ok (.goto (-46), 3) := by decide +kernel
theorem dX2_setFree_58 : decode cX2_setFree 58 = .ok (.aload_n 0, 1) := by decide +kernel
theorem dX2_setFree_59 : decode cX2_setFree 59 = .ok (.getfield 24, 3) := by decide +kernel
theorem dX2_setFree_62 : decode cX2_setFree 62 = .ok (.iload_n 1, 1) := by decide +kernel
theorem dX2_setFree_63 : decode cX2_setFree 63 = .ok (.iaload, 1) := by decide +kernel
theorem dX2_setFree_64 : decode cX2_setFree 64 = .ok (.istore_n 2, 1) := by decide +kernel
theorem dX2_setFree_65 : decode cX2_setFree 65 = .ok (.aload_n 0, 1) := by decide +kernel
theorem dX2_setFree_66 : decode cX2_setFree 66 = .ok (.getfield 40, 3) := by decide +kernel
theorem dX2_setFree_69 : decode cX2_setFree 69 = .ok (.iload_n 2, 1) := by decide +kernel
theorem dX2_setFree_70 : decode cX2_setFree 70 = .ok (.invokevirtual 48, 3) := by decide +kernel
theorem dX2_setFree_73 : decode cX2_setFree 73 = .ok (.ifCond .eq 32, 3) := by decide +kernel
theorem dX2_setFree_76 : decode cX2_setFree 76 = .ok (.aload_n 0, 1) := by decide +kernel
theorem dX2_setFree_77 : decode cX2_setFree 77 = .ok (.getfield 30, 3) := by decide +kernel
theorem dX2_setFree_80 : decode cX2_setFree 80 = .ok (.iload_n 1, 1) := by decide +kernel
theorem dX2_setFree_81 : decode cX2_setFree 81 = .ok (.iaload, 1) := by decide +kernel
theorem dX2_setFree_82 : decode cX2_setFree 82 = .ok (.iconst 2, 1) := by decide +kernel
theorem dX2_setFree_83 : decode cX2_setFree 83 = .ok (.idiv, 1) := by decide +kernel
theorem dX2_setFree_84 : decode cX2_setFree 84 = .ok (.istore_n 3, 1) := by decide +kernel
theorem dX2_setFree_85 : decode cX2_setFree 85 = .ok (.aload_n 0, 1) := by decide +kernel
theorem dX2_setFree_86 : decode cX2_setFree 86 = .ok (.getfield 30, 3) := by decide +kernel
theorem dX2_setFree_89 : decode cX2_setFree 89 = .ok (.iload_n 1, 1) := by decide +kernel
theorem dX2_setFree_90 : decode cX2_setFree 90 = .ok (.dup2, 1) := by decide +kernel
theorem dX2_setFree_91 : decode cX2_setFree 91 = .ok (.iaload, 1) := by decide +kernel
theorem dX2_setFree_92 : decode cX2_setFree 92 = .ok (.iload_n 3, 1) := by decide +kernel
theorem dX2_setFree_93 : decode cX2_setFree 93 = .ok (.isub, 1) := by decide +kernel
theorem dX2_setFree_94 : decode cX2_setFree 94 = .ok (.iastore, 1) := by decide +kernel
theorem dX2_setFree_95 : decode cX2_setFree 95 = .ok (.aload_n 0, 1) := by decide +kernel
theorem dX2_setFree_96 : decode cX2_setFree 96 = .ok (.getfield 30, 3) := by decide +kernel
theorem dX2_setFree_99 : decode cX2_setFree 99 = .ok (.iload_n 2, 1) := by decide +kernel
theorem dX2_setFree_100 : decode cX2_setFree 100 = .ok (.dup2, 1) := by decide +kernel
theorem dX2_setFree_101 : decode cX2_setFree 101 = .ok (.iaload, 1) := by decide +kernel
theorem dX2_setFree_102 : decode cX2_setFree 102 = .ok (.iload_n 3, 1) := by decide +kernel
theorem dX2_setFree_103 : decode cX2_setFree 103 = .ok (.iadd, 1) := by decide +kernel
theorem dX2_setFree_104 : decode cX2_setFree 104 = .ok (.iastore, 1) := by decide +kernel
theorem dX2_setFree_105 : decode cX2_setFree 105 = .ok (.return_, 1) := by decide +kernel
theorem dX2_disturb_0 : decode cX2_disturb 0 = .ok (.aload_n 0, 1) := by decide +kernel
theorem dX2_disturb_1 : decode cX2_disturb 1 = .ok (.getfield 40, 3) := by decide +kernel
theorem dX2_disturb_4 : decode cX2_disturb 4 = .ok (.getfield 61, 3) := by decide +kernel
theorem dX2_disturb_7 : decode cX2_disturb 7 = .ok (.istore_n 2, 1) := by decide +kernel
theorem dX2_disturb_8 : decode cX2_disturb 8 = .ok (.iload_n 2, 1) := by decide +kernel
theorem dX2_disturb_9 : decode cX2_disturb 9 = .ok (.iconst 1, 1) := by decide +kernel
theorem dX2_disturb_10 : decode cX2_disturb 10 = .ok (.if_icmp .ge 4, 3) := by decide +kernel
theorem dX2_disturb_13 : decode cX2_disturb 13 = .ok (.return_, 1) := by decide +kernel
theorem dX2_disturb_14 : decode cX2_disturb 14 = .ok (.iload_n 1, 1) := by decide +kernel
theorem dX2_disturb_15 : decode cX2_disturb 15 = .ok (.bipush 8, 2) := by decide +kernel
theorem dX2_disturb_17 : decode cX2_disturb 17 = .ok (.idiv, 1) := by decide +kernel
theorem dX2_disturb_18 : decode cX2_disturb 18 = .ok (.iload_n 2, 1) := by decide +kernel
theorem dX2_disturb_19 : decode cX2_disturb 19 = .ok (.irem, 1) := by decide +kernel
theorem dX2_disturb_20 : decode cX2_disturb 20 = .ok (.istore_n 3, 1) := by decide +kernel
theorem dX2_disturb_21 : decode cX2_disturb 21 = .ok (.iload_n 1, 1) := by decide +kernel
theorem dX2_disturb_22 : decode cX2_disturb 22 = .ok (.bipush 64, 2) := by decide +kernel
theorem dX2_disturb_24 : decode cX2_disturb 24 = .ok (.idiv, 1) := by decide +kernel
theorem dX2_disturb_25 : decode cX2_disturb 25 = .ok (.istore 4, 2) := by decide +kernel
theorem dX2_disturb_27 : decode cX2_disturb 27 = .ok (.iload_n 1, 1) := by decide +kernel
theorem dX2_disturb_28 : decode cX2_disturb 28 = .ok (.bipush 8, 2) := by decide +kernel
theorem dX2_disturb_30 : decode cX2_disturb 30 = .ok (.irem, 1) := by decide +kernel
theorem dX2_disturb_31 : decode cX2_disturb 31 = .ok (.tableswitch 68 0 2 #[25, 48, 56], 25) := by decide +kernel
theorem dX2_disturb_56 : decode cX2_disturb 56 = .ok (.aload_n 0, 1) := by decide +kernel
theorem dX2_disturb_57 : decode cX2_disturb 57 = .ok (.iload_n 3, 1) := by decide +kernel
theorem dX2_disturb_58 : decode cX2_disturb 58 = .ok (.bipush 40, 2) := by decide +kernel
theorem dX2_disturb_60 : decode cX2_disturb 60 = .ok (.aload_n 0, 1) := by decide +kernel
theorem dX2_disturb_61 : decode cX2_disturb 61 = .ok (.getfield 37, 3) := by decide +kernel
theorem dX2_disturb_64 : decode cX2_disturb 64 = .ok (.iload 4, 2) := by decide +kernel
theorem dX2_disturb_66 : decode cX2_disturb 66 = .ok (.bipush 8, 2) := by decide +kernel
theorem dX2_disturb_68 : decode cX2_disturb 68 = .ok (.irem, 1) := by decide +kernel
theorem dX2_disturb_69 : decode cX2_disturb 69 = .ok (.iadd, 1) := by decide +kernel
theorem dX2_disturb_70 : decode cX2_disturb 70 = .ok (.invokestatic 87, 3) := by decide +kernel
theorem dX2_disturb_73 : decode cX2_disturb 73 = .ok (.invokevirtual 90, 3) := by decide +kernel
theorem dX2_disturb_76 : decode cX2_disturb 76 = .ok (.goto 23, 3) := by decide +kernel
theorem dX2_disturb_79 : decode cX2_disturb 79 = .ok (.aload_n 0, 1) := by decide +kernel
theorem dX2_disturb_80 : decode cX2_disturb 80 = .ok (.iload_n 3, 1) := by decide +kernel
theorem dX2_disturb_81 : decode cX2_disturb 81 = .ok (.invokevirtual 94, 3) := by decide +kernel
theorem dX2_disturb_84 : decode cX2_disturb 84 = .ok (.goto 15, 3) := by decide +kernel
theorem dX2_disturb_87 : decode cX2_disturb 87 = .ok (.aload_n 0, 1) := by decide +kernel
theorem dX2_disturb_88 : decode cX2_disturb 88 = .ok (.iload_n 3, 1) := by decide +kernel
theorem dX2_disturb_89 : decode cX2_disturb 89 = .ok (.iload 4, 2) := by decide +kernel
theorem dX2_disturb_91 : decode cX2_disturb 91 = .ok (.iload_n 2, 1) := by decide +kernel
theorem dX2_disturb_92 : decode cX2_disturb 92 = .ok (.irem, 1) := by decide +kernel
theorem dX2_disturb_93 : decode cX2_disturb 93 = .ok (.invokevirtual 97, 3) := by decide +kernel
theorem dX2_disturb_96 : decode cX2_disturb 96 = .ok (.goto 3, 3) := by decide +kernel
theorem dX2_disturb_99 : decode cX2_disturb 99 = .ok (.return_, 1) := by decide +kernel
theorem dX2_loadSoFar_0 : decode cX2_loadSoFar 0 = .ok (.iconst 0, 1) := by decide +kernel
theorem dX2_loadSoFar_1 : decode cX2_loadSoFar 1 = .ok (.istore_n 2, 1) := by decide +kernel
theorem dX2_loadSoFar_2 : decode cX2_loadSoFar 2 = .ok (.iconst 0, 1) := by decide +kernel
theorem dX2_loadSoFar_3 : decode cX2_loadSoFar 3 = .ok (.istore_n 3, 1) := by decide +kernel
theorem dX2_loadSoFar_4 : decode cX2_loadSoFar 4 = .ok (.iload_n 3, 1) := by decide +kernel
theorem dX2_loadSoFar_5 : decode cX2_loadSoFar 5 = .ok (.aload_n 0, 1) := by decide +kernel
theorem dX2_loadSoFar_6 : decode cX2_loadSoFar 6 = .ok (.getfield 40, 3) := by decide +kernel
theorem dX2_loadSoFar_9 : decode cX2_loadSoFar 9 = .ok (.getfield 61, 3) := by decide +kernel
theorem dX2_loadSoFar_12 : decode cX2_loadSoFar 12 = .ok (.if_icmp .ge 42, 3) := by decide +kernel
theorem dX2_loadSoFar_15 : decode cX2_loadSoFar 15 = .ok (.aload_n 0, 1) := by decide +kernel
theorem dX2_loadSoFar_16 : decode cX2_loadSoFar 16 = .ok (.getfield 40, 3) := by decide +kernel
theorem dX2_loadSoFar_19 : decode cX2_loadSoFar 19 = .ok (.iload_n 1, 1) := by decide +kernel
theorem dX2_loadSoFar_20 : decode cX2_loadSoFar 20 = .ok (.invokevirtual 48, 3) := by decide +kernel
theorem dX2_loadSoFar_23 : decode cX2_loadSoFar 23 = .ok (.ifCond .eq 31, 3) := by decide +kernel
theorem dX2_loadSoFar_26 : decode cX2_loadSoFar 26 = .ok (.aload_n 0, 1) := by decide +kernel
theorem dX2_loadSoFar_27 : decode cX2_loadSoFar 27 = .ok (.getfield 27, 3) := by decide +kernel
theorem dX2_loadSoFar_30 : decode cX2_loadSoFar 30 = .ok (.iload_n 1, 1) := by decide +kernel
theorem dX2_loadSoFar_31 : decode cX2_loadSoFar 31 = .ok (.iaload, 1) := by decide +kernel
theorem dX2_loadSoFar_32 : decode cX2_loadSoFar 32 = .ok (.iload_n 3, 1) := by decide +kernel
theorem dX2_loadSoFar_33 : decode cX2_loadSoFar 33 = .ok (.ishr, 1) := by decide +kernel
theorem dX2_loadSoFar_34 : decode cX2_loadSoFar 34 = .ok (.iconst 1, 1) := by decide +kernel
theorem dX2_loadSoFar_35 : decode cX2_loadSoFar 35 = .ok (.iand, 1) := by decide +kernel
theorem dX2_loadSoFar_36 : decode cX2_loadSoFar 36 = .ok (.iconst 1, 1) := by decide +kernel
theorem dX2_loadSoFar_37 : decode cX2_loadSoFar 37 = .ok (.if_icmp .ne 11, 3) := by decide +kernel
theorem dX2_loadSoFar_40 : decode cX2_loadSoFar 40 = .ok (.iload_n 2, 1) := by decide +kernel
theorem dX2_loadSoFar_41 : decode cX2_loadSoFar 41 = .ok (.aload_n 0, 1) := by decide +kernel
theorem dX2_loadSoFar_42 : decode cX2_loadSoFar 42 = .ok (.iload_n 3, 1) := by decide +kernel
theorem dX2_loadSoFar_43 : decode cX2_loadSoFar 43 = .ok (.invokevirtual 80, 3) := by decide +kernel
theorem dX2_loadSoFar_46 : decode cX2_loadSoFar 46 = .ok (.iadd, 1) := by decide +kernel
theorem dX2_loadSoFar_47 : decode cX2_loadSoFar 47 = .ok (.istore_n 2, 1) := by decide +kernel
theorem dX2_loadSoFar_48 : decode cX2_loadSoFar 48 = .ok (.iinc 3 1, 3) := by decide +kernel
theorem dX2_loadSoFar_51 : decode cX2_loadSoFar 51 = .ok (.goto (-47), 3) := by decide +kernel
theorem dX2_loadSoFar_54 : decode cX2_loadSoFar 54 = .ok (.iload_n 2, 1) := by decide +kernel
theorem dX2_loadSoFar_55 : decode cX2_loadSoFar 55 = .ok (.ireturn, 1) := by decide +kernel
theorem dX2_howMany_0 : decode cX2_howMany 0 = .ok (.iconst 0, 1) := by decide +kernel
theorem dX2_howMany_1 : decode cX2_howMany 1 = .ok (.istore_n 2, 1) := by decide +kernel
theorem dX2_howMany_2 : decode cX2_howMany 2 = .ok (.iconst 0, 1) := by decide +kernel
theorem dX2_howMany_3 : decode cX2_howMany 3 = .ok (.istore_n 3, 1) := by decide +kernel
theorem dX2_howMany_4 : decode cX2_howMany 4 = .ok (.iload_n 3, 1) := by decide +kernel
theorem dX2_howMany_5 : decode cX2_howMany 5 = .ok (.aload_n 0, 1) := by decide +kernel
theorem dX2_howMany_6 : decode cX2_howMany 6 = .ok (.getfield 40, 3) := by decide +kernel
theorem dX2_howMany_9 : decode cX2_howMany 9 = .ok (.getfield 61, 3) := by decide +kernel
theorem dX2_howMany_12 : decode cX2_howMany 12 = .ok (.if_icmp .ge 22, 3) := by decide +kernel
theorem dX2_howMany_15 : decode cX2_howMany 15 = .ok (.aload_n 0, 1) := by decide +kernel
theorem dX2_howMany_16 : decode cX2_howMany 16 = .ok (.getfield 9, 3) := by decide +kernel
theorem dX2_howMany_19 : decode cX2_howMany 19 = .ok (.iload_n 3, 1) := by decide +kernel
theorem dX2_howMany_20 : decode cX2_howMany 20 = .ok (.iaload, 1) := by decide +kernel
theorem dX2_howMany_21 : decode cX2_howMany 21 = .ok (.iload_n 1, 1) := by decide +kernel
theorem dX2_howMany_22 : decode cX2_howMany 22 = .ok (.if_icmp .ne 6, 3) := by decide +kernel
theorem dX2_howMany_25 : decode cX2_howMany 25 = .ok (.iinc 2 1, 3) := by decide +kernel
theorem dX2_howMany_28 : decode cX2_howMany 28 = .ok (.iinc 3 1, 3) := by decide +kernel
theorem dX2_howMany_31 : decode cX2_howMany 31 = .ok (.goto (-27), 3) := by decide +kernel
theorem dX2_howMany_34 : decode cX2_howMany 34 = .ok (.iload_n 2, 1) := by decide +kernel
theorem dX2_howMany_35 : decode cX2_howMany 35 = .ok (.ireturn, 1) := by decide +kernel
theorem dX2_allCoins_0 : decode cX2_allCoins 0 = .ok (.iconst 0, 1) := by decide +kernel
theorem dX2_allCoins_1 : decode cX2_allCoins 1 = .ok (.istore_n 1, 1) := by decide +kernel
theorem dX2_allCoins_2 : decode cX2_allCoins 2 = .ok (.iconst 0, 1) := by decide +kernel
theorem dX2_allCoins_3 : decode cX2_allCoins 3 = .ok (.istore_n 2, 1) := by decide +kernel
theorem dX2_allCoins_4 : decode cX2_allCoins 4 = .ok (.iload_n 2, 1) := by decide +kernel
theorem dX2_allCoins_5 : decode cX2_allCoins 5 = .ok (.aload_n 0, 1) := by decide +kernel
theorem dX2_allCoins_6 : decode cX2_allCoins 6 = .ok (.getfield 40, 3) := by decide +kernel
theorem dX2_allCoins_9 : decode cX2_allCoins 9 = .ok (.getfield 61, 3) := by decide +kernel
theorem dX2_allCoins_12 : decode cX2_allCoins 12 = .ok (.if_icmp .ge 18, 3) := by decide +kernel
theorem dX2_allCoins_15 : decode cX2_allCoins 15 = .ok (.iload_n 1, 1) := by decide +kernel
theorem dX2_allCoins_16 : decode cX2_allCoins 16 = .ok (.aload_n 0, 1) := by decide +kernel
theorem dX2_allCoins_17 : decode cX2_allCoins 17 = .ok (.getfield 30, 3) := by decide +kernel
theorem dX2_allCoins_20 : decode cX2_allCoins 20 = .ok (.iload_n 2, 1) := by decide +kernel
theorem dX2_allCoins_21 : decode cX2_allCoins 21 = .ok (.iaload, 1) := by decide +kernel
theorem dX2_allCoins_22 : decode cX2_allCoins 22 = .ok (.iadd, 1) := by decide +kernel
theorem dX2_allCoins_23 : decode cX2_allCoins 23 = .ok (.istore_n 1, 1) := by decide +kernel
theorem dX2_allCoins_24 : decode cX2_allCoins 24 = .ok (.iinc 2 1, 3) := by decide +kernel
theorem dX2_allCoins_27 : decode cX2_allCoins 27 = .ok (.goto (-23), 3) := by decide +kernel
theorem dX2_allCoins_30 : decode cX2_allCoins 30 = .ok (.iload_n 1, 1) := by decide +kernel
theorem dX2_allCoins_31 : decode cX2_allCoins 31 = .ok (.ireturn, 1) := by decide +kernel
theorem dX2_allWork_0 : decode cX2_allWork 0 = .ok (.iconst 0, 1) := by decide +kernel
theorem dX2_allWork_1 : decode cX2_allWork 1 = .ok (.istore_n 1, 1) := by decide +kernel
theorem dX2_allWork_2 : decode cX2_allWork 2 = .ok (.iconst 0, 1) := by decide +kernel
theorem dX2_allWork_3 : decode cX2_allWork 3 = .ok (.istore_n 2, 1) := by decide +kernel
theorem dX2_allWork_4 : decode cX2_allWork 4 = .ok (.iload_n 2, 1) := by decide +kernel
theorem dX2_allWork_5 : decode cX2_allWork 5 = .ok (.aload_n 0, 1) := by decide +kernel
theorem dX2_allWork_6 : decode cX2_allWork 6 = .ok (.getfield 40, 3) := by decide +kernel
theorem dX2_allWork_9 : decode cX2_allWork 9 = .ok (.getfield 61, 3) := by decide +kernel
theorem dX2_allWork_12 : decode cX2_allWork 12 = .ok (.if_icmp .ge 18, 3) := by decide +kernel
theorem dX2_allWork_15 : decode cX2_allWork 15 = .ok (.iload_n 1, 1) := by decide +kernel
theorem dX2_allWork_16 : decode cX2_allWork 16 = .ok (.aload_n 0, 1) := by decide +kernel
theorem dX2_allWork_17 : decode cX2_allWork 17 = .ok (.getfield 21, 3) := by decide +kernel
theorem dX2_allWork_20 : decode cX2_allWork 20 = .ok (.iload_n 2, 1) := by decide +kernel
theorem dX2_allWork_21 : decode cX2_allWork 21 = .ok (.iaload, 1) := by decide +kernel
theorem dX2_allWork_22 : decode cX2_allWork 22 = .ok (.iadd, 1) := by decide +kernel
theorem dX2_allWork_23 : decode cX2_allWork 23 = .ok (.istore_n 1, 1) := by decide +kernel
theorem dX2_allWork_24 : decode cX2_allWork 24 = .ok (.iinc 2 1, 3) := by decide +kernel
theorem dX2_allWork_27 : decode cX2_allWork 27 = .ok (.goto (-23), 3) := by decide +kernel
theorem dX2_allWork_30 : decode cX2_allWork 30 = .ok (.iload_n 1, 1) := by decide +kernel
theorem dX2_allWork_31 : decode cX2_allWork 31 = .ok (.ireturn, 1) := by decide +kernel
theorem dX3_init_0 : decode cX3_init 0 = .ok (.aload_n 0, 1) := by decide +kernel
theorem dX3_init_1 : decode cX3_init 1 = .ok (.invokespecial 3, 3) := by decide +kernel
theorem dX3_init_4 : decode cX3_init 4 = .ok (.aload_n 0, 1) := by decide +kernel
theorem dX3_init_5 : decode cX3_init 5 = .ok (.bipush 7, 2) := by decide +kernel
theorem dX3_init_7 : decode cX3_init 7 = .ok (.newarray .int, 2) := by decide +kernel
theorem dX3_init_9 : decode cX3_init 9 = .ok (.putfield 9, 3) := by decide +kernel
theorem dX3_init_12 : decode cX3_init 12 = .ok (.aload_n 0, 1) := by decide +kernel
theorem dX3_init_13 : decode cX3_init 13 = .ok (.bipush 7, 2) := by decide +kernel
theorem dX3_init_15 : decode cX3_init 15 = .ok (.newarray .int, 2) := by decide +kernel
theorem dX3_init_17 : decode cX3_init 17 = .ok (.putfield 15, 3) := by decide +kernel
theorem dX3_init_20 : decode cX3_init 20 = .ok (.aload_n 0, 1) := by decide +kernel
theorem dX3_init_21 : decode cX3_init 21 = .ok (.bipush 7, 2) := by decide +kernel
theorem dX3_init_23 : decode cX3_init 23 = .ok (.newarray .int, 2) := by decide +kernel
theorem dX3_init_25 : decode cX3_init 25 = .ok (.putfield 18, 3) := by decide +kernel
theorem dX3_init_28 : decode cX3_init 28 = .ok (.aload_n 0, 1) := by decide +kernel
theorem dX3_init_29 : decode cX3_init 29 = .ok (.bipush 7, 2) := by decide +kernel
theorem dX3_init_31 : decode cX3_init 31 = .ok (.newarray .int, 2) := by decide +kernel
theorem dX3_init_33 : decode cX3_init 33 = .ok (.putfield 21, 3) := by decide +kernel
theorem dX3_init_36 : decode cX3_init 36 = .ok (.aload_n 0, 1) := by decide +kernel
theorem dX3_init_37 : decode cX3_init 37 = .ok (.bipush 7, 2) := by decide +kernel
theorem dX3_init_39 : decode cX3_init 39 = .ok (.newarray .int, 2) := by decide +kernel
theorem dX3_init_41 : decode cX3_init 41 = .ok (.putfield 24, 3) := by decide +kernel
theorem dX3_init_44 : decode cX3_init 44 = .ok (.aload_n 0, 1) := by decide +kernel
theorem dX3_init_45 : decode cX3_init 45 = .ok (.iconst 0, 1) := by decide +kernel
theorem dX3_init_46 : decode cX3_init 46 = .ok (.putfield 27, 3) := by decide +kernel
theorem dX3_init_49 : decode cX3_init 49 = .ok (.aload_n 0, 1) := by decide +kernel
theorem dX3_init_50 : decode cX3_init 50 = .ok (.bipush (-4), 2) := by decide +kernel
theorem dX3_init_52 : decode cX3_init 52 = .ok (.putfield 31, 3) := by decide +kernel
theorem dX3_init_55 : decode cX3_init 55 = .ok (.aload_n 0, 1) := by decide +kernel
theorem dX3_init_56 : decode cX3_init 56 = .ok (.iconst 0, 1) := by decide +kernel
theorem dX3_init_57 : decode cX3_init 57 = .ok (.putfield 34, 3) := by decide +kernel
theorem dX3_init_60 : decode cX3_init 60 = .ok (.aload_n 0, 1) := by decide +kernel
theorem dX3_init_61 : decode cX3_init 61 = .ok (.aload_n 1, 1) := by decide +kernel
theorem dX3_init_62 : decode cX3_init 62 = .ok (.putfield 37, 3) := by decide +kernel
theorem dX3_init_65 : decode cX3_init 65 = .ok (.return_, 1) := by decide +kernel
theorem dX3_look_0 : decode cX3_look 0 = .ok (.aload_n 0, 1) := by decide +kernel
theorem dX3_look_1 : decode cX3_look 1 = .ok (.aload_n 1, 1) := by decide +kernel
theorem dX3_look_2 : decode cX3_look 2 = .ok (.invokevirtual 41, 3) := by decide +kernel
theorem dX3_look_5 : decode cX3_look 5 = .ok (.aload_n 0, 1) := by decide +kernel
theorem dX3_look_6 : decode cX3_look 6 = .ok (.aload_n 1, 1) := by decide +kernel
theorem dX3_look_7 : decode cX3_look 7 = .ok (.invokevirtual 45, 3) := by decide +kernel
theorem dX3_look_10 : decode cX3_look 10 = .ok (.return_, 1) := by decide +kernel
theorem dX3_lineUp_0 : decode cX3_lineUp 0 = .ok (.aload_n 0, 1) := by decide +kernel
theorem dX3_lineUp_1 : decode cX3_lineUp 1 = .ok (.iconst 0, 1) := by decide +kernel
theorem dX3_lineUp_2 : decode cX3_lineUp 2 = .ok (.putfield 27, 3) := by decide +kernel
theorem dX3_lineUp_5 : decode cX3_lineUp 5 = .ok (.iconst 0, 1) := by decide +kernel
theorem dX3_lineUp_6 : decode cX3_lineUp 6 = .ok (.istore_n 2, 1) := by decide +kernel
theorem dX3_lineUp_7 : decode cX3_lineUp 7 = .ok (.iload_n 2, 1) := by decide +kernel
theorem dX3_lineUp_8 : decode cX3_lineUp 8 = .ok (.aload_n 0, 1) := by decide +kernel
theorem dX3_lineUp_9 : decode cX3_lineUp 9 = .ok (.getfield 37, 3) := by decide +kernel
theorem dX3_lineUp_12 : decode cX3_lineUp 12 = .ok (.getfield 48, 3) := by decide +kernel
theorem dX3_lineUp_15 : decode cX3_lineUp 15 = .ok (.if_icmp .ge 86, 3) := by decide +kernel
theorem dX3_lineUp_18 : decode cX3_lineUp 18 = .ok (.aload_n 1, 1) := by decide +kernel
theorem dX3_lineUp_19 : decode cX3_lineUp 19 = .ok (.getfield 53, 3) := by decide +kernel
theorem dX3_lineUp_22 : decode cX3_lineUp 22 = .ok (.iload_n 2, 1) := by decide +kernel
theorem dX3_lineUp_23 : decode cX3_lineUp 23 = .ok (.iaload, 1) := by decide +kernel
theorem dX3_lineUp_24 : decode cX3_lineUp 24 = .ok (.ifCond .ne 71, 3) := by decide +kernel
theorem dX3_lineUp_27 : decode cX3_lineUp 27 = .ok (.aload_n 0, 1) := by decide +kernel
theorem dX3_lineUp_28 : decode cX3_lineUp 28 = .ok (.getfield 27, 3) := by decide +kernel
theorem dX3_lineUp_31 : decode cX3_lineUp 31 = .ok (.istore_n 3, 1) := by decide +kernel
theorem dX3_lineUp_32 : decode cX3_lineUp 32 = .ok (.iload_n 3, 1) := by decide +kernel
theorem dX3_lineUp_33 : decode cX3_lineUp 33 = .ok (.ifCond .le 45, 3) := by decide +kernel
theorem dX3_lineUp_36 : decode cX3_lineUp 36 = .ok (.aload_n 1, 1) := by decide +kernel
theorem dX3_lineUp_37 : decode cX3_lineUp 37 = .ok (.getfield 58, 3) := by decide +kernel
theorem dX3_lineUp_40 : decode cX3_lineUp 40 = .ok (.aload_n 0, 1) := by decide +kernel
theorem dX3_lineUp_41 : decode cX3_lineUp 41 = .ok (.getfield 9, 3) := by decide +kernel
theorem dX3_lineUp_44 : decode cX3_lineUp 44 = .ok (.iload_n 3, 1) := by decide +kernel
theorem dX3_lineUp_45 : decode cX3_lineUp 45 = .ok (.iconst 1, 1) := by decide +kernel
theorem dX3_lineUp_46 : decode cX3_lineUp 46 = .ok (.isub, 1) := by decide +kernel
theorem dX3_lineUp_47 : decode cX3_lineUp 47 = .ok (.iaload, 1) := by decide +kernel
theorem dX3_lineUp_48 : decode cX3_lineUp 48 = .ok (.iaload, 1) := by decide +kernel
theorem dX3_lineUp_49 : decode cX3_lineUp 49 = .ok (.aload_n 1, 1) := by decide +kernel
theorem dX3_lineUp_50 : decode cX3_lineUp 50 = .ok (.getfield 58, 3) := by decide +kernel
theorem dX3_lineUp_53 : decode cX3_lineUp 53 = .ok (.iload_n 2, 1) := by decide +kernel
theorem dX3_lineUp_54 : decode cX3_lineUp 54 = .ok (.iaload, 1) := by decide +kernel
theorem dX3_lineUp_55 : decode cX3_lineUp 55 = .ok (.if_icmp .le 23, 3) := by decide +kernel
theorem dX3_lineUp_58 : decode cX3_lineUp 58 = .ok (.aload_n 0, 1) := by decide +kernel
theorem dX3_lineUp_59 : decode cX3_lineUp 59 = .ok (.getfield 9, 3) := by decide +kernel
theorem dX3_lineUp_62 : decode cX3_lineUp 62 = .ok (.iload_n 3, 1) := by decide +kernel
theorem dX3_lineUp_63 : decode cX3_lineUp 63 = .ok (.aload_n 0, 1) := by decide +kernel
theorem dX3_lineUp_64 : decode cX3_lineUp 64 = .ok (.getfield 9, 3) := by decide +kernel
theorem dX3_lineUp_67 : decode cX3_lineUp 67 = .ok (.iload_n 3, 1) := by decide +kernel
theorem dX3_lineUp_68 : decode cX3_lineUp 68 = .ok (.iconst 1, 1) := by decide +kernel
theorem dX3_lineUp_69 : decode cX3_lineUp 69 = .ok (.isub, 1) := by decide +kernel
theorem dX3_lineUp_70 : decode cX3_lineUp 70 = .ok (.iaload, 1) := by decide +kernel
theorem dX3_lineUp_71 : decode cX3_lineUp 71 = .ok (.iastore, 1) := by decide +kernel
theorem dX3_lineUp_72 : decode cX3_lineUp 72 = .ok (.iinc 3 (-1), 3) := by decide +kernel
theorem dX3_lineUp_75 : decode cX3_lineUp 75 = .ok (.goto (-43), 3) := by decide +kernel
theorem dX3_lineUp_78 : decode cX3_lineUp 78 = .ok (.aload_n 0, 1) := by decide +kernel
theorem dX3_lineUp_79 : decode cX3_lineUp 79 = .ok (.getfield 9, 3) := by decide +kernel
theorem dX3_lineUp_82 : decode cX3_lineUp 82 = .ok (.iload_n 3, 1) := by decide +kernel
theorem dX3_lineUp_83 : decode cX3_lineUp 83 = .ok (.iload_n 2, 1) := by decide +kernel
theorem dX3_lineUp_84 : decode cX3_lineUp 84 = .ok (.iastore, 1) := by decide +kernel
theorem dX3_lineUp_85 : decode cX3_lineUp 85 = .ok (.aload_n 0, 1) := by decide +kernel
theorem dX3_lineUp_86 : decode cX3_lineUp 86 = .ok (.dup, 1) := by decide +kernel
theorem dX3_lineUp_87 : decode cX3_lineUp 87 = .ok (.getfield 27, 3) := by decide +kernel
theorem dX3_lineUp_90 : decode cX3_lineUp 90 = .ok (.iconst 1, 1) := by decide +kernel
theorem dX3_lineUp_91 : decode cX3_lineUp 91 = .ok (.iadd, 1) := by decide +kernel
theorem dX3_lineUp_92 : decode cX3_lineUp 92 = .ok (.putfield 27, 3) := by decide +kernel
theorem dX3_lineUp_95 : decode cX3_lineUp 95 = .ok (.iinc 2 1, 3) := by decide +kernel
theorem dX3_lineUp_98 : decode cX3_lineUp 98 = .ok (.goto (-91), 3) := by decide +kernel
theorem dX3_lineUp_101 : decode cX3_lineUp 101 = .ok (.return_, 1) := by decide +kernel
theorem dX3_reckon_0 : decode cX3_reckon 0 = .ok (.aload_n 0, 1) := by decide +kernel
theorem dX3_reckon_1 : decode cX3_reckon 1 = .ok (.aload_n 1, 1) := by decide +kernel
theorem dX3_reckon_2 : decode cX3_reckon 2 = .ok (.invokevirtual 61, 3) := by decide +kernel
theorem dX3_reckon_5 : decode cX3_reckon 5 = .ok (.iconst 0, 1) := by decide +kernel
theorem dX3_reckon_6 : decode cX3_reckon 6 = .ok (.istore_n 2, 1) := by decide +kernel
theorem dX3_reckon_7 : decode cX3_reckon 7 = .ok (.iload_n 2, 1) := by decide +kernel
theorem dX3_reckon_8 : decode cX3_reckon 8 = .ok (.aload_n 0, 1) := by decide +kernel
theorem dX3_reckon_9 : decode cX3_reckon 9 = .ok (.getfield 27, 3) := by decide +kernel
theorem dX3_reckon_12 : decode cX3_reckon 12 = .ok (.if_icmp .ge 33, 3) := by decide +kernel
theorem dX3_reckon_15 : decode cX3_reckon 15 = .ok (.aload_n 0, 1) := by decide +kernel
theorem dX3_reckon_16 : decode cX3_reckon 16 = .ok (.getfield 9, 3) := by decide +kernel
theorem dX3_reckon_19 : decode cX3_reckon 19 = .ok (.iload_n 2, 1) := by decide +kernel
theorem dX3_reckon_20 : decode cX3_reckon 20 = .ok (.iaload, 1) := by decide +kernel
theorem dX3_reckon_21 : decode cX3_reckon 21 = .ok (.istore_n 3, 1) := by decide +kernel
theorem dX3_reckon_22 : decode cX3_reckon 22 = .ok (.aload_n 0, 1) := by decide +kernel
theorem dX3_reckon_23 : decode cX3_reckon 23 = .ok (.getfield 37, 3) := by decide +kernel
theorem dX3_reckon_26 : decode cX3_reckon 26 = .ok (.iload_n 3, 1) := by decide +kernel
theorem dX3_reckon_27 : decode cX3_reckon 27 = .ok (.invokevirtual 64, 3) := by decide +kernel
theorem dX3_reckon_30 : decode cX3_reckon 30 = .ok (.ifCond .eq 9, 3) := by decide +kernel
theorem dX3_reckon_33 : decode cX3_reckon 33 = .ok (.aload_n 0, 1) := by decide +kernel
theorem dX3_reckon_34 : decode cX3_reckon 34 = .ok (.iload_n 3, 1) := by decide +kernel
theorem dX3_reckon_35 : decode cX3_reckon 35 = .ok (.aload_n 1, 1) := by decide +kernel
theorem dX3_reckon_36 : decode cX3_reckon 36 = .ok (.invokevirtual 68, 3) := by decide +kernel
theorem dX3_reckon_39 : decode cX3_reckon 39 = .ok (.iinc 2 1, 3) := by decide +kernel
theorem dX3_reckon_42 : decode cX3_reckon 42 = .ok (.goto (-35), 3) := by decide +kernel
theorem dX3_reckon_45 : decode cX3_reckon 45 = .ok (.return_, 1) := by decide +kernel
theorem dX3_begin_0 : decode cX3_begin 0 = .ok (.aload_n 0, 1) := by decide +kernel
theorem dX3_begin_1 : decode cX3_begin 1 = .ok (.aload_n 1, 1) := by decide +kernel
theorem dX3_begin_2 : decode cX3_begin 2 = .ok (.getfield 72, 3) := by decide +kernel
theorem dX3_begin_5 : decode cX3_begin 5 = .ok (.putfield 31, 3) := by decide +kernel
theorem dX3_begin_8 : decode cX3_begin 8 = .ok (.aload_n 0, 1) := by decide +kernel
theorem dX3_begin_9 : decode cX3_begin 9 = .ok (.iconst 0, 1) := by decide +kernel
theorem dX3_begin_10 : decode cX3_begin 10 = .ok (.putfield 34, 3) := by decide +kernel
theorem dX3_begin_13 : decode cX3_begin 13 = .ok (.iconst 0, 1) := by decide +kernel
theorem dX3_begin_14 : decode cX3_begin 14 = .ok (.istore_n 2, 1) := by decide +kernel
theorem dX3_begin_15 : decode cX3_begin 15 = .ok (.iload_n 2, 1) := by decide +kernel
theorem dX3_begin_16 : decode cX3_begin 16 = .ok (.aload_n 0, 1) := by decide +kernel
theorem dX3_begin_17 : decode cX3_begin 17 = .ok (.getfield 37, 3) := by decide +kernel
theorem dX3_begin_20 : decode cX3_begin 20 = .ok (.getfield 48, 3) := by decide +kernel
theorem dX3_begin_23 : decode cX3_begin 23 = .ok (.if_icmp .ge 90, 3) := by decide +kernel
theorem dX3_begin_26 : decode cX3_begin 26 = .ok (.aload_n 0, 1) := by decide +kernel
theorem dX3_begin_27 : decode cX3_begin 27 = .ok (.getfield 24, 3) := by decide +kernel
theorem dX3_begin_30 : decode cX3_begin 30 = .ok (.iload_n 2, 1) := by decide +kernel
theorem dX3_begin_31 : decode cX3_begin 31 = .ok (.iconst 0, 1) := by decide +kernel
theorem dX3_begin_32 : decode cX3_begin 32 = .ok (.iastore, 1) := by decide +kernel
theorem dX3_begin_33 : decode cX3_begin 33 = .ok (.aload_n 0, 1) := by decide +kernel
theorem dX3_begin_34 : decode cX3_begin 34 = .ok (.getfield 15, 3) := by decide +kernel
theorem dX3_begin_37 : decode cX3_begin 37 = .ok (.iload_n 2, 1) := by decide +kernel
theorem dX3_begin_38 : decode cX3_begin 38 = .ok (.aload_n 1, 1) := by decide +kernel
theorem dX3_begin_39 : decode cX3_begin 39 = .ok (.getfield 73, 3) := by decide +kernel
theorem dX3_begin_42 : decode cX3_begin 42 = .ok (.iload_n 2, 1) := by decide +kernel
theorem dX3_begin_43 : decode cX3_begin 43 = .ok (.iaload, 1) := by decide +kernel
theorem dX3_begin_44 : decode cX3_begin 44 = .ok (.iastore, 1) := by decide +kernel
theorem dX3_begin_45 : decode cX3_begin 45 = .ok (.aload_n 0, 1) := by decide +kernel
theorem dX3_begin_46 : decode cX3_begin 46 = .ok (.getfield 18, 3) := by decide +kernel
theorem dX3_begin_49 : decode cX3_begin 49 = .ok (.iload_n 2, 1) := by decide +kernel
theorem dX3_begin_50 : decode cX3_begin 50 = .ok (.aload_n 1, 1) := by decide +kernel
theorem dX3_begin_51 : decode cX3_begin 51 = .ok (.getfield 74, 3) := by decide +kernel
theorem dX3_begin_54 : decode cX3_begin 54 = .ok (.iastore, 1) := by decide +kernel
theorem dX3_begin_55 : decode cX3_begin 55 = .ok (.aload_n 0, 1) := by decide +kernel
theorem dX3_begin_56 : decode cX3_begin 56 = .ok (.getfield 21, 3) := by decide +kernel
theorem dX3_begin_59 : decode cX3_begin 59 = .ok (.iload_n 2, 1) := by decide +kernel
theorem dX3_begin_60 : decode cX3_begin 60 = .ok (.ldc 77, 2) := by decide +kernel
theorem dX3_begin_62 : decode cX3_begin 62 = .ok (.iastore, 1) := by decide +kernel
theorem dX3_begin_63 : decode cX3_begin 63 = .ok (.aload_n 1, 1) := by decide +kernel
theorem dX3_begin_64 : decode cX3_begin 64 = .ok (.getfield 53, 3) := by decide +kernel
theorem dX3_begin_67 : decode cX3_begin 67 = .ok (.iload_n 2, 1) := by decide +kernel
theorem dX3_begin_68 : decode cX3_begin 68 = .ok (.iaload, 1) := by decide +kernel
theorem dX3_begin_69 : decode cX3_begin 69 = .ok (.iconst 2, 1) := by decide +kernel
theorem dX3_begin_70 : decode cX3_begin 70 = .ok (.if_icmp .ne 13, 3) := by decide +kernel
theorem dX3_begin_73 : decode cX3_begin 73 = .ok (.aload_n 0, 1) := by decide +kernel
theorem dX3_begin_74 : decode cX3_begin 74 = .ok (.getfield 21, 3) := by decide +kernel
theorem dX3_begin_77 : decode cX3_begin 77 = .ok (.iload_n 2, 1) := by decide +kernel
theorem dX3_begin_78 : decode cX3_begin 78 = .ok (.iconst 0, 1) := by decide +kernel
theorem dX3_begin_79 : decode cX3_begin 79 = .ok (.iastore, 1) := by decide +kernel
theorem dX3_begin_80 : decode cX3_begin 80 = .ok (.goto 27, 3) := by decide +kernel
theorem dX3_begin_83 : decode cX3_begin 83 = .ok (.aload_n 1, 1) := by decide +kernel
theorem dX3_begin_84 : decode cX3_begin 84 = .ok (.getfield 53, 3) := by decide +kernel
theorem dX3_begin_87 : decode cX3_begin 87 = .ok (.iload_n 2, 1) := by decide +kernel
theorem dX3_begin_88 : decode cX3_begin 88 = .ok (.iaload, 1) := by decide +kernel
theorem dX3_begin_89 : decode cX3_begin 89 = .ok (.iconst 1, 1) := by decide +kernel
theorem dX3_begin_90 : decode cX3_begin 90 = .ok (.if_icmp .ne 17, 3) := by decide +kernel
theorem dX3_begin_93 : decode cX3_begin 93 = .ok (.iload_n 2, 1) := by decide +kernel
theorem dX3_begin_94 : decode cX3_begin 94 = .ok (.aload_n 0, 1) := by decide +kernel
theorem dX3_begin_95 : decode cX3_begin 95 = .ok (.getfield 31, 3) := by decide +kernel
theorem dX3_begin_98 : decode cX3_begin 98 = .ok (.if_icmp .eq 9, 3) := by decide +kernel
theorem dX3_begin_101 : decode cX3_begin 101 = .ok (.aload_n 0, 1) := by decide +kernel
theorem dX3_begin_102 : decode cX3_begin 102 = .ok (.iload_n 2, 1) := by decide +kernel
theorem dX3_begin_103 : decode cX3_begin 103 = .ok (.iconst 0, 1) := by decide +kernel
theorem dX3_begin_104 : decode cX3_begin 104 = .ok (.invokevirtual 78, 3) := by decide +kernel
theorem dX3_begin_107 : decode cX3_begin 107 = .ok (.iinc 2 1, 3) := by decide +kernel
theorem dX3_begin_110 : decode cX3_begin 110 = .ok (.goto (-95), 3) := by decide +kernel
theorem dX3_begin_113 : decode cX3_begin 113 = .ok (.return_, 1) := by decide +kernel
theorem dX3_meets_0 : decode cX3_meets 0 = .ok (.aload_n 2, 1) := by decide +kernel
theorem dX3_meets_1 : decode cX3_meets 1 = .ok (.getfield 58, 3) := by decide +kernel
theorem dX3_meets_4 : decode cX3_meets 4 = .ok (.iload_n 1, 1) := by decide +kernel
theorem dX3_meets_5 : decode cX3_meets 5 = .ok (.iaload, 1) := by decide +kernel
theorem dX3_meets_6 : decode cX3_meets 6 = .ok (.istore_n 3, 1) := by decide +kernel
theorem dX3_meets_7 : decode cX3_meets 7 = .ok (.iload_n 3, 1) := by decide +kernel
theorem dX3_meets_8 : decode cX3_meets 8 = .ok (.aload_n 2, 1) := by decide +kernel
theorem dX3_meets_9 : decode cX3_meets 9 = .ok (.getfield 74, 3) := by decide +kernel
theorem dX3_meets_12 : decode cX3_meets 12 = .ok (.isub, 1) := by decide +kernel
theorem dX3_meets_13 : decode cX3_meets 13 = .ok (.istore 4, 2) := by decide +kernel
theorem dX3_meets_15 : decode cX3_meets 15 = .ok (.aload_n 0, 1) := by decide +kernel
theorem dX3_meets_16 : decode cX3_meets 16 = .ok (.aload_n 0, 1) := by decide +kernel
theorem dX3_meets_17 : decode cX3_meets 17 = .ok (.getfield 34, 3) := by decide +kernel
theorem dX3_meets_20 : decode cX3_meets 20 = .ok (.iload 4, 2) := by decide +kernel
theorem dX3_meets_22 : decode cX3_meets 22 = .ok (.iconst 1, 1) := by decide +kernel
theorem dX3_meets_23 : decode cX3_meets 23 = .ok (.iadd, 1) := by decide +kernel
theorem dX3_meets_24 : decode cX3_meets 24 = .ok (.invokestatic 82, 3) := by decide +kernel
theorem dX3_meets_27 : decode cX3_meets 27 = .ok (.putfield 34, 3) := by decide +kernel
theorem dX3_meets_30 : decode cX3_meets 30 = .ok (.aload_n 0, 1) := by decide +kernel
theorem dX3_meets_31 : decode cX3_meets 31 = .ok (.getfield 37, 3) := by decide +kernel
theorem dX3_meets_34 : decode cX3_meets 34 = .ok (.aload_n 0, 1) := by decide +kernel
theorem dX3_meets_35 : decode cX3_meets 35 = .ok (.getfield 31, 3) := by decide +kernel
theorem dX3_meets_38 : decode cX3_meets 38 = .ok (.invokevirtual 64, 3) := by decide +kernel
theorem dX3_meets_41 : decode cX3_meets 41 = .ok (.ifCond .eq 88, 3) := by decide +kernel
theorem dX3_meets_44 : decode cX3_meets 44 = .ok (.aload_n 2, 1) := by decide +kernel
theorem dX3_meets_45 : decode cX3_meets 45 = .ok (.iload_n 1, 1) := by decide +kernel
theorem dX3_meets_46 : decode cX3_meets 46 = .ok (.invokevirtual 88, 3) := by decide +kernel
theorem dX3_meets_49 : decode cX3_meets 49 = .ok (.istore 5, 2) := by decide +kernel
theorem dX3_meets_51 : decode cX3_meets 51 = .ok (.aload_n 0, 1) := by decide +kernel
theorem dX3_meets_52 : decode cX3_meets 52 = .ok (.getfield 15, 3) := by decide +kernel
theorem dX3_meets_55 : decode cX3_meets 55 = .ok (.aload_n 0, 1) := by decide +kernel
theorem dX3_meets_56 : decode cX3_meets 56 = .ok (.getfield 31, 3) := by decide +kernel
theorem dX3_meets_59 : decode cX3_meets 59 = .ok (.iaload, 1) := by decide +kernel
theorem dX3_meets_60 : decode cX3_meets 60 = .ok (.aload_n 0, 1) := by decide +kernel
theorem dX3_meets_61 : decode cX3_meets 61 = .ok (.getfield 37, 3) := by decide +kernel
theorem dX3_meets_64 : decode cX3_meets 64 = .ok (.getfield 92, 3) := by decide +kernel
theorem dX3_meets_67 : decode cX3_meets 67 = .ok (.aload_n 0, 1) := by decide +kernel
theorem dX3_meets_68 : decode cX3_meets 68 = .ok (.getfield 31, 3) := by decide +kernel
theorem dX3_meets_71 : decode cX3_meets 71 = .ok (.iaload, 1) := by decide +kernel
theorem dX3_meets_72 : decode cX3_meets 72 = .ok (.iload_n 3, 1) := by decide +kernel
theorem dX3_meets_73 : decode cX3_meets 73 = .ok (.aload_n 0, 1) := by decide +kernel
theorem dX3_meets_74 : decode cX3_meets 74 = .ok (.getfield 18, 3) := by decide +kernel
theorem dX3_meets_77 : decode cX3_meets 77 = .ok (.aload_n 0, 1) := by decide +kernel
theorem dX3_meets_78 : decode cX3_meets 78 = .ok (.getfield 31, 3) := by decide +kernel
theorem dX3_meets_81 : decode cX3_meets 81 = .ok (.iaload, 1) := by decide +kernel
theorem dX3_meets_82 : decode cX3_meets 82 = .ok (.isub, 1) := by decide +kernel
theorem dX3_meets_83 : decode cX3_meets 83 = .ok (.imul, 1) := by decide +kernel
theorem dX3_meets_84 : decode cX3_meets 84 = .ok (.isub, 1) := by decide +kernel
theorem dX3_meets_85 : decode cX3_meets 85 = .ok (.istore 6, 2) := by decide +kernel
theorem dX3_meets_87 : decode cX3_meets 87 = .ok (.aload_n 0, 1) := by decide +kernel
theorem dX3_meets_88 : decode cX3_meets 88 = .ok (.getfield 15, 3) := by decide +kernel
theorem dX3_meets_91 : decode cX3_meets 91 = .ok (.aload_n 0, 1) := by decide +kernel
theorem dX3_meets_92 : decode cX3_meets 92 = .ok (.getfield 31, 3) := by decide +kernel
theorem dX3_meets_95 : decode cX3_meets 95 = .ok (.iconst 0, 1) := by decide +kernel
theorem dX3_meets_96 : decode cX3_meets 96 = .ok (.iload 6, 2) := by decide +kernel
theorem dX3_meets_98 : decode cX3_meets 98 = .ok (.invokestatic 82, 3) := by decide +kernel
theorem dX3_meets_101 : decode cX3_meets 101 = .ok (.iload 5, 2) := by decide +kernel
theorem dX3_meets_103 : decode cX3_meets 103 = .ok (.iadd, 1) := by decide +kernel
theorem dX3_meets_104 : decode cX3_meets 104 = .ok (.iastore, 1) := by decide +kernel
theorem dX3_meets_105 : decode cX3_meets 105 = .ok (.aload_n 0, 1) := by decide +kernel
theorem dX3_meets_106 : decode cX3_meets 106 = .ok (.getfield 18, 3) := by decide +kernel
theorem dX3_meets_109 : decode cX3_meets 109 = .ok (.aload_n 0, 1) := by decide +kernel
theorem dX3_meets_110 : decode cX3_meets 110 = .ok (.getfield 31, 3) := by decide +kernel
theorem dX3_meets_113 : decode cX3_meets 113 = .ok (.iload_n 3, 1) := by decide +kernel
theorem dX3_meets_114 : decode cX3_meets 114 = .ok (.iastore, 1) := by decide +kernel
theorem dX3_meets_115 : decode cX3_meets 115 = .ok (.aload_n 0, 1) := by decide +kernel
theorem dX3_meets_116 : decode cX3_meets 116 = .ok (.getfield 24, 3) := by decide +kernel
theorem dX3_meets_119 : decode cX3_meets 119 = .ok (.aload_n 0, 1) := by decide +kernel
theorem dX3_meets_120 : decode cX3_meets 120 = .ok (.getfield 31, 3) := by decide +kernel
theorem dX3_meets_123 : decode cX3_meets 123 = .ok (.dup2, 1) := by decide +kernel
theorem dX3_meets_124 : decode cX3_meets 124 = .ok (.iaload, 1) := by decide +kernel
theorem dX3_meets_125 : decode cX3_meets 125 = .ok (.iload 5, 2) := by decide +kernel
theorem dX3_meets_127 : decode cX3_meets 127 = .ok (.iadd, 1) := by decide +kernel
theorem dX3_meets_128 : decode cX3_meets 128 = .ok (.iastore, 1) := by decide +kernel
theorem dX3_meets_129 : decode cX3_meets 129 = .ok (.aload_n 0, 1) := by decide +kernel
theorem dX3_meets_130 : decode cX3_meets 130 = .ok (.getfield 37, 3) := by decide +kernel
theorem dX3_meets_133 : decode cX3_meets 133 = .ok (.getfield 95, 3) := by decide +kernel
theorem dX3_meets_136 : decode cX3_meets 136 = .ok (.iload_n 1, 1) := by decide +kernel
theorem dX3_meets_137 : decode cX3_meets 137 = .ok (.iaload, 1) := by decide +kernel
theorem dX3_meets_138 : decode cX3_meets 138 = .ok (.iconst 2, 1) := by decide +kernel
theorem dX3_meets_139 : decode cX3_meets 139 = .ok (.if_icmp .ne 14, 3) := by decide +kernel
theorem dX3_meets_142 : decode cX3_meets 142 = .ok (.aload_n 0, 1) := by decide +kernel
theorem dX3_meets_143 : decode cX3_meets 143 = .ok (.getfield 21, 3) := by decide +kernel
theorem dX3_meets_146 : decode cX3_meets 146 = .ok (.iload_n 1, 1) := by decide +kernel
theorem dX3_meets_147 : decode cX3_meets 147 = .ok (.iload 4, 2) := by decide +kernel
theorem dX3_meets_149 : decode cX3_meets 149 = .ok (.iconst 1, 1) := by decide +kernel
theorem dX3_meets_150 : decode cX3_meets 150 = .ok (.iadd, 1) := by decide +kernel
theorem dX3_meets_151 : decode cX3_meets 151 = .ok (.iastore, 1) := by decide +kernel
theorem dX3_meets_152 : decode cX3_meets 152 = .ok (.return_, 1) := by decide +kernel
theorem dX3_meets_153 : decode cX3_meets 153 = .ok (.aload_n 0, 1) := by decide +kernel
theorem dX3_meets_154 : decode cX3_meets 154 = .ok (.getfield 37, 3) := by decide +kernel
theorem dX3_meets_157 : decode cX3_meets 157 = .ok (.aload_n 0, 1) := by decide +kernel
theorem dX3_meets_158 : decode cX3_meets 158 = .ok (.getfield 31, 3) := by decide +kernel
theorem dX3_meets_161 : decode cX3_meets 161 = .ok (.invokevirtual 64, 3) := by decide +kernel
theorem dX3_meets_164 : decode cX3_meets 164 = .ok (.ifCond .eq 13, 3) := by decide +kernel
theorem dX3_meets_167 : decode cX3_meets 167 = .ok (.aload_n 0, 1) := by decide +kernel
theorem dX3_meets_168 : decode cX3_meets 168 = .ok (.aload_n 0, 1) := by decide +kernel
theorem dX3_meets_169 : decode cX3_meets 169 = .ok (.getfield 31, 3) := by decide +kernel
theorem dX3_meets_172 : decode cX3_meets 172 = .ok (.iload 4, 2) := by decide +kernel
theorem dX3_meets_174 : decode cX3_meets 174 = .ok (.invokevirtual 78, 3) := by decide +kernel
theorem dX3_meets_177 : decode cX3_meets 177 = .ok (.aload_n 0, 1) := by decide +kernel
theorem dX3_meets_178 : decode cX3_meets 178 = .ok (.iload_n 1, 1) := by decide +kernel
theorem dX3_meets_179 : decode cX3_meets 179 = .ok (.putfield 31, 3) := by decide +kernel
theorem dX3_meets_182 : decode cX3_meets 182 = .ok (.return_, 1) := by decide +kernel
theorem dX3_leaves_0 : decode cX3_leaves 0 = .ok (.aload_n 0, 1) := by decide +kernel
theorem dX3_leaves_1 : decode cX3_leaves 1 = .ok (.getfield 37, 3) := by decide +kernel
theorem dX3_leaves_4 : decode cX3_leaves 4 = .ok (.getfield 92, 3) := by decide +kernel
theorem dX3_leaves_7 : decode cX3_leaves 7 = .ok (.iload_n 1, 1) := by decide +kernel
theorem dX3_leaves_8 : decode cX3_leaves 8 = .ok (.iaload, 1) := by decide +kernel
theorem dX3_leaves_9 : decode cX3_leaves 9 = .ok (.istore_n 3, 1) := by decide +kernel
theorem dX3_leaves_10 : decode cX3_leaves 10 = .ok (.iload_n 3, 1) := by decide +kernel
theorem dX3_leaves_11 : decode cX3_leaves 11 = .ok (.ifCond .le 44, 3) := by decide +kernel
theorem dX3_leaves_14 : decode cX3_leaves 14 = .ok (.aload_n 0, 1) := by decide +kernel
theorem dX3_leaves_15 : decode cX3_leaves 15 = .ok (.getfield 21, 3) := by decide +kernel
theorem dX3_leaves_18 : decode cX3_leaves 18 = .ok (.iload_n 1, 1) := by decide +kernel
theorem dX3_leaves_19 : decode cX3_leaves 19 = .ok (.iload_n 2, 1) := by decide +kernel
theorem dX3_leaves_20 : decode cX3_leaves 20 = .ok (.iconst 1, 1) := by decide +kernel
theorem dX3_leaves_21 : decode cX3_leaves 21 = .ok (.aload_n 0, 1) := by decide +kernel
theorem dX3_leaves_22 : decode cX3_leaves 22 = .ok (.getfield 15, 3) := by decide +kernel
theorem dX3_leaves_25 : decode cX3_leaves 25 = .ok (.iload_n 1, 1) := by decide +kernel
theorem dX3_leaves_26 : decode cX3_leaves 26 = .ok (.iaload, 1) := by decide +kernel
theorem dX3_leaves_27 : decode cX3_leaves 27 = .ok (.iload_n 3, 1) := by decide +kernel
theorem dX3_leaves_28 : decode cX3_leaves 28 = .ok (.iadd, 1) := by decide +kernel
theorem dX3_leaves_29 : decode cX3_leaves 29 = .ok (.iconst 1, 1) := by decide +kernel
theorem dX3_leaves_30 : decode cX3_leaves 30 = .ok (.isub, 1) := by decide +kernel
theorem dX3_leaves_31 : decode cX3_leaves 31 = .ok (.iload_n 3, 1) := by decide +kernel
theorem dX3_leaves_32 : decode cX3_leaves 32 = .ok (.idiv, 1) := by decide +kernel
theorem dX3_leaves_33 : decode cX3_leaves 33 = .ok (.invokestatic 82, 3) := by decide +kernel
theorem dX3_leaves_36 : decode cX3_leaves 36 = .ok (.iadd, 1) := by decide +kernel
theorem dX3_leaves_37 : decode cX3_leaves 37 = .ok (.iastore, 1) := by decide +kernel
theorem dX3_leaves_38 : decode cX3_leaves 38 = .ok (.aload_n 0, 1) := by decide +kernel
theorem dX3_leaves_39 : decode cX3_leaves 39 = .ok (.aload_n 0, 1) := by decide +kernel
theorem dX3_leaves_40 : decode cX3_leaves 40 = .ok (.getfield 34, 3) := by decide +kernel
theorem dX3_leaves_43 : decode cX3_leaves 43 = .ok (.aload_n 0, 1) := by decide +kernel
theorem dX3_leaves_44 : decode cX3_leaves 44 = .ok (.getfield 21, 3) := by decide +kernel
theorem dX3_leaves_47 : decode cX3_leaves 47 = .ok (.iload_n 1, 1) := by decide +kernel
theorem dX3_leaves_48 : decode cX3_leaves 48 = .ok (.iaload, 1) := by decide +kernel
theorem dX3_leaves_49 : decode cX3_leaves 49 = .ok (.invokestatic 82, 3) := by decide +kernel
theorem dX3_leaves_52 : decode cX3_leaves 52 = .ok (.putfield 34, 3) := by decide +kernel
theorem dX3_leaves_55 : decode cX3_leaves 55 = .ok (.return_, 1) := by decide +kernel
theorem dX4_init_0 : decode cX4_init 0 = .ok (.aload_n 0, 1) := by decide +kernel
theorem dX4_init_1 : decode cX4_init 1 = .ok (.invokespecial 3, 3) := by decide +kernel
theorem dX4_init_4 : decode cX4_init 4 = .ok (.aload_n 0, 1) := by decide +kernel
theorem dX4_init_5 : decode cX4_init 5 = .ok (.bipush 7, 2) := by decide +kernel
theorem dX4_init_7 : decode cX4_init 7 = .ok (.newarray .int, 2) := by decide +kernel
theorem dX4_init_9 : decode cX4_init 9 = .ok (.putfield 9, 3) := by decide +kernel
theorem dX4_init_12 : decode cX4_init 12 = .ok (.aload_n 0, 1) := by decide +kernel
theorem dX4_init_13 : decode cX4_init 13 = .ok (.bipush 7, 2) := by decide +kernel
theorem dX4_init_15 : decode cX4_init 15 = .ok (.newarray .int, 2) := by decide +kernel
theorem dX4_init_17 : decode cX4_init 17 = .ok (.putfield 15, 3) := by decide +kernel
theorem dX4_init_20 : decode cX4_init 20 = .ok (.aload_n 0, 1) := by decide +kernel
theorem dX4_init_21 : decode cX4_init 21 = .ok (.bipush 7, 2) := by decide +kernel
theorem dX4_init_23 : decode cX4_init 23 = .ok (.newarray .int, 2) := by decide +kernel
theorem dX4_init_25 : decode cX4_init 25 = .ok (.putfield 18, 3) := by decide +kernel
theorem dX4_init_28 : decode cX4_init 28 = .ok (.aload_n 0, 1) := by decide +kernel
theorem dX4_init_29 : decode cX4_init 29 = .ok (.bipush 7, 2) := by decide +kernel
theorem dX4_init_31 : decode cX4_init 31 = .ok (.newarray .int, 2) := by decide +kernel
theorem dX4_init_33 : decode cX4_init 33 = .ok (.putfield 21, 3) := by decide +kernel
theorem dX4_init_36 : decode cX4_init 36 = .ok (.aload_n 0, 1) := by decide +kernel
theorem dX4_init_37 : decode cX4_init 37 = .ok (.bipush 7, 2) := by decide +kernel
theorem dX4_init_39 : decode cX4_init 39 = .ok (.newarray .int, 2) := by decide +kernel
theorem dX4_init_41 : decode cX4_init 41 = .ok (.putfield 24, 3) := by decide +kernel
theorem dX4_init_44 : decode cX4_init 44 = .ok (.aload_n 0, 1) := by decide +kernel
theorem dX4_init_45 : decode cX4_init 45 = .ok (.bipush 7, 2) := by decide +kernel
theorem dX4_init_47 : decode cX4_init 47 = .ok (.newarray .int, 2) := by decide +kernel
theorem dX4_init_49 : decode cX4_init 49 = .ok (.putfield 27, 3) := by decide +kernel
theorem dX4_init_52 : decode cX4_init 52 = .ok (.aload_n 0, 1) := by decide +kernel
theorem dX4_init_53 : decode cX4_init 53 = .ok (.iconst 0, 1) := by decide +kernel
theorem dX4_init_54 : decode cX4_init 54 = .ok (.putfield 30, 3) := by decide +kernel
theorem dX4_init_57 : decode cX4_init 57 = .ok (.aload_n 0, 1) := by decide +kernel
theorem dX4_init_58 : decode cX4_init 58 = .ok (.iconst 0, 1) := by decide +kernel
theorem dX4_init_59 : decode cX4_init 59 = .ok (.putfield 34, 3) := by decide +kernel
theorem dX4_init_62 : decode cX4_init 62 = .ok (.return_, 1) := by decide +kernel
theorem dX4_has_0 : decode cX4_has 0 = .ok (.iload_n 1, 1) := by decide +kernel
theorem dX4_has_1 : decode cX4_has 1 = .ok (.ifCond .lt 21, 3) := by decide +kernel
theorem dX4_has_4 : decode cX4_has 4 = .ok (.iload_n 1, 1) := by decide +kernel
theorem dX4_has_5 : decode cX4_has 5 = .ok (.aload_n 0, 1) := by decide +kernel
theorem dX4_has_6 : decode cX4_has 6 = .ok (.getfield 30, 3) := by decide +kernel
theorem dX4_has_9 : decode cX4_has 9 = .ok (.if_icmp .ge 13, 3) := by decide +kernel
theorem dX4_has_12 : decode cX4_has 12 = .ok (.iload_n 1, 1) := by decide +kernel
theorem dX4_has_13 : decode cX4_has 13 = .ok (.bipush 7, 2) := by decide +kernel
theorem dX4_has_15 : decode cX4_has 15 = .ok (.if_icmp .ge 7, 3) := by decide +kernel
theorem dX4_has_18 : decode cX4_has 18 = .ok (.iconst 1, 1) := by decide +kernel
theorem dX4_has_19 : decode cX4_has 19 = .ok (.goto 4, 3) := by decide +kernel
theorem dX4_has_22 : decode cX4_has 22 = .ok (.iconst 0, 1) := by decide +kernel
theorem dX4_has_23 : decode cX4_has 23 = .ok (.ireturn, 1) := by decide +kernel
theorem dX4_clear_0 : decode cX4_clear 0 = .ok (.aload_n 0, 1) := by decide +kernel
theorem dX4_clear_1 : decode cX4_clear 1 = .ok (.iconst 0, 1) := by decide +kernel
theorem dX4_clear_2 : decode cX4_clear 2 = .ok (.putfield 30, 3) := by decide +kernel
theorem dX4_clear_5 : decode cX4_clear 5 = .ok (.aload_n 0, 1) := by decide +kernel
theorem dX4_clear_6 : decode cX4_clear 6 = .ok (.iconst 0, 1) := by decide +kernel
theorem dX4_clear_7 : decode cX4_clear 7 = .ok (.putfield 34, 3) := by decide +kernel
theorem dX4_clear_10 : decode cX4_clear 10 = .ok (.iconst 0, 1) := by decide +kernel
theorem dX4_clear_11 : decode cX4_clear 11 = .ok (.istore_n 1, 1) := by decide +kernel
theorem dX4_clear_12 : decode cX4_clear 12 = .ok (.iload_n 1, 1) := by decide +kernel
theorem dX4_clear_13 : decode cX4_clear 13 = .ok (.bipush 7, 2) := by decide +kernel
theorem dX4_clear_15 : decode cX4_clear 15 = .ok (.if_icmp .ge 16, 3) := by decide +kernel
theorem dX4_clear_18 : decode cX4_clear 18 = .ok (.aload_n 0, 1) := by decide +kernel
theorem dX4_clear_19 : decode cX4_clear 19 = .ok (.getfield 27, 3) := by decide +kernel
theorem dX4_clear_22 : decode cX4_clear 22 = .ok (.iload_n 1, 1) := by decide +kernel
theorem dX4_clear_23 : decode cX4_clear 23 = .ok (.iconst 0, 1) := by decide +kernel
theorem dX4_clear_24 : decode cX4_clear 24 = .ok (.iastore, 1) := by decide +kernel
theorem dX4_clear_25 : decode cX4_clear 25 = .ok (.iinc 1 1, 3) := by decide +kernel
theorem dX4_clear_28 : decode cX4_clear 28 = .ok (.goto (-16), 3) := by decide +kernel
theorem dX4_clear_31 : decode cX4_clear 31 = .ok (.return_, 1) := by decide +kernel
theorem dX4_addGuest_0 : decode cX4_addGuest 0 = .ok (.aload_n 0, 1) := by decide +kernel
theorem dX4_addGuest_1 : decode cX4_addGuest 1 = .ok (.getfield 30, 3) := by decide +kernel
theorem dX4_addGuest_4 : decode cX4_addGuest 4 = .ok (.bipush 7, 2) := by decide +kernel
theorem dX4_addGuest_6 : decode cX4_addGuest 6 = .ok (.if_icmp .ge 9, 3) := by decide +kernel
theorem dX4_addGuest_9 : decode cX4_addGuest 9 = .ok (.aload_n 1, 1) := by decide +kernel
theorem dX4_addGuest_10 : decode cX4_addGuest 10 = .ok (.arraylength, 1) := by decide +kernel
theorem dX4_addGuest_11 : decode cX4_addGuest 11 = .ok (.iconst 5, 1) := by decide +kernel
theorem dX4_addGuest_12 : decode cX4_addGuest 12 = .ok (.if_icmp .ge 5, 3) := by decide +kernel
theorem dX4_addGuest_15 : decode cX4_addGuest 15 = .ok (.iconst 0, 1) := by decide +kernel
theorem dX4_addGuest_16 : decode cX4_addGuest 16 = .ok (.ireturn, 1) := by decide +kernel
theorem dX4_addGuest_17 : decode cX4_addGuest 17 = .ok (.aload_n 0, 1) := by decide +kernel
theorem dX4_addGuest_18 : decode cX4_addGuest 18 = .ok (.getfield 9, 3) := by decide +kernel
theorem dX4_addGuest_21 : decode cX4_addGuest 21 = .ok (.aload_n 0, 1) := by decide +kernel
theorem dX4_addGuest_22 : decode cX4_addGuest 22 = .ok (.getfield 30, 3) := by decide +kernel
theorem dX4_addGuest_25 : decode cX4_addGuest 25 = .ok (.aload_n 1, 1) := by decide +kernel
theorem dX4_addGuest_26 : decode cX4_addGuest 26 = .ok (.iconst 0, 1) := by decide +kernel
theorem dX4_addGuest_27 : decode cX4_addGuest 27 = .ok (.iaload, 1) := by decide +kernel
theorem dX4_addGuest_28 : decode cX4_addGuest 28 = .ok (.iastore, 1) := by decide +kernel
theorem dX4_addGuest_29 : decode cX4_addGuest 29 = .ok (.aload_n 0, 1) := by decide +kernel
theorem dX4_addGuest_30 : decode cX4_addGuest 30 = .ok (.getfield 15, 3) := by decide +kernel
theorem dX4_addGuest_33 : decode cX4_addGuest 33 = .ok (.aload_n 0, 1) := by decide +kernel
theorem dX4_addGuest_34 : decode cX4_addGuest 34 = .ok (.getfield 30, 3) := by decide +kernel
theorem dX4_addGuest_37 : decode cX4_addGuest 37 = .ok (.aload_n 1, 1) := by decide +kernel
theorem dX4_addGuest_38 : decode cX4_addGuest 38 = .ok (.iconst 1, 1) := by decide +kernel
theorem dX4_addGuest_39 : decode cX4_addGuest 39 = .ok (.iaload, 1) := by decide +kernel
theorem dX4_addGuest_40 : decode cX4_addGuest 40 = .ok (.iastore, 1) := by decide +kernel
theorem dX4_addGuest_41 : decode cX4_addGuest 41 = .ok (.aload_n 0, 1) := by decide +kernel
theorem dX4_addGuest_42 : decode cX4_addGuest 42 = .ok (.getfield 18, 3) := by decide +kernel
theorem dX4_addGuest_45 : decode cX4_addGuest 45 = .ok (.aload_n 0, 1) := by decide +kernel
theorem dX4_addGuest_46 : decode cX4_addGuest 46 = .ok (.getfield 30, 3) := by decide +kernel
theorem dX4_addGuest_49 : decode cX4_addGuest 49 = .ok (.aload_n 1, 1) := by decide +kernel
theorem dX4_addGuest_50 : decode cX4_addGuest 50 = .ok (.iconst 2, 1) := by decide +kernel
theorem dX4_addGuest_51 : decode cX4_addGuest 51 = .ok (.iaload, 1) := by decide +kernel
theorem dX4_addGuest_52 : decode cX4_addGuest 52 = .ok (.iastore, 1) := by decide +kernel
theorem dX4_addGuest_53 : decode cX4_addGuest 53 = .ok (.aload_n 0, 1) := by decide +kernel
theorem dX4_addGuest_54 : decode cX4_addGuest 54 = .ok (.getfield 21, 3) := by decide +kernel
theorem dX4_addGuest_57 : decode cX4_addGuest 57 = .ok (.aload_n 0, 1) := by decide +kernel
theorem dX4_addGuest_58 : decode cX4_addGuest 58 = .ok (.getfield 30, 3) := by decide +kernel
theorem dX4_addGuest_61 : decode cX4_addGuest 61 = .ok (.aload_n 1, 1) := by decide +kernel
theorem dX4_addGuest_62 : decode cX4_addGuest 62 = .ok (.iconst 3, 1) := by decide +kernel
theorem dX4_addGuest_63 : decode cX4_addGuest 63 = .ok (.iaload, 1) := by decide +kernel
theorem dX4_addGuest_64 : decode cX4_addGuest 64 = .ok (.iastore, 1) := by decide +kernel
theorem dX4_addGuest_65 : decode cX4_addGuest 65 = .ok (.aload_n 0, 1) := by decide +kernel
theorem dX4_addGuest_66 : decode cX4_addGuest 66 = .ok (.getfield 24, 3) := by decide +kernel
theorem dX4_addGuest_69 : decode cX4_addGuest 69 = .ok (.aload_n 0, 1) := by decide +kernel
theorem dX4_addGuest_70 : decode cX4_addGuest 70 = .ok (.getfield 30, 3) := by decide +kernel
theorem dX4_addGuest_73 : decode cX4_addGuest 73 = .ok (.aload_n 1, 1) := by decide +kernel
theorem dX4_addGuest_74 : decode cX4_addGuest 74 = .ok (.iconst 4, 1) := by decide +kernel
theorem dX4_addGuest_75 : decode cX4_addGuest 75 = .ok (.iaload, 1) := by decide +kernel
theorem dX4_addGuest_76 : decode cX4_addGuest 76 = .ok (.iastore, 1) := by decide +kernel
theorem dX4_addGuest_77 : decode cX4_addGuest 77 = .ok (.aload_n 0, 1) := by decide +kernel
theorem dX4_addGuest_78 : decode cX4_addGuest 78 = .ok (.dup, 1) := by decide +kernel
theorem dX4_addGuest_79 : decode cX4_addGuest 79 = .ok (.getfield 30, 3) := by decide +kernel
theorem dX4_addGuest_82 : decode cX4_addGuest 82 = .ok (.iconst 1, 1) := by decide +kernel
theorem dX4_addGuest_83 : decode cX4_addGuest 83 = .ok (.iadd, 1) := by decide +kernel
theorem dX4_addGuest_84 : decode cX4_addGuest 84 = .ok (.putfield 30, 3) := by decide +kernel
theorem dX4_addGuest_87 : decode cX4_addGuest 87 = .ok (.iconst 1, 1) := by decide +kernel
theorem dX4_addGuest_88 : decode cX4_addGuest 88 = .ok (.ireturn, 1) := by decide +kernel
theorem dX4_addRoom_0 : decode cX4_addRoom 0 = .ok (.aload_n 0, 1) := by decide +kernel
theorem dX4_addRoom_1 : decode cX4_addRoom 1 = .ok (.getfield 34, 3) := by decide +kernel
theorem dX4_addRoom_4 : decode cX4_addRoom 4 = .ok (.bipush 7, 2) := by decide +kernel
theorem dX4_addRoom_6 : decode cX4_addRoom 6 = .ok (.if_icmp .lt 5, 3) := by decide +kernel
theorem dX4_addRoom_9 : decode cX4_addRoom 9 = .ok (.iconst 0, 1) := by decide +kernel
theorem dX4_addRoom_10 : decode cX4_addRoom 10 = .ok (.ireturn, 1) := by decide +kernel
theorem dX4_addRoom_11 : decode cX4_addRoom 11 = .ok (.aload_n 0, 1) := by decide +kernel
theorem dX4_addRoom_12 : decode cX4_addRoom 12 = .ok (.getfield 27, 3) := by decide +kernel
theorem dX4_addRoom_15 : decode cX4_addRoom 15 = .ok (.aload_n 0, 1) := by decide +kernel
theorem dX4_addRoom_16 : decode cX4_addRoom 16 = .ok (.getfield 34, 3) := by decide +kernel
theorem dX4_addRoom_19 : decode cX4_addRoom 19 = .ok (.iload_n 1, 1) := by decide +kernel
theorem dX4_addRoom_20 : decode cX4_addRoom 20 = .ok (.iastore, 1) := by decide +kernel
theorem dX4_addRoom_21 : decode cX4_addRoom 21 = .ok (.aload_n 0, 1) := by decide +kernel
theorem dX4_addRoom_22 : decode cX4_addRoom 22 = .ok (.dup, 1) := by decide +kernel
theorem dX4_addRoom_23 : decode cX4_addRoom 23 = .ok (.getfield 34, 3) := by decide +kernel
theorem dX4_addRoom_26 : decode cX4_addRoom 26 = .ok (.iconst 1, 1) := by decide +kernel
theorem dX4_addRoom_27 : decode cX4_addRoom 27 = .ok (.iadd, 1) := by decide +kernel
theorem dX4_addRoom_28 : decode cX4_addRoom 28 = .ok (.putfield 34, 3) := by decide +kernel
theorem dX4_addRoom_31 : decode cX4_addRoom 31 = .ok (.iconst 1, 1) := by decide +kernel
theorem dX4_addRoom_32 : decode cX4_addRoom 32 = .ok (.ireturn, 1) := by decide +kernel
theorem dX4_copyFrom_0 : decode cX4_copyFrom 0 = .ok (.aload_n 0, 1) := by decide +kernel
theorem dX4_copyFrom_1 : decode cX4_copyFrom 1 = .ok (.aload_n 1, 1) := by decide +kernel
theorem dX4_copyFrom_2 : decode cX4_copyFrom 2 = .ok (.getfield 30, 3) := by decide +kernel
theorem dX4_copyFrom_5 : decode cX4_copyFrom 5 = .ok (.putfield 30, 3) := by decide +kernel
theorem dX4_copyFrom_8 : decode cX4_copyFrom 8 = .ok (.aload_n 0, 1) := by decide +kernel
theorem dX4_copyFrom_9 : decode cX4_copyFrom 9 = .ok (.aload_n 1, 1) := by decide +kernel
theorem dX4_copyFrom_10 : decode cX4_copyFrom 10 = .ok (.getfield 34, 3) := by decide +kernel
theorem dX4_copyFrom_13 : decode cX4_copyFrom 13 = .ok (.putfield 34, 3) := by decide +kernel
theorem dX4_copyFrom_16 : decode cX4_copyFrom 16 = .ok (.iconst 0, 1) := by decide +kernel
theorem dX4_copyFrom_17 : decode cX4_copyFrom 17 = .ok (.istore_n 2, 1) := by decide +kernel
theorem dX4_copyFrom_18 : decode cX4_copyFrom 18 = .ok (.iload_n 2, 1) := by decide +kernel
theorem dX4_copyFrom_19 : decode cX4_copyFrom 19 = .ok (.bipush 7, 2) := by decide +kernel
theorem dX4_copyFrom_21 : decode cX4_copyFrom 21 = .ok (.if_icmp .ge 81, 3) := by decide +kernel
theorem dX4_copyFrom_24 : decode cX4_copyFrom 24 = .ok (.aload_n 0, 1) := by decide +kernel
theorem dX4_copyFrom_25 : decode cX4_copyFrom 25 = .ok (.getfield 9, 3) := by decide +kernel
theorem dX4_copyFrom_28 : decode cX4_copyFrom 28 = .ok (.iload_n 2, 1) := by decide +kernel
theorem dX4_copyFrom_29 : decode cX4_copyFrom 29 = .ok (.aload_n 1, 1) := by decide +kernel
theorem dX4_copyFrom_30 : decode cX4_copyFrom 30 = .ok (.getfield 9, 3) := by decide +kernel
theorem dX4_copyFrom_33 : decode cX4_copyFrom 33 = .ok (.iload_n 2, 1) := by decide +kernel
theorem dX4_copyFrom_34 : decode cX4_copyFrom 34 = .ok (.iaload, 1) := by decide +kernel
theorem dX4_copyFrom_35 : decode cX4_copyFrom 35 = .ok (.iastore, 1) := by decide +kernel
theorem dX4_copyFrom_36 : decode cX4_copyFrom 36 = .ok (.aload_n 0, 1) := by decide +kernel
theorem dX4_copyFrom_37 : decode cX4_copyFrom 37 = .ok (.getfield 15, 3) := by decide +kernel
theorem dX4_copyFrom_40 : decode cX4_copyFrom 40 = .ok (.iload_n 2, 1) := by decide +kernel
theorem dX4_copyFrom_41 : decode cX4_copyFrom 41 = .ok (.aload_n 1, 1) := by decide +kernel
theorem dX4_copyFrom_42 : decode cX4_copyFrom 42 = .ok (.getfield 15, 3) := by decide +kernel
theorem dX4_copyFrom_45 : decode cX4_copyFrom 45 = .ok (.iload_n 2, 1) := by decide +kernel
theorem dX4_copyFrom_46 : decode cX4_copyFrom 46 = .ok (.iaload, 1) := by decide +kernel
theorem dX4_copyFrom_47 : decode cX4_copyFrom 47 = .ok (.iastore, 1) := by decide +kernel
theorem dX4_copyFrom_48 : decode cX4_copyFrom 48 = .ok (.aload_n 0, 1) := by decide +kernel
theorem dX4_copyFrom_49 : decode cX4_copyFrom 49 = .ok (.getfield 18, 3) := by decide +kernel
theorem dX4_copyFrom_52 : decode cX4_copyFrom 52 = .ok (.iload_n 2, 1) := by decide +kernel
theorem dX4_copyFrom_53 : decode cX4_copyFrom 53 = .ok (.aload_n 1, 1) := by decide +kernel
theorem dX4_copyFrom_54 : decode cX4_copyFrom 54 = .ok (.getfield 18, 3) := by decide +kernel
theorem dX4_copyFrom_57 : decode cX4_copyFrom 57 = .ok (.iload_n 2, 1) := by decide +kernel
theorem dX4_copyFrom_58 : decode cX4_copyFrom 58 = .ok (.iaload, 1) := by decide +kernel
theorem dX4_copyFrom_59 : decode cX4_copyFrom 59 = .ok (.iastore, 1) := by decide +kernel
theorem dX4_copyFrom_60 : decode cX4_copyFrom 60 = .ok (.aload_n 0, 1) := by decide +kernel
theorem dX4_copyFrom_61 : decode cX4_copyFrom 61 = .ok (.getfield 21, 3) := by decide +kernel
theorem dX4_copyFrom_64 : decode cX4_copyFrom 64 = .ok (.iload_n 2, 1) := by decide +kernel
theorem dX4_copyFrom_65 : decode cX4_copyFrom 65 = .ok (.aload_n 1, 1) := by decide +kernel
theorem dX4_copyFrom_66 : decode cX4_copyFrom 66 = .ok (.getfield 21, 3) := by decide +kernel
theorem dX4_copyFrom_69 : decode cX4_copyFrom 69 = .ok (.iload_n 2, 1) := by decide +kernel
theorem dX4_copyFrom_70 : decode cX4_copyFrom 70 = .ok (.iaload, 1) := by decide +kernel
theorem dX4_copyFrom_71 : decode cX4_copyFrom 71 = .ok (.iastore, 1) := by decide +kernel
theorem dX4_copyFrom_72 : decode cX4_copyFrom 72 = .ok (.aload_n 0, 1) := by decide +kernel
theorem dX4_copyFrom_73 : decode cX4_copyFrom 73 = .ok (.getfield 24, 3) := by decide +kernel
theorem dX4_copyFrom_76 : decode cX4_copyFrom 76 = .ok (.iload_n 2, 1) := by decide +kernel
theorem dX4_copyFrom_77 : decode cX4_copyFrom 77 = .ok (.aload_n 1, 1) := by decide +kernel
theorem dX4_copyFrom_78 : decode cX4_copyFrom 78 = .ok (.getfield 24, 3) := by decide +kernel
theorem dX4_copyFrom_81 : decode cX4_copyFrom 81 = .ok (.iload_n 2, 1) := by decide +kernel
theorem dX4_copyFrom_82 : decode cX4_copyFrom 82 = .ok (.iaload, 1) := by decide +kernel
theorem dX4_copyFrom_83 : decode cX4_copyFrom 83 = .ok (.iastore, 1) := by decide +kernel
theorem dX4_copyFrom_84 : decode cX4_copyFrom 84 = .ok (.aload_n 0, 1) := by decide +kernel
theorem dX4_copyFrom_85 : decode cX4_copyFrom 85 = .ok (.getfield 27, 3) := by decide +kernel
theorem dX4_copyFrom_88 : decode cX4_copyFrom 88 = .ok (.iload_n 2, 1) := by decide +kernel
theorem dX4_copyFrom_89 : decode cX4_copyFrom 89 = .ok (.aload_n 1, 1) := by decide +kernel
theorem dX4_copyFrom_90 : decode cX4_copyFrom 90 = .ok (.getfield 27, 3) := by decide +kernel
theorem dX4_copyFrom_93 : decode cX4_copyFrom 93 = .ok (.iload_n 2, 1) := by decide +kernel
theorem dX4_copyFrom_94 : decode cX4_copyFrom 94 = .ok (.iaload, 1) := by decide +kernel
theorem dX4_copyFrom_95 : decode cX4_copyFrom 95 = .ok (.iastore, 1) := by decide +kernel
theorem dX4_copyFrom_96 : decode cX4_copyFrom 96 = .ok (.iinc 2 1, 3) := by decide +kernel
theorem dX4_copyFrom_99 : decode cX4_copyFrom 99 = .ok (.goto (-81), 3) := by decide +kernel
theorem dX4_copyFrom_102 : decode cX4_copyFrom 102 = .ok (.return_, 1) := by decide +kernel
theorem dX5_init_0 : decode cX5_init 0 = .ok (.aload_n 0, 1) := by decide +kernel
theorem dX5_init_1 : decode cX5_init 1 = .ok (.invokespecial 3, 3) := by decide +kernel
theorem dX5_init_4 : decode cX5_init 4 = .ok (.aload_n 0, 1) := by decide +kernel
theorem dX5_init_5 : decode cX5_init 5 = .ok (.sipush 200, 3) := by decide +kernel
theorem dX5_init_8 : decode cX5_init 8 = .ok (.newarray .int, 2) := by decide +kernel
theorem dX5_init_10 : decode cX5_init 10 = .ok (.putfield 9, 3) := by decide +kernel
theorem dX5_init_13 : decode cX5_init 13 = .ok (.aload_n 0, 1) := by decide +kernel
theorem dX5_init_14 : decode cX5_init 14 = .ok (.iconst 5, 1) := by decide +kernel
theorem dX5_init_15 : decode cX5_init 15 = .ok (.newarray .int, 2) := by decide +kernel
theorem dX5_init_17 : decode cX5_init 17 = .ok (.putfield 15, 3) := by decide +kernel
theorem dX5_init_20 : decode cX5_init 20 = .ok (.aload_n 0, 1) := by decide +kernel
theorem dX5_init_21 : decode cX5_init 21 = .ok (.iconst 0, 1) := by decide +kernel
theorem dX5_init_22 : decode cX5_init 22 = .ok (.putfield 18, 3) := by decide +kernel
theorem dX5_init_25 : decode cX5_init 25 = .ok (.return_, 1) := by decide +kernel
theorem dX5_append_0 : decode cX5_append 0 = .ok (.aload_n 0, 1) := by decide +kernel
theorem dX5_append_1 : decode cX5_append 1 = .ok (.getfield 18, 3) := by decide +kernel
theorem dX5_append_4 : decode cX5_append 4 = .ok (.ifCond .lt 15, 3) := by decide +kernel
theorem dX5_append_7 : decode cX5_append 7 = .ok (.aload_n 0, 1) := by decide +kernel
theorem dX5_append_8 : decode cX5_append 8 = .ok (.getfield 18, 3) := by decide +kernel
theorem dX5_append_11 : decode cX5_append 11 = .ok (.aload_n 0, 1) := by decide +kernel
theorem dX5_append_12 : decode cX5_append 12 = .ok (.getfield 9, 3) := by decide +kernel
theorem dX5_append_15 : decode cX5_append 15 = .ok (.arraylength, 1) := by decide +kernel
theorem dX5_append_16 : decode cX5_append 16 = .ok (.if_icmp .lt 5, 3) := by decide +kernel
theorem dX5_append_19 : decode cX5_append 19 = .ok (.iconst 0, 1) := by decide +kernel
theorem dX5_append_20 : decode cX5_append 20 = .ok (.ireturn, 1) := by decide +kernel
theorem dX5_append_21 : decode cX5_append 21 = .ok (.aload_n 0, 1) := by decide +kernel
theorem dX5_append_22 : decode cX5_append 22 = .ok (.getfield 9, 3) := by decide +kernel
theorem dX5_append_25 : decode cX5_append 25 = .ok (.aload_n 0, 1) := by decide +kernel
theorem dX5_append_26 : decode cX5_append 26 = .ok (.getfield 18, 3) := by decide +kernel
theorem dX5_append_29 : decode cX5_append 29 = .ok (.iload_n 1, 1) := by decide +kernel
theorem dX5_append_30 : decode cX5_append 30 = .ok (.iastore, 1) := by decide +kernel
theorem dX5_append_31 : decode cX5_append 31 = .ok (.aload_n 0, 1) := by decide +kernel
theorem dX5_append_32 : decode cX5_append 32 = .ok (.dup, 1) := by decide +kernel
theorem dX5_append_33 : decode cX5_append 33 = .ok (.getfield 18, 3) := by decide +kernel
theorem dX5_append_36 : decode cX5_append 36 = .ok (.iconst 1, 1) := by decide +kernel
theorem dX5_append_37 : decode cX5_append 37 = .ok (.iadd, 1) := by decide +kernel
theorem dX5_append_38 : decode cX5_append 38 = .ok (.putfield 18, 3) := by decide +kernel
theorem dX5_append_41 : decode cX5_append 41 = .ok (.iconst 1, 1) := by decide +kernel
theorem dX5_append_42 : decode cX5_append 42 = .ok (.ireturn, 1) := by decide +kernel
theorem dX5_clear_0 : decode cX5_clear 0 = .ok (.aload_n 0, 1) := by decide +kernel
theorem dX5_clear_1 : decode cX5_clear 1 = .ok (.iconst 0, 1) := by decide +kernel
theorem dX5_clear_2 : decode cX5_clear 2 = .ok (.putfield 18, 3) := by decide +kernel
theorem dX5_clear_5 : decode cX5_clear 5 = .ok (.return_, 1) := by decide +kernel
theorem dX5_readInto_0 : decode cX5_readInto 0 = .ok (.aload_n 1, 1) := by decide +kernel
theorem dX5_readInto_1 : decode cX5_readInto 1 = .ok (.invokevirtual 22, 3) := by decide +kernel
theorem dX5_readInto_4 : decode cX5_readInto 4 = .ok (.iconst 0, 1) := by decide +kernel
theorem dX5_readInto_5 : decode cX5_readInto 5 = .ok (.istore_n 2, 1) := by decide +kernel
theorem dX5_readInto_6 : decode cX5_readInto 6 = .ok (.iconst 0, 1) := by decide +kernel
theorem dX5_readInto_7 : decode cX5_readInto 7 = .ok (.istore_n 3, 1) := by decide +kernel
theorem dX5_readInto_8 : decode cX5_readInto 8 = .ok (.iload_n 3, 1) := by decide +kernel
theorem dX5_readInto_9 : decode cX5_readInto 9 = .ok (.sipush 200, 3) := by decide +kernel
theorem dX5_readInto_12 : decode cX5_readInto 12 = .ok (.if_icmp .ge 36, 3) := by decide +kernel
theorem dX5_readInto_15 : decode cX5_readInto 15 = .ok (.iload_n 2, 1) := by decide +kernel
theorem dX5_readInto_16 : decode cX5_readInto 16 = .ok (.aload_n 0, 1) := by decide +kernel
theorem dX5_readInto_17 : decode cX5_readInto 17 = .ok (.getfield 18, 3) := by decide +kernel
theorem dX5_readInto_20 : decode cX5_readInto 20 = .ok (.if_icmp .ge 28, 3) := by decide +kernel
theorem dX5_readInto_23 : decode cX5_readInto 23 = .ok (.aload_n 0, 1) := by decide +kernel
theorem dX5_readInto_24 : decode cX5_readInto 24 = .ok (.iload_n 2, 1) := by decide +kernel
theorem dX5_readInto_25 : decode cX5_readInto 25 = .ok (.aload_n 1, 1) := by decide +kernel
theorem dX5_readInto_26 : decode cX5_readInto 26 = .ok (.invokevirtual 27, 3) := by decide +kernel
theorem dX5_readInto_29 : decode cX5_readInto 29 = .ok (.istore 4, 2) := by decide +kernel
theorem dX5_readInto_31 : decode cX5_readInto 31 = .ok (.iload 4, 2) := by decide +kernel
theorem dX5_readInto_33 : decode cX5_readInto 33 = .ok (.iconst (-1), 1) := by decide +kernel
theorem dX5_readInto_34 : decode cX5_readInto 34 = .ok (.if_icmp .ne 5, 3) := by decide +kernel
theorem dX5_readInto_37 : decode cX5_readInto 37 = .ok (.iload_n 2, 1) := by decide +kernel
end
section
theorem dX5_readInto_38 : decode cX5_readInto 38 = .ok (.ireturn, 1) := by decide +kernel
theorem dX5_readInto_39 : decode cX5_readInto 39 = .ok (.iload 4, 2) := by decide +kernel
theorem dX5_readInto_41 : decode cX5_readInto 41 = .ok (.istore_n 2, 1) := by decide +kernel
theorem dX5_readInto_42 : decode cX5_readInto 42 = .ok (.iinc 3 1, 3) := by decide +kernel
theorem dX5_readInto_45 : decode cX5_readInto 45 = .ok (.goto (-37), 3) := by decide +kernel
theorem dX5_readInto_48 : decode cX5_readInto 48 = .ok (.bipush (-4), 2) := by decide +kernel
theorem dX5_readInto_50 : decode cX5_readInto 50 = .ok (.ireturn, 1) := by decide +kernel
theorem dX5_readItem_0 : decode cX5_readItem 0 = .ok (.aload_n 0, 1) := by decide +kernel
theorem dX5_readItem_1 : decode cX5_readItem 1 = .ok (.iload_n 1, 1) := by decide +kernel
theorem dX5_readItem_2 : decode cX5_readItem 2 = .ok (.invokevirtual 31, 3) := by decide +kernel
theorem dX5_readItem_5 : decode cX5_readItem 5 = .ok (.bipush 103, 2) := by decide +kernel
theorem dX5_readItem_7 : decode cX5_readItem 7 = .ok (.if_icmp .ne 39, 3) := by decide +kernel
theorem dX5_readItem_10 : decode cX5_readItem 10 = .ok (.aload_n 0, 1) := by decide +kernel
theorem dX5_readItem_11 : decode cX5_readItem 11 = .ok (.iload_n 1, 1) := by decide +kernel
theorem dX5_readItem_12 : decode cX5_readItem 12 = .ok (.iconst 1, 1) := by decide +kernel
theorem dX5_readItem_13 : decode cX5_readItem 13 = .ok (.iadd, 1) := by decide +kernel
theorem dX5_readItem_14 : decode cX5_readItem 14 = .ok (.getstatic 35, 3) := by decide +kernel
theorem dX5_readItem_17 : decode cX5_readItem 17 = .ok (.getstatic 38, 3) := by decide +kernel
theorem dX5_readItem_20 : decode cX5_readItem 20 = .ok (.invokevirtual 41, 3) := by decide +kernel
theorem dX5_readItem_23 : decode cX5_readItem 23 = .ok (.istore_n 3, 1) := by decide +kernel
theorem dX5_readItem_24 : decode cX5_readItem 24 = .ok (.iload_n 3, 1) := by decide +kernel
theorem dX5_readItem_25 : decode cX5_readItem 25 = .ok (.iconst (-1), 1) := by decide +kernel
theorem dX5_readItem_26 : decode cX5_readItem 26 = .ok (.if_icmp .eq 18, 3) := by decide +kernel
theorem dX5_readItem_29 : decode cX5_readItem 29 = .ok (.aload_n 2, 1) := by decide +kernel
theorem dX5_readItem_30 : decode cX5_readItem 30 = .ok (.aload_n 0, 1) := by decide +kernel
theorem dX5_readItem_31 : decode cX5_readItem 31 = .ok (.getfield 15, 3) := by decide +kernel
theorem dX5_readItem_34 : decode cX5_readItem 34 = .ok (.invokevirtual 45, 3) := by decide +kernel
theorem dX5_readItem_37 : decode cX5_readItem 37 = .ok (.ifCond .eq 7, 3) := by decide +kernel
theorem dX5_readItem_40 : decode cX5_readItem 40 = .ok (.iload_n 3, 1) := by decide +kernel
theorem dX5_readItem_41 : decode cX5_readItem 41 = .ok (.goto 4, 3) := by decide +kernel
theorem dX5_readItem_44 : decode cX5_readItem 44 = .ok (.iconst (-1), 1) := by decide +kernel
theorem dX5_readItem_45 : decode cX5_readItem 45 = .ok (.ireturn, 1) := by decide +kernel
theorem dX5_readItem_46 : decode cX5_readItem 46 = .ok (.aload_n 0, 1) := by decide +kernel
theorem dX5_readItem_47 : decode cX5_readItem 47 = .ok (.iload_n 1, 1) := by decide +kernel
theorem dX5_readItem_48 : decode cX5_readItem 48 = .ok (.invokevirtual 31, 3) := by decide +kernel
theorem dX5_readItem_51 : decode cX5_readItem 51 = .ok (.bipush 114, 2) := by decide +kernel
theorem dX5_readItem_53 : decode cX5_readItem 53 = .ok (.if_icmp .ne 41, 3) := by decide +kernel
theorem dX5_readItem_56 : decode cX5_readItem 56 = .ok (.aload_n 0, 1) := by decide +kernel
theorem dX5_readItem_57 : decode cX5_readItem 57 = .ok (.iload_n 1, 1) := by decide +kernel
theorem dX5_readItem_58 : decode cX5_readItem 58 = .ok (.iconst 1, 1) := by decide +kernel
theorem dX5_readItem_59 : decode cX5_readItem 59 = .ok (.iadd, 1) := by decide +kernel
theorem dX5_readItem_60 : decode cX5_readItem 60 = .ok (.getstatic 49, 3) := by decide +kernel
theorem dX5_readItem_63 : decode cX5_readItem 63 = .ok (.getstatic 52, 3) := by decide +kernel
theorem dX5_readItem_66 : decode cX5_readItem 66 = .ok (.invokevirtual 41, 3) := by decide +kernel
theorem dX5_readItem_69 : decode cX5_readItem 69 = .ok (.istore_n 3, 1) := by decide +kernel
theorem dX5_readItem_70 : decode cX5_readItem 70 = .ok (.iload_n 3, 1) := by decide +kernel
theorem dX5_readItem_71 : decode cX5_readItem 71 = .ok (.iconst (-1), 1) := by decide +kernel
theorem dX5_readItem_72 : decode cX5_readItem 72 = .ok (.if_icmp .eq 20, 3) := by decide +kernel
theorem dX5_readItem_75 : decode cX5_readItem 75 = .ok (.aload_n 2, 1) := by decide +kernel
theorem dX5_readItem_76 : decode cX5_readItem 76 = .ok (.aload_n 0, 1) := by decide +kernel
theorem dX5_readItem_77 : decode cX5_readItem 77 = .ok (.getfield 15, 3) := by decide +kernel
theorem dX5_readItem_80 : decode cX5_readItem 80 = .ok (.iconst 0, 1) := by decide +kernel
theorem dX5_readItem_81 : decode cX5_readItem 81 = .ok (.iaload, 1) := by decide +kernel
theorem dX5_readItem_82 : decode cX5_readItem 82 = .ok (.invokevirtual 55, 3) := by decide +kernel
theorem dX5_readItem_85 : decode cX5_readItem 85 = .ok (.ifCond .eq 7, 3) := by decide +kernel
theorem dX5_readItem_88 : decode cX5_readItem 88 = .ok (.iload_n 3, 1) := by decide +kernel
theorem dX5_readItem_89 : decode cX5_readItem 89 = .ok (.goto 4, 3) := by decide +kernel
theorem dX5_readItem_92 : decode cX5_readItem 92 = .ok (.iconst (-1), 1) := by decide +kernel
theorem dX5_readItem_93 : decode cX5_readItem 93 = .ok (.ireturn, 1) := by decide +kernel
theorem dX5_readItem_94 : decode cX5_readItem 94 = .ok (.iconst (-1), 1) := by decide +kernel
theorem dX5_readItem_95 : decode cX5_readItem 95 = .ok (.ireturn, 1) := by decide +kernel
theorem dX5_readNumbers_0 : decode cX5_readNumbers 0 = .ok (.aload_n 0, 1) := by decide +kernel
theorem dX5_readNumbers_1 : decode cX5_readNumbers 1 = .ok (.getfield 15, 3) := by decide +kernel
theorem dX5_readNumbers_4 : decode cX5_readNumbers 4 = .ok (.arraylength, 1) := by decide +kernel
theorem dX5_readNumbers_5 : decode cX5_readNumbers 5 = .ok (.aload_n 2, 1) := by decide +kernel
theorem dX5_readNumbers_6 : decode cX5_readNumbers 6 = .ok (.arraylength, 1) := by decide +kernel
theorem dX5_readNumbers_7 : decode cX5_readNumbers 7 = .ok (.aload_n 3, 1) := by decide +kernel
theorem dX5_readNumbers_8 : decode cX5_readNumbers 8 = .ok (.arraylength, 1) := by decide +kernel
theorem dX5_readNumbers_9 : decode cX5_readNumbers 9 = .ok (.invokestatic 59, 3) := by decide +kernel
theorem dX5_readNumbers_12 : decode cX5_readNumbers 12 = .ok (.invokestatic 59, 3) := by decide +kernel
theorem dX5_readNumbers_15 : decode cX5_readNumbers 15 = .ok (.istore 4, 2) := by decide +kernel
theorem dX5_readNumbers_17 : decode cX5_readNumbers 17 = .ok (.iload_n 1, 1) := by decide +kernel
theorem dX5_readNumbers_18 : decode cX5_readNumbers 18 = .ok (.istore 5, 2) := by decide +kernel
theorem dX5_readNumbers_20 : decode cX5_readNumbers 20 = .ok (.iconst 0, 1) := by decide +kernel
theorem dX5_readNumbers_21 : decode cX5_readNumbers 21 = .ok (.istore 6, 2) := by decide +kernel
theorem dX5_readNumbers_23 : decode cX5_readNumbers 23 = .ok (.iload 6, 2) := by decide +kernel
theorem dX5_readNumbers_25 : decode cX5_readNumbers 25 = .ok (.iload 4, 2) := by decide +kernel
theorem dX5_readNumbers_27 : decode cX5_readNumbers 27 = .ok (.if_icmp .ge 130, 3) := by decide +kernel
theorem dX5_readNumbers_30 : decode cX5_readNumbers 30 = .ok (.iconst 0, 1) := by decide +kernel
theorem dX5_readNumbers_31 : decode cX5_readNumbers 31 = .ok (.istore 7, 2) := by decide +kernel
theorem dX5_readNumbers_33 : decode cX5_readNumbers 33 = .ok (.iconst 0, 1) := by decide +kernel
theorem dX5_readNumbers_34 : decode cX5_readNumbers 34 = .ok (.istore 8, 2) := by decide +kernel
theorem dX5_readNumbers_36 : decode cX5_readNumbers 36 = .ok (.iload 7, 2) := by decide +kernel
theorem dX5_readNumbers_38 : decode cX5_readNumbers 38 = .ok (.iconst 2, 1) := by decide +kernel
theorem dX5_readNumbers_39 : decode cX5_readNumbers 39 = .ok (.if_icmp .ge 41, 3) := by decide +kernel
theorem dX5_readNumbers_42 : decode cX5_readNumbers 42 = .ok (.aload_n 0, 1) := by decide +kernel
theorem dX5_readNumbers_43 : decode cX5_readNumbers 43 = .ok (.iload 5, 2) := by decide +kernel
theorem dX5_readNumbers_45 : decode cX5_readNumbers 45 = .ok (.iload 7, 2) := by decide +kernel
theorem dX5_readNumbers_47 : decode cX5_readNumbers 47 = .ok (.iadd, 1) := by decide +kernel
theorem dX5_readNumbers_48 : decode cX5_readNumbers 48 = .ok (.invokevirtual 65, 3) := by decide +kernel
theorem dX5_readNumbers_51 : decode cX5_readNumbers 51 = .ok (.ifCond .eq 29, 3) := by decide +kernel
theorem dX5_readNumbers_54 : decode cX5_readNumbers 54 = .ok (.iload 8, 2) := by decide +kernel
theorem dX5_readNumbers_56 : decode cX5_readNumbers 56 = .ok (.bipush 10, 2) := by decide +kernel
theorem dX5_readNumbers_58 : decode cX5_readNumbers 58 = .ok (.imul, 1) := by decide +kernel
theorem dX5_readNumbers_59 : decode cX5_readNumbers 59 = .ok (.aload_n 0, 1) := by decide +kernel
theorem dX5_readNumbers_60 : decode cX5_readNumbers 60 = .ok (.iload 5, 2) := by decide +kernel
theorem dX5_readNumbers_62 : decode cX5_readNumbers 62 = .ok (.iload 7, 2) := by decide +kernel
theorem dX5_readNumbers_64 : decode cX5_readNumbers 64 = .ok (.iadd, 1) := by decide +kernel
theorem dX5_readNumbers_65 : decode cX5_readNumbers 65 = .ok (.invokevirtual 31, 3) := by decide +kernel
theorem dX5_readNumbers_68 : decode cX5_readNumbers 68 = .ok (.iadd, 1) := by decide +kernel
theorem dX5_readNumbers_69 : decode cX5_readNumbers 69 = .ok (.bipush 48, 2) := by decide +kernel
theorem dX5_readNumbers_71 : decode cX5_readNumbers 71 = .ok (.isub, 1) := by decide +kernel
theorem dX5_readNumbers_72 : decode cX5_readNumbers 72 = .ok (.istore 8, 2) := by decide +kernel
theorem dX5_readNumbers_74 : decode cX5_readNumbers 74 = .ok (.iinc 7 1, 3) := by decide +kernel
theorem dX5_readNumbers_77 : decode cX5_readNumbers 77 = .ok (.goto (-41), 3) := by decide +kernel
theorem dX5_readNumbers_80 : decode cX5_readNumbers 80 = .ok (.iload 7, 2) := by decide +kernel
theorem dX5_readNumbers_82 : decode cX5_readNumbers 82 = .ok (.ifCond .eq 21, 3) := by decide +kernel
theorem dX5_readNumbers_85 : decode cX5_readNumbers 85 = .ok (.iload 8, 2) := by decide +kernel
theorem dX5_readNumbers_87 : decode cX5_readNumbers 87 = .ok (.aload_n 2, 1) := by decide +kernel
theorem dX5_readNumbers_88 : decode cX5_readNumbers 88 = .ok (.iload 6, 2) := by decide +kernel
theorem dX5_readNumbers_90 : decode cX5_readNumbers 90 = .ok (.iaload, 1) := by decide +kernel
theorem dX5_readNumbers_91 : decode cX5_readNumbers 91 = .ok (.if_icmp .lt 12, 3) := by decide +kernel
theorem dX5_readNumbers_94 : decode cX5_readNumbers 94 = .ok (.iload 8, 2) := by decide +kernel
theorem dX5_readNumbers_96 : decode cX5_readNumbers 96 = .ok (.aload_n 3, 1) := by decide +kernel
theorem dX5_readNumbers_97 : decode cX5_readNumbers 97 = .ok (.iload 6, 2) := by decide +kernel
theorem dX5_readNumbers_99 : decode cX5_readNumbers 99 = .ok (.iaload, 1) := by decide +kernel
theorem dX5_readNumbers_100 : decode cX5_readNumbers 100 = .ok (.if_icmp .le 5, 3) := by decide +kernel
theorem dX5_readNumbers_103 : decode cX5_readNumbers 103 = .ok (.iconst (-1), 1) := by decide +kernel
theorem dX5_readNumbers_104 : decode cX5_readNumbers 104 = .ok (.ireturn, 1) := by decide +kernel
theorem dX5_readNumbers_105 : decode cX5_readNumbers 105 = .ok (.iload 5, 2) := by decide +kernel
theorem dX5_readNumbers_107 : decode cX5_readNumbers 107 = .ok (.iload 7, 2) := by decide +kernel
theorem dX5_readNumbers_109 : decode cX5_readNumbers 109 = .ok (.iadd, 1) := by decide +kernel
theorem dX5_readNumbers_110 : decode cX5_readNumbers 110 = .ok (.istore 5, 2) := by decide +kernel
theorem dX5_readNumbers_112 : decode cX5_readNumbers 112 = .ok (.aload_n 0, 1) := by decide +kernel
theorem dX5_readNumbers_113 : decode cX5_readNumbers 113 = .ok (.iload 5, 2) := by decide +kernel
theorem dX5_readNumbers_115 : decode cX5_readNumbers 115 = .ok (.invokevirtual 31, 3) := by decide +kernel
theorem dX5_readNumbers_118 : decode cX5_readNumbers 118 = .ok (.iload 6, 2) := by decide +kernel
theorem dX5_readNumbers_120 : decode cX5_readNumbers 120 = .ok (.iconst 1, 1) := by decide +kernel
theorem dX5_readNumbers_121 : decode cX5_readNumbers 121 = .ok (.iadd, 1) := by decide +kernel
theorem dX5_readNumbers_122 : decode cX5_readNumbers 122 = .ok (.iload 4, 2) := by decide +kernel
theorem dX5_readNumbers_124 : decode cX5_readNumbers 124 = .ok (.if_icmp .ge 8, 3) := by decide +kernel
theorem dX5_readNumbers_127 : decode cX5_readNumbers 127 = .ok (.bipush 44, 2) := by decide +kernel
theorem dX5_readNumbers_129 : decode cX5_readNumbers 129 = .ok (.goto 5, 3) := by decide +kernel
theorem dX5_readNumbers_132 : decode cX5_readNumbers 132 = .ok (.bipush 59, 2) := by decide +kernel
theorem dX5_readNumbers_134 : decode cX5_readNumbers 134 = .ok (.if_icmp .eq 5, 3) := by decide +kernel
theorem dX5_readNumbers_137 : decode cX5_readNumbers 137 = .ok (.iconst (-1), 1) := by decide +kernel
theorem dX5_readNumbers_138 : decode cX5_readNumbers 138 = .ok (.ireturn, 1) := by decide +kernel
theorem dX5_readNumbers_139 : decode cX5_readNumbers 139 = .ok (.iinc 5 1, 3) := by decide +kernel
theorem dX5_readNumbers_142 : decode cX5_readNumbers 142 = .ok (.aload_n 0, 1) := by decide +kernel
theorem dX5_readNumbers_143 : decode cX5_readNumbers 143 = .ok (.getfield 15, 3) := by decide +kernel
theorem dX5_readNumbers_146 : decode cX5_readNumbers 146 = .ok (.iload 6, 2) := by decide +kernel
theorem dX5_readNumbers_148 : decode cX5_readNumbers 148 = .ok (.iload 8, 2) := by decide +kernel
theorem dX5_readNumbers_150 : decode cX5_readNumbers 150 = .ok (.iastore, 1) := by decide +kernel
theorem dX5_readNumbers_151 : decode cX5_readNumbers 151 = .ok (.iinc 6 1, 3) := by decide +kernel
theorem dX5_readNumbers_154 : decode cX5_readNumbers 154 = .ok (.goto (-131), 3) := by decide +kernel
theorem dX5_readNumbers_157 : decode cX5_readNumbers 157 = .ok (.iload 5, 2) := by decide +kernel
theorem dX5_readNumbers_159 : decode cX5_readNumbers 159 = .ok (.ireturn, 1) := by decide +kernel
theorem dX5_isFigure_0 : decode cX5_isFigure 0 = .ok (.aload_n 0, 1) := by decide +kernel
theorem dX5_isFigure_1 : decode cX5_isFigure 1 = .ok (.iload_n 1, 1) := by decide +kernel
theorem dX5_isFigure_2 : decode cX5_isFigure 2 = .ok (.invokevirtual 31, 3) := by decide +kernel
theorem dX5_isFigure_5 : decode cX5_isFigure 5 = .ok (.bipush 48, 2) := by decide +kernel
theorem dX5_isFigure_7 : decode cX5_isFigure 7 = .ok (.if_icmp .lt 17, 3) := by decide +kernel
theorem dX5_isFigure_10 : decode cX5_isFigure 10 = .ok (.aload_n 0, 1) := by decide +kernel
theorem dX5_isFigure_11 : decode cX5_isFigure 11 = .ok (.iload_n 1, 1) := by decide +kernel
theorem dX5_isFigure_12 : decode cX5_isFigure 12 = .ok (.invokevirtual 31, 3) := by decide +kernel
theorem dX5_isFigure_15 : decode cX5_isFigure 15 = .ok (.bipush 57, 2) := by decide +kernel
theorem dX5_isFigure_17 : decode cX5_isFigure 17 = .ok (.if_icmp .gt 7, 3) := by decide +kernel
theorem dX5_isFigure_20 : decode cX5_isFigure 20 = .ok (.iconst 1, 1) := by decide +kernel
theorem dX5_isFigure_21 : decode cX5_isFigure 21 = .ok (.goto 4, 3) := by decide +kernel
theorem dX5_isFigure_24 : decode cX5_isFigure 24 = .ok (.iconst 0, 1) := by decide +kernel
theorem dX5_isFigure_25 : decode cX5_isFigure 25 = .ok (.ireturn, 1) := by decide +kernel
theorem dX5_letterAt_0 : decode cX5_letterAt 0 = .ok (.iload_n 1, 1) := by decide +kernel
theorem dX5_letterAt_1 : decode cX5_letterAt 1 = .ok (.ifCond .lt 29, 3) := by decide +kernel
theorem dX5_letterAt_4 : decode cX5_letterAt 4 = .ok (.iload_n 1, 1) := by decide +kernel
theorem dX5_letterAt_5 : decode cX5_letterAt 5 = .ok (.aload_n 0, 1) := by decide +kernel
theorem dX5_letterAt_6 : decode cX5_letterAt 6 = .ok (.getfield 18, 3) := by decide +kernel
theorem dX5_letterAt_9 : decode cX5_letterAt 9 = .ok (.if_icmp .ge 21, 3) := by decide +kernel
theorem dX5_letterAt_12 : decode cX5_letterAt 12 = .ok (.iload_n 1, 1) := by decide +kernel
theorem dX5_letterAt_13 : decode cX5_letterAt 13 = .ok (.aload_n 0, 1) := by decide +kernel
theorem dX5_letterAt_14 : decode cX5_letterAt 14 = .ok (.getfield 9, 3) := by decide +kernel
theorem dX5_letterAt_17 : decode cX5_letterAt 17 = .ok (.arraylength, 1) := by decide +kernel
theorem dX5_letterAt_18 : decode cX5_letterAt 18 = .ok (.if_icmp .ge 12, 3) := by decide +kernel
theorem dX5_letterAt_21 : decode cX5_letterAt 21 = .ok (.aload_n 0, 1) := by decide +kernel
theorem dX5_letterAt_22 : decode cX5_letterAt 22 = .ok (.getfield 9, 3) := by decide +kernel
theorem dX5_letterAt_25 : decode cX5_letterAt 25 = .ok (.iload_n 1, 1) := by decide +kernel
theorem dX5_letterAt_26 : decode cX5_letterAt 26 = .ok (.iaload, 1) := by decide +kernel
theorem dX5_letterAt_27 : decode cX5_letterAt 27 = .ok (.goto 4, 3) := by decide +kernel
theorem dX5_letterAt_30 : decode cX5_letterAt 30 = .ok (.iconst 0, 1) := by decide +kernel
theorem dX5_letterAt_31 : decode cX5_letterAt 31 = .ok (.ireturn, 1) := by decide +kernel
theorem dX6_init_0 : decode cX6_init 0 = .ok (.aload_n 0, 1) := by decide +kernel
theorem dX6_init_1 : decode cX6_init 1 = .ok (.invokespecial 1, 3) := by decide +kernel
theorem dX6_init_4 : decode cX6_init 4 = .ok (.aload_n 0, 1) := by decide +kernel
theorem dX6_init_5 : decode cX6_init 5 = .ok (.iconst 0, 1) := by decide +kernel
theorem dX6_init_6 : decode cX6_init 6 = .ok (.putfield 7, 3) := by decide +kernel
theorem dX6_init_9 : decode cX6_init 9 = .ok (.aload_n 0, 1) := by decide +kernel
theorem dX6_init_10 : decode cX6_init 10 = .ok (.iconst 1, 1) := by decide +kernel
theorem dX6_init_11 : decode cX6_init 11 = .ok (.iload_n 2, 1) := by decide +kernel
theorem dX6_init_12 : decode cX6_init 12 = .ok (.invokestatic 13, 3) := by decide +kernel
theorem dX6_init_15 : decode cX6_init 15 = .ok (.anewarray 19, 3) := by decide +kernel
theorem dX6_init_18 : decode cX6_init 18 = .ok (.putfield 21, 3) := by decide +kernel
theorem dX6_init_21 : decode cX6_init 21 = .ok (.iconst 0, 1) := by decide +kernel
theorem dX6_init_22 : decode cX6_init 22 = .ok (.istore_n 3, 1) := by decide +kernel
theorem dX6_init_23 : decode cX6_init 23 = .ok (.iload_n 3, 1) := by decide +kernel
theorem dX6_init_24 : decode cX6_init 24 = .ok (.aload_n 0, 1) := by decide +kernel
theorem dX6_init_25 : decode cX6_init 25 = .ok (.getfield 21, 3) := by decide +kernel
theorem dX6_init_28 : decode cX6_init 28 = .ok (.arraylength, 1) := by decide +kernel
theorem dX6_init_29 : decode cX6_init 29 = .ok (.if_icmp .ge 23, 3) := by decide +kernel
theorem dX6_init_32 : decode cX6_init 32 = .ok (.aload_n 0, 1) := by decide +kernel
theorem dX6_init_33 : decode cX6_init 33 = .ok (.getfield 21, 3) := by decide +kernel
theorem dX6_init_36 : decode cX6_init 36 = .ok (.iload_n 3, 1) := by decide +kernel
theorem dX6_init_37 : decode cX6_init 37 = .ok (.new 19, 3) := by decide +kernel
theorem dX6_init_40 : decode cX6_init 40 = .ok (.dup, 1) := by decide +kernel
theorem dX6_init_41 : decode cX6_init 41 = .ok (.aload_n 1, 1) := by decide +kernel
theorem dX6_init_42 : decode cX6_init 42 = .ok (.invokespecial 25, 3) := by decide +kernel
theorem dX6_init_45 : decode cX6_init 45 = .ok (.aastore, 1) := by decide +kernel
theorem dX6_init_46 : decode cX6_init 46 = .ok (.iinc 3 1, 3) := by decide +kernel
theorem dX6_init_49 : decode cX6_init 49 = .ok (.goto (-26), 3) := by decide +kernel
theorem dX6_init_52 : decode cX6_init 52 = .ok (.return_, 1) := by decide +kernel
theorem dX6_isFull_0 : decode cX6_isFull 0 = .ok (.aload_n 0, 1) := by decide +kernel
theorem dX6_isFull_1 : decode cX6_isFull 1 = .ok (.getfield 7, 3) := by decide +kernel
theorem dX6_isFull_4 : decode cX6_isFull 4 = .ok (.aload_n 0, 1) := by decide +kernel
theorem dX6_isFull_5 : decode cX6_isFull 5 = .ok (.getfield 21, 3) := by decide +kernel
theorem dX6_isFull_8 : decode cX6_isFull 8 = .ok (.arraylength, 1) := by decide +kernel
theorem dX6_isFull_9 : decode cX6_isFull 9 = .ok (.if_icmp .lt 7, 3) := by decide +kernel
theorem dX6_isFull_12 : decode cX6_isFull 12 = .ok (.iconst 1, 1) := by decide +kernel
theorem dX6_isFull_13 : decode cX6_isFull 13 = .ok (.goto 4, 3) := by decide +kernel
theorem dX6_isFull_16 : decode cX6_isFull 16 = .ok (.iconst 0, 1) := by decide +kernel
theorem dX6_isFull_17 : decode cX6_isFull 17 = .ok (.ireturn, 1) := by decide +kernel
theorem dX6_clear_0 : decode cX6_clear 0 = .ok (.aload_n 0, 1) := by decide +kernel
theorem dX6_clear_1 : decode cX6_clear 1 = .ok (.iconst 0, 1) := by decide +kernel
theorem dX6_clear_2 : decode cX6_clear 2 = .ok (.putfield 7, 3) := by decide +kernel
theorem dX6_clear_5 : decode cX6_clear 5 = .ok (.return_, 1) := by decide +kernel
theorem dX6_put_0 : decode cX6_put 0 = .ok (.aload_n 0, 1) := by decide +kernel
theorem dX6_put_1 : decode cX6_put 1 = .ok (.invokevirtual 28, 3) := by decide +kernel
theorem dX6_put_4 : decode cX6_put 4 = .ok (.ifCond .eq 7, 3) := by decide +kernel
theorem dX6_put_7 : decode cX6_put 7 = .ok (.aload_n 0, 1) := by decide +kernel
theorem dX6_put_8 : decode cX6_put 8 = .ok (.invokevirtual 32, 3) := by decide +kernel
theorem dX6_put_11 : decode cX6_put 11 = .ok (.aload_n 0, 1) := by decide +kernel
theorem dX6_put_12 : decode cX6_put 12 = .ok (.getfield 7, 3) := by decide +kernel
theorem dX6_put_15 : decode cX6_put 15 = .ok (.ifCond .lt 15, 3) := by decide +kernel
theorem dX6_put_18 : decode cX6_put 18 = .ok (.aload_n 0, 1) := by decide +kernel
theorem dX6_put_19 : decode cX6_put 19 = .ok (.getfield 7, 3) := by decide +kernel
theorem dX6_put_22 : decode cX6_put 22 = .ok (.aload_n 0, 1) := by decide +kernel
theorem dX6_put_23 : decode cX6_put 23 = .ok (.getfield 21, 3) := by decide +kernel
theorem dX6_put_26 : decode cX6_put 26 = .ok (.arraylength, 1) := by decide +kernel
theorem dX6_put_27 : decode cX6_put 27 = .ok (.if_icmp .lt 4, 3) := by decide +kernel
theorem dX6_put_30 : decode cX6_put 30 = .ok (.return_, 1) := by decide +kernel
theorem dX6_put_31 : decode cX6_put 31 = .ok (.aload_n 0, 1) := by decide +kernel
theorem dX6_put_32 : decode cX6_put 32 = .ok (.getfield 21, 3) := by decide +kernel
theorem dX6_put_35 : decode cX6_put 35 = .ok (.aload_n 0, 1) := by decide +kernel
theorem dX6_put_36 : decode cX6_put 36 = .ok (.getfield 7, 3) := by decide +kernel
theorem dX6_put_39 : decode cX6_put 39 = .ok (.aaload, 1) := by decide +kernel
theorem dX6_put_40 : decode cX6_put 40 = .ok (.astore_n 2, 1) := by decide +kernel
theorem dX6_put_41 : decode cX6_put 41 = .ok (.aload_n 2, 1) := by decide +kernel
theorem dX6_put_42 : decode cX6_put 42 = .ok (.ifnull 18, 3) := by decide +kernel
theorem dX6_put_45 : decode cX6_put 45 = .ok (.aload_n 2, 1) := by decide +kernel
theorem dX6_put_46 : decode cX6_put 46 = .ok (.aload_n 1, 1) := by decide +kernel
theorem dX6_put_47 : decode cX6_put 47 = .ok (.invokevirtual 35, 3) := by decide +kernel
theorem dX6_put_50 : decode cX6_put 50 = .ok (.aload_n 0, 1) := by decide +kernel
theorem dX6_put_51 : decode cX6_put 51 = .ok (.dup, 1) := by decide +kernel
theorem dX6_put_52 : decode cX6_put 52 = .ok (.getfield 7, 3) := by decide +kernel
theorem dX6_put_55 : decode cX6_put 55 = .ok (.iconst 1, 1) := by decide +kernel
theorem dX6_put_56 : decode cX6_put 56 = .ok (.iadd, 1) := by decide +kernel
theorem dX6_put_57 : decode cX6_put 57 = .ok (.putfield 7, 3) := by decide +kernel
theorem dX6_put_60 : decode cX6_put 60 = .ok (.return_, 1) := by decide +kernel
theorem dX6_dropOldest_0 : decode cX6_dropOldest 0 = .ok (.aload_n 0, 1) := by decide +kernel
theorem dX6_dropOldest_1 : decode cX6_dropOldest 1 = .ok (.getfield 21, 3) := by decide +kernel
theorem dX6_dropOldest_4 : decode cX6_dropOldest 4 = .ok (.iconst 0, 1) := by decide +kernel
theorem dX6_dropOldest_5 : decode cX6_dropOldest 5 = .ok (.aaload, 1) := by decide +kernel
theorem dX6_dropOldest_6 : decode cX6_dropOldest 6 = .ok (.astore_n 1, 1) := by decide +kernel
theorem dX6_dropOldest_7 : decode cX6_dropOldest 7 = .ok (.iconst 1, 1) := by decide +kernel
theorem dX6_dropOldest_8 : decode cX6_dropOldest 8 = .ok (.istore_n 2, 1) := by decide +kernel
theorem dX6_dropOldest_9 : decode cX6_dropOldest 9 = .ok (.iload_n 2, 1) := by decide +kernel
theorem dX6_dropOldest_10 : decode cX6_dropOldest 10 = .ok (.aload_n 0, 1) := by decide +kernel
theorem dX6_dropOldest_11 : decode cX6_dropOldest 11 = .ok (.getfield 21, 3) := by decide +kernel
theorem dX6_dropOldest_14 : decode cX6_dropOldest 14 = .ok (.arraylength, 1) := by decide +kernel
theorem dX6_dropOldest_15 : decode cX6_dropOldest 15 = .ok (.if_icmp .ge 23, 3) := by decide +kernel
theorem dX6_dropOldest_18 : decode cX6_dropOldest 18 = .ok (.aload_n 0, 1) := by decide +kernel
theorem dX6_dropOldest_19 : decode cX6_dropOldest 19 = .ok (.getfield 21, 3) := by decide +kernel
theorem dX6_dropOldest_22 : decode cX6_dropOldest 22 = .ok (.iload_n 2, 1) := by decide +kernel
theorem dX6_dropOldest_23 : decode cX6_dropOldest 23 = .ok (.iconst 1, 1) := by decide +kernel
theorem dX6_dropOldest_24 : decode cX6_dropOldest 24 = .ok (.isub, 1) := by decide +kernel
theorem dX6_dropOldest_25 : decode cX6_dropOldest 25 = .ok (.aload_n 0, 1) := by decide +kernel
theorem dX6_dropOldest_26 : decode cX6_dropOldest 26 = .ok (.getfield 21, 3) := by decide +kernel
theorem dX6_dropOldest_29 : decode cX6_dropOldest 29 = .ok (.iload_n 2, 1) := by decide +kernel
theorem dX6_dropOldest_30 : decode cX6_dropOldest 30 = .ok (.aaload, 1) := by decide +kernel
theorem dX6_dropOldest_31 : decode cX6_dropOldest 31 = .ok (.aastore, 1) := by decide +kernel
theorem dX6_dropOldest_32 : decode cX6_dropOldest 32 = .ok (.iinc 2 1, 3) := by decide +kernel
theorem dX6_dropOldest_35 : decode cX6_dropOldest 35 = .ok (.goto (-26), 3) := by decide +kernel
theorem dX6_dropOldest_38 : decode cX6_dropOldest 38 = .ok (.aload_n 0, 1) := by decide +kernel
theorem dX6_dropOldest_39 : decode cX6_dropOldest 39 = .ok (.getfield 21, 3) := by decide +kernel
theorem dX6_dropOldest_42 : decode cX6_dropOldest 42 = .ok (.aload_n 0, 1) := by decide +kernel
theorem dX6_dropOldest_43 : decode cX6_dropOldest 43 = .ok (.getfield 21, 3) := by decide +kernel
theorem dX6_dropOldest_46 : decode cX6_dropOldest 46 = .ok (.arraylength, 1) := by decide +kernel
theorem dX6_dropOldest_47 : decode cX6_dropOldest 47 = .ok (.iconst 1, 1) := by decide +kernel
theorem dX6_dropOldest_48 : decode cX6_dropOldest 48 = .ok (.isub, 1) := by decide +kernel
theorem dX6_dropOldest_49 : decode cX6_dropOldest 49 = .ok (.aload_n 1, 1) := by decide +kernel
theorem dX6_dropOldest_50 : decode cX6_dropOldest 50 = .ok (.aastore, 1) := by decide +kernel
theorem dX6_dropOldest_51 : decode cX6_dropOldest 51 = .ok (.aload_n 0, 1) := by decide +kernel
theorem dX6_dropOldest_52 : decode cX6_dropOldest 52 = .ok (.aload_n 0, 1) := by decide +kernel
theorem dX6_dropOldest_53 : decode cX6_dropOldest 53 = .ok (.getfield 21, 3) := by decide +kernel
theorem dX6_dropOldest_56 : decode cX6_dropOldest 56 = .ok (.arraylength, 1) := by decide +kernel
theorem dX6_dropOldest_57 : decode cX6_dropOldest 57 = .ok (.iconst 1, 1) := by decide +kernel
theorem dX6_dropOldest_58 : decode cX6_dropOldest 58 = .ok (.isub, 1) := by decide +kernel
theorem dX6_dropOldest_59 : decode cX6_dropOldest 59 = .ok (.putfield 7, 3) := by decide +kernel
theorem dX6_dropOldest_62 : decode cX6_dropOldest 62 = .ok (.return_, 1) := by decide +kernel
theorem dX6_takeInto_0 : decode cX6_takeInto 0 = .ok (.aload_n 0, 1) := by decide +kernel
theorem dX6_takeInto_1 : decode cX6_takeInto 1 = .ok (.getfield 7, 3) := by decide +kernel
theorem dX6_takeInto_4 : decode cX6_takeInto 4 = .ok (.iconst 1, 1) := by decide +kernel
theorem dX6_takeInto_5 : decode cX6_takeInto 5 = .ok (.if_icmp .lt 15, 3) := by decide +kernel
theorem dX6_takeInto_8 : decode cX6_takeInto 8 = .ok (.aload_n 0, 1) := by decide +kernel
theorem dX6_takeInto_9 : decode cX6_takeInto 9 = .ok (.getfield 7, 3) := by decide +kernel
theorem dX6_takeInto_12 : decode cX6_takeInto 12 = .ok (.aload_n 0, 1) := by decide +kernel
theorem dX6_takeInto_13 : decode cX6_takeInto 13 = .ok (.getfield 21, 3) := by decide +kernel
theorem dX6_takeInto_16 : decode cX6_takeInto 16 = .ok (.arraylength, 1) := by decide +kernel
theorem dX6_takeInto_17 : decode cX6_takeInto 17 = .ok (.if_icmp .le 5, 3) := by decide +kernel
theorem dX6_takeInto_20 : decode cX6_takeInto 20 = .ok (.iconst 0, 1) := by decide +kernel
theorem dX6_takeInto_21 : decode cX6_takeInto 21 = .ok (.ireturn, 1) := by decide +kernel
theorem dX6_takeInto_22 : decode cX6_takeInto 22 = .ok (.aload_n 0, 1) := by decide +kernel
theorem dX6_takeInto_23 : decode cX6_takeInto 23 = .ok (.getfield 21, 3) := by decide +kernel
theorem dX6_takeInto_26 : decode cX6_takeInto 26 = .ok (.aload_n 0, 1) := by decide +kernel
theorem dX6_takeInto_27 : decode cX6_takeInto 27 = .ok (.getfield 7, 3) := by decide +kernel
theorem dX6_takeInto_30 : decode cX6_takeInto 30 = .ok (.iconst 1, 1) := by decide +kernel
theorem dX6_takeInto_31 : decode cX6_takeInto 31 = .ok (.isub, 1) := by decide +kernel
theorem dX6_takeInto_32 : decode cX6_takeInto 32 = .ok (.aaload, 1) := by decide +kernel
theorem dX6_takeInto_33 : decode cX6_takeInto 33 = .ok (.astore_n 2, 1) := by decide +kernel
theorem dX6_takeInto_34 : decode cX6_takeInto 34 = .ok (.aload_n 2, 1) := by decide +kernel
theorem dX6_takeInto_35 : decode cX6_takeInto 35 = .ok (.ifnonnull 5, 3) := by decide +kernel
theorem dX6_takeInto_38 : decode cX6_takeInto 38 = .ok (.iconst 0, 1) := by decide +kernel
theorem dX6_takeInto_39 : decode cX6_takeInto 39 = .ok (.ireturn, 1) := by decide +kernel
theorem dX6_takeInto_40 : decode cX6_takeInto 40 = .ok (.aload_n 1, 1) := by decide +kernel
theorem dX6_takeInto_41 : decode cX6_takeInto 41 = .ok (.aload_n 2, 1) := by decide +kernel
theorem dX6_takeInto_42 : decode cX6_takeInto 42 = .ok (.invokevirtual 35, 3) := by decide +kernel
theorem dX6_takeInto_45 : decode cX6_takeInto 45 = .ok (.aload_n 0, 1) := by decide +kernel
theorem dX6_takeInto_46 : decode cX6_takeInto 46 = .ok (.dup, 1) := by decide +kernel
theorem dX6_takeInto_47 : decode cX6_takeInto 47 = .ok (.getfield 7, 3) := by decide +kernel
theorem dX6_takeInto_50 : decode cX6_takeInto 50 = .ok (.iconst 1, 1) := by decide +kernel
theorem dX6_takeInto_51 : decode cX6_takeInto 51 = .ok (.isub, 1) := by decide +kernel
theorem dX6_takeInto_52 : decode cX6_takeInto 52 = .ok (.putfield 7, 3) := by decide +kernel
theorem dX6_takeInto_55 : decode cX6_takeInto 55 = .ok (.iconst 1, 1) := by decide +kernel
theorem dX6_takeInto_56 : decode cX6_takeInto 56 = .ok (.ireturn, 1) := by decide +kernel
theorem dX7_init_0 : decode cX7_init 0 = .ok (.aload_n 0, 1) := by decide +kernel
theorem dX7_init_1 : decode cX7_init 1 = .ok (.invokespecial 3, 3) := by decide +kernel
theorem dX7_init_4 : decode cX7_init 4 = .ok (.aload_n 0, 1) := by decide +kernel
theorem dX7_init_5 : decode cX7_init 5 = .ok (.bipush 7, 2) := by decide +kernel
theorem dX7_init_7 : decode cX7_init 7 = .ok (.newarray .int, 2) := by decide +kernel
theorem dX7_init_9 : decode cX7_init 9 = .ok (.putfield 9, 3) := by decide +kernel
theorem dX7_init_12 : decode cX7_init 12 = .ok (.aload_n 0, 1) := by decide +kernel
theorem dX7_init_13 : decode cX7_init 13 = .ok (.bipush 7, 2) := by decide +kernel
theorem dX7_init_15 : decode cX7_init 15 = .ok (.newarray .int, 2) := by decide +kernel
theorem dX7_init_17 : decode cX7_init 17 = .ok (.putfield 15, 3) := by decide +kernel
theorem dX7_init_20 : decode cX7_init 20 = .ok (.aload_n 0, 1) := by decide +kernel
theorem dX7_init_21 : decode cX7_init 21 = .ok (.bipush 7, 2) := by decide +kernel
theorem dX7_init_23 : decode cX7_init 23 = .ok (.newarray .int, 2) := by decide +kernel
theorem dX7_init_25 : decode cX7_init 25 = .ok (.putfield 18, 3) := by decide +kernel
theorem dX7_init_28 : decode cX7_init 28 = .ok (.aload_n 0, 1) := by decide +kernel
theorem dX7_init_29 : decode cX7_init 29 = .ok (.bipush 7, 2) := by decide +kernel
theorem dX7_init_31 : decode cX7_init 31 = .ok (.newarray .int, 2) := by decide +kernel
theorem dX7_init_33 : decode cX7_init 33 = .ok (.putfield 21, 3) := by decide +kernel
theorem dX7_init_36 : decode cX7_init 36 = .ok (.aload_n 0, 1) := by decide +kernel
theorem dX7_init_37 : decode cX7_init 37 = .ok (.bipush 7, 2) := by decide +kernel
theorem dX7_init_39 : decode cX7_init 39 = .ok (.newarray .int, 2) := by decide +kernel
theorem dX7_init_41 : decode cX7_init 41 = .ok (.putfield 24, 3) := by decide +kernel
theorem dX7_init_44 : decode cX7_init 44 = .ok (.aload_n 0, 1) := by decide +kernel
theorem dX7_init_45 : decode cX7_init 45 = .ok (.iconst 0, 1) := by decide +kernel
theorem dX7_init_46 : decode cX7_init 46 = .ok (.putfield 27, 3) := by decide +kernel
theorem dX7_init_49 : decode cX7_init 49 = .ok (.aload_n 0, 1) := by decide +kernel
theorem dX7_init_50 : decode cX7_init 50 = .ok (.iconst 0, 1) := by decide +kernel
theorem dX7_init_51 : decode cX7_init 51 = .ok (.putfield 31, 3) := by decide +kernel
theorem dX7_init_54 : decode cX7_init 54 = .ok (.aload_n 0, 1) := by decide +kernel
theorem dX7_init_55 : decode cX7_init 55 = .ok (.iconst 1, 1) := by decide +kernel
theorem dX7_init_56 : decode cX7_init 56 = .ok (.putfield 34, 3) := by decide +kernel
theorem dX7_init_59 : decode cX7_init 59 = .ok (.aload_n 0, 1) := by decide +kernel
theorem dX7_init_60 : decode cX7_init 60 = .ok (.aload_n 1, 1) := by decide +kernel
theorem dX7_init_61 : decode cX7_init 61 = .ok (.putfield 38, 3) := by decide +kernel
theorem dX7_init_64 : decode cX7_init 64 = .ok (.return_, 1) := by decide +kernel
theorem dX7_add_0 : decode cX7_add 0 = .ok (.aload_n 0, 1) := by decide +kernel
theorem dX7_add_1 : decode cX7_add 1 = .ok (.getfield 27, 3) := by decide +kernel
theorem dX7_add_4 : decode cX7_add 4 = .ok (.ifCond .lt 12, 3) := by decide +kernel
theorem dX7_add_7 : decode cX7_add 7 = .ok (.aload_n 0, 1) := by decide +kernel
theorem dX7_add_8 : decode cX7_add 8 = .ok (.getfield 27, 3) := by decide +kernel
theorem dX7_add_11 : decode cX7_add 11 = .ok (.bipush 7, 2) := by decide +kernel
theorem dX7_add_13 : decode cX7_add 13 = .ok (.if_icmp .lt 5, 3) := by decide +kernel
theorem dX7_add_16 : decode cX7_add 16 = .ok (.iconst 0, 1) := by decide +kernel
theorem dX7_add_17 : decode cX7_add 17 = .ok (.ireturn, 1) := by decide +kernel
theorem dX7_add_18 : decode cX7_add 18 = .ok (.aload_n 0, 1) := by decide +kernel
theorem dX7_add_19 : decode cX7_add 19 = .ok (.getfield 9, 3) := by decide +kernel
theorem dX7_add_22 : decode cX7_add 22 = .ok (.aload_n 0, 1) := by decide +kernel
theorem dX7_add_23 : decode cX7_add 23 = .ok (.getfield 27, 3) := by decide +kernel
theorem dX7_add_26 : decode cX7_add 26 = .ok (.iload_n 1, 1) := by decide +kernel
theorem dX7_add_27 : decode cX7_add 27 = .ok (.iastore, 1) := by decide +kernel
theorem dX7_add_28 : decode cX7_add 28 = .ok (.aload_n 0, 1) := by decide +kernel
theorem dX7_add_29 : decode cX7_add 29 = .ok (.getfield 15, 3) := by decide +kernel
theorem dX7_add_32 : decode cX7_add 32 = .ok (.aload_n 0, 1) := by decide +kernel
theorem dX7_add_33 : decode cX7_add 33 = .ok (.getfield 27, 3) := by decide +kernel
theorem dX7_add_36 : decode cX7_add 36 = .ok (.iload_n 2, 1) := by decide +kernel
theorem dX7_add_37 : decode cX7_add 37 = .ok (.iastore, 1) := by decide +kernel
theorem dX7_add_38 : decode cX7_add 38 = .ok (.aload_n 0, 1) := by decide +kernel
theorem dX7_add_39 : decode cX7_add 39 = .ok (.dup, 1) := by decide +kernel
theorem dX7_add_40 : decode cX7_add 40 = .ok (.getfield 27, 3) := by decide +kernel
theorem dX7_add_43 : decode cX7_add 43 = .ok (.iconst 1, 1) := by decide +kernel
theorem dX7_add_44 : decode cX7_add 44 = .ok (.iadd, 1) := by decide +kernel
theorem dX7_add_45 : decode cX7_add 45 = .ok (.putfield 27, 3) := by decide +kernel
theorem dX7_add_48 : decode cX7_add 48 = .ok (.aload_n 0, 1) := by decide +kernel
theorem dX7_add_49 : decode cX7_add 49 = .ok (.iconst 1, 1) := by decide +kernel
theorem dX7_add_50 : decode cX7_add 50 = .ok (.putfield 34, 3) := by decide +kernel
theorem dX7_add_53 : decode cX7_add 53 = .ok (.iconst 1, 1) := by decide +kernel
theorem dX7_add_54 : decode cX7_add 54 = .ok (.ireturn, 1) := by decide +kernel
theorem dX7_clear_0 : decode cX7_clear 0 = .ok (.aload_n 0, 1) := by decide +kernel
theorem dX7_clear_1 : decode cX7_clear 1 = .ok (.iconst 0, 1) := by decide +kernel
theorem dX7_clear_2 : decode cX7_clear 2 = .ok (.putfield 27, 3) := by decide +kernel
theorem dX7_clear_5 : decode cX7_clear 5 = .ok (.aload_n 0, 1) := by decide +kernel
theorem dX7_clear_6 : decode cX7_clear 6 = .ok (.iconst 1, 1) := by decide +kernel
theorem dX7_clear_7 : decode cX7_clear 7 = .ok (.putfield 34, 3) := by decide +kernel
theorem dX7_clear_10 : decode cX7_clear 10 = .ok (.return_, 1) := by decide +kernel
theorem dX7_firstOrderAt_0 : decode cX7_firstOrderAt 0 = .ok (.aload_n 0, 1) := by decide +kernel
theorem dX7_firstOrderAt_1 : decode cX7_firstOrderAt 1 = .ok (.getfield 31, 3) := by decide +kernel
theorem dX7_firstOrderAt_4 : decode cX7_firstOrderAt 4 = .ok (.ifCond .le 23, 3) := by decide +kernel
theorem dX7_firstOrderAt_7 : decode cX7_firstOrderAt 7 = .ok (.aload_n 0, 1) := by decide +kernel
theorem dX7_firstOrderAt_8 : decode cX7_firstOrderAt 8 = .ok (.getfield 38, 3) := by decide +kernel
theorem dX7_firstOrderAt_11 : decode cX7_firstOrderAt 11 = .ok (.iload_n 1, 1) := by decide +kernel
theorem dX7_firstOrderAt_12 : decode cX7_firstOrderAt 12 = .ok (.invokevirtual 42, 3) := by decide +kernel
theorem dX7_firstOrderAt_15 : decode cX7_firstOrderAt 15 = .ok (.ifCond .eq 12, 3) := by decide +kernel
theorem dX7_firstOrderAt_18 : decode cX7_firstOrderAt 18 = .ok (.aload_n 0, 1) := by decide +kernel
theorem dX7_firstOrderAt_19 : decode cX7_firstOrderAt 19 = .ok (.getfield 21, 3) := by decide +kernel
theorem dX7_firstOrderAt_22 : decode cX7_firstOrderAt 22 = .ok (.iload_n 1, 1) := by decide +kernel
theorem dX7_firstOrderAt_23 : decode cX7_firstOrderAt 23 = .ok (.iaload, 1) := by decide +kernel
theorem dX7_firstOrderAt_24 : decode cX7_firstOrderAt 24 = .ok (.goto 5, 3) := by decide +kernel
theorem dX7_firstOrderAt_27 : decode cX7_firstOrderAt 27 = .ok (.bipush (-4), 2) := by decide +kernel
theorem dX7_firstOrderAt_29 : decode cX7_firstOrderAt 29 = .ok (.ireturn, 1) := by decide +kernel
theorem dX7_refresh_0 : decode cX7_refresh 0 = .ok (.aload_n 0, 1) := by decide +kernel
theorem dX7_refresh_1 : decode cX7_refresh 1 = .ok (.getfield 34, 3) := by decide +kernel
theorem dX7_refresh_4 : decode cX7_refresh 4 = .ok (.ifCond .ne 4, 3) := by decide +kernel
theorem dX7_refresh_7 : decode cX7_refresh 7 = .ok (.return_, 1) := by decide +kernel
theorem dX7_refresh_8 : decode cX7_refresh 8 = .ok (.aload_n 0, 1) := by decide +kernel
theorem dX7_refresh_9 : decode cX7_refresh 9 = .ok (.iconst 0, 1) := by decide +kernel
theorem dX7_refresh_10 : decode cX7_refresh 10 = .ok (.putfield 34, 3) := by decide +kernel
theorem dX7_refresh_13 : decode cX7_refresh 13 = .ok (.aload_n 0, 1) := by decide +kernel
theorem dX7_refresh_14 : decode cX7_refresh 14 = .ok (.iconst 0, 1) := by decide +kernel
theorem dX7_refresh_15 : decode cX7_refresh 15 = .ok (.putfield 31, 3) := by decide +kernel
theorem dX7_refresh_18 : decode cX7_refresh 18 = .ok (.iconst 0, 1) := by decide +kernel
theorem dX7_refresh_19 : decode cX7_refresh 19 = .ok (.istore_n 1, 1) := by decide +kernel
theorem dX7_refresh_20 : decode cX7_refresh 20 = .ok (.iload_n 1, 1) := by decide +kernel
theorem dX7_refresh_21 : decode cX7_refresh 21 = .ok (.aload_n 0, 1) := by decide +kernel
theorem dX7_refresh_22 : decode cX7_refresh 22 = .ok (.getfield 38, 3) := by decide +kernel
theorem dX7_refresh_25 : decode cX7_refresh 25 = .ok (.getfield 48, 3) := by decide +kernel
theorem dX7_refresh_28 : decode cX7_refresh 28 = .ok (.if_icmp .ge 16, 3) := by decide +kernel
theorem dX7_refresh_31 : decode cX7_refresh 31 = .ok (.aload_n 0, 1) := by decide +kernel
theorem dX7_refresh_32 : decode cX7_refresh 32 = .ok (.getfield 18, 3) := by decide +kernel
theorem dX7_refresh_35 : decode cX7_refresh 35 = .ok (.iload_n 1, 1) := by decide +kernel
theorem dX7_refresh_36 : decode cX7_refresh 36 = .ok (.iload_n 1, 1) := by decide +kernel
theorem dX7_refresh_37 : decode cX7_refresh 37 = .ok (.iastore, 1) := by decide +kernel
theorem dX7_refresh_38 : decode cX7_refresh 38 = .ok (.iinc 1 1, 3) := by decide +kernel
theorem dX7_refresh_41 : decode cX7_refresh 41 = .ok (.goto (-21), 3) := by decide +kernel
theorem dX7_refresh_44 : decode cX7_refresh 44 = .ok (.iconst 1, 1) := by decide +kernel
theorem dX7_refresh_45 : decode cX7_refresh 45 = .ok (.istore_n 1, 1) := by decide +kernel
theorem dX7_refresh_46 : decode cX7_refresh 46 = .ok (.iconst 0, 1) := by decide +kernel
theorem dX7_refresh_47 : decode cX7_refresh 47 = .ok (.istore_n 2, 1) := by decide +kernel
theorem dX7_refresh_48 : decode cX7_refresh 48 = .ok (.iload_n 2, 1) := by decide +kernel
theorem dX7_refresh_49 : decode cX7_refresh 49 = .ok (.ldc 49, 2) := by decide +kernel
theorem dX7_refresh_51 : decode cX7_refresh 51 = .ok (.if_icmp .ge 33, 3) := by decide +kernel
theorem dX7_refresh_54 : decode cX7_refresh 54 = .ok (.iload_n 1, 1) := by decide +kernel
theorem dX7_refresh_55 : decode cX7_refresh 55 = .ok (.ifCond .eq 29, 3) := by decide +kernel
theorem dX7_refresh_58 : decode cX7_refresh 58 = .ok (.aload_n 0, 1) := by decide +kernel
theorem dX7_refresh_59 : decode cX7_refresh 59 = .ok (.invokevirtual 50, 3) := by decide +kernel
theorem dX7_refresh_62 : decode cX7_refresh 62 = .ok (.aload_n 0, 1) := by decide +kernel
theorem dX7_refresh_63 : decode cX7_refresh 63 = .ok (.invokevirtual 53, 3) := by decide +kernel
theorem dX7_refresh_66 : decode cX7_refresh 66 = .ok (.ifCond .eq 7, 3) := by decide +kernel
theorem dX7_refresh_69 : decode cX7_refresh 69 = .ok (.aload_n 0, 1) := by decide +kernel
theorem dX7_refresh_70 : decode cX7_refresh 70 = .ok (.invokevirtual 57, 3) := by decide +kernel
theorem dX7_refresh_73 : decode cX7_refresh 73 = .ok (.aload_n 0, 1) := by decide +kernel
theorem dX7_refresh_74 : decode cX7_refresh 74 = .ok (.invokevirtual 60, 3) := by decide +kernel
theorem dX7_refresh_77 : decode cX7_refresh 77 = .ok (.istore_n 1, 1) := by decide +kernel
theorem dX7_refresh_78 : decode cX7_refresh 78 = .ok (.iinc 2 1, 3) := by decide +kernel
theorem dX7_refresh_81 : decode cX7_refresh 81 = .ok (.goto (-33), 3) := by decide +kernel
theorem dX7_refresh_84 : decode cX7_refresh 84 = .ok (.return_, 1) := by decide +kernel
theorem dX7_noteOrder_0 : decode cX7_noteOrder 0 = .ok (.aload_n 0, 1) := by decide +kernel
theorem dX7_noteOrder_1 : decode cX7_noteOrder 1 = .ok (.getfield 31, 3) := by decide +kernel
theorem dX7_noteOrder_4 : decode cX7_noteOrder 4 = .ok (.ifCond .ne 34, 3) := by decide +kernel
theorem dX7_noteOrder_7 : decode cX7_noteOrder 7 = .ok (.iconst 0, 1) := by decide +kernel
theorem dX7_noteOrder_8 : decode cX7_noteOrder 8 = .ok (.istore_n 1, 1) := by decide +kernel
theorem dX7_noteOrder_9 : decode cX7_noteOrder 9 = .ok (.iload_n 1, 1) := by decide +kernel
theorem dX7_noteOrder_10 : decode cX7_noteOrder 10 = .ok (.aload_n 0, 1) := by decide +kernel
theorem dX7_noteOrder_11 : decode cX7_noteOrder 11 = .ok (.getfield 38, 3) := by decide +kernel
theorem dX7_noteOrder_14 : decode cX7_noteOrder 14 = .ok (.getfield 48, 3) := by decide +kernel
theorem dX7_noteOrder_17 : decode cX7_noteOrder 17 = .ok (.if_icmp .ge 21, 3) := by decide +kernel
theorem dX7_noteOrder_20 : decode cX7_noteOrder 20 = .ok (.aload_n 0, 1) := by decide +kernel
theorem dX7_noteOrder_21 : decode cX7_noteOrder 21 = .ok (.getfield 21, 3) := by decide +kernel
theorem dX7_noteOrder_24 : decode cX7_noteOrder 24 = .ok (.iload_n 1, 1) := by decide +kernel
theorem dX7_noteOrder_25 : decode cX7_noteOrder 25 = .ok (.aload_n 0, 1) := by decide +kernel
theorem dX7_noteOrder_26 : decode cX7_noteOrder 26 = .ok (.getfield 18, 3) := by decide +kernel
theorem dX7_noteOrder_29 : decode cX7_noteOrder 29 = .ok (.iload_n 1, 1) := by decide +kernel
theorem dX7_noteOrder_30 : decode cX7_noteOrder 30 = .ok (.iaload, 1) := by decide +kernel
theorem dX7_noteOrder_31 : decode cX7_noteOrder 31 = .ok (.iastore, 1) := by decide +kernel
theorem dX7_noteOrder_32 : decode cX7_noteOrder 32 = .ok (.iinc 1 1, 3) := by decide +kernel
theorem dX7_noteOrder_35 : decode cX7_noteOrder 35 = .ok (.goto (-26), 3) := by decide +kernel
theorem dX7_noteOrder_38 : decode cX7_noteOrder 38 = .ok (.aload_n 0, 1) := by decide +kernel
theorem dX7_noteOrder_39 : decode cX7_noteOrder 39 = .ok (.dup, 1) := by decide +kernel
theorem dX7_noteOrder_40 : decode cX7_noteOrder 40 = .ok (.getfield 31, 3) := by decide +kernel
theorem dX7_noteOrder_43 : decode cX7_noteOrder 43 = .ok (.iconst 1, 1) := by decide +kernel
theorem dX7_noteOrder_44 : decode cX7_noteOrder 44 = .ok (.iadd, 1) := by decide +kernel
theorem dX7_noteOrder_45 : decode cX7_noteOrder 45 = .ok (.putfield 31, 3) := by decide +kernel
theorem dX7_noteOrder_48 : decode cX7_noteOrder 48 = .ok (.return_, 1) := by decide +kernel
theorem dX7_isAsSeen_0 : decode cX7_isAsSeen 0 = .ok (.iconst 0, 1) := by decide +kernel
theorem dX7_isAsSeen_1 : decode cX7_isAsSeen 1 = .ok (.istore_n 1, 1) := by decide +kernel
theorem dX7_isAsSeen_2 : decode cX7_isAsSeen 2 = .ok (.iload_n 1, 1) := by decide +kernel
theorem dX7_isAsSeen_3 : decode cX7_isAsSeen 3 = .ok (.aload_n 0, 1) := by decide +kernel
theorem dX7_isAsSeen_4 : decode cX7_isAsSeen 4 = .ok (.getfield 27, 3) := by decide +kernel
theorem dX7_isAsSeen_7 : decode cX7_isAsSeen 7 = .ok (.if_icmp .ge 47, 3) := by decide +kernel
theorem dX7_isAsSeen_10 : decode cX7_isAsSeen 10 = .ok (.aload_n 0, 1) := by decide +kernel
theorem dX7_isAsSeen_11 : decode cX7_isAsSeen 11 = .ok (.getfield 38, 3) := by decide +kernel
theorem dX7_isAsSeen_14 : decode cX7_isAsSeen 14 = .ok (.aload_n 0, 1) := by decide +kernel
theorem dX7_isAsSeen_15 : decode cX7_isAsSeen 15 = .ok (.getfield 9, 3) := by decide +kernel
theorem dX7_isAsSeen_18 : decode cX7_isAsSeen 18 = .ok (.iload_n 1, 1) := by decide +kernel
theorem dX7_isAsSeen_19 : decode cX7_isAsSeen 19 = .ok (.iaload, 1) := by decide +kernel
theorem dX7_isAsSeen_20 : decode cX7_isAsSeen 20 = .ok (.invokevirtual 42, 3) := by decide +kernel
theorem dX7_isAsSeen_23 : decode cX7_isAsSeen 23 = .ok (.ifCond .eq 25, 3) := by decide +kernel
theorem dX7_isAsSeen_26 : decode cX7_isAsSeen 26 = .ok (.aload_n 0, 1) := by decide +kernel
theorem dX7_isAsSeen_27 : decode cX7_isAsSeen 27 = .ok (.getfield 24, 3) := by decide +kernel
theorem dX7_isAsSeen_30 : decode cX7_isAsSeen 30 = .ok (.aload_n 0, 1) := by decide +kernel
theorem dX7_isAsSeen_31 : decode cX7_isAsSeen 31 = .ok (.getfield 9, 3) := by decide +kernel
theorem dX7_isAsSeen_34 : decode cX7_isAsSeen 34 = .ok (.iload_n 1, 1) := by decide +kernel
theorem dX7_isAsSeen_35 : decode cX7_isAsSeen 35 = .ok (.iaload, 1) := by decide +kernel
theorem dX7_isAsSeen_36 : decode cX7_isAsSeen 36 = .ok (.iaload, 1) := by decide +kernel
theorem dX7_isAsSeen_37 : decode cX7_isAsSeen 37 = .ok (.aload_n 0, 1) := by decide +kernel
theorem dX7_isAsSeen_38 : decode cX7_isAsSeen 38 = .ok (.getfield 15, 3) := by decide +kernel
theorem dX7_isAsSeen_41 : decode cX7_isAsSeen 41 = .ok (.iload_n 1, 1) := by decide +kernel
theorem dX7_isAsSeen_42 : decode cX7_isAsSeen 42 = .ok (.iaload, 1) := by decide +kernel
theorem dX7_isAsSeen_43 : decode cX7_isAsSeen 43 = .ok (.if_icmp .eq 5, 3) := by decide +kernel
theorem dX7_isAsSeen_46 : decode cX7_isAsSeen 46 = .ok (.iconst 0, 1) := by decide +kernel
theorem dX7_isAsSeen_47 : decode cX7_isAsSeen 47 = .ok (.ireturn, 1) := by decide +kernel
theorem dX7_isAsSeen_48 : decode cX7_isAsSeen 48 = .ok (.iinc 1 1, 3) := by decide +kernel
theorem dX7_isAsSeen_51 : decode cX7_isAsSeen 51 = .ok (.goto (-49), 3) := by decide +kernel
theorem dX7_isAsSeen_54 : decode cX7_isAsSeen 54 = .ok (.iconst 1, 1) := by decide +kernel
theorem dX7_isAsSeen_55 : decode cX7_isAsSeen 55 = .ok (.ireturn, 1) := by decide +kernel
theorem dX7_comeInOrder_0 : decode cX7_comeInOrder 0 = .ok (.iconst 0, 1) := by decide +kernel
theorem dX7_comeInOrder_1 : decode cX7_comeInOrder 1 = .ok (.istore_n 1, 1) := by decide +kernel
theorem dX7_comeInOrder_2 : decode cX7_comeInOrder 2 = .ok (.iload_n 1, 1) := by decide +kernel
theorem dX7_comeInOrder_3 : decode cX7_comeInOrder 3 = .ok (.aload_n 0, 1) := by decide +kernel
theorem dX7_comeInOrder_4 : decode cX7_comeInOrder 4 = .ok (.getfield 38, 3) := by decide +kernel
theorem dX7_comeInOrder_7 : decode cX7_comeInOrder 7 = .ok (.getfield 48, 3) := by decide +kernel
theorem dX7_comeInOrder_10 : decode cX7_comeInOrder 10 = .ok (.if_icmp .ge 16, 3) := by decide +kernel
theorem dX7_comeInOrder_13 : decode cX7_comeInOrder 13 = .ok (.aload_n 0, 1) := by decide +kernel
theorem dX7_comeInOrder_14 : decode cX7_comeInOrder 14 = .ok (.getfield 24, 3) := by decide +kernel
theorem dX7_comeInOrder_17 : decode cX7_comeInOrder 17 = .ok (.iload_n 1, 1) := by decide +kernel
theorem dX7_comeInOrder_18 : decode cX7_comeInOrder 18 = .ok (.iconst 0, 1) := by decide +kernel
theorem dX7_comeInOrder_19 : decode cX7_comeInOrder 19 = .ok (.iastore, 1) := by decide +kernel
theorem dX7_comeInOrder_20 : decode cX7_comeInOrder 20 = .ok (.iinc 1 1, 3) := by decide +kernel
theorem dX7_comeInOrder_23 : decode cX7_comeInOrder 23 = .ok (.goto (-21), 3) := by decide +kernel
theorem dX7_comeInOrder_26 : decode cX7_comeInOrder 26 = .ok (.bipush (-4), 2) := by decide +kernel
theorem dX7_comeInOrder_28 : decode cX7_comeInOrder 28 = .ok (.istore_n 1, 1) := by decide +kernel
theorem dX7_comeInOrder_29 : decode cX7_comeInOrder 29 = .ok (.bipush (-4), 2) := by decide +kernel
theorem dX7_comeInOrder_31 : decode cX7_comeInOrder 31 = .ok (.istore_n 2, 1) := by decide +kernel
theorem dX7_comeInOrder_32 : decode cX7_comeInOrder 32 = .ok (.iconst 0, 1) := by decide +kernel
theorem dX7_comeInOrder_33 : decode cX7_comeInOrder 33 = .ok (.istore_n 3, 1) := by decide +kernel
theorem dX7_comeInOrder_34 : decode cX7_comeInOrder 34 = .ok (.iconst 0, 1) := by decide +kernel
theorem dX7_comeInOrder_35 : decode cX7_comeInOrder 35 = .ok (.istore 4, 2) := by decide +kernel
theorem dX7_comeInOrder_37 : decode cX7_comeInOrder 37 = .ok (.iload 4, 2) := by decide +kernel
theorem dX7_comeInOrder_39 : decode cX7_comeInOrder 39 = .ok (.aload_n 0, 1) := by decide +kernel
theorem dX7_comeInOrder_40 : decode cX7_comeInOrder 40 = .ok (.getfield 38, 3) := by decide +kernel
theorem dX7_comeInOrder_43 : decode cX7_comeInOrder 43 = .ok (.getfield 48, 3) := by decide +kernel
theorem dX7_comeInOrder_46 : decode cX7_comeInOrder 46 = .ok (.if_icmp .ge 71, 3) := by decide +kernel
theorem dX7_comeInOrder_49 : decode cX7_comeInOrder 49 = .ok (.aload_n 0, 1) := by decide +kernel
theorem dX7_comeInOrder_50 : decode cX7_comeInOrder 50 = .ok (.getfield 18, 3) := by decide +kernel
theorem dX7_comeInOrder_53 : decode cX7_comeInOrder 53 = .ok (.iload 4, 2) := by decide +kernel
theorem dX7_comeInOrder_55 : decode cX7_comeInOrder 55 = .ok (.iaload, 1) := by decide +kernel
theorem dX7_comeInOrder_56 : decode cX7_comeInOrder 56 = .ok (.istore 5, 2) := by decide +kernel
theorem dX7_comeInOrder_58 : decode cX7_comeInOrder 58 = .ok (.aload_n 0, 1) := by decide +kernel
theorem dX7_comeInOrder_59 : decode cX7_comeInOrder 59 = .ok (.getfield 38, 3) := by decide +kernel
theorem dX7_comeInOrder_62 : decode cX7_comeInOrder 62 = .ok (.iload 5, 2) := by decide +kernel
theorem dX7_comeInOrder_64 : decode cX7_comeInOrder 64 = .ok (.invokevirtual 42, 3) := by decide +kernel
theorem dX7_comeInOrder_67 : decode cX7_comeInOrder 67 = .ok (.ifCond .eq 44, 3) := by decide +kernel
theorem dX7_comeInOrder_70 : decode cX7_comeInOrder 70 = .ok (.iload_n 3, 1) := by decide +kernel
theorem dX7_comeInOrder_71 : decode cX7_comeInOrder 71 = .ok (.aload_n 0, 1) := by decide +kernel
theorem dX7_comeInOrder_72 : decode cX7_comeInOrder 72 = .ok (.getfield 38, 3) := by decide +kernel
theorem dX7_comeInOrder_75 : decode cX7_comeInOrder 75 = .ok (.getfield 63, 3) := by decide +kernel
theorem dX7_comeInOrder_78 : decode cX7_comeInOrder 78 = .ok (.iload 5, 2) := by decide +kernel
theorem dX7_comeInOrder_80 : decode cX7_comeInOrder 80 = .ok (.iaload, 1) := by decide +kernel
theorem dX7_comeInOrder_81 : decode cX7_comeInOrder 81 = .ok (.iadd, 1) := by decide +kernel
theorem dX7_comeInOrder_82 : decode cX7_comeInOrder 82 = .ok (.istore_n 3, 1) := by decide +kernel
theorem dX7_comeInOrder_83 : decode cX7_comeInOrder 83 = .ok (.aload_n 0, 1) := by decide +kernel
theorem dX7_comeInOrder_84 : decode cX7_comeInOrder 84 = .ok (.getfield 38, 3) := by decide +kernel
theorem dX7_comeInOrder_87 : decode cX7_comeInOrder 87 = .ok (.getfield 66, 3) := by decide +kernel
theorem dX7_comeInOrder_90 : decode cX7_comeInOrder 90 = .ok (.iload 5, 2) := by decide +kernel
theorem dX7_comeInOrder_92 : decode cX7_comeInOrder 92 = .ok (.iaload, 1) := by decide +kernel
theorem dX7_comeInOrder_93 : decode cX7_comeInOrder 93 = .ok (.iconst 2, 1) := by decide +kernel
theorem dX7_comeInOrder_94 : decode cX7_comeInOrder 94 = .ok (.if_icmp .eq 17, 3) := by decide +kernel
theorem dX7_comeInOrder_97 : decode cX7_comeInOrder 97 = .ok (.aload_n 0, 1) := by decide +kernel
theorem dX7_comeInOrder_98 : decode cX7_comeInOrder 98 = .ok (.iload_n 1, 1) := by decide +kernel
theorem dX7_comeInOrder_99 : decode cX7_comeInOrder 99 = .ok (.iload_n 2, 1) := by decide +kernel
theorem dX7_comeInOrder_100 : decode cX7_comeInOrder 100 = .ok (.iload_n 3, 1) := by decide +kernel
theorem dX7_comeInOrder_101 : decode cX7_comeInOrder 101 = .ok (.invokevirtual 69, 3) := by decide +kernel
theorem dX7_comeInOrder_104 : decode cX7_comeInOrder 104 = .ok (.iload_n 1, 1) := by decide +kernel
theorem dX7_comeInOrder_105 : decode cX7_comeInOrder 105 = .ok (.istore_n 2, 1) := by decide +kernel
theorem dX7_comeInOrder_106 : decode cX7_comeInOrder 106 = .ok (.iload 5, 2) := by decide +kernel
theorem dX7_comeInOrder_108 : decode cX7_comeInOrder 108 = .ok (.istore_n 1, 1) := by decide +kernel
theorem dX7_comeInOrder_109 : decode cX7_comeInOrder 109 = .ok (.iconst 0, 1) := by decide +kernel
theorem dX7_comeInOrder_110 : decode cX7_comeInOrder 110 = .ok (.istore_n 3, 1) := by decide +kernel
theorem dX7_comeInOrder_111 : decode cX7_comeInOrder 111 = .ok (.iinc 4 1, 3) := by decide +kernel
theorem dX7_comeInOrder_114 : decode cX7_comeInOrder 114 = .ok (.goto (-77), 3) := by decide +kernel
theorem dX7_comeInOrder_117 : decode cX7_comeInOrder 117 = .ok (.return_, 1) := by decide +kernel
theorem dX7_payOut_0 : decode cX7_payOut 0 = .ok (.aload_n 0, 1) := by decide +kernel
theorem dX7_payOut_1 : decode cX7_payOut 1 = .ok (.getfield 38, 3) := by decide +kernel
theorem dX7_payOut_4 : decode cX7_payOut 4 = .ok (.iload_n 1, 1) := by decide +kernel
theorem dX7_payOut_5 : decode cX7_payOut 5 = .ok (.invokevirtual 42, 3) := by decide +kernel
theorem dX7_payOut_8 : decode cX7_payOut 8 = .ok (.ifCond .ne 4, 3) := by decide +kernel
theorem dX7_payOut_11 : decode cX7_payOut 11 = .ok (.return_, 1) := by decide +kernel
theorem dX7_payOut_12 : decode cX7_payOut 12 = .ok (.aload_n 0, 1) := by decide +kernel
theorem dX7_payOut_13 : decode cX7_payOut 13 = .ok (.getfield 24, 3) := by decide +kernel
theorem dX7_payOut_16 : decode cX7_payOut 16 = .ok (.iload_n 1, 1) := by decide +kernel
theorem dX7_payOut_17 : decode cX7_payOut 17 = .ok (.dup2, 1) := by decide +kernel
theorem dX7_payOut_18 : decode cX7_payOut 18 = .ok (.iaload, 1) := by decide +kernel
theorem dX7_payOut_19 : decode cX7_payOut 19 = .ok (.iload_n 3, 1) := by decide +kernel
theorem dX7_payOut_20 : decode cX7_payOut 20 = .ok (.iadd, 1) := by decide +kernel
theorem dX7_payOut_21 : decode cX7_payOut 21 = .ok (.iastore, 1) := by decide +kernel
theorem dX7_payOut_22 : decode cX7_payOut 22 = .ok (.aload_n 0, 1) := by decide +kernel
theorem dX7_payOut_23 : decode cX7_payOut 23 = .ok (.getfield 38, 3) := by decide +kernel
theorem dX7_payOut_26 : decode cX7_payOut 26 = .ok (.iload_n 2, 1) := by decide +kernel
theorem dX7_payOut_27 : decode cX7_payOut 27 = .ok (.invokevirtual 42, 3) := by decide +kernel
theorem dX7_payOut_30 : decode cX7_payOut 30 = .ok (.ifCond .eq 35, 3) := by decide +kernel
theorem dX7_payOut_33 : decode cX7_payOut 33 = .ok (.aload_n 0, 1) := by decide +kernel
theorem dX7_payOut_34 : decode cX7_payOut 34 = .ok (.getfield 24, 3) := by decide +kernel
theorem dX7_payOut_37 : decode cX7_payOut 37 = .ok (.iload_n 1, 1) := by decide +kernel
theorem dX7_payOut_38 : decode cX7_payOut 38 = .ok (.iaload, 1) := by decide +kernel
theorem dX7_payOut_39 : decode cX7_payOut 39 = .ok (.iconst 2, 1) := by decide +kernel
theorem dX7_payOut_40 : decode cX7_payOut 40 = .ok (.idiv, 1) := by decide +kernel
theorem dX7_payOut_41 : decode cX7_payOut 41 = .ok (.istore 4, 2) := by decide +kernel
theorem dX7_payOut_43 : decode cX7_payOut 43 = .ok (.aload_n 0, 1) := by decide +kernel
theorem dX7_payOut_44 : decode cX7_payOut 44 = .ok (.getfield 24, 3) := by decide +kernel
theorem dX7_payOut_47 : decode cX7_payOut 47 = .ok (.iload_n 1, 1) := by decide +kernel
theorem dX7_payOut_48 : decode cX7_payOut 48 = .ok (.dup2, 1) := by decide +kernel
theorem dX7_payOut_49 : decode cX7_payOut 49 = .ok (.iaload, 1) := by decide +kernel
theorem dX7_payOut_50 : decode cX7_payOut 50 = .ok (.iload 4, 2) := by decide +kernel
theorem dX7_payOut_52 : decode cX7_payOut 52 = .ok (.isub, 1) := by decide +kernel
theorem dX7_payOut_53 : decode cX7_payOut 53 = .ok (.iastore, 1) := by decide +kernel
theorem dX7_payOut_54 : decode cX7_payOut 54 = .ok (.aload_n 0, 1) := by decide +kernel
theorem dX7_payOut_55 : decode cX7_payOut 55 = .ok (.getfield 24, 3) := by decide +kernel
theorem dX7_payOut_58 : decode cX7_payOut 58 = .ok (.iload_n 2, 1) := by decide +kernel
theorem dX7_payOut_59 : decode cX7_payOut 59 = .ok (.dup2, 1) := by decide +kernel
theorem dX7_payOut_60 : decode cX7_payOut 60 = .ok (.iaload, 1) := by decide +kernel
theorem dX7_payOut_61 : decode cX7_payOut 61 = .ok (.iload 4, 2) := by decide +kernel
theorem dX7_payOut_63 : decode cX7_payOut 63 = .ok (.iadd, 1) := by decide +kernel
theorem dX7_payOut_64 : decode cX7_payOut 64 = .ok (.iastore, 1) := by decide +kernel
theorem dX7_payOut_65 : decode cX7_payOut 65 = .ok (.return_, 1) := by decide +kernel
theorem dX7_nextOrder_0 : decode cX7_nextOrder 0 = .ok (.aload_n 0, 1) := by decide +kernel
theorem dX7_nextOrder_1 : decode cX7_nextOrder 1 = .ok (.getfield 38, 3) := by decide +kernel
theorem dX7_nextOrder_4 : decode cX7_nextOrder 4 = .ok (.getfield 48, 3) := by decide +kernel
theorem dX7_nextOrder_7 : decode cX7_nextOrder 7 = .ok (.iconst 2, 1) := by decide +kernel
theorem dX7_nextOrder_8 : decode cX7_nextOrder 8 = .ok (.isub, 1) := by decide +kernel
theorem dX7_nextOrder_9 : decode cX7_nextOrder 9 = .ok (.istore_n 1, 1) := by decide +kernel
theorem dX7_nextOrder_10 : decode cX7_nextOrder 10 = .ok (.iload_n 1, 1) := by decide +kernel
theorem dX7_nextOrder_11 : decode cX7_nextOrder 11 = .ok (.ifCond .lt 26, 3) := by decide +kernel
theorem dX7_nextOrder_14 : decode cX7_nextOrder 14 = .ok (.aload_n 0, 1) := by decide +kernel
theorem dX7_nextOrder_15 : decode cX7_nextOrder 15 = .ok (.getfield 18, 3) := by decide +kernel
theorem dX7_nextOrder_18 : decode cX7_nextOrder 18 = .ok (.iload_n 1, 1) := by decide +kernel
theorem dX7_nextOrder_19 : decode cX7_nextOrder 19 = .ok (.iaload, 1) := by decide +kernel
theorem dX7_nextOrder_20 : decode cX7_nextOrder 20 = .ok (.aload_n 0, 1) := by decide +kernel
theorem dX7_nextOrder_21 : decode cX7_nextOrder 21 = .ok (.getfield 18, 3) := by decide +kernel
theorem dX7_nextOrder_24 : decode cX7_nextOrder 24 = .ok (.iload_n 1, 1) := by decide +kernel
theorem dX7_nextOrder_25 : decode cX7_nextOrder 25 = .ok (.iconst 1, 1) := by decide +kernel
theorem dX7_nextOrder_26 : decode cX7_nextOrder 26 = .ok (.iadd, 1) := by decide +kernel
theorem dX7_nextOrder_27 : decode cX7_nextOrder 27 = .ok (.iaload, 1) := by decide +kernel
theorem dX7_nextOrder_28 : decode cX7_nextOrder 28 = .ok (.if_icmp .le 9, 3) := by decide +kernel
theorem dX7_nextOrder_31 : decode cX7_nextOrder 31 = .ok (.iinc 1 (-1), 3) := by decide +kernel
theorem dX7_nextOrder_34 : decode cX7_nextOrder 34 = .ok (.goto (-24), 3) := by decide +kernel
theorem dX7_nextOrder_37 : decode cX7_nextOrder 37 = .ok (.iload_n 1, 1) := by decide +kernel
theorem dX7_nextOrder_38 : decode cX7_nextOrder 38 = .ok (.ifCond .ge 5, 3) := by decide +kernel
theorem dX7_nextOrder_41 : decode cX7_nextOrder 41 = .ok (.iconst 0, 1) := by decide +kernel
theorem dX7_nextOrder_42 : decode cX7_nextOrder 42 = .ok (.ireturn, 1) := by decide +kernel
theorem dX7_nextOrder_43 : decode cX7_nextOrder 43 = .ok (.aload_n 0, 1) := by decide +kernel
theorem dX7_nextOrder_44 : decode cX7_nextOrder 44 = .ok (.getfield 38, 3) := by decide +kernel
theorem dX7_nextOrder_47 : decode cX7_nextOrder 47 = .ok (.getfield 48, 3) := by decide +kernel
theorem dX7_nextOrder_50 : decode cX7_nextOrder 50 = .ok (.iconst 1, 1) := by decide +kernel
theorem dX7_nextOrder_51 : decode cX7_nextOrder 51 = .ok (.isub, 1) := by decide +kernel
theorem dX7_nextOrder_52 : decode cX7_nextOrder 52 = .ok (.istore_n 2, 1) := by decide +kernel
theorem dX7_nextOrder_53 : decode cX7_nextOrder 53 = .ok (.iload_n 2, 1) := by decide +kernel
theorem dX7_nextOrder_54 : decode cX7_nextOrder 54 = .ok (.iload_n 1, 1) := by decide +kernel
theorem dX7_nextOrder_55 : decode cX7_nextOrder 55 = .ok (.if_icmp .le 24, 3) := by decide +kernel
theorem dX7_nextOrder_58 : decode cX7_nextOrder 58 = .ok (.aload_n 0, 1) := by decide +kernel
theorem dX7_nextOrder_59 : decode cX7_nextOrder 59 = .ok (.getfield 18, 3) := by decide +kernel
theorem dX7_nextOrder_62 : decode cX7_nextOrder 62 = .ok (.iload_n 2, 1) := by decide +kernel
theorem dX7_nextOrder_63 : decode cX7_nextOrder 63 = .ok (.iaload, 1) := by decide +kernel
theorem dX7_nextOrder_64 : decode cX7_nextOrder 64 = .ok (.aload_n 0, 1) := by decide +kernel
theorem dX7_nextOrder_65 : decode cX7_nextOrder 65 = .ok (.getfield 18, 3) := by decide +kernel
theorem dX7_nextOrder_68 : decode cX7_nextOrder 68 = .ok (.iload_n 1, 1) := by decide +kernel
theorem dX7_nextOrder_69 : decode cX7_nextOrder 69 = .ok (.iaload, 1) := by decide +kernel
theorem dX7_nextOrder_70 : decode cX7_nextOrder 70 = .ok (.if_icmp .ge 9, 3) := by decide +kernel
theorem dX7_nextOrder_73 : decode cX7_nextOrder 73 = .ok (.iinc 2 (-1), 3) := by decide +kernel
theorem dX7_nextOrder_76 : decode cX7_nextOrder 76 = .ok (.goto (-23), 3) := by decide +kernel
theorem dX7_nextOrder_79 : decode cX7_nextOrder 79 = .ok (.aload_n 0, 1) := by decide +kernel
theorem dX7_nextOrder_80 : decode cX7_nextOrder 80 = .ok (.iload_n 1, 1) := by decide +kernel
theorem dX7_nextOrder_81 : decode cX7_nextOrder 81 = .ok (.iload_n 2, 1) := by decide +kernel
theorem dX7_nextOrder_82 : decode cX7_nextOrder 82 = .ok (.invokevirtual 73, 3) := by decide +kernel
theorem dX7_nextOrder_85 : decode cX7_nextOrder 85 = .ok (.iload_n 1, 1) := by decide +kernel
theorem dX7_nextOrder_86 : decode cX7_nextOrder 86 = .ok (.iconst 1, 1) := by decide +kernel
theorem dX7_nextOrder_87 : decode cX7_nextOrder 87 = .ok (.iadd, 1) := by decide +kernel
theorem dX7_nextOrder_88 : decode cX7_nextOrder 88 = .ok (.istore_n 3, 1) := by decide +kernel
theorem dX7_nextOrder_89 : decode cX7_nextOrder 89 = .ok (.aload_n 0, 1) := by decide +kernel
theorem dX7_nextOrder_90 : decode cX7_nextOrder 90 = .ok (.getfield 38, 3) := by decide +kernel
theorem dX7_nextOrder_93 : decode cX7_nextOrder 93 = .ok (.getfield 48, 3) := by decide +kernel
theorem dX7_nextOrder_96 : decode cX7_nextOrder 96 = .ok (.iconst 1, 1) := by decide +kernel
theorem dX7_nextOrder_97 : decode cX7_nextOrder 97 = .ok (.isub, 1) := by decide +kernel
theorem dX7_nextOrder_98 : decode cX7_nextOrder 98 = .ok (.istore 4, 2) := by decide +kernel
theorem dX7_nextOrder_100 : decode cX7_nextOrder 100 = .ok (.iload_n 3, 1) := by decide +kernel
theorem dX7_nextOrder_101 : decode cX7_nextOrder 101 = .ok (.iload 4, 2) := by decide +kernel
theorem dX7_nextOrder_103 : decode cX7_nextOrder 103 = .ok (.if_icmp .ge 19, 3) := by decide +kernel
theorem dX7_nextOrder_106 : decode cX7_nextOrder 106 = .ok (.aload_n 0, 1) := by decide +kernel
theorem dX7_nextOrder_107 : decode cX7_nextOrder 107 = .ok (.iload_n 3, 1) := by decide +kernel
theorem dX7_nextOrder_108 : decode cX7_nextOrder 108 = .ok (.iload 4, 2) := by decide +kernel
theorem dX7_nextOrder_110 : decode cX7_nextOrder 110 = .ok (.invokevirtual 73, 3) := by decide +kernel
theorem dX7_nextOrder_113 : decode cX7_nextOrder 113 = .ok (.iinc 3 1, 3) := by decide +kernel
theorem dX7_nextOrder_116 : decode cX7_nextOrder 116 = .ok (.iinc 4 (-1), 3) := by decide +kernel
theorem dX7_nextOrder_119 : decode cX7_nextOrder 119 = .ok (.goto (-19), 3) := by decide +kernel
theorem dX7_nextOrder_122 : decode cX7_nextOrder 122 = .ok (.iconst 1, 1) := by decide +kernel
theorem dX7_nextOrder_123 : decode cX7_nextOrder 123 = .ok (.ireturn, 1) := by decide +kernel
theorem dX7_swap_0 : decode cX7_swap 0 = .ok (.aload_n 0, 1) := by decide +kernel
theorem dX7_swap_1 : decode cX7_swap 1 = .ok (.getfield 18, 3) := by decide +kernel
theorem dX7_swap_4 : decode cX7_swap 4 = .ok (.iload_n 1, 1) := by decide +kernel
theorem dX7_swap_5 : decode cX7_swap 5 = .ok (.iaload, 1) := by decide +kernel
theorem dX7_swap_6 : decode cX7_swap 6 = .ok (.istore_n 3, 1) := by decide +kernel
theorem dX7_swap_7 : decode cX7_swap 7 = .ok (.aload_n 0, 1) := by decide +kernel
theorem dX7_swap_8 : decode cX7_swap 8 = .ok (.getfield 18, 3) := by decide +kernel
theorem dX7_swap_11 : decode cX7_swap 11 = .ok (.iload_n 1, 1) := by decide +kernel
theorem dX7_swap_12 : decode cX7_swap 12 = .ok (.aload_n 0, 1) := by decide +kernel
theorem dX7_swap_13 : decode cX7_swap 13 = .ok (.getfield 18, 3) := by decide +kernel
theorem dX7_swap_16 : decode cX7_swap 16 = .ok (.iload_n 2, 1) := by decide +kernel
theorem dX7_swap_17 : decode cX7_swap 17 = .ok (.iaload, 1) := by decide +kernel
theorem dX7_swap_18 : decode cX7_swap 18 = .ok (.iastore, 1) := by decide +kernel
theorem dX7_swap_19 : decode cX7_swap 19 = .ok (.aload_n 0, 1) := by decide +kernel
theorem dX7_swap_20 : decode cX7_swap 20 = .ok (.getfield 18, 3) := by decide +kernel
theorem dX7_swap_23 : decode cX7_swap 23 = .ok (.iload_n 2, 1) := by decide +kernel
theorem dX7_swap_24 : decode cX7_swap 24 = .ok (.iload_n 3, 1) := by decide +kernel
theorem dX7_swap_25 : decode cX7_swap 25 = .ok (.iastore, 1) := by decide +kernel
theorem dX7_swap_26 : decode cX7_swap 26 = .ok (.return_, 1) := by decide +kernel
theorem dX8_init_0 : decode cX8_init 0 = .ok (.aload_n 0, 1) := by decide +kernel
theorem dX8_init_1 : decode cX8_init 1 = .ok (.invokespecial 1, 3) := by decide +kernel
theorem dX8_init_4 : decode cX8_init 4 = .ok (.aload_n 0, 1) := by decide +kernel
theorem dX8_init_5 : decode cX8_init 5 = .ok (.new 7, 3) := by decide +kernel
theorem dX8_init_8 : decode cX8_init 8 = .ok (.dup, 1) := by decide +kernel
theorem dX8_init_9 : decode cX8_init 9 = .ok (.invokespecial 9, 3) := by decide +kernel
theorem dX8_init_12 : decode cX8_init 12 = .ok (.putfield 10, 3) := by decide +kernel
theorem dX8_init_15 : decode cX8_init 15 = .ok (.aload_n 0, 1) := by decide +kernel
theorem dX8_init_16 : decode cX8_init 16 = .ok (.new 16, 3) := by decide +kernel
theorem dX8_init_19 : decode cX8_init 19 = .ok (.dup, 1) := by decide +kernel
theorem dX8_init_20 : decode cX8_init 20 = .ok (.invokespecial 18, 3) := by decide +kernel
theorem dX8_init_23 : decode cX8_init 23 = .ok (.putfield 19, 3) := by decide +kernel
theorem dX8_init_26 : decode cX8_init 26 = .ok (.aload_n 0, 1) := by decide +kernel
theorem dX8_init_27 : decode cX8_init 27 = .ok (.new 16, 3) := by decide +kernel
theorem dX8_init_30 : decode cX8_init 30 = .ok (.dup, 1) := by decide +kernel
theorem dX8_init_31 : decode cX8_init 31 = .ok (.invokespecial 18, 3) := by decide +kernel
theorem dX8_init_34 : decode cX8_init 34 = .ok (.putfield 23, 3) := by decide +kernel
theorem dX8_init_37 : decode cX8_init 37 = .ok (.aload_n 0, 1) := by decide +kernel
theorem dX8_init_38 : decode cX8_init 38 = .ok (.new 26, 3) := by decide +kernel
theorem dX8_init_41 : decode cX8_init 41 = .ok (.dup, 1) := by decide +kernel
theorem dX8_init_42 : decode cX8_init 42 = .ok (.aload_n 0, 1) := by decide +kernel
theorem dX8_init_43 : decode cX8_init 43 = .ok (.getfield 19, 3) := by decide +kernel
theorem dX8_init_46 : decode cX8_init 46 = .ok (.invokespecial 28, 3) := by decide +kernel
theorem dX8_init_49 : decode cX8_init 49 = .ok (.putfield 31, 3) := by decide +kernel
theorem dX8_init_52 : decode cX8_init 52 = .ok (.aload_n 0, 1) := by decide +kernel
theorem dX8_init_53 : decode cX8_init 53 = .ok (.new 26, 3) := by decide +kernel
theorem dX8_init_56 : decode cX8_init 56 = .ok (.dup, 1) := by decide +kernel
theorem dX8_init_57 : decode cX8_init 57 = .ok (.aload_n 0, 1) := by decide +kernel
theorem dX8_init_58 : decode cX8_init 58 = .ok (.getfield 19, 3) := by decide +kernel
theorem dX8_init_61 : decode cX8_init 61 = .ok (.invokespecial 28, 3) := by decide +kernel
theorem dX8_init_64 : decode cX8_init 64 = .ok (.putfield 35, 3) := by decide +kernel
theorem dX8_init_67 : decode cX8_init 67 = .ok (.aload_n 0, 1) := by decide +kernel
theorem dX8_init_68 : decode cX8_init 68 = .ok (.new 38, 3) := by decide +kernel
theorem dX8_init_71 : decode cX8_init 71 = .ok (.dup, 1) := by decide +kernel
theorem dX8_init_72 : decode cX8_init 72 = .ok (.aload_n 0, 1) := by decide +kernel
theorem dX8_init_73 : decode cX8_init 73 = .ok (.getfield 19, 3) := by decide +kernel
theorem dX8_init_76 : decode cX8_init 76 = .ok (.invokespecial 40, 3) := by decide +kernel
theorem dX8_init_79 : decode cX8_init 79 = .ok (.putfield 41, 3) := by decide +kernel
theorem dX8_init_82 : decode cX8_init 82 = .ok (.aload_n 0, 1) := by decide +kernel
theorem dX8_init_83 : decode cX8_init 83 = .ok (.new 45, 3) := by decide +kernel
theorem dX8_init_86 : decode cX8_init 86 = .ok (.dup, 1) := by decide +kernel
theorem dX8_init_87 : decode cX8_init 87 = .ok (.aload_n 0, 1) := by decide +kernel
theorem dX8_init_88 : decode cX8_init 88 = .ok (.getfield 19, 3) := by decide +kernel
theorem dX8_init_91 : decode cX8_init 91 = .ok (.bipush 8, 2) := by decide +kernel
theorem dX8_init_93 : decode cX8_init 93 = .ok (.invokespecial 47, 3) := by decide +kernel
theorem dX8_init_96 : decode cX8_init 96 = .ok (.putfield 50, 3) := by decide +kernel
theorem dX8_init_99 : decode cX8_init 99 = .ok (.aload_n 0, 1) := by decide +kernel
theorem dX8_init_100 : decode cX8_init 100 = .ok (.new 45, 3) := by decide +kernel
theorem dX8_init_103 : decode cX8_init 103 = .ok (.dup, 1) := by decide +kernel
theorem dX8_init_104 : decode cX8_init 104 = .ok (.aload_n 0, 1) := by decide +kernel
theorem dX8_init_105 : decode cX8_init 105 = .ok (.getfield 19, 3) := by decide +kernel
theorem dX8_init_108 : decode cX8_init 108 = .ok (.iconst 2, 1) := by decide +kernel
theorem dX8_init_109 : decode cX8_init 109 = .ok (.invokespecial 47, 3) := by decide +kernel
theorem dX8_init_112 : decode cX8_init 112 = .ok (.putfield 54, 3) := by decide +kernel
theorem dX8_init_115 : decode cX8_init 115 = .ok (.aload_n 0, 1) := by decide +kernel
theorem dX8_init_116 : decode cX8_init 116 = .ok (.new 57, 3) := by decide +kernel
theorem dX8_init_119 : decode cX8_init 119 = .ok (.dup, 1) := by decide +kernel
theorem dX8_init_120 : decode cX8_init 120 = .ok (.aload_n 0, 1) := by decide +kernel
theorem dX8_init_121 : decode cX8_init 121 = .ok (.getfield 19, 3) := by decide +kernel
theorem dX8_init_124 : decode cX8_init 124 = .ok (.invokespecial 59, 3) := by decide +kernel
theorem dX8_init_127 : decode cX8_init 127 = .ok (.putfield 60, 3) := by decide +kernel
theorem dX8_init_130 : decode cX8_init 130 = .ok (.aload_n 0, 1) := by decide +kernel
theorem dX8_init_131 : decode cX8_init 131 = .ok (.new 64, 3) := by decide +kernel
theorem dX8_init_134 : decode cX8_init 134 = .ok (.dup, 1) := by decide +kernel
theorem dX8_init_135 : decode cX8_init 135 = .ok (.aload_n 0, 1) := by decide +kernel
theorem dX8_init_136 : decode cX8_init 136 = .ok (.getfield 19, 3) := by decide +kernel
theorem dX8_init_139 : decode cX8_init 139 = .ok (.invokespecial 66, 3) := by decide +kernel
theorem dX8_init_142 : decode cX8_init 142 = .ok (.putfield 67, 3) := by decide +kernel
theorem dX8_init_145 : decode cX8_init 145 = .ok (.aload_n 0, 1) := by decide +kernel
theorem dX8_init_146 : decode cX8_init 146 = .ok (.new 71, 3) := by decide +kernel
theorem dX8_init_149 : decode cX8_init 149 = .ok (.dup, 1) := by decide +kernel
theorem dX8_init_150 : decode cX8_init 150 = .ok (.aload_n 0, 1) := by decide +kernel
theorem dX8_init_151 : decode cX8_init 151 = .ok (.getfield 19, 3) := by decide +kernel
theorem dX8_init_154 : decode cX8_init 154 = .ok (.invokespecial 73, 3) := by decide +kernel
theorem dX8_init_157 : decode cX8_init 157 = .ok (.putfield 74, 3) := by decide +kernel
theorem dX8_init_160 : decode cX8_init 160 = .ok (.iconst 0, 1) := by decide +kernel
theorem dX8_init_161 : decode cX8_init 161 = .ok (.istore_n 1, 1) := by decide +kernel
theorem dX8_init_162 : decode cX8_init 162 = .ok (.iload_n 1, 1) := by decide +kernel
theorem dX8_init_163 : decode cX8_init 163 = .ok (.ldc 78, 2) := by decide +kernel
theorem dX8_init_165 : decode cX8_init 165 = .ok (.invokevirtual 80, 3) := by decide +kernel
theorem dX8_init_168 : decode cX8_init 168 = .ok (.if_icmp .ge 23, 3) := by decide +kernel
theorem dX8_init_171 : decode cX8_init 171 = .ok (.aload_n 0, 1) := by decide +kernel
theorem dX8_init_172 : decode cX8_init 172 = .ok (.getfield 10, 3) := by decide +kernel
theorem dX8_init_175 : decode cX8_init 175 = .ok (.ldc 78, 2) := by decide +kernel
theorem dX8_init_177 : decode cX8_init 177 = .ok (.iload_n 1, 1) := by decide +kernel
theorem dX8_init_178 : decode cX8_init 178 = .ok (.invokevirtual 86, 3) := by decide +kernel
theorem dX8_init_181 : decode cX8_init 181 = .ok (.invokevirtual 90, 3) := by decide +kernel
theorem dX8_init_184 : decode cX8_init 184 = .ok (.pop, 1) := by decide +kernel
theorem dX8_init_185 : decode cX8_init 185 = .ok (.iinc 1 1, 3) := by decide +kernel
theorem dX8_init_188 : decode cX8_init 188 = .ok (.goto (-26), 3) := by decide +kernel
theorem dX8_init_191 : decode cX8_init 191 = .ok (.aload_n 0, 1) := by decide +kernel
theorem dX8_init_192 : decode cX8_init 192 = .ok (.invokevirtual 94, 3) := by decide +kernel
theorem dX8_init_195 : decode cX8_init 195 = .ok (.pop, 1) := by decide +kernel
theorem dX8_init_196 : decode cX8_init 196 = .ok (.aload_n 0, 1) := by decide +kernel
theorem dX8_init_197 : decode cX8_init 197 = .ok (.getfield 10, 3) := by decide +kernel
theorem dX8_init_200 : decode cX8_init 200 = .ok (.invokevirtual 98, 3) := by decide +kernel
theorem dX8_init_203 : decode cX8_init 203 = .ok (.return_, 1) := by decide +kernel
theorem dX8_write_0 : decode cX8_write 0 = .ok (.iload_n 1, 1) := by decide +kernel
theorem dX8_write_1 : decode cX8_write 1 = .ok (.bipush 32, 2) := by decide +kernel
theorem dX8_write_3 : decode cX8_write 3 = .ok (.if_icmp .lt 9, 3) := by decide +kernel
theorem dX8_write_6 : decode cX8_write 6 = .ok (.iload_n 1, 1) := by decide +kernel
theorem dX8_write_7 : decode cX8_write 7 = .ok (.bipush 126, 2) := by decide +kernel
theorem dX8_write_9 : decode cX8_write 9 = .ok (.if_icmp .le 5, 3) := by decide +kernel
theorem dX8_write_12 : decode cX8_write 12 = .ok (.iconst (-1), 1) := by decide +kernel
theorem dX8_write_13 : decode cX8_write 13 = .ok (.ireturn, 1) := by decide +kernel
theorem dX8_write_14 : decode cX8_write 14 = .ok (.aload_n 0, 1) := by decide +kernel
theorem dX8_write_15 : decode cX8_write 15 = .ok (.getfield 10, 3) := by decide +kernel
theorem dX8_write_18 : decode cX8_write 18 = .ok (.iload_n 1, 1) := by decide +kernel
theorem dX8_write_19 : decode cX8_write 19 = .ok (.invokevirtual 90, 3) := by decide +kernel
theorem dX8_write_22 : decode cX8_write 22 = .ok (.ifCond .eq 13, 3) := by decide +kernel
theorem dX8_write_25 : decode cX8_write 25 = .ok (.aload_n 0, 1) := by decide +kernel
theorem dX8_write_26 : decode cX8_write 26 = .ok (.getfield 10, 3) := by decide +kernel
theorem dX8_write_29 : decode cX8_write 29 = .ok (.getfield 101, 3) := by decide +kernel
theorem dX8_write_32 : decode cX8_write 32 = .ok (.goto 5, 3) := by decide +kernel
theorem dX8_write_35 : decode cX8_write 35 = .ok (.bipush (-3), 2) := by decide +kernel
theorem dX8_write_37 : decode cX8_write 37 = .ok (.ireturn, 1) := by decide +kernel
theorem dX8_wipe_0 : decode cX8_wipe 0 = .ok (.aload_n 0, 1) := by decide +kernel
theorem dX8_wipe_1 : decode cX8_wipe 1 = .ok (.getfield 10, 3) := by decide +kernel
theorem dX8_wipe_4 : decode cX8_wipe 4 = .ok (.getfield 101, 3) := by decide +kernel
theorem dX8_wipe_7 : decode cX8_wipe 7 = .ok (.istore_n 1, 1) := by decide +kernel
theorem dX8_wipe_8 : decode cX8_wipe 8 = .ok (.aload_n 0, 1) := by decide +kernel
theorem dX8_wipe_9 : decode cX8_wipe 9 = .ok (.getfield 10, 3) := by decide +kernel
theorem dX8_wipe_12 : decode cX8_wipe 12 = .ok (.invokevirtual 98, 3) := by decide +kernel
theorem dX8_wipe_15 : decode cX8_wipe 15 = .ok (.iload_n 1, 1) := by decide +kernel
theorem dX8_wipe_16 : decode cX8_wipe 16 = .ok (.ireturn, 1) := by decide +kernel
theorem dX8_fault_0 : decode cX8_fault 0 = .ok (.aload_n 0, 1) := by decide +kernel
theorem dX8_fault_1 : decode cX8_fault 1 = .ok (.getfield 10, 3) := by decide +kernel
theorem dX8_fault_4 : decode cX8_fault 4 = .ok (.aload_n 0, 1) := by decide +kernel
theorem dX8_fault_5 : decode cX8_fault 5 = .ok (.getfield 23, 3) := by decide +kernel
theorem dX8_fault_8 : decode cX8_fault 8 = .ok (.invokevirtual 104, 3) := by decide +kernel
theorem dX8_fault_11 : decode cX8_fault 11 = .ok (.ireturn, 1) := by decide +kernel
theorem dX8_lay_0 : decode cX8_lay 0 = .ok (.aload_n 0, 1) := by decide +kernel
theorem dX8_lay_1 : decode cX8_lay 1 = .ok (.invokevirtual 94, 3) := by decide +kernel
theorem dX8_lay_4 : decode cX8_lay 4 = .ok (.ifCond .eq 13, 3) := by decide +kernel
theorem dX8_lay_7 : decode cX8_lay 7 = .ok (.aload_n 0, 1) := by decide +kernel
theorem dX8_lay_8 : decode cX8_lay 8 = .ok (.getfield 19, 3) := by decide +kernel
theorem dX8_lay_11 : decode cX8_lay 11 = .ok (.getfield 108, 3) := by decide +kernel
theorem dX8_lay_14 : decode cX8_lay 14 = .ok (.goto 5, 3) := by decide +kernel
theorem dX8_lay_17 : decode cX8_lay 17 = .ok (.bipush (-2), 2) := by decide +kernel
theorem dX8_lay_19 : decode cX8_lay 19 = .ok (.ireturn, 1) := by decide +kernel
theorem dX8_guest_0 : decode cX8_guest 0 = .ok (.aload_n 0, 1) := by decide +kernel
theorem dX8_guest_1 : decode cX8_guest 1 = .ok (.getfield 19, 3) := by decide +kernel
theorem dX8_guest_4 : decode cX8_guest 4 = .ok (.iload_n 1, 1) := by decide +kernel
theorem dX8_guest_5 : decode cX8_guest 5 = .ok (.invokevirtual 111, 3) := by decide +kernel
theorem dX8_guest_8 : decode cX8_guest 8 = .ok (.ifCond .ne 5, 3) := by decide +kernel
theorem dX8_guest_11 : decode cX8_guest 11 = .ok (.iconst (-1), 1) := by decide +kernel
theorem dX8_guest_12 : decode cX8_guest 12 = .ok (.ireturn, 1) := by decide +kernel
theorem dX8_guest_13 : decode cX8_guest 13 = .ok (.iload_n 2, 1) := by decide +kernel
theorem dX8_guest_14 : decode cX8_guest 14 = .ok (.tableswitch 70 0 3 #[30, 40, 50, 60], 30) := by decide +kernel
theorem dX8_guest_44 : decode cX8_guest 44 = .ok (.aload_n 0, 1) := by decide +kernel
theorem dX8_guest_45 : decode cX8_guest 45 = .ok (.getfield 19, 3) := by decide +kernel
theorem dX8_guest_48 : decode cX8_guest 48 = .ok (.getfield 114, 3) := by decide +kernel
theorem dX8_guest_51 : decode cX8_guest 51 = .ok (.iload_n 1, 1) := by decide +kernel
theorem dX8_guest_52 : decode cX8_guest 52 = .ok (.iaload, 1) := by decide +kernel
theorem dX8_guest_53 : decode cX8_guest 53 = .ok (.ireturn, 1) := by decide +kernel
theorem dX8_guest_54 : decode cX8_guest 54 = .ok (.aload_n 0, 1) := by decide +kernel
theorem dX8_guest_55 : decode cX8_guest 55 = .ok (.getfield 19, 3) := by decide +kernel
theorem dX8_guest_58 : decode cX8_guest 58 = .ok (.getfield 118, 3) := by decide +kernel
theorem dX8_guest_61 : decode cX8_guest 61 = .ok (.iload_n 1, 1) := by decide +kernel
theorem dX8_guest_62 : decode cX8_guest 62 = .ok (.iaload, 1) := by decide +kernel
theorem dX8_guest_63 : decode cX8_guest 63 = .ok (.ireturn, 1) := by decide +kernel
theorem dX8_guest_64 : decode cX8_guest 64 = .ok (.aload_n 0, 1) := by decide +kernel
theorem dX8_guest_65 : decode cX8_guest 65 = .ok (.getfield 19, 3) := by decide +kernel
theorem dX8_guest_68 : decode cX8_guest 68 = .ok (.getfield 121, 3) := by decide +kernel
theorem dX8_guest_71 : decode cX8_guest 71 = .ok (.iload_n 1, 1) := by decide +kernel
theorem dX8_guest_72 : decode cX8_guest 72 = .ok (.iaload, 1) := by decide +kernel
theorem dX8_guest_73 : decode cX8_guest 73 = .ok (.ireturn, 1) := by decide +kernel
theorem dX8_guest_74 : decode cX8_guest 74 = .ok (.aload_n 0, 1) := by decide +kernel
theorem dX8_guest_75 : decode cX8_guest 75 = .ok (.getfield 19, 3) := by decide +kernel
theorem dX8_guest_78 : decode cX8_guest 78 = .ok (.getfield 124, 3) := by decide +kernel
theorem dX8_guest_81 : decode cX8_guest 81 = .ok (.iload_n 1, 1) := by decide +kernel
theorem dX8_guest_82 : decode cX8_guest 82 = .ok (.iaload, 1) := by decide +kernel
theorem dX8_guest_83 : decode cX8_guest 83 = .ok (.ireturn, 1) := by decide +kernel
theorem dX8_guest_84 : decode cX8_guest 84 = .ok (.iconst (-1), 1) := by decide +kernel
theorem dX8_guest_85 : decode cX8_guest 85 = .ok (.ireturn, 1) := by decide +kernel
theorem dX8_state_0 : decode cX8_state 0 = .ok (.aload_n 0, 1) := by decide +kernel
theorem dX8_state_1 : decode cX8_state 1 = .ok (.getfield 19, 3) := by decide +kernel
theorem dX8_state_4 : decode cX8_state 4 = .ok (.iload_n 1, 1) := by decide +kernel
theorem dX8_state_5 : decode cX8_state 5 = .ok (.invokevirtual 111, 3) := by decide +kernel
theorem dX8_state_8 : decode cX8_state 8 = .ok (.ifCond .ne 5, 3) := by decide +kernel
theorem dX8_state_11 : decode cX8_state 11 = .ok (.iconst (-1), 1) := by decide +kernel
theorem dX8_state_12 : decode cX8_state 12 = .ok (.ireturn, 1) := by decide +kernel
theorem dX8_state_13 : decode cX8_state 13 = .ok (.iload_n 2, 1) := by decide +kernel
theorem dX8_state_14 : decode cX8_state 14 = .ok (.tableswitch 112 0 6 #[42, 52, 62, 72, 82, 92, 102], 42) := by decide +kernel
theorem dX8_state_56 : decode cX8_state 56 = .ok (.aload_n 0, 1) := by decide +kernel
theorem dX8_state_57 : decode cX8_state 57 = .ok (.getfield 31, 3) := by decide +kernel
theorem dX8_state_60 : decode cX8_state 60 = .ok (.getfield 127, 3) := by decide +kernel
theorem dX8_state_63 : decode cX8_state 63 = .ok (.iload_n 1, 1) := by decide +kernel
theorem dX8_state_64 : decode cX8_state 64 = .ok (.iaload, 1) := by decide +kernel
theorem dX8_state_65 : decode cX8_state 65 = .ok (.ireturn, 1) := by decide +kernel
theorem dX8_state_66 : decode cX8_state 66 = .ok (.aload_n 0, 1) := by decide +kernel
theorem dX8_state_67 : decode cX8_state 67 = .ok (.getfield 31, 3) := by decide +kernel
theorem dX8_state_70 : decode cX8_state 70 = .ok (.getfield 130, 3) := by decide +kernel
theorem dX8_state_73 : decode cX8_state 73 = .ok (.iload_n 1, 1) := by decide +kernel
theorem dX8_state_74 : decode cX8_state 74 = .ok (.iaload, 1) := by decide +kernel
theorem dX8_state_75 : decode cX8_state 75 = .ok (.ireturn, 1) := by decide +kernel
theorem dX8_state_76 : decode cX8_state 76 = .ok (.aload_n 0, 1) := by decide +kernel
theorem dX8_state_77 : decode cX8_state 77 = .ok (.getfield 31, 3) := by decide +kernel
theorem dX8_state_80 : decode cX8_state 80 = .ok (.getfield 133, 3) := by decide +kernel
theorem dX8_state_83 : decode cX8_state 83 = .ok (.iload_n 1, 1) := by decide +kernel
theorem dX8_state_84 : decode cX8_state 84 = .ok (.iaload, 1) := by decide +kernel
theorem dX8_state_85 : decode cX8_state 85 = .ok (.ireturn, 1) := by decide +kernel
theorem dX8_state_86 : decode cX8_state 86 = .ok (.aload_n 0, 1) := by decide +kernel
theorem dX8_state_87 : decode cX8_state 87 = .ok (.getfield 31, 3) := by decide +kernel
theorem dX8_state_90 : decode cX8_state 90 = .ok (.getfield 136, 3) := by decide +kernel
theorem dX8_state_93 : decode cX8_state 93 = .ok (.iload_n 1, 1) := by decide +kernel
theorem dX8_state_94 : decode cX8_state 94 = .ok (.iaload, 1) := by decide +kernel
theorem dX8_state_95 : decode cX8_state 95 = .ok (.ireturn, 1) := by decide +kernel
theorem dX8_state_96 : decode cX8_state 96 = .ok (.aload_n 0, 1) := by decide +kernel
theorem dX8_state_97 : decode cX8_state 97 = .ok (.getfield 31, 3) := by decide +kernel
theorem dX8_state_100 : decode cX8_state 100 = .ok (.getfield 139, 3) := by decide +kernel
theorem dX8_state_103 : decode cX8_state 103 = .ok (.iload_n 1, 1) := by decide +kernel
theorem dX8_state_104 : decode cX8_state 104 = .ok (.iaload, 1) := by decide +kernel
theorem dX8_state_105 : decode cX8_state 105 = .ok (.ireturn, 1) := by decide +kernel
theorem dX8_state_106 : decode cX8_state 106 = .ok (.aload_n 0, 1) := by decide +kernel
theorem dX8_state_107 : decode cX8_state 107 = .ok (.getfield 31, 3) := by decide +kernel
theorem dX8_state_110 : decode cX8_state 110 = .ok (.getfield 142, 3) := by decide +kernel
theorem dX8_state_113 : decode cX8_state 113 = .ok (.iload_n 1, 1) := by decide +kernel
theorem dX8_state_114 : decode cX8_state 114 = .ok (.iaload, 1) := by decide +kernel
theorem dX8_state_115 : decode cX8_state 115 = .ok (.ireturn, 1) := by decide +kernel
theorem dX8_state_116 : decode cX8_state 116 = .ok (.aload_n 0, 1) := by decide +kernel
theorem dX8_state_117 : decode cX8_state 117 = .ok (.getfield 31, 3) := by decide +kernel
theorem dX8_state_120 : decode cX8_state 120 = .ok (.getfield 145, 3) := by decide +kernel
theorem dX8_state_123 : decode cX8_state 123 = .ok (.iload_n 1, 1) := by decide +kernel
theorem dX8_state_124 : decode cX8_state 124 = .ok (.iaload, 1) := by decide +kernel
theorem dX8_state_125 : decode cX8_state 125 = .ok (.ireturn, 1) := by decide +kernel
theorem dX8_state_126 : decode cX8_state 126 = .ok (.iconst (-1), 1) := by decide +kernel
theorem dX8_state_127 : decode cX8_state 127 = .ok (.ireturn, 1) := by decide +kernel
theorem dX8_pass_0 : decode cX8_pass 0 = .ok (.iload_n 1, 1) := by decide +kernel
theorem dX8_pass_1 : decode cX8_pass 1 = .ok (.iconst 1, 1) := by decide +kernel
theorem dX8_pass_2 : decode cX8_pass 2 = .ok (.if_icmp .lt 9, 3) := by decide +kernel
theorem dX8_pass_5 : decode cX8_pass 5 = .ok (.iload_n 1, 1) := by decide +kernel
theorem dX8_pass_6 : decode cX8_pass 6 = .ok (.bipush 24, 2) := by decide +kernel
theorem dX8_pass_8 : decode cX8_pass 8 = .ok (.if_icmp .le 5, 3) := by decide +kernel
theorem dX8_pass_11 : decode cX8_pass 11 = .ok (.iconst (-1), 1) := by decide +kernel
theorem dX8_pass_12 : decode cX8_pass 12 = .ok (.ireturn, 1) := by decide +kernel
theorem dX8_pass_13 : decode cX8_pass 13 = .ok (.aload_n 0, 1) := by decide +kernel
theorem dX8_pass_14 : decode cX8_pass 14 = .ok (.invokevirtual 148, 3) := by decide +kernel
theorem dX8_pass_17 : decode cX8_pass 17 = .ok (.iconst 0, 1) := by decide +kernel
theorem dX8_pass_18 : decode cX8_pass 18 = .ok (.istore_n 2, 1) := by decide +kernel
theorem dX8_pass_19 : decode cX8_pass 19 = .ok (.iload_n 2, 1) := by decide +kernel
theorem dX8_pass_20 : decode cX8_pass 20 = .ok (.iload_n 1, 1) := by decide +kernel
theorem dX8_pass_21 : decode cX8_pass 21 = .ok (.if_icmp .ge 16, 3) := by decide +kernel
theorem dX8_pass_24 : decode cX8_pass 24 = .ok (.aload_n 0, 1) := by decide +kernel
theorem dX8_pass_25 : decode cX8_pass 25 = .ok (.getfield 31, 3) := by decide +kernel
theorem dX8_pass_28 : decode cX8_pass 28 = .ok (.invokevirtual 151, 3) := by decide +kernel
theorem dX8_pass_31 : decode cX8_pass 31 = .ok (.iinc 2 1, 3) := by decide +kernel
theorem dX8_pass_34 : decode cX8_pass 34 = .ok (.goto (-15), 3) := by decide +kernel
theorem dX8_pass_37 : decode cX8_pass 37 = .ok (.aload_n 0, 1) := by decide +kernel
theorem dX8_pass_38 : decode cX8_pass 38 = .ok (.getfield 31, 3) := by decide +kernel
theorem dX8_pass_41 : decode cX8_pass 41 = .ok (.getfield 154, 3) := by decide +kernel
theorem dX8_pass_44 : decode cX8_pass 44 = .ok (.ireturn, 1) := by decide +kernel
theorem dX8_book_0 : decode cX8_book 0 = .ok (.aload_n 0, 1) := by decide +kernel
theorem dX8_book_1 : decode cX8_book 1 = .ok (.getfield 19, 3) := by decide +kernel
theorem dX8_book_4 : decode cX8_book 4 = .ok (.iload_n 1, 1) := by decide +kernel
theorem dX8_book_5 : decode cX8_book 5 = .ok (.invokevirtual 111, 3) := by decide +kernel
theorem dX8_book_8 : decode cX8_book 8 = .ok (.ifCond .eq 13, 3) := by decide +kernel
theorem dX8_book_11 : decode cX8_book 11 = .ok (.iload_n 2, 1) := by decide +kernel
theorem dX8_book_12 : decode cX8_book 12 = .ok (.ifCond .lt 9, 3) := by decide +kernel
theorem dX8_book_15 : decode cX8_book 15 = .ok (.iload_n 2, 1) := by decide +kernel
theorem dX8_book_16 : decode cX8_book 16 = .ok (.bipush 40, 2) := by decide +kernel
theorem dX8_book_18 : decode cX8_book 18 = .ok (.if_icmp .le 5, 3) := by decide +kernel
theorem dX8_book_21 : decode cX8_book 21 = .ok (.iconst (-1), 1) := by decide +kernel
theorem dX8_book_22 : decode cX8_book 22 = .ok (.ireturn, 1) := by decide +kernel
theorem dX8_book_23 : decode cX8_book 23 = .ok (.aload_n 0, 1) := by decide +kernel
theorem dX8_book_24 : decode cX8_book 24 = .ok (.getfield 31, 3) := by decide +kernel
theorem dX8_book_27 : decode cX8_book 27 = .ok (.iload_n 1, 1) := by decide +kernel
theorem dX8_book_28 : decode cX8_book 28 = .ok (.invokevirtual 157, 3) := by decide +kernel
theorem dX8_book_31 : decode cX8_book 31 = .ok (.ifCond .eq 14, 3) := by decide +kernel
theorem dX8_book_34 : decode cX8_book 34 = .ok (.iload_n 2, 1) := by decide +kernel
theorem dX8_book_35 : decode cX8_book 35 = .ok (.aload_n 0, 1) := by decide +kernel
theorem dX8_book_36 : decode cX8_book 36 = .ok (.getfield 31, 3) := by decide +kernel
theorem dX8_book_39 : decode cX8_book 39 = .ok (.getfield 154, 3) := by decide +kernel
theorem dX8_book_42 : decode cX8_book 42 = .ok (.if_icmp .ge 6, 3) := by decide +kernel
theorem dX8_book_45 : decode cX8_book 45 = .ok (.bipush (-2), 2) := by decide +kernel
theorem dX8_book_47 : decode cX8_book 47 = .ok (.ireturn, 1) := by decide +kernel
theorem dX8_book_48 : decode cX8_book 48 = .ok (.aload_n 0, 1) := by decide +kernel
theorem dX8_book_49 : decode cX8_book 49 = .ok (.invokevirtual 148, 3) := by decide +kernel
theorem dX8_book_52 : decode cX8_book 52 = .ok (.aload_n 0, 1) := by decide +kernel
theorem dX8_book_53 : decode cX8_book 53 = .ok (.getfield 31, 3) := by decide +kernel
theorem dX8_book_56 : decode cX8_book 56 = .ok (.getfield 130, 3) := by decide +kernel
theorem dX8_book_59 : decode cX8_book 59 = .ok (.iload_n 1, 1) := by decide +kernel
theorem dX8_book_60 : decode cX8_book 60 = .ok (.iaload, 1) := by decide +kernel
theorem dX8_book_61 : decode cX8_book 61 = .ok (.istore_n 3, 1) := by decide +kernel
theorem dX8_book_62 : decode cX8_book 62 = .ok (.aload_n 0, 1) := by decide +kernel
theorem dX8_book_63 : decode cX8_book 63 = .ok (.getfield 31, 3) := by decide +kernel
theorem dX8_book_66 : decode cX8_book 66 = .ok (.iload_n 1, 1) := by decide +kernel
theorem dX8_book_67 : decode cX8_book 67 = .ok (.iload_n 2, 1) := by decide +kernel
theorem dX8_book_68 : decode cX8_book 68 = .ok (.invokevirtual 160, 3) := by decide +kernel
theorem dX8_book_71 : decode cX8_book 71 = .ok (.iload_n 3, 1) := by decide +kernel
theorem dX8_book_72 : decode cX8_book 72 = .ok (.ireturn, 1) := by decide +kernel
theorem dX8_call_0 : decode cX8_call 0 = .ok (.aload_n 0, 1) := by decide +kernel
theorem dX8_call_1 : decode cX8_call 1 = .ok (.getfield 19, 3) := by decide +kernel
theorem dX8_call_4 : decode cX8_call 4 = .ok (.iload_n 1, 1) := by decide +kernel
theorem dX8_call_5 : decode cX8_call 5 = .ok (.invokevirtual 111, 3) := by decide +kernel
theorem dX8_call_8 : decode cX8_call 8 = .ok (.ifCond .ne 5, 3) := by decide +kernel
theorem dX8_call_11 : decode cX8_call 11 = .ok (.iconst (-1), 1) := by decide +kernel
theorem dX8_call_12 : decode cX8_call 12 = .ok (.ireturn, 1) := by decide +kernel
theorem dX8_call_13 : decode cX8_call 13 = .ok (.aload_n 0, 1) := by decide +kernel
theorem dX8_call_14 : decode cX8_call 14 = .ok (.getfield 31, 3) := by decide +kernel
theorem dX8_call_17 : decode cX8_call 17 = .ok (.iload_n 1, 1) := by decide +kernel
theorem dX8_call_18 : decode cX8_call 18 = .ok (.invokevirtual 157, 3) := by decide +kernel
theorem dX8_call_21 : decode cX8_call 21 = .ok (.ifCond .ne 6, 3) := by decide +kernel
theorem dX8_call_24 : decode cX8_call 24 = .ok (.bipush (-2), 2) := by decide +kernel
theorem dX8_call_26 : decode cX8_call 26 = .ok (.ireturn, 1) := by decide +kernel
theorem dX8_call_27 : decode cX8_call 27 = .ok (.aload_n 0, 1) := by decide +kernel
theorem dX8_call_28 : decode cX8_call 28 = .ok (.invokevirtual 148, 3) := by decide +kernel
theorem dX8_call_31 : decode cX8_call 31 = .ok (.aload_n 0, 1) := by decide +kernel
theorem dX8_call_32 : decode cX8_call 32 = .ok (.getfield 31, 3) := by decide +kernel
theorem dX8_call_35 : decode cX8_call 35 = .ok (.iload_n 1, 1) := by decide +kernel
theorem dX8_call_36 : decode cX8_call 36 = .ok (.invokevirtual 164, 3) := by decide +kernel
theorem dX8_call_39 : decode cX8_call 39 = .ok (.aload_n 0, 1) := by decide +kernel
theorem dX8_call_40 : decode cX8_call 40 = .ok (.getfield 31, 3) := by decide +kernel
theorem dX8_call_43 : decode cX8_call 43 = .ok (.iconst 0, 1) := by decide +kernel
theorem dX8_call_44 : decode cX8_call 44 = .ok (.invokevirtual 168, 3) := by decide +kernel
theorem dX8_call_47 : decode cX8_call 47 = .ok (.ireturn, 1) := by decide +kernel
theorem dX8_change_0 : decode cX8_change 0 = .ok (.aload_n 0, 1) := by decide +kernel
theorem dX8_change_1 : decode cX8_change 1 = .ok (.getfield 19, 3) := by decide +kernel
theorem dX8_change_4 : decode cX8_change 4 = .ok (.iload_n 1, 1) := by decide +kernel
theorem dX8_change_5 : decode cX8_change 5 = .ok (.invokevirtual 111, 3) := by decide +kernel
theorem dX8_change_8 : decode cX8_change 8 = .ok (.ifCond .eq 19, 3) := by decide +kernel
theorem dX8_change_11 : decode cX8_change 11 = .ok (.aload_n 0, 1) := by decide +kernel
theorem dX8_change_12 : decode cX8_change 12 = .ok (.getfield 19, 3) := by decide +kernel
theorem dX8_change_15 : decode cX8_change 15 = .ok (.iload_n 2, 1) := by decide +kernel
theorem dX8_change_16 : decode cX8_change 16 = .ok (.invokevirtual 111, 3) := by decide +kernel
theorem dX8_change_19 : decode cX8_change 19 = .ok (.ifCond .eq 8, 3) := by decide +kernel
theorem dX8_change_22 : decode cX8_change 22 = .ok (.iload_n 1, 1) := by decide +kernel
theorem dX8_change_23 : decode cX8_change 23 = .ok (.iload_n 2, 1) := by decide +kernel
theorem dX8_change_24 : decode cX8_change 24 = .ok (.if_icmp .ne 5, 3) := by decide +kernel
theorem dX8_change_27 : decode cX8_change 27 = .ok (.iconst (-1), 1) := by decide +kernel
theorem dX8_change_28 : decode cX8_change 28 = .ok (.ireturn, 1) := by decide +kernel
theorem dX8_change_29 : decode cX8_change 29 = .ok (.aload_n 0, 1) := by decide +kernel
theorem dX8_change_30 : decode cX8_change 30 = .ok (.getfield 31, 3) := by decide +kernel
theorem dX8_change_33 : decode cX8_change 33 = .ok (.iload_n 1, 1) := by decide +kernel
theorem dX8_change_34 : decode cX8_change 34 = .ok (.invokevirtual 157, 3) := by decide +kernel
theorem dX8_change_37 : decode cX8_change 37 = .ok (.ifCond .eq 14, 3) := by decide +kernel
theorem dX8_change_40 : decode cX8_change 40 = .ok (.aload_n 0, 1) := by decide +kernel
theorem dX8_change_41 : decode cX8_change 41 = .ok (.getfield 31, 3) := by decide +kernel
theorem dX8_change_44 : decode cX8_change 44 = .ok (.iload_n 2, 1) := by decide +kernel
theorem dX8_change_45 : decode cX8_change 45 = .ok (.invokevirtual 157, 3) := by decide +kernel
theorem dX8_change_48 : decode cX8_change 48 = .ok (.ifCond .ne 6, 3) := by decide +kernel
theorem dX8_change_51 : decode cX8_change 51 = .ok (.bipush (-2), 2) := by decide +kernel
theorem dX8_change_53 : decode cX8_change 53 = .ok (.ireturn, 1) := by decide +kernel
theorem dX8_change_54 : decode cX8_change 54 = .ok (.aload_n 0, 1) := by decide +kernel
theorem dX8_change_55 : decode cX8_change 55 = .ok (.invokevirtual 148, 3) := by decide +kernel
theorem dX8_change_58 : decode cX8_change 58 = .ok (.aload_n 0, 1) := by decide +kernel
theorem dX8_change_59 : decode cX8_change 59 = .ok (.getfield 31, 3) := by decide +kernel
theorem dX8_change_62 : decode cX8_change 62 = .ok (.iload_n 1, 1) := by decide +kernel
theorem dX8_change_63 : decode cX8_change 63 = .ok (.iload_n 2, 1) := by decide +kernel
theorem dX8_change_64 : decode cX8_change 64 = .ok (.invokevirtual 172, 3) := by decide +kernel
theorem dX8_change_67 : decode cX8_change 67 = .ok (.aload_n 0, 1) := by decide +kernel
theorem dX8_change_68 : decode cX8_change 68 = .ok (.getfield 31, 3) := by decide +kernel
theorem dX8_change_71 : decode cX8_change 71 = .ok (.getfield 133, 3) := by decide +kernel
theorem dX8_change_74 : decode cX8_change 74 = .ok (.iload_n 1, 1) := by decide +kernel
theorem dX8_change_75 : decode cX8_change 75 = .ok (.iaload, 1) := by decide +kernel
theorem dX8_change_76 : decode cX8_change 76 = .ok (.ireturn, 1) := by decide +kernel
theorem dX8_undo_0 : decode cX8_undo 0 = .ok (.aload_n 0, 1) := by decide +kernel
theorem dX8_undo_1 : decode cX8_undo 1 = .ok (.getfield 50, 3) := by decide +kernel
theorem dX8_undo_4 : decode cX8_undo 4 = .ok (.aload_n 0, 1) := by decide +kernel
theorem dX8_undo_5 : decode cX8_undo 5 = .ok (.getfield 31, 3) := by decide +kernel
theorem dX8_undo_8 : decode cX8_undo 8 = .ok (.invokevirtual 175, 3) := by decide +kernel
theorem dX8_undo_11 : decode cX8_undo 11 = .ok (.ifCond .ne 6, 3) := by decide +kernel
theorem dX8_undo_14 : decode cX8_undo 14 = .ok (.bipush (-2), 2) := by decide +kernel
theorem dX8_undo_16 : decode cX8_undo 16 = .ok (.ireturn, 1) := by decide +kernel
theorem dX8_undo_17 : decode cX8_undo 17 = .ok (.aload_n 0, 1) := by decide +kernel
theorem dX8_undo_18 : decode cX8_undo 18 = .ok (.getfield 60, 3) := by decide +kernel
theorem dX8_undo_21 : decode cX8_undo 21 = .ok (.invokevirtual 179, 3) := by decide +kernel
theorem dX8_undo_24 : decode cX8_undo 24 = .ok (.aload_n 0, 1) := by decide +kernel
theorem dX8_undo_25 : decode cX8_undo 25 = .ok (.getfield 50, 3) := by decide +kernel
theorem dX8_undo_28 : decode cX8_undo 28 = .ok (.getfield 182, 3) := by decide +kernel
theorem dX8_undo_31 : decode cX8_undo 31 = .ok (.ireturn, 1) := by decide +kernel
theorem dX8_freed_0 : decode cX8_freed 0 = .ok (.aload_n 0, 1) := by decide +kernel
theorem dX8_freed_1 : decode cX8_freed 1 = .ok (.getfield 19, 3) := by decide +kernel
theorem dX8_freed_4 : decode cX8_freed 4 = .ok (.iload_n 1, 1) := by decide +kernel
theorem dX8_freed_5 : decode cX8_freed 5 = .ok (.invokevirtual 111, 3) := by decide +kernel
theorem dX8_freed_8 : decode cX8_freed 8 = .ok (.ifCond .ne 5, 3) := by decide +kernel
theorem dX8_freed_11 : decode cX8_freed 11 = .ok (.iconst (-1), 1) := by decide +kernel
theorem dX8_freed_12 : decode cX8_freed 12 = .ok (.ireturn, 1) := by decide +kernel
theorem dX8_freed_13 : decode cX8_freed 13 = .ok (.aload_n 0, 1) := by decide +kernel
theorem dX8_freed_14 : decode cX8_freed 14 = .ok (.getfield 41, 3) := by decide +kernel
theorem dX8_freed_17 : decode cX8_freed 17 = .ok (.aload_n 0, 1) := by decide +kernel
theorem dX8_freed_18 : decode cX8_freed 18 = .ok (.getfield 31, 3) := by decide +kernel
theorem dX8_freed_21 : decode cX8_freed 21 = .ok (.invokevirtual 183, 3) := by decide +kernel
theorem dX8_freed_24 : decode cX8_freed 24 = .ok (.aload_n 0, 1) := by decide +kernel
theorem dX8_freed_25 : decode cX8_freed 25 = .ok (.getfield 41, 3) := by decide +kernel
theorem dX8_freed_28 : decode cX8_freed 28 = .ok (.getfield 187, 3) := by decide +kernel
theorem dX8_freed_31 : decode cX8_freed 31 = .ok (.iload_n 1, 1) := by decide +kernel
theorem dX8_freed_32 : decode cX8_freed 32 = .ok (.iaload, 1) := by decide +kernel
theorem dX8_freed_33 : decode cX8_freed 33 = .ok (.invokestatic 190, 3) := by decide +kernel
theorem dX8_freed_36 : decode cX8_freed 36 = .ok (.ireturn, 1) := by decide +kernel
theorem dX8_task_0 : decode cX8_task 0 = .ok (.aload_n 0, 1) := by decide +kernel
theorem dX8_task_1 : decode cX8_task 1 = .ok (.getfield 19, 3) := by decide +kernel
theorem dX8_task_4 : decode cX8_task 4 = .ok (.iload_n 1, 1) := by decide +kernel
theorem dX8_task_5 : decode cX8_task 5 = .ok (.invokevirtual 111, 3) := by decide +kernel
theorem dX8_task_8 : decode cX8_task 8 = .ok (.ifCond .ne 5, 3) := by decide +kernel
theorem dX8_task_11 : decode cX8_task 11 = .ok (.iconst (-1), 1) := by decide +kernel
theorem dX8_task_12 : decode cX8_task 12 = .ok (.ireturn, 1) := by decide +kernel
theorem dX8_task_13 : decode cX8_task 13 = .ok (.aload_n 0, 1) := by decide +kernel
theorem dX8_task_14 : decode cX8_task 14 = .ok (.getfield 41, 3) := by decide +kernel
theorem dX8_task_17 : decode cX8_task 17 = .ok (.aload_n 0, 1) := by decide +kernel
theorem dX8_task_18 : decode cX8_task 18 = .ok (.getfield 31, 3) := by decide +kernel
theorem dX8_task_21 : decode cX8_task 21 = .ok (.invokevirtual 183, 3) := by decide +kernel
theorem dX8_task_24 : decode cX8_task 24 = .ok (.aload_n 0, 1) := by decide +kernel
theorem dX8_task_25 : decode cX8_task 25 = .ok (.getfield 31, 3) := by decide +kernel
theorem dX8_task_28 : decode cX8_task 28 = .ok (.iload_n 1, 1) := by decide +kernel
theorem dX8_task_29 : decode cX8_task 29 = .ok (.invokevirtual 193, 3) := by decide +kernel
theorem dX8_task_32 : decode cX8_task 32 = .ok (.aload_n 0, 1) := by decide +kernel
theorem dX8_task_33 : decode cX8_task 33 = .ok (.getfield 41, 3) := by decide +kernel
theorem dX8_task_36 : decode cX8_task 36 = .ok (.getfield 196, 3) := by decide +kernel
theorem dX8_task_39 : decode cX8_task 39 = .ok (.iload_n 1, 1) := by decide +kernel
theorem dX8_task_40 : decode cX8_task 40 = .ok (.iaload, 1) := by decide +kernel
theorem dX8_task_41 : decode cX8_task 41 = .ok (.iadd, 1) := by decide +kernel
theorem dX8_task_42 : decode cX8_task 42 = .ok (.ireturn, 1) := by decide +kernel
theorem dX8_early_0 : decode cX8_early 0 = .ok (.aload_n 0, 1) := by decide +kernel
theorem dX8_early_1 : decode cX8_early 1 = .ok (.getfield 19, 3) := by decide +kernel
theorem dX8_early_4 : decode cX8_early 4 = .ok (.iload_n 1, 1) := by decide +kernel
theorem dX8_early_5 : decode cX8_early 5 = .ok (.invokevirtual 111, 3) := by decide +kernel
theorem dX8_early_8 : decode cX8_early 8 = .ok (.ifCond .eq 12, 3) := by decide +kernel
theorem dX8_early_11 : decode cX8_early 11 = .ok (.iload_n 2, 1) := by decide +kernel
theorem dX8_early_12 : decode cX8_early 12 = .ok (.ifCond .lt 8, 3) := by decide +kernel
theorem dX8_early_15 : decode cX8_early 15 = .ok (.iload_n 2, 1) := by decide +kernel
theorem dX8_early_16 : decode cX8_early 16 = .ok (.iconst 1, 1) := by decide +kernel
theorem dX8_early_17 : decode cX8_early 17 = .ok (.if_icmp .le 5, 3) := by decide +kernel
theorem dX8_early_20 : decode cX8_early 20 = .ok (.iconst (-1), 1) := by decide +kernel
theorem dX8_early_21 : decode cX8_early 21 = .ok (.ireturn, 1) := by decide +kernel
theorem dX8_early_22 : decode cX8_early 22 = .ok (.aload_n 0, 1) := by decide +kernel
theorem dX8_early_23 : decode cX8_early 23 = .ok (.getfield 31, 3) := by decide +kernel
theorem dX8_early_26 : decode cX8_early 26 = .ok (.iload_n 1, 1) := by decide +kernel
theorem dX8_early_27 : decode cX8_early 27 = .ok (.invokevirtual 157, 3) := by decide +kernel
theorem dX8_early_30 : decode cX8_early 30 = .ok (.ifCond .ne 6, 3) := by decide +kernel
theorem dX8_early_33 : decode cX8_early 33 = .ok (.bipush (-2), 2) := by decide +kernel
theorem dX8_early_35 : decode cX8_early 35 = .ok (.ireturn, 1) := by decide +kernel
theorem dX8_early_36 : decode cX8_early 36 = .ok (.aload_n 0, 1) := by decide +kernel
theorem dX8_early_37 : decode cX8_early 37 = .ok (.getfield 35, 3) := by decide +kernel
theorem dX8_early_40 : decode cX8_early 40 = .ok (.aload_n 0, 1) := by decide +kernel
theorem dX8_early_41 : decode cX8_early 41 = .ok (.getfield 31, 3) := by decide +kernel
theorem dX8_early_44 : decode cX8_early 44 = .ok (.invokevirtual 199, 3) := by decide +kernel
theorem dX8_early_47 : decode cX8_early 47 = .ok (.bipush (-4), 2) := by decide +kernel
theorem dX8_early_49 : decode cX8_early 49 = .ok (.istore_n 3, 1) := by decide +kernel
theorem dX8_early_50 : decode cX8_early 50 = .ok (.bipush (-4), 2) := by decide +kernel
theorem dX8_early_52 : decode cX8_early 52 = .ok (.istore 4, 2) := by decide +kernel
theorem dX8_early_54 : decode cX8_early 54 = .ok (.iconst 0, 1) := by decide +kernel
theorem dX8_early_55 : decode cX8_early 55 = .ok (.aload_n 0, 1) := by decide +kernel
theorem dX8_early_56 : decode cX8_early 56 = .ok (.getfield 31, 3) := by decide +kernel
theorem dX8_early_59 : decode cX8_early 59 = .ok (.getfield 154, 3) := by decide +kernel
theorem dX8_early_62 : decode cX8_early 62 = .ok (.invokestatic 202, 3) := by decide +kernel
theorem dX8_early_65 : decode cX8_early 65 = .ok (.istore 5, 2) := by decide +kernel
theorem dX8_early_67 : decode cX8_early 67 = .ok (.iload 5, 2) := by decide +kernel
theorem dX8_early_69 : decode cX8_early 69 = .ok (.bipush 40, 2) := by decide +kernel
theorem dX8_early_71 : decode cX8_early 71 = .ok (.if_icmp .gt 64, 3) := by decide +kernel
theorem dX8_early_74 : decode cX8_early 74 = .ok (.aload_n 0, 1) := by decide +kernel
theorem dX8_early_75 : decode cX8_early 75 = .ok (.getfield 35, 3) := by decide +kernel
theorem dX8_early_78 : decode cX8_early 78 = .ok (.iload_n 1, 1) := by decide +kernel
theorem dX8_early_79 : decode cX8_early 79 = .ok (.iload 5, 2) := by decide +kernel
theorem dX8_early_81 : decode cX8_early 81 = .ok (.invokevirtual 160, 3) := by decide +kernel
theorem dX8_early_84 : decode cX8_early 84 = .ok (.aload_n 0, 1) := by decide +kernel
theorem dX8_early_85 : decode cX8_early 85 = .ok (.getfield 41, 3) := by decide +kernel
theorem dX8_early_88 : decode cX8_early 88 = .ok (.aload_n 0, 1) := by decide +kernel
theorem dX8_early_89 : decode cX8_early 89 = .ok (.getfield 35, 3) := by decide +kernel
theorem dX8_early_92 : decode cX8_early 92 = .ok (.invokevirtual 183, 3) := by decide +kernel
theorem dX8_early_95 : decode cX8_early 95 = .ok (.iload_n 3, 1) := by decide +kernel
theorem dX8_early_96 : decode cX8_early 96 = .ok (.bipush (-4), 2) := by decide +kernel
theorem dX8_early_98 : decode cX8_early 98 = .ok (.if_icmp .eq 17, 3) := by decide +kernel
theorem dX8_early_101 : decode cX8_early 101 = .ok (.aload_n 0, 1) := by decide +kernel
theorem dX8_early_102 : decode cX8_early 102 = .ok (.getfield 41, 3) := by decide +kernel
theorem dX8_early_105 : decode cX8_early 105 = .ok (.getfield 196, 3) := by decide +kernel
theorem dX8_early_108 : decode cX8_early 108 = .ok (.iload_n 1, 1) := by decide +kernel
theorem dX8_early_109 : decode cX8_early 109 = .ok (.iaload, 1) := by decide +kernel
theorem dX8_early_110 : decode cX8_early 110 = .ok (.iload 4, 2) := by decide +kernel
theorem dX8_early_112 : decode cX8_early 112 = .ok (.if_icmp .ge 17, 3) := by decide +kernel
theorem dX8_early_115 : decode cX8_early 115 = .ok (.iload 5, 2) := by decide +kernel
theorem dX8_early_117 : decode cX8_early 117 = .ok (.istore_n 3, 1) := by decide +kernel
theorem dX8_early_118 : decode cX8_early 118 = .ok (.aload_n 0, 1) := by decide +kernel
theorem dX8_early_119 : decode cX8_early 119 = .ok (.getfield 41, 3) := by decide +kernel
theorem dX8_early_122 : decode cX8_early 122 = .ok (.getfield 196, 3) := by decide +kernel
theorem dX8_early_125 : decode cX8_early 125 = .ok (.iload_n 1, 1) := by decide +kernel
theorem dX8_early_126 : decode cX8_early 126 = .ok (.iaload, 1) := by decide +kernel
theorem dX8_early_127 : decode cX8_early 127 = .ok (.istore 4, 2) := by decide +kernel
theorem dX8_early_129 : decode cX8_early 129 = .ok (.iinc 5 1, 3) := by decide +kernel
theorem dX8_early_132 : decode cX8_early 132 = .ok (.goto (-65), 3) := by decide +kernel
theorem dX8_early_135 : decode cX8_early 135 = .ok (.iload_n 2, 1) := by decide +kernel
theorem dX8_early_136 : decode cX8_early 136 = .ok (.ifCond .ne 7, 3) := by decide +kernel
theorem dX8_early_139 : decode cX8_early 139 = .ok (.iload_n 3, 1) := by decide +kernel
theorem dX8_early_140 : decode cX8_early 140 = .ok (.goto 5, 3) := by decide +kernel
theorem dX8_early_143 : decode cX8_early 143 = .ok (.iload 4, 2) := by decide +kernel
theorem dX8_early_145 : decode cX8_early 145 = .ok (.ireturn, 1) := by decide +kernel
theorem dX8_done_0 : decode cX8_done 0 = .ok (.aload_n 0, 1) := by decide +kernel
theorem dX8_done_1 : decode cX8_done 1 = .ok (.getfield 41, 3) := by decide +kernel
theorem dX8_done_4 : decode cX8_done 4 = .ok (.aload_n 0, 1) := by decide +kernel
theorem dX8_done_5 : decode cX8_done 5 = .ok (.getfield 31, 3) := by decide +kernel
theorem dX8_done_8 : decode cX8_done 8 = .ok (.invokevirtual 183, 3) := by decide +kernel
theorem dX8_done_11 : decode cX8_done 11 = .ok (.aload_n 0, 1) := by decide +kernel
theorem dX8_done_12 : decode cX8_done 12 = .ok (.getfield 41, 3) := by decide +kernel
theorem dX8_done_15 : decode cX8_done 15 = .ok (.getfield 208, 3) := by decide +kernel
theorem dX8_done_18 : decode cX8_done 18 = .ok (.invokestatic 190, 3) := by decide +kernel
theorem dX8_done_21 : decode cX8_done 21 = .ok (.ireturn, 1) := by decide +kernel
theorem dX8_deal_0 : decode cX8_deal 0 = .ok (.iload_n 1, 1) := by decide +kernel
theorem dX8_deal_1 : decode cX8_deal 1 = .ok (.iconst (-1), 1) := by decide +kernel
theorem dX8_deal_2 : decode cX8_deal 2 = .ok (.if_icmp .eq 16, 3) := by decide +kernel
theorem dX8_deal_5 : decode cX8_deal 5 = .ok (.aload_n 0, 1) := by decide +kernel
theorem dX8_deal_6 : decode cX8_deal 6 = .ok (.getfield 19, 3) := by decide +kernel
theorem dX8_deal_9 : decode cX8_deal 9 = .ok (.iload_n 1, 1) := by decide +kernel
theorem dX8_deal_10 : decode cX8_deal 10 = .ok (.invokevirtual 111, 3) := by decide +kernel
theorem dX8_deal_13 : decode cX8_deal 13 = .ok (.ifCond .ne 5, 3) := by decide +kernel
theorem dX8_deal_16 : decode cX8_deal 16 = .ok (.iconst (-1), 1) := by decide +kernel
theorem dX8_deal_17 : decode cX8_deal 17 = .ok (.ireturn, 1) := by decide +kernel
theorem dX8_deal_18 : decode cX8_deal 18 = .ok (.aload_n 0, 1) := by decide +kernel
theorem dX8_deal_19 : decode cX8_deal 19 = .ok (.getfield 60, 3) := by decide +kernel
theorem dX8_deal_22 : decode cX8_deal 22 = .ok (.aload_n 0, 1) := by decide +kernel
theorem dX8_deal_23 : decode cX8_deal 23 = .ok (.getfield 31, 3) := by decide +kernel
theorem dX8_deal_26 : decode cX8_deal 26 = .ok (.invokevirtual 211, 3) := by decide +kernel
theorem dX8_deal_29 : decode cX8_deal 29 = .ok (.iload_n 1, 1) := by decide +kernel
theorem dX8_deal_30 : decode cX8_deal 30 = .ok (.iconst (-1), 1) := by decide +kernel
theorem dX8_deal_31 : decode cX8_deal 31 = .ok (.if_icmp .ne 16, 3) := by decide +kernel
theorem dX8_deal_34 : decode cX8_deal 34 = .ok (.aload_n 0, 1) := by decide +kernel
theorem dX8_deal_35 : decode cX8_deal 35 = .ok (.getfield 60, 3) := by decide +kernel
theorem dX8_deal_38 : decode cX8_deal 38 = .ok (.getfield 214, 3) := by decide +kernel
theorem dX8_deal_41 : decode cX8_deal 41 = .ok (.invokestatic 190, 3) := by decide +kernel
theorem dX8_deal_44 : decode cX8_deal 44 = .ok (.goto 11, 3) := by decide +kernel
theorem dX8_deal_47 : decode cX8_deal 47 = .ok (.aload_n 0, 1) := by decide +kernel
theorem dX8_deal_48 : decode cX8_deal 48 = .ok (.getfield 60, 3) := by decide +kernel
theorem dX8_deal_51 : decode cX8_deal 51 = .ok (.iload_n 1, 1) := by decide +kernel
theorem dX8_deal_52 : decode cX8_deal 52 = .ok (.invokevirtual 217, 3) := by decide +kernel
theorem dX8_deal_55 : decode cX8_deal 55 = .ok (.ireturn, 1) := by decide +kernel
theorem dX8_off_0 : decode cX8_off 0 = .ok (.iload_n 1, 1) := by decide +kernel
theorem dX8_off_1 : decode cX8_off 1 = .ok (.ifCond .lt 8, 3) := by decide +kernel
theorem dX8_off_4 : decode cX8_off 4 = .ok (.iload_n 1, 1) := by decide +kernel
theorem dX8_off_5 : decode cX8_off 5 = .ok (.iconst 1, 1) := by decide +kernel
theorem dX8_off_6 : decode cX8_off 6 = .ok (.if_icmp .le 5, 3) := by decide +kernel
theorem dX8_off_9 : decode cX8_off 9 = .ok (.iconst (-1), 1) := by decide +kernel
theorem dX8_off_10 : decode cX8_off 10 = .ok (.ireturn, 1) := by decide +kernel
theorem dX8_off_11 : decode cX8_off 11 = .ok (.bipush (-4), 2) := by decide +kernel
theorem dX8_off_13 : decode cX8_off 13 = .ok (.istore_n 2, 1) := by decide +kernel
theorem dX8_off_14 : decode cX8_off 14 = .ok (.bipush 100, 2) := by decide +kernel
theorem dX8_off_16 : decode cX8_off 16 = .ok (.istore_n 3, 1) := by decide +kernel
theorem dX8_off_17 : decode cX8_off 17 = .ok (.iconst 0, 1) := by decide +kernel
theorem dX8_off_18 : decode cX8_off 18 = .ok (.istore 4, 2) := by decide +kernel
theorem dX8_off_20 : decode cX8_off 20 = .ok (.iload 4, 2) := by decide +kernel
theorem dX8_off_22 : decode cX8_off 22 = .ok (.aload_n 0, 1) := by decide +kernel
theorem dX8_off_23 : decode cX8_off 23 = .ok (.getfield 19, 3) := by decide +kernel
theorem dX8_off_26 : decode cX8_off 26 = .ok (.getfield 108, 3) := by decide +kernel
theorem dX8_off_29 : decode cX8_off 29 = .ok (.if_icmp .ge 74, 3) := by decide +kernel
theorem dX8_off_32 : decode cX8_off 32 = .ok (.aload_n 0, 1) := by decide +kernel
theorem dX8_off_33 : decode cX8_off 33 = .ok (.getfield 31, 3) := by decide +kernel
theorem dX8_off_36 : decode cX8_off 36 = .ok (.iload 4, 2) := by decide +kernel
theorem dX8_off_38 : decode cX8_off 38 = .ok (.invokevirtual 157, 3) := by decide +kernel
theorem dX8_off_41 : decode cX8_off 41 = .ok (.ifCond .eq 56, 3) := by decide +kernel
theorem dX8_off_44 : decode cX8_off 44 = .ok (.aload_n 0, 1) := by decide +kernel
theorem dX8_off_45 : decode cX8_off 45 = .ok (.getfield 35, 3) := by decide +kernel
theorem dX8_off_48 : decode cX8_off 48 = .ok (.aload_n 0, 1) := by decide +kernel
theorem dX8_off_49 : decode cX8_off 49 = .ok (.getfield 31, 3) := by decide +kernel
theorem dX8_off_52 : decode cX8_off 52 = .ok (.invokevirtual 199, 3) := by decide +kernel
theorem dX8_off_55 : decode cX8_off 55 = .ok (.aload_n 0, 1) := by decide +kernel
theorem dX8_off_56 : decode cX8_off 56 = .ok (.getfield 35, 3) := by decide +kernel
theorem dX8_off_59 : decode cX8_off 59 = .ok (.iload 4, 2) := by decide +kernel
theorem dX8_off_61 : decode cX8_off 61 = .ok (.invokevirtual 164, 3) := by decide +kernel
theorem dX8_off_64 : decode cX8_off 64 = .ok (.aload_n 0, 1) := by decide +kernel
theorem dX8_off_65 : decode cX8_off 65 = .ok (.getfield 41, 3) := by decide +kernel
theorem dX8_off_68 : decode cX8_off 68 = .ok (.aload_n 0, 1) := by decide +kernel
theorem dX8_off_69 : decode cX8_off 69 = .ok (.getfield 35, 3) := by decide +kernel
theorem dX8_off_72 : decode cX8_off 72 = .ok (.invokevirtual 183, 3) := by decide +kernel
theorem dX8_off_75 : decode cX8_off 75 = .ok (.aload_n 0, 1) := by decide +kernel
theorem dX8_off_76 : decode cX8_off 76 = .ok (.getfield 41, 3) := by decide +kernel
theorem dX8_off_79 : decode cX8_off 79 = .ok (.getfield 208, 3) := by decide +kernel
theorem dX8_off_82 : decode cX8_off 82 = .ok (.iload_n 3, 1) := by decide +kernel
theorem dX8_off_83 : decode cX8_off 83 = .ok (.if_icmp .ge 14, 3) := by decide +kernel
theorem dX8_off_86 : decode cX8_off 86 = .ok (.iload 4, 2) := by decide +kernel
theorem dX8_off_88 : decode cX8_off 88 = .ok (.istore_n 2, 1) := by decide +kernel
theorem dX8_off_89 : decode cX8_off 89 = .ok (.aload_n 0, 1) := by decide +kernel
theorem dX8_off_90 : decode cX8_off 90 = .ok (.getfield 41, 3) := by decide +kernel
theorem dX8_off_93 : decode cX8_off 93 = .ok (.getfield 208, 3) := by decide +kernel
theorem dX8_off_96 : decode cX8_off 96 = .ok (.istore_n 3, 1) := by decide +kernel
theorem dX8_off_97 : decode cX8_off 97 = .ok (.iinc 4 1, 3) := by decide +kernel
theorem dX8_off_100 : decode cX8_off 100 = .ok (.goto (-80), 3) := by decide +kernel
theorem dX8_off_103 : decode cX8_off 103 = .ok (.iload_n 2, 1) := by decide +kernel
theorem dX8_off_104 : decode cX8_off 104 = .ok (.bipush (-4), 2) := by decide +kernel
theorem dX8_off_106 : decode cX8_off 106 = .ok (.if_icmp .ne 6, 3) := by decide +kernel
theorem dX8_off_109 : decode cX8_off 109 = .ok (.bipush (-4), 2) := by decide +kernel
theorem dX8_off_111 : decode cX8_off 111 = .ok (.ireturn, 1) := by decide +kernel
theorem dX8_off_112 : decode cX8_off 112 = .ok (.iload_n 1, 1) := by decide +kernel
theorem dX8_off_113 : decode cX8_off 113 = .ok (.ifCond .ne 7, 3) := by decide +kernel
theorem dX8_off_116 : decode cX8_off 116 = .ok (.iload_n 2, 1) := by decide +kernel
theorem dX8_off_117 : decode cX8_off 117 = .ok (.goto 4, 3) := by decide +kernel
theorem dX8_off_120 : decode cX8_off 120 = .ok (.iload_n 3, 1) := by decide +kernel
theorem dX8_off_121 : decode cX8_off 121 = .ok (.ireturn, 1) := by decide +kernel
theorem dX8_see_0 : decode cX8_see 0 = .ok (.aload_n 0, 1) := by decide +kernel
theorem dX8_see_1 : decode cX8_see 1 = .ok (.getfield 19, 3) := by decide +kernel
theorem dX8_see_4 : decode cX8_see 4 = .ok (.iload_n 1, 1) := by decide +kernel
theorem dX8_see_5 : decode cX8_see 5 = .ok (.invokevirtual 111, 3) := by decide +kernel
theorem dX8_see_8 : decode cX8_see 8 = .ok (.ifCond .eq 14, 3) := by decide +kernel
theorem dX8_see_11 : decode cX8_see 11 = .ok (.iload_n 2, 1) := by decide +kernel
theorem dX8_see_12 : decode cX8_see 12 = .ok (.ifCond .lt 10, 3) := by decide +kernel
theorem dX8_see_15 : decode cX8_see 15 = .ok (.iload_n 2, 1) := by decide +kernel
theorem dX8_see_16 : decode cX8_see 16 = .ok (.sipush 200, 3) := by decide +kernel
theorem dX8_see_19 : decode cX8_see 19 = .ok (.if_icmp .le 5, 3) := by decide +kernel
theorem dX8_see_22 : decode cX8_see 22 = .ok (.iconst (-1), 1) := by decide +kernel
theorem dX8_see_23 : decode cX8_see 23 = .ok (.ireturn, 1) := by decide +kernel
theorem dX8_see_24 : decode cX8_see 24 = .ok (.aload_n 0, 1) := by decide +kernel
theorem dX8_see_25 : decode cX8_see 25 = .ok (.getfield 67, 3) := by decide +kernel
theorem dX8_see_28 : decode cX8_see 28 = .ok (.iload_n 1, 1) := by decide +kernel
theorem dX8_see_29 : decode cX8_see 29 = .ok (.iload_n 2, 1) := by decide +kernel
theorem dX8_see_30 : decode cX8_see 30 = .ok (.invokevirtual 220, 3) := by decide +kernel
theorem dX8_see_33 : decode cX8_see 33 = .ok (.ifCond .eq 13, 3) := by decide +kernel
theorem dX8_see_36 : decode cX8_see 36 = .ok (.aload_n 0, 1) := by decide +kernel
theorem dX8_see_37 : decode cX8_see 37 = .ok (.getfield 67, 3) := by decide +kernel
theorem dX8_see_40 : decode cX8_see 40 = .ok (.getfield 224, 3) := by decide +kernel
theorem dX8_see_43 : decode cX8_see 43 = .ok (.goto 5, 3) := by decide +kernel
theorem dX8_see_46 : decode cX8_see 46 = .ok (.bipush (-3), 2) := by decide +kernel
theorem dX8_see_48 : decode cX8_see 48 = .ok (.ireturn, 1) := by decide +kernel
theorem dX8_forget_0 : decode cX8_forget 0 = .ok (.aload_n 0, 1) := by decide +kernel
theorem dX8_forget_1 : decode cX8_forget 1 = .ok (.getfield 67, 3) := by decide +kernel
theorem dX8_forget_4 : decode cX8_forget 4 = .ok (.getfield 224, 3) := by decide +kernel
theorem dX8_forget_7 : decode cX8_forget 7 = .ok (.istore_n 1, 1) := by decide +kernel
theorem dX8_forget_8 : decode cX8_forget 8 = .ok (.aload_n 0, 1) := by decide +kernel
theorem dX8_forget_9 : decode cX8_forget 9 = .ok (.getfield 67, 3) := by decide +kernel
theorem dX8_forget_12 : decode cX8_forget 12 = .ok (.invokevirtual 225, 3) := by decide +kernel
theorem dX8_forget_15 : decode cX8_forget 15 = .ok (.iload_n 1, 1) := by decide +kernel
theorem dX8_forget_16 : decode cX8_forget 16 = .ok (.ireturn, 1) := by decide +kernel
theorem dX8_orders_0 : decode cX8_orders 0 = .ok (.iload_n 1, 1) := by decide +kernel
theorem dX8_orders_1 : decode cX8_orders 1 = .ok (.iconst (-1), 1) := by decide +kernel
theorem dX8_orders_2 : decode cX8_orders 2 = .ok (.if_icmp .eq 16, 3) := by decide +kernel
theorem dX8_orders_5 : decode cX8_orders 5 = .ok (.aload_n 0, 1) := by decide +kernel
theorem dX8_orders_6 : decode cX8_orders 6 = .ok (.getfield 19, 3) := by decide +kernel
theorem dX8_orders_9 : decode cX8_orders 9 = .ok (.iload_n 1, 1) := by decide +kernel
theorem dX8_orders_10 : decode cX8_orders 10 = .ok (.invokevirtual 111, 3) := by decide +kernel
theorem dX8_orders_13 : decode cX8_orders 13 = .ok (.ifCond .ne 5, 3) := by decide +kernel
theorem dX8_orders_16 : decode cX8_orders 16 = .ok (.iconst (-1), 1) := by decide +kernel
theorem dX8_orders_17 : decode cX8_orders 17 = .ok (.ireturn, 1) := by decide +kernel
theorem dX8_orders_18 : decode cX8_orders 18 = .ok (.aload_n 0, 1) := by decide +kernel
theorem dX8_orders_19 : decode cX8_orders 19 = .ok (.getfield 67, 3) := by decide +kernel
theorem dX8_orders_22 : decode cX8_orders 22 = .ok (.invokevirtual 226, 3) := by decide +kernel
theorem dX8_orders_25 : decode cX8_orders 25 = .ok (.iload_n 1, 1) := by decide +kernel
theorem dX8_orders_26 : decode cX8_orders 26 = .ok (.iconst (-1), 1) := by decide +kernel
theorem dX8_orders_27 : decode cX8_orders 27 = .ok (.if_icmp .ne 13, 3) := by decide +kernel
theorem dX8_orders_30 : decode cX8_orders 30 = .ok (.aload_n 0, 1) := by decide +kernel
theorem dX8_orders_31 : decode cX8_orders 31 = .ok (.getfield 67, 3) := by decide +kernel
theorem dX8_orders_34 : decode cX8_orders 34 = .ok (.getfield 228, 3) := by decide +kernel
theorem dX8_orders_37 : decode cX8_orders 37 = .ok (.goto 11, 3) := by decide +kernel
theorem dX8_orders_40 : decode cX8_orders 40 = .ok (.aload_n 0, 1) := by decide +kernel
theorem dX8_orders_41 : decode cX8_orders 41 = .ok (.getfield 67, 3) := by decide +kernel
theorem dX8_orders_44 : decode cX8_orders 44 = .ok (.iload_n 1, 1) := by decide +kernel
theorem dX8_orders_45 : decode cX8_orders 45 = .ok (.invokevirtual 231, 3) := by decide +kernel
theorem dX8_orders_48 : decode cX8_orders 48 = .ok (.ireturn, 1) := by decide +kernel
theorem dX8_absent_0 : decode cX8_absent 0 = .ok (.aload_n 0, 1) := by decide +kernel
theorem dX8_absent_1 : decode cX8_absent 1 = .ok (.getfield 19, 3) := by decide +kernel
theorem dX8_absent_4 : decode cX8_absent 4 = .ok (.iload_n 1, 1) := by decide +kernel
theorem dX8_absent_5 : decode cX8_absent 5 = .ok (.invokevirtual 111, 3) := by decide +kernel
theorem dX8_absent_8 : decode cX8_absent 8 = .ok (.ifCond .eq 22, 3) := by decide +kernel
theorem dX8_absent_11 : decode cX8_absent 11 = .ok (.iload_n 2, 1) := by decide +kernel
theorem dX8_absent_12 : decode cX8_absent 12 = .ok (.ifCond .lt 18, 3) := by decide +kernel
theorem dX8_absent_15 : decode cX8_absent 15 = .ok (.iload_n 2, 1) := by decide +kernel
theorem dX8_absent_16 : decode cX8_absent 16 = .ok (.bipush 10, 2) := by decide +kernel
theorem dX8_absent_18 : decode cX8_absent 18 = .ok (.if_icmp .gt 12, 3) := by decide +kernel
theorem dX8_absent_21 : decode cX8_absent 21 = .ok (.iload_n 3, 1) := by decide +kernel
theorem dX8_absent_22 : decode cX8_absent 22 = .ok (.ifCond .lt 8, 3) := by decide +kernel
theorem dX8_absent_25 : decode cX8_absent 25 = .ok (.iload_n 3, 1) := by decide +kernel
theorem dX8_absent_26 : decode cX8_absent 26 = .ok (.iconst 1, 1) := by decide +kernel
theorem dX8_absent_27 : decode cX8_absent 27 = .ok (.if_icmp .le 5, 3) := by decide +kernel
theorem dX8_absent_30 : decode cX8_absent 30 = .ok (.iconst (-1), 1) := by decide +kernel
theorem dX8_absent_31 : decode cX8_absent 31 = .ok (.ireturn, 1) := by decide +kernel
theorem dX8_absent_32 : decode cX8_absent 32 = .ok (.aload_n 0, 1) := by decide +kernel
theorem dX8_absent_33 : decode cX8_absent 33 = .ok (.getfield 74, 3) := by decide +kernel
theorem dX8_absent_36 : decode cX8_absent 36 = .ok (.aload_n 0, 1) := by decide +kernel
theorem dX8_absent_37 : decode cX8_absent 37 = .ok (.getfield 31, 3) := by decide +kernel
theorem dX8_absent_40 : decode cX8_absent 40 = .ok (.iload_n 1, 1) := by decide +kernel
theorem dX8_absent_41 : decode cX8_absent 41 = .ok (.iload_n 2, 1) := by decide +kernel
theorem dX8_absent_42 : decode cX8_absent 42 = .ok (.invokevirtual 234, 3) := by decide +kernel
theorem dX8_absent_45 : decode cX8_absent 45 = .ok (.iload_n 3, 1) := by decide +kernel
theorem dX8_absent_46 : decode cX8_absent 46 = .ok (.ifCond .ne 13, 3) := by decide +kernel
theorem dX8_absent_49 : decode cX8_absent 49 = .ok (.aload_n 0, 1) := by decide +kernel
theorem dX8_absent_50 : decode cX8_absent 50 = .ok (.getfield 74, 3) := by decide +kernel
theorem dX8_absent_53 : decode cX8_absent 53 = .ok (.getfield 238, 3) := by decide +kernel
theorem dX8_absent_56 : decode cX8_absent 56 = .ok (.goto 10, 3) := by decide +kernel
theorem dX8_absent_59 : decode cX8_absent 59 = .ok (.aload_n 0, 1) := by decide +kernel
theorem dX8_absent_60 : decode cX8_absent 60 = .ok (.getfield 74, 3) := by decide +kernel
theorem dX8_absent_63 : decode cX8_absent 63 = .ok (.getfield 241, 3) := by decide +kernel
theorem dX8_absent_66 : decode cX8_absent 66 = .ok (.ireturn, 1) := by decide +kernel
theorem dX8_season_0 : decode cX8_season 0 = .ok (.iload_n 1, 1) := by decide +kernel
theorem dX8_season_1 : decode cX8_season 1 = .ok (.ifCond .lt 30, 3) := by decide +kernel
theorem dX8_season_4 : decode cX8_season 4 = .ok (.iload_n 1, 1) := by decide +kernel
theorem dX8_season_5 : decode cX8_season 5 = .ok (.sipush 9999, 3) := by decide +kernel
theorem dX8_season_8 : decode cX8_season 8 = .ok (.if_icmp .gt 23, 3) := by decide +kernel
theorem dX8_season_11 : decode cX8_season 11 = .ok (.iload_n 2, 1) := by decide +kernel
theorem dX8_season_12 : decode cX8_season 12 = .ok (.iconst 1, 1) := by decide +kernel
theorem dX8_season_13 : decode cX8_season 13 = .ok (.if_icmp .lt 18, 3) := by decide +kernel
theorem dX8_season_16 : decode cX8_season 16 = .ok (.iload_n 2, 1) := by decide +kernel
theorem dX8_season_17 : decode cX8_season 17 = .ok (.bipush 60, 2) := by decide +kernel
theorem dX8_season_19 : decode cX8_season 19 = .ok (.if_icmp .gt 12, 3) := by decide +kernel
theorem dX8_season_22 : decode cX8_season 22 = .ok (.iload_n 3, 1) := by decide +kernel
theorem dX8_season_23 : decode cX8_season 23 = .ok (.ifCond .lt 8, 3) := by decide +kernel
theorem dX8_season_26 : decode cX8_season 26 = .ok (.iload_n 3, 1) := by decide +kernel
theorem dX8_season_27 : decode cX8_season 27 = .ok (.iconst 1, 1) := by decide +kernel
theorem dX8_season_28 : decode cX8_season 28 = .ok (.if_icmp .le 5, 3) := by decide +kernel
theorem dX8_season_31 : decode cX8_season 31 = .ok (.iconst (-1), 1) := by decide +kernel
theorem dX8_season_32 : decode cX8_season 32 = .ok (.ireturn, 1) := by decide +kernel
theorem dX8_season_33 : decode cX8_season 33 = .ok (.aload_n 0, 1) := by decide +kernel
theorem dX8_season_34 : decode cX8_season 34 = .ok (.getfield 35, 3) := by decide +kernel
theorem dX8_season_37 : decode cX8_season 37 = .ok (.aload_n 0, 1) := by decide +kernel
theorem dX8_season_38 : decode cX8_season 38 = .ok (.getfield 31, 3) := by decide +kernel
theorem dX8_season_41 : decode cX8_season 41 = .ok (.invokevirtual 199, 3) := by decide +kernel
theorem dX8_season_44 : decode cX8_season 44 = .ok (.iconst 0, 1) := by decide +kernel
theorem dX8_season_45 : decode cX8_season 45 = .ok (.istore 4, 2) := by decide +kernel
theorem dX8_season_47 : decode cX8_season 47 = .ok (.iload 4, 2) := by decide +kernel
theorem dX8_season_49 : decode cX8_season 49 = .ok (.iload_n 2, 1) := by decide +kernel
theorem dX8_season_50 : decode cX8_season 50 = .ok (.if_icmp .ge 29, 3) := by decide +kernel
theorem dX8_season_53 : decode cX8_season 53 = .ok (.aload_n 0, 1) := by decide +kernel
theorem dX8_season_54 : decode cX8_season 54 = .ok (.getfield 35, 3) := by decide +kernel
theorem dX8_season_57 : decode cX8_season 57 = .ok (.iload_n 1, 1) := by decide +kernel
theorem dX8_season_58 : decode cX8_season 58 = .ok (.iload 4, 2) := by decide +kernel
theorem dX8_season_60 : decode cX8_season 60 = .ok (.invokestatic 244, 3) := by decide +kernel
theorem dX8_season_63 : decode cX8_season 63 = .ok (.invokevirtual 247, 3) := by decide +kernel
theorem dX8_season_66 : decode cX8_season 66 = .ok (.aload_n 0, 1) := by decide +kernel
theorem dX8_season_67 : decode cX8_season 67 = .ok (.getfield 35, 3) := by decide +kernel
theorem dX8_season_70 : decode cX8_season 70 = .ok (.invokevirtual 151, 3) := by decide +kernel
theorem dX8_season_73 : decode cX8_season 73 = .ok (.iinc 4 1, 3) := by decide +kernel
theorem dX8_season_76 : decode cX8_season 76 = .ok (.goto (-29), 3) := by decide +kernel
theorem dX8_season_79 : decode cX8_season 79 = .ok (.iload_n 3, 1) := by decide +kernel
theorem dX8_season_80 : decode cX8_season 80 = .ok (.ifCond .ne 14, 3) := by decide +kernel
theorem dX8_season_83 : decode cX8_season 83 = .ok (.aload_n 0, 1) := by decide +kernel
theorem dX8_season_84 : decode cX8_season 84 = .ok (.getfield 35, 3) := by decide +kernel
theorem dX8_season_87 : decode cX8_season 87 = .ok (.iconst 2, 1) := by decide +kernel
theorem dX8_season_88 : decode cX8_season 88 = .ok (.invokevirtual 168, 3) := by decide +kernel
theorem dX8_season_91 : decode cX8_season 91 = .ok (.goto 10, 3) := by decide +kernel
theorem dX8_season_94 : decode cX8_season 94 = .ok (.aload_n 0, 1) := by decide +kernel
theorem dX8_season_95 : decode cX8_season 95 = .ok (.getfield 35, 3) := by decide +kernel
theorem dX8_season_98 : decode cX8_season 98 = .ok (.invokevirtual 250, 3) := by decide +kernel
theorem dX8_season_101 : decode cX8_season 101 = .ok (.ireturn, 1) := by decide +kernel
theorem dX8_keep_0 : decode cX8_keep 0 = .ok (.aload_n 0, 1) := by decide +kernel
theorem dX8_keep_1 : decode cX8_keep 1 = .ok (.getfield 54, 3) := by decide +kernel
theorem dX8_keep_4 : decode cX8_keep 4 = .ok (.invokevirtual 253, 3) := by decide +kernel
theorem dX8_keep_7 : decode cX8_keep 7 = .ok (.ifCond .eq 6, 3) := by decide +kernel
theorem dX8_keep_10 : decode cX8_keep 10 = .ok (.bipush (-3), 2) := by decide +kernel
theorem dX8_keep_12 : decode cX8_keep 12 = .ok (.ireturn, 1) := by decide +kernel
theorem dX8_keep_13 : decode cX8_keep 13 = .ok (.aload_n 0, 1) := by decide +kernel
theorem dX8_keep_14 : decode cX8_keep 14 = .ok (.getfield 54, 3) := by decide +kernel
theorem dX8_keep_17 : decode cX8_keep 17 = .ok (.aload_n 0, 1) := by decide +kernel
theorem dX8_keep_18 : decode cX8_keep 18 = .ok (.getfield 31, 3) := by decide +kernel
theorem dX8_keep_21 : decode cX8_keep 21 = .ok (.invokevirtual 256, 3) := by decide +kernel
theorem dX8_keep_24 : decode cX8_keep 24 = .ok (.aload_n 0, 1) := by decide +kernel
theorem dX8_keep_25 : decode cX8_keep 25 = .ok (.getfield 54, 3) := by decide +kernel
theorem dX8_keep_28 : decode cX8_keep 28 = .ok (.getfield 182, 3) := by decide +kernel
theorem dX8_keep_31 : decode cX8_keep 31 = .ok (.ireturn, 1) := by decide +kernel
theorem dX8_back_0 : decode cX8_back 0 = .ok (.aload_n 0, 1) := by decide +kernel
theorem dX8_back_1 : decode cX8_back 1 = .ok (.getfield 54, 3) := by decide +kernel
theorem dX8_back_4 : decode cX8_back 4 = .ok (.aload_n 0, 1) := by decide +kernel
theorem dX8_back_5 : decode cX8_back 5 = .ok (.getfield 31, 3) := by decide +kernel
theorem dX8_back_8 : decode cX8_back 8 = .ok (.invokevirtual 175, 3) := by decide +kernel
theorem dX8_back_11 : decode cX8_back 11 = .ok (.ifCond .ne 6, 3) := by decide +kernel
theorem dX8_back_14 : decode cX8_back 14 = .ok (.bipush (-2), 2) := by decide +kernel
theorem dX8_back_16 : decode cX8_back 16 = .ok (.ireturn, 1) := by decide +kernel
theorem dX8_back_17 : decode cX8_back 17 = .ok (.aload_n 0, 1) := by decide +kernel
theorem dX8_back_18 : decode cX8_back 18 = .ok (.getfield 50, 3) := by decide +kernel
theorem dX8_back_21 : decode cX8_back 21 = .ok (.invokevirtual 259, 3) := by decide +kernel
theorem dX8_back_24 : decode cX8_back 24 = .ok (.aload_n 0, 1) := by decide +kernel
theorem dX8_back_25 : decode cX8_back 25 = .ok (.getfield 60, 3) := by decide +kernel
theorem dX8_back_28 : decode cX8_back 28 = .ok (.invokevirtual 179, 3) := by decide +kernel
theorem dX8_back_31 : decode cX8_back 31 = .ok (.aload_n 0, 1) := by decide +kernel
theorem dX8_back_32 : decode cX8_back 32 = .ok (.getfield 54, 3) := by decide +kernel
theorem dX8_back_35 : decode cX8_back 35 = .ok (.getfield 182, 3) := by decide +kernel
theorem dX8_back_38 : decode cX8_back 38 = .ok (.ireturn, 1) := by decide +kernel
theorem dX8_count_0 : decode cX8_count 0 = .ok (.iload_n 1, 1) := by decide +kernel
theorem dX8_count_1 : decode cX8_count 1 = .ok (.tableswitch 175 0 12 #[67, 75, 83, 92, 101, 110, 119, 127, 135, 143, 151, 159, 167], 67) := by decide +kernel
theorem dX8_count_68 : decode cX8_count 68 = .ok (.aload_n 0, 1) := by decide +kernel
theorem dX8_count_69 : decode cX8_count 69 = .ok (.getfield 19, 3) := by decide +kernel
theorem dX8_count_72 : decode cX8_count 72 = .ok (.getfield 108, 3) := by decide +kernel
theorem dX8_count_75 : decode cX8_count 75 = .ok (.ireturn, 1) := by decide +kernel
theorem dX8_count_76 : decode cX8_count 76 = .ok (.aload_n 0, 1) := by decide +kernel
theorem dX8_count_77 : decode cX8_count 77 = .ok (.getfield 31, 3) := by decide +kernel
theorem dX8_count_80 : decode cX8_count 80 = .ok (.getfield 154, 3) := by decide +kernel
theorem dX8_count_83 : decode cX8_count 83 = .ok (.ireturn, 1) := by decide +kernel
theorem dX8_count_84 : decode cX8_count 84 = .ok (.aload_n 0, 1) := by decide +kernel
theorem dX8_count_85 : decode cX8_count 85 = .ok (.getfield 31, 3) := by decide +kernel
theorem dX8_count_88 : decode cX8_count 88 = .ok (.iconst 0, 1) := by decide +kernel
theorem dX8_count_89 : decode cX8_count 89 = .ok (.invokevirtual 168, 3) := by decide +kernel
theorem dX8_count_92 : decode cX8_count 92 = .ok (.ireturn, 1) := by decide +kernel
theorem dX8_count_93 : decode cX8_count 93 = .ok (.aload_n 0, 1) := by decide +kernel
theorem dX8_count_94 : decode cX8_count 94 = .ok (.getfield 31, 3) := by decide +kernel
theorem dX8_count_97 : decode cX8_count 97 = .ok (.iconst 1, 1) := by decide +kernel
theorem dX8_count_98 : decode cX8_count 98 = .ok (.invokevirtual 168, 3) := by decide +kernel
theorem dX8_count_101 : decode cX8_count 101 = .ok (.ireturn, 1) := by decide +kernel
theorem dX8_count_102 : decode cX8_count 102 = .ok (.aload_n 0, 1) := by decide +kernel
theorem dX8_count_103 : decode cX8_count 103 = .ok (.getfield 31, 3) := by decide +kernel
theorem dX8_count_106 : decode cX8_count 106 = .ok (.iconst 2, 1) := by decide +kernel
theorem dX8_count_107 : decode cX8_count 107 = .ok (.invokevirtual 168, 3) := by decide +kernel
theorem dX8_count_110 : decode cX8_count 110 = .ok (.ireturn, 1) := by decide +kernel
theorem dX8_count_111 : decode cX8_count 111 = .ok (.aload_n 0, 1) := by decide +kernel
theorem dX8_count_112 : decode cX8_count 112 = .ok (.getfield 31, 3) := by decide +kernel
theorem dX8_count_115 : decode cX8_count 115 = .ok (.iconst 3, 1) := by decide +kernel
theorem dX8_count_116 : decode cX8_count 116 = .ok (.invokevirtual 168, 3) := by decide +kernel
theorem dX8_count_119 : decode cX8_count 119 = .ok (.ireturn, 1) := by decide +kernel
theorem dX8_count_120 : decode cX8_count 120 = .ok (.aload_n 0, 1) := by decide +kernel
theorem dX8_count_121 : decode cX8_count 121 = .ok (.getfield 31, 3) := by decide +kernel
theorem dX8_count_124 : decode cX8_count 124 = .ok (.getfield 260, 3) := by decide +kernel
theorem dX8_count_127 : decode cX8_count 127 = .ok (.ireturn, 1) := by decide +kernel
theorem dX8_count_128 : decode cX8_count 128 = .ok (.aload_n 0, 1) := by decide +kernel
theorem dX8_count_129 : decode cX8_count 129 = .ok (.getfield 31, 3) := by decide +kernel
theorem dX8_count_132 : decode cX8_count 132 = .ok (.invokevirtual 250, 3) := by decide +kernel
theorem dX8_count_135 : decode cX8_count 135 = .ok (.ireturn, 1) := by decide +kernel
theorem dX8_count_136 : decode cX8_count 136 = .ok (.aload_n 0, 1) := by decide +kernel
theorem dX8_count_137 : decode cX8_count 137 = .ok (.getfield 31, 3) := by decide +kernel
theorem dX8_count_140 : decode cX8_count 140 = .ok (.invokevirtual 263, 3) := by decide +kernel
theorem dX8_count_143 : decode cX8_count 143 = .ok (.ireturn, 1) := by decide +kernel
theorem dX8_count_144 : decode cX8_count 144 = .ok (.aload_n 0, 1) := by decide +kernel
theorem dX8_count_145 : decode cX8_count 145 = .ok (.getfield 67, 3) := by decide +kernel
theorem dX8_count_148 : decode cX8_count 148 = .ok (.getfield 224, 3) := by decide +kernel
theorem dX8_count_151 : decode cX8_count 151 = .ok (.ireturn, 1) := by decide +kernel
theorem dX8_count_152 : decode cX8_count 152 = .ok (.aload_n 0, 1) := by decide +kernel
theorem dX8_count_153 : decode cX8_count 153 = .ok (.getfield 50, 3) := by decide +kernel
theorem dX8_count_156 : decode cX8_count 156 = .ok (.getfield 182, 3) := by decide +kernel
theorem dX8_count_159 : decode cX8_count 159 = .ok (.ireturn, 1) := by decide +kernel
theorem dX8_count_160 : decode cX8_count 160 = .ok (.aload_n 0, 1) := by decide +kernel
theorem dX8_count_161 : decode cX8_count 161 = .ok (.getfield 54, 3) := by decide +kernel
theorem dX8_count_164 : decode cX8_count 164 = .ok (.getfield 182, 3) := by decide +kernel
theorem dX8_count_167 : decode cX8_count 167 = .ok (.ireturn, 1) := by decide +kernel
theorem dX8_count_168 : decode cX8_count 168 = .ok (.aload_n 0, 1) := by decide +kernel
theorem dX8_count_169 : decode cX8_count 169 = .ok (.getfield 10, 3) := by decide +kernel
theorem dX8_count_172 : decode cX8_count 172 = .ok (.getfield 101, 3) := by decide +kernel
theorem dX8_count_175 : decode cX8_count 175 = .ok (.ireturn, 1) := by decide +kernel
theorem dX8_count_176 : decode cX8_count 176 = .ok (.iconst (-1), 1) := by decide +kernel
theorem dX8_count_177 : decode cX8_count 177 = .ok (.ireturn, 1) := by decide +kernel
theorem dX8_layScript_0 : decode cX8_layScript 0 = .ok (.aload_n 0, 1) := by decide +kernel
theorem dX8_layScript_1 : decode cX8_layScript 1 = .ok (.getfield 10, 3) := by decide +kernel
theorem dX8_layScript_4 : decode cX8_layScript 4 = .ok (.aload_n 0, 1) := by decide +kernel
theorem dX8_layScript_5 : decode cX8_layScript 5 = .ok (.getfield 23, 3) := by decide +kernel
theorem dX8_layScript_8 : decode cX8_layScript 8 = .ok (.invokevirtual 104, 3) := by decide +kernel
theorem dX8_layScript_11 : decode cX8_layScript 11 = .ok (.bipush (-4), 2) := by decide +kernel
theorem dX8_layScript_13 : decode cX8_layScript 13 = .ok (.if_icmp .ne 14, 3) := by decide +kernel
theorem dX8_layScript_16 : decode cX8_layScript 16 = .ok (.aload_n 0, 1) := by decide +kernel
theorem dX8_layScript_17 : decode cX8_layScript 17 = .ok (.getfield 23, 3) := by decide +kernel
theorem dX8_layScript_20 : decode cX8_layScript 20 = .ok (.getfield 108, 3) := by decide +kernel
theorem dX8_layScript_23 : decode cX8_layScript 23 = .ok (.iconst 1, 1) := by decide +kernel
theorem dX8_layScript_24 : decode cX8_layScript 24 = .ok (.if_icmp .ge 5, 3) := by decide +kernel
theorem dX8_layScript_27 : decode cX8_layScript 27 = .ok (.iconst 0, 1) := by decide +kernel
theorem dX8_layScript_28 : decode cX8_layScript 28 = .ok (.ireturn, 1) := by decide +kernel
theorem dX8_layScript_29 : decode cX8_layScript 29 = .ok (.aload_n 0, 1) := by decide +kernel
theorem dX8_layScript_30 : decode cX8_layScript 30 = .ok (.getfield 19, 3) := by decide +kernel
theorem dX8_layScript_33 : decode cX8_layScript 33 = .ok (.aload_n 0, 1) := by decide +kernel
theorem dX8_layScript_34 : decode cX8_layScript 34 = .ok (.getfield 23, 3) := by decide +kernel
theorem dX8_layScript_37 : decode cX8_layScript 37 = .ok (.invokevirtual 266, 3) := by decide +kernel
theorem dX8_layScript_40 : decode cX8_layScript 40 = .ok (.aload_n 0, 1) := by decide +kernel
theorem dX8_layScript_41 : decode cX8_layScript 41 = .ok (.getfield 31, 3) := by decide +kernel
theorem dX8_layScript_44 : decode cX8_layScript 44 = .ok (.invokevirtual 268, 3) := by decide +kernel
theorem dX8_layScript_47 : decode cX8_layScript 47 = .ok (.aload_n 0, 1) := by decide +kernel
theorem dX8_layScript_48 : decode cX8_layScript 48 = .ok (.getfield 50, 3) := by decide +kernel
theorem dX8_layScript_51 : decode cX8_layScript 51 = .ok (.invokevirtual 259, 3) := by decide +kernel
theorem dX8_layScript_54 : decode cX8_layScript 54 = .ok (.aload_n 0, 1) := by decide +kernel
theorem dX8_layScript_55 : decode cX8_layScript 55 = .ok (.getfield 54, 3) := by decide +kernel
theorem dX8_layScript_58 : decode cX8_layScript 58 = .ok (.invokevirtual 259, 3) := by decide +kernel
theorem dX8_layScript_61 : decode cX8_layScript 61 = .ok (.aload_n 0, 1) := by decide +kernel
theorem dX8_layScript_62 : decode cX8_layScript 62 = .ok (.getfield 67, 3) := by decide +kernel
theorem dX8_layScript_65 : decode cX8_layScript 65 = .ok (.invokevirtual 225, 3) := by decide +kernel
theorem dX8_layScript_68 : decode cX8_layScript 68 = .ok (.aload_n 0, 1) := by decide +kernel
theorem dX8_layScript_69 : decode cX8_layScript 69 = .ok (.getfield 60, 3) := by decide +kernel
theorem dX8_layScript_72 : decode cX8_layScript 72 = .ok (.invokevirtual 179, 3) := by decide +kernel
theorem dX8_layScript_75 : decode cX8_layScript 75 = .ok (.iconst 1, 1) := by decide +kernel
theorem dX8_layScript_76 : decode cX8_layScript 76 = .ok (.ireturn, 1) := by decide +kernel
theorem dX8_beginAct_0 : decode cX8_beginAct 0 = .ok (.aload_n 0, 1) := by decide +kernel
theorem dX8_beginAct_1 : decode cX8_beginAct 1 = .ok (.getfield 50, 3) := by decide +kernel
theorem dX8_beginAct_4 : decode cX8_beginAct 4 = .ok (.aload_n 0, 1) := by decide +kernel
theorem dX8_beginAct_5 : decode cX8_beginAct 5 = .ok (.getfield 31, 3) := by decide +kernel
theorem dX8_beginAct_8 : decode cX8_beginAct 8 = .ok (.invokevirtual 256, 3) := by decide +kernel
theorem dX8_beginAct_11 : decode cX8_beginAct 11 = .ok (.aload_n 0, 1) := by decide +kernel
theorem dX8_beginAct_12 : decode cX8_beginAct 12 = .ok (.getfield 60, 3) := by decide +kernel
theorem dX8_beginAct_15 : decode cX8_beginAct 15 = .ok (.invokevirtual 179, 3) := by decide +kernel
theorem dX8_beginAct_18 : decode cX8_beginAct 18 = .ok (.return_, 1) := by decide +kernel
theorem dX8_withinHorizon_0 : decode cX8_withinHorizon 0 = .ok (.iload_n 0, 1) := by decide +kernel
theorem dX8_withinHorizon_1 : decode cX8_withinHorizon 1 = .ok (.bipush 99, 2) := by decide +kernel
theorem dX8_withinHorizon_3 : decode cX8_withinHorizon 3 = .ok (.if_icmp .gt 7, 3) := by decide +kernel
theorem dX8_withinHorizon_6 : decode cX8_withinHorizon 6 = .ok (.iload_n 0, 1) := by decide +kernel
theorem dX8_withinHorizon_7 : decode cX8_withinHorizon 7 = .ok (.goto 5, 3) := by decide +kernel
theorem dX8_withinHorizon_10 : decode cX8_withinHorizon 10 = .ok (.bipush (-4), 2) := by decide +kernel
theorem dX8_withinHorizon_12 : decode cX8_withinHorizon 12 = .ok (.ireturn, 1) := by decide +kernel
theorem dX8_drawOf_0 : decode cX8_drawOf 0 = .ok (.ldc2_w 271, 3) := by decide +kernel
theorem dX8_drawOf_3 : decode cX8_drawOf 3 = .ok (.iload_n 0, 1) := by decide +kernel
theorem dX8_drawOf_4 : decode cX8_drawOf 4 = .ok (.i2l, 1) := by decide +kernel
theorem dX8_drawOf_5 : decode cX8_drawOf 5 = .ok (.lmul, 1) := by decide +kernel
theorem dX8_drawOf_6 : decode cX8_drawOf 6 = .ok (.ldc2_w 273, 3) := by decide +kernel
theorem dX8_drawOf_9 : decode cX8_drawOf 9 = .ok (.iload_n 1, 1) := by decide +kernel
theorem dX8_drawOf_10 : decode cX8_drawOf 10 = .ok (.i2l, 1) := by decide +kernel
theorem dX8_drawOf_11 : decode cX8_drawOf 11 = .ok (.lmul, 1) := by decide +kernel
theorem dX8_drawOf_12 : decode cX8_drawOf 12 = .ok (.ladd, 1) := by decide +kernel
theorem dX8_drawOf_13 : decode cX8_drawOf 13 = .ok (.lconst 1, 1) := by decide +kernel
theorem dX8_drawOf_14 : decode cX8_drawOf 14 = .ok (.ladd, 1) := by decide +kernel
theorem dX8_drawOf_15 : decode cX8_drawOf 15 = .ok (.lstore_n 2, 1) := by decide +kernel
theorem dX8_drawOf_16 : decode cX8_drawOf 16 = .ok (.lload_n 2, 1) := by decide +kernel
theorem dX8_drawOf_17 : decode cX8_drawOf 17 = .ok (.lload_n 2, 1) := by decide +kernel
theorem dX8_drawOf_18 : decode cX8_drawOf 18 = .ok (.lmul, 1) := by decide +kernel
theorem dX8_drawOf_19 : decode cX8_drawOf 19 = .ok (.ldc2_w 275, 3) := by decide +kernel
theorem dX8_drawOf_22 : decode cX8_drawOf 22 = .ok (.lrem, 1) := by decide +kernel
theorem dX8_drawOf_23 : decode cX8_drawOf 23 = .ok (.l2i, 1) := by decide +kernel
theorem dX8_drawOf_24 : decode cX8_drawOf 24 = .ok (.ireturn, 1) := by decide +kernel
theorem dX9_init_0 : decode cX9_init 0 = .ok (.aload_n 0, 1) := by decide +kernel
theorem dX9_init_1 : decode cX9_init 1 = .ok (.invokespecial 1, 3) := by decide +kernel
theorem dX9_init_4 : decode cX9_init 4 = .ok (.aload_n 0, 1) := by decide +kernel
theorem dX9_init_5 : decode cX9_init 5 = .ok (.sipush 612, 3) := by decide +kernel
theorem dX9_init_8 : decode cX9_init 8 = .ok (.newarray .int, 2) := by decide +kernel
theorem dX9_init_10 : decode cX9_init 10 = .ok (.putfield 7, 3) := by decide +kernel
theorem dX9_init_13 : decode cX9_init 13 = .ok (.aload_n 0, 1) := by decide +kernel
theorem dX9_init_14 : decode cX9_init 14 = .ok (.bipush 7, 2) := by decide +kernel
theorem dX9_init_16 : decode cX9_init 16 = .ok (.newarray .int, 2) := by decide +kernel
theorem dX9_init_18 : decode cX9_init 18 = .ok (.putfield 13, 3) := by decide +kernel
theorem dX9_init_21 : decode cX9_init 21 = .ok (.aload_n 0, 1) := by decide +kernel
theorem dX9_init_22 : decode cX9_init 22 = .ok (.bipush 7, 2) := by decide +kernel
theorem dX9_init_24 : decode cX9_init 24 = .ok (.newarray .int, 2) := by decide +kernel
theorem dX9_init_26 : decode cX9_init 26 = .ok (.putfield 16, 3) := by decide +kernel
theorem dX9_init_29 : decode cX9_init 29 = .ok (.aload_n 0, 1) := by decide +kernel
theorem dX9_init_30 : decode cX9_init 30 = .ok (.bipush 7, 2) := by decide +kernel
theorem dX9_init_32 : decode cX9_init 32 = .ok (.newarray .int, 2) := by decide +kernel
theorem dX9_init_34 : decode cX9_init 34 = .ok (.putfield 19, 3) := by decide +kernel
theorem dX9_init_37 : decode cX9_init 37 = .ok (.aload_n 0, 1) := by decide +kernel
theorem dX9_init_38 : decode cX9_init 38 = .ok (.bipush 7, 2) := by decide +kernel
theorem dX9_init_40 : decode cX9_init 40 = .ok (.newarray .int, 2) := by decide +kernel
theorem dX9_init_42 : decode cX9_init 42 = .ok (.putfield 22, 3) := by decide +kernel
theorem dX9_init_45 : decode cX9_init 45 = .ok (.aload_n 0, 1) := by decide +kernel
theorem dX9_init_46 : decode cX9_init 46 = .ok (.bipush 7, 2) := by decide +kernel
theorem dX9_init_48 : decode cX9_init 48 = .ok (.newarray .int, 2) := by decide +kernel
theorem dX9_init_50 : decode cX9_init 50 = .ok (.putfield 25, 3) := by decide +kernel
theorem dX9_init_53 : decode cX9_init 53 = .ok (.aload_n 0, 1) := by decide +kernel
theorem dX9_init_54 : decode cX9_init 54 = .ok (.bipush 7, 2) := by decide +kernel
theorem dX9_init_56 : decode cX9_init 56 = .ok (.newarray .int, 2) := by decide +kernel
theorem dX9_init_58 : decode cX9_init 58 = .ok (.putfield 28, 3) := by decide +kernel
theorem dX9_init_61 : decode cX9_init 61 = .ok (.aload_n 0, 1) := by decide +kernel
theorem dX9_init_62 : decode cX9_init 62 = .ok (.sipush 200, 3) := by decide +kernel
theorem dX9_init_65 : decode cX9_init 65 = .ok (.newarray .int, 2) := by decide +kernel
theorem dX9_init_67 : decode cX9_init 67 = .ok (.putfield 31, 3) := by decide +kernel
theorem dX9_init_70 : decode cX9_init 70 = .ok (.aload_n 0, 1) := by decide +kernel
theorem dX9_init_71 : decode cX9_init 71 = .ok (.bipush 35, 2) := by decide +kernel
theorem dX9_init_73 : decode cX9_init 73 = .ok (.newarray .int, 2) := by decide +kernel
theorem dX9_init_75 : decode cX9_init 75 = .ok (.putfield 34, 3) := by decide +kernel
theorem dX9_init_78 : decode cX9_init 78 = .ok (.aload_n 0, 1) := by decide +kernel
theorem dX9_init_79 : decode cX9_init 79 = .ok (.bipush 7, 2) := by decide +kernel
theorem dX9_init_81 : decode cX9_init 81 = .ok (.newarray .int, 2) := by decide +kernel
theorem dX9_init_83 : decode cX9_init 83 = .ok (.putfield 37, 3) := by decide +kernel
theorem dX9_init_86 : decode cX9_init 86 = .ok (.aload_n 0, 1) := by decide +kernel
theorem dX9_init_87 : decode cX9_init 87 = .ok (.bipush 7, 2) := by decide +kernel
theorem dX9_init_89 : decode cX9_init 89 = .ok (.newarray .int, 2) := by decide +kernel
theorem dX9_init_91 : decode cX9_init 91 = .ok (.putfield 40, 3) := by decide +kernel
theorem dX9_init_94 : decode cX9_init 94 = .ok (.aload_n 0, 1) := by decide +kernel
theorem dX9_init_95 : decode cX9_init 95 = .ok (.bipush 8, 2) := by decide +kernel
theorem dX9_init_97 : decode cX9_init 97 = .ok (.newarray .int, 2) := by decide +kernel
theorem dX9_init_99 : decode cX9_init 99 = .ok (.putfield 43, 3) := by decide +kernel
theorem dX9_init_102 : decode cX9_init 102 = .ok (.aload_n 0, 1) := by decide +kernel
theorem dX9_init_103 : decode cX9_init 103 = .ok (.bipush 7, 2) := by decide +kernel
theorem dX9_init_105 : decode cX9_init 105 = .ok (.newarray .int, 2) := by decide +kernel
theorem dX9_init_107 : decode cX9_init 107 = .ok (.putfield 46, 3) := by decide +kernel
theorem dX9_init_110 : decode cX9_init 110 = .ok (.aload_n 0, 1) := by decide +kernel
theorem dX9_init_111 : decode cX9_init 111 = .ok (.bipush 8, 2) := by decide +kernel
theorem dX9_init_113 : decode cX9_init 113 = .ok (.newarray .int, 2) := by decide +kernel
theorem dX9_init_115 : decode cX9_init 115 = .ok (.putfield 49, 3) := by decide +kernel
theorem dX9_init_118 : decode cX9_init 118 = .ok (.aload_n 0, 1) := by decide +kernel
theorem dX9_init_119 : decode cX9_init 119 = .ok (.bipush 7, 2) := by decide +kernel
theorem dX9_init_121 : decode cX9_init 121 = .ok (.newarray .int, 2) := by decide +kernel
theorem dX9_init_123 : decode cX9_init 123 = .ok (.putfield 52, 3) := by decide +kernel
theorem dX9_init_126 : decode cX9_init 126 = .ok (.aload_n 0, 1) := by decide +kernel
theorem dX9_init_127 : decode cX9_init 127 = .ok (.invokevirtual 55, 3) := by decide +kernel
theorem dX9_init_130 : decode cX9_init 130 = .ok (.aload_n 0, 1) := by decide +kernel
theorem dX9_init_131 : decode cX9_init 131 = .ok (.iconst 0, 1) := by decide +kernel
theorem dX9_init_132 : decode cX9_init 132 = .ok (.iconst 2, 1) := by decide +kernel
theorem dX9_init_133 : decode cX9_init 133 = .ok (.bipush 10, 2) := by decide +kernel
theorem dX9_init_135 : decode cX9_init 135 = .ok (.iconst 4, 1) := by decide +kernel
theorem dX9_init_136 : decode cX9_init 136 = .ok (.iconst 3, 1) := by decide +kernel
theorem dX9_init_137 : decode cX9_init 137 = .ok (.invokevirtual 58, 3) := by decide +kernel
theorem dX9_init_140 : decode cX9_init 140 = .ok (.aload_n 0, 1) := by decide +kernel
theorem dX9_init_141 : decode cX9_init 141 = .ok (.iconst 1, 1) := by decide +kernel
theorem dX9_init_142 : decode cX9_init 142 = .ok (.iconst 4, 1) := by decide +kernel
theorem dX9_init_143 : decode cX9_init 143 = .ok (.bipush 8, 2) := by decide +kernel
theorem dX9_init_145 : decode cX9_init 145 = .ok (.bipush 9, 2) := by decide +kernel
theorem dX9_init_147 : decode cX9_init 147 = .ok (.iconst 2, 1) := by decide +kernel
theorem dX9_init_148 : decode cX9_init 148 = .ok (.invokevirtual 58, 3) := by decide +kernel
theorem dX9_init_151 : decode cX9_init 151 = .ok (.aload_n 0, 1) := by decide +kernel
theorem dX9_init_152 : decode cX9_init 152 = .ok (.iconst 2, 1) := by decide +kernel
theorem dX9_init_153 : decode cX9_init 153 = .ok (.iconst 5, 1) := by decide +kernel
theorem dX9_init_154 : decode cX9_init 154 = .ok (.bipush 6, 2) := by decide +kernel
theorem dX9_init_156 : decode cX9_init 156 = .ok (.iconst 0, 1) := by decide +kernel
theorem dX9_init_157 : decode cX9_init 157 = .ok (.iconst 1, 1) := by decide +kernel
theorem dX9_init_158 : decode cX9_init 158 = .ok (.invokevirtual 58, 3) := by decide +kernel
theorem dX9_init_161 : decode cX9_init 161 = .ok (.aload_n 0, 1) := by decide +kernel
theorem dX9_init_162 : decode cX9_init 162 = .ok (.iconst 0, 1) := by decide +kernel
theorem dX9_init_163 : decode cX9_init 163 = .ok (.bipush 7, 2) := by decide +kernel
theorem dX9_init_165 : decode cX9_init 165 = .ok (.bipush 12, 2) := by decide +kernel
theorem dX9_init_167 : decode cX9_init 167 = .ok (.iconst 5, 1) := by decide +kernel
theorem dX9_init_168 : decode cX9_init 168 = .ok (.iconst 4, 1) := by decide +kernel
theorem dX9_init_169 : decode cX9_init 169 = .ok (.invokevirtual 58, 3) := by decide +kernel
theorem dX9_init_172 : decode cX9_init 172 = .ok (.aload_n 0, 1) := by decide +kernel
theorem dX9_init_173 : decode cX9_init 173 = .ok (.iconst 3, 1) := by decide +kernel
theorem dX9_init_174 : decode cX9_init 174 = .ok (.bipush 7, 2) := by decide +kernel
theorem dX9_init_176 : decode cX9_init 176 = .ok (.bipush 9, 2) := by decide +kernel
theorem dX9_init_178 : decode cX9_init 178 = .ok (.iconst 2, 1) := by decide +kernel
theorem dX9_init_179 : decode cX9_init 179 = .ok (.iconst 2, 1) := by decide +kernel
theorem dX9_init_180 : decode cX9_init 180 = .ok (.invokevirtual 58, 3) := by decide +kernel
theorem dX9_init_183 : decode cX9_init 183 = .ok (.aload_n 0, 1) := by decide +kernel
theorem dX9_init_184 : decode cX9_init 184 = .ok (.iconst 0, 1) := by decide +kernel
theorem dX9_init_185 : decode cX9_init 185 = .ok (.bipush 15, 2) := by decide +kernel
theorem dX9_init_187 : decode cX9_init 187 = .ok (.iconst 5, 1) := by decide +kernel
theorem dX9_init_188 : decode cX9_init 188 = .ok (.bipush 6, 2) := by decide +kernel
theorem dX9_init_190 : decode cX9_init 190 = .ok (.iconst 3, 1) := by decide +kernel
theorem dX9_init_191 : decode cX9_init 191 = .ok (.invokevirtual 58, 3) := by decide +kernel
theorem dX9_init_194 : decode cX9_init 194 = .ok (.aload_n 0, 1) := by decide +kernel
theorem dX9_init_195 : decode cX9_init 195 = .ok (.iconst 2, 1) := by decide +kernel
theorem dX9_init_196 : decode cX9_init 196 = .ok (.invokevirtual 62, 3) := by decide +kernel
theorem dX9_init_199 : decode cX9_init 199 = .ok (.aload_n 0, 1) := by decide +kernel
theorem dX9_init_200 : decode cX9_init 200 = .ok (.iconst 5, 1) := by decide +kernel
theorem dX9_init_201 : decode cX9_init 201 = .ok (.invokevirtual 62, 3) := by decide +kernel
theorem dX9_init_204 : decode cX9_init 204 = .ok (.aload_n 0, 1) := by decide +kernel
theorem dX9_init_205 : decode cX9_init 205 = .ok (.iconst 1, 1) := by decide +kernel
theorem dX9_init_206 : decode cX9_init 206 = .ok (.invokevirtual 62, 3) := by decide +kernel
theorem dX9_init_209 : decode cX9_init 209 = .ok (.aload_n 0, 1) := by decide +kernel
theorem dX9_init_210 : decode cX9_init 210 = .ok (.iconst 4, 1) := by decide +kernel
theorem dX9_init_211 : decode cX9_init 211 = .ok (.invokevirtual 62, 3) := by decide +kernel
theorem dX9_init_214 : decode cX9_init 214 = .ok (.aload_n 0, 1) := by decide +kernel
theorem dX9_init_215 : decode cX9_init 215 = .ok (.iconst 0, 1) := by decide +kernel
theorem dX9_init_216 : decode cX9_init 216 = .ok (.invokevirtual 62, 3) := by decide +kernel
theorem dX9_init_219 : decode cX9_init 219 = .ok (.aload_n 0, 1) := by decide +kernel
theorem dX9_init_220 : decode cX9_init 220 = .ok (.iconst 3, 1) := by decide +kernel
theorem dX9_init_221 : decode cX9_init 221 = .ok (.invokevirtual 62, 3) := by decide +kernel
theorem dX9_init_224 : decode cX9_init 224 = .ok (.aload_n 0, 1) := by decide +kernel
theorem dX9_init_225 : decode cX9_init 225 = .ok (.invokevirtual 66, 3) := by decide +kernel
theorem dX9_init_228 : decode cX9_init 228 = .ok (.return_, 1) := by decide +kernel
theorem dX9_in_0 : decode cX9_in 0 = .ok (.lload_n 0, 1) := by decide +kernel
theorem dX9_in_1 : decode cX9_in 1 = .ok (.lload_n 2, 1) := by decide +kernel
theorem dX9_in_2 : decode cX9_in 2 = .ok (.lcmp, 1) := by decide +kernel
theorem dX9_in_3 : decode cX9_in 3 = .ok (.ifCond .lt 14, 3) := by decide +kernel
theorem dX9_in_6 : decode cX9_in 6 = .ok (.lload_n 0, 1) := by decide +kernel
theorem dX9_in_7 : decode cX9_in 7 = .ok (.lload 4, 2) := by decide +kernel
theorem dX9_in_9 : decode cX9_in 9 = .ok (.lcmp, 1) := by decide +kernel
theorem dX9_in_10 : decode cX9_in 10 = .ok (.ifCond .gt 7, 3) := by decide +kernel
theorem dX9_in_13 : decode cX9_in 13 = .ok (.iconst 1, 1) := by decide +kernel
theorem dX9_in_14 : decode cX9_in 14 = .ok (.goto 4, 3) := by decide +kernel
theorem dX9_in_17 : decode cX9_in 17 = .ok (.iconst 0, 1) := by decide +kernel
theorem dX9_in_18 : decode cX9_in 18 = .ok (.ireturn, 1) := by decide +kernel
theorem dX9_has_0 : decode cX9_has 0 = .ok (.iload_n 0, 1) := by decide +kernel
theorem dX9_has_1 : decode cX9_has 1 = .ok (.iload_n 1, 1) := by decide +kernel
theorem dX9_has_2 : decode cX9_has 2 = .ok (.ishr, 1) := by decide +kernel
theorem dX9_has_3 : decode cX9_has 3 = .ok (.iconst 1, 1) := by decide +kernel
theorem dX9_has_4 : decode cX9_has 4 = .ok (.iand, 1) := by decide +kernel
theorem dX9_has_5 : decode cX9_has 5 = .ok (.iconst 1, 1) := by decide +kernel
theorem dX9_has_6 : decode cX9_has 6 = .ok (.if_icmp .ne 7, 3) := by decide +kernel
theorem dX9_has_9 : decode cX9_has 9 = .ok (.iconst 1, 1) := by decide +kernel
theorem dX9_has_10 : decode cX9_has 10 = .ok (.goto 4, 3) := by decide +kernel
theorem dX9_has_13 : decode cX9_has 13 = .ok (.iconst 0, 1) := by decide +kernel
theorem dX9_has_14 : decode cX9_has 14 = .ok (.ireturn, 1) := by decide +kernel
theorem dX9_copy_0 : decode cX9_copy 0 = .ok (.iconst 0, 1) := by decide +kernel
theorem dX9_copy_1 : decode cX9_copy 1 = .ok (.istore_n 3, 1) := by decide +kernel
theorem dX9_copy_2 : decode cX9_copy 2 = .ok (.iload_n 3, 1) := by decide +kernel
theorem dX9_copy_3 : decode cX9_copy 3 = .ok (.bipush 51, 2) := by decide +kernel
theorem dX9_copy_5 : decode cX9_copy 5 = .ok (.if_icmp .ge 25, 3) := by decide +kernel
theorem dX9_copy_8 : decode cX9_copy 8 = .ok (.aload_n 0, 1) := by decide +kernel
theorem dX9_copy_9 : decode cX9_copy 9 = .ok (.getfield 7, 3) := by decide +kernel
theorem dX9_copy_12 : decode cX9_copy 12 = .ok (.iload_n 2, 1) := by decide +kernel
theorem dX9_copy_13 : decode cX9_copy 13 = .ok (.iload_n 3, 1) := by decide +kernel
theorem dX9_copy_14 : decode cX9_copy 14 = .ok (.iadd, 1) := by decide +kernel
theorem dX9_copy_15 : decode cX9_copy 15 = .ok (.aload_n 0, 1) := by decide +kernel
theorem dX9_copy_16 : decode cX9_copy 16 = .ok (.getfield 7, 3) := by decide +kernel
theorem dX9_copy_19 : decode cX9_copy 19 = .ok (.iload_n 1, 1) := by decide +kernel
theorem dX9_copy_20 : decode cX9_copy 20 = .ok (.iload_n 3, 1) := by decide +kernel
theorem dX9_copy_21 : decode cX9_copy 21 = .ok (.iadd, 1) := by decide +kernel
theorem dX9_copy_22 : decode cX9_copy 22 = .ok (.iaload, 1) := by decide +kernel
theorem dX9_copy_23 : decode cX9_copy 23 = .ok (.iastore, 1) := by decide +kernel
theorem dX9_copy_24 : decode cX9_copy 24 = .ok (.iinc 3 1, 3) := by decide +kernel
theorem dX9_copy_27 : decode cX9_copy 27 = .ok (.goto (-25), 3) := by decide +kernel
theorem dX9_copy_30 : decode cX9_copy 30 = .ok (.return_, 1) := by decide +kernel
theorem dX9_isGuest_0 : decode cX9_isGuest 0 = .ok (.iload_n 1, 1) := by decide +kernel
theorem dX9_isGuest_1 : decode cX9_isGuest 1 = .ok (.i2l, 1) := by decide +kernel
theorem dX9_isGuest_2 : decode cX9_isGuest 2 = .ok (.lconst 0, 1) := by decide +kernel
theorem dX9_isGuest_3 : decode cX9_isGuest 3 = .ok (.aload_n 0, 1) := by decide +kernel
theorem dX9_isGuest_4 : decode cX9_isGuest 4 = .ok (.getfield 69, 3) := by decide +kernel
theorem dX9_isGuest_7 : decode cX9_isGuest 7 = .ok (.iconst 1, 1) := by decide +kernel
theorem dX9_isGuest_8 : decode cX9_isGuest 8 = .ok (.isub, 1) := by decide +kernel
theorem dX9_isGuest_9 : decode cX9_isGuest 9 = .ok (.i2l, 1) := by decide +kernel
theorem dX9_isGuest_10 : decode cX9_isGuest 10 = .ok (.invokestatic 73, 3) := by decide +kernel
theorem dX9_isGuest_13 : decode cX9_isGuest 13 = .ok (.ireturn, 1) := by decide +kernel
theorem dX9_starts_0 : decode cX9_starts 0 = .ok (.aload_n 0, 1) := by decide +kernel
theorem dX9_starts_1 : decode cX9_starts 1 = .ok (.iconst 0, 1) := by decide +kernel
theorem dX9_starts_2 : decode cX9_starts 2 = .ok (.putfield 77, 3) := by decide +kernel
theorem dX9_starts_5 : decode cX9_starts 5 = .ok (.aload_n 0, 1) := by decide +kernel
theorem dX9_starts_6 : decode cX9_starts 6 = .ok (.iconst 0, 1) := by decide +kernel
end
section
theorem dX9_starts_7 : decode cX9_starts 7 = .ok (.putfield 80, 3) := by decide +kernel
theorem dX9_starts_10 : decode cX9_starts 10 = .ok (.iconst 0, 1) := by decide +kernel
theorem dX9_starts_11 : decode cX9_starts 11 = .ok (.istore_n 1, 1) := by decide +kernel
theorem dX9_starts_12 : decode cX9_starts 12 = .ok (.iload_n 1, 1) := by decide +kernel
theorem dX9_starts_13 : decode cX9_starts 13 = .ok (.bipush 7, 2) := by decide +kernel
theorem dX9_starts_15 : decode cX9_starts 15 = .ok (.if_icmp .ge 16, 3) := by decide +kernel
theorem dX9_starts_18 : decode cX9_starts 18 = .ok (.aload_n 0, 1) := by decide +kernel
theorem dX9_starts_19 : decode cX9_starts 19 = .ok (.getfield 37, 3) := by decide +kernel
theorem dX9_starts_22 : decode cX9_starts 22 = .ok (.iload_n 1, 1) := by decide +kernel
theorem dX9_starts_23 : decode cX9_starts 23 = .ok (.iconst 0, 1) := by decide +kernel
theorem dX9_starts_24 : decode cX9_starts 24 = .ok (.iastore, 1) := by decide +kernel
theorem dX9_starts_25 : decode cX9_starts 25 = .ok (.iinc 1 1, 3) := by decide +kernel
theorem dX9_starts_28 : decode cX9_starts 28 = .ok (.goto (-16), 3) := by decide +kernel
theorem dX9_starts_31 : decode cX9_starts 31 = .ok (.return_, 1) := by decide +kernel
theorem dX9_addsGuest_0 : decode cX9_addsGuest 0 = .ok (.iconst 5, 1) := by decide +kernel
theorem dX9_addsGuest_1 : decode cX9_addsGuest 1 = .ok (.aload_n 0, 1) := by decide +kernel
theorem dX9_addsGuest_2 : decode cX9_addsGuest 2 = .ok (.getfield 77, 3) := by decide +kernel
theorem dX9_addsGuest_5 : decode cX9_addsGuest 5 = .ok (.imul, 1) := by decide +kernel
theorem dX9_addsGuest_6 : decode cX9_addsGuest 6 = .ok (.istore 6, 2) := by decide +kernel
theorem dX9_addsGuest_8 : decode cX9_addsGuest 8 = .ok (.aload_n 0, 1) := by decide +kernel
theorem dX9_addsGuest_9 : decode cX9_addsGuest 9 = .ok (.getfield 34, 3) := by decide +kernel
theorem dX9_addsGuest_12 : decode cX9_addsGuest 12 = .ok (.iload 6, 2) := by decide +kernel
theorem dX9_addsGuest_14 : decode cX9_addsGuest 14 = .ok (.iload_n 1, 1) := by decide +kernel
theorem dX9_addsGuest_15 : decode cX9_addsGuest 15 = .ok (.iastore, 1) := by decide +kernel
theorem dX9_addsGuest_16 : decode cX9_addsGuest 16 = .ok (.aload_n 0, 1) := by decide +kernel
theorem dX9_addsGuest_17 : decode cX9_addsGuest 17 = .ok (.getfield 34, 3) := by decide +kernel
theorem dX9_addsGuest_20 : decode cX9_addsGuest 20 = .ok (.iload 6, 2) := by decide +kernel
theorem dX9_addsGuest_22 : decode cX9_addsGuest 22 = .ok (.iconst 1, 1) := by decide +kernel
theorem dX9_addsGuest_23 : decode cX9_addsGuest 23 = .ok (.iadd, 1) := by decide +kernel
theorem dX9_addsGuest_24 : decode cX9_addsGuest 24 = .ok (.iload_n 2, 1) := by decide +kernel
theorem dX9_addsGuest_25 : decode cX9_addsGuest 25 = .ok (.iastore, 1) := by decide +kernel
theorem dX9_addsGuest_26 : decode cX9_addsGuest 26 = .ok (.aload_n 0, 1) := by decide +kernel
theorem dX9_addsGuest_27 : decode cX9_addsGuest 27 = .ok (.getfield 34, 3) := by decide +kernel
theorem dX9_addsGuest_30 : decode cX9_addsGuest 30 = .ok (.iload 6, 2) := by decide +kernel
theorem dX9_addsGuest_32 : decode cX9_addsGuest 32 = .ok (.iconst 2, 1) := by decide +kernel
theorem dX9_addsGuest_33 : decode cX9_addsGuest 33 = .ok (.iadd, 1) := by decide +kernel
theorem dX9_addsGuest_34 : decode cX9_addsGuest 34 = .ok (.iload_n 3, 1) := by decide +kernel
theorem dX9_addsGuest_35 : decode cX9_addsGuest 35 = .ok (.iastore, 1) := by decide +kernel
theorem dX9_addsGuest_36 : decode cX9_addsGuest 36 = .ok (.aload_n 0, 1) := by decide +kernel
theorem dX9_addsGuest_37 : decode cX9_addsGuest 37 = .ok (.getfield 34, 3) := by decide +kernel
theorem dX9_addsGuest_40 : decode cX9_addsGuest 40 = .ok (.iload 6, 2) := by decide +kernel
theorem dX9_addsGuest_42 : decode cX9_addsGuest 42 = .ok (.iconst 3, 1) := by decide +kernel
theorem dX9_addsGuest_43 : decode cX9_addsGuest 43 = .ok (.iadd, 1) := by decide +kernel
theorem dX9_addsGuest_44 : decode cX9_addsGuest 44 = .ok (.iload 4, 2) := by decide +kernel
theorem dX9_addsGuest_46 : decode cX9_addsGuest 46 = .ok (.iastore, 1) := by decide +kernel
theorem dX9_addsGuest_47 : decode cX9_addsGuest 47 = .ok (.aload_n 0, 1) := by decide +kernel
theorem dX9_addsGuest_48 : decode cX9_addsGuest 48 = .ok (.getfield 34, 3) := by decide +kernel
theorem dX9_addsGuest_51 : decode cX9_addsGuest 51 = .ok (.iload 6, 2) := by decide +kernel
theorem dX9_addsGuest_53 : decode cX9_addsGuest 53 = .ok (.iconst 4, 1) := by decide +kernel
theorem dX9_addsGuest_54 : decode cX9_addsGuest 54 = .ok (.iadd, 1) := by decide +kernel
theorem dX9_addsGuest_55 : decode cX9_addsGuest 55 = .ok (.iload 5, 2) := by decide +kernel
theorem dX9_addsGuest_57 : decode cX9_addsGuest 57 = .ok (.iastore, 1) := by decide +kernel
theorem dX9_addsGuest_58 : decode cX9_addsGuest 58 = .ok (.aload_n 0, 1) := by decide +kernel
theorem dX9_addsGuest_59 : decode cX9_addsGuest 59 = .ok (.dup, 1) := by decide +kernel
theorem dX9_addsGuest_60 : decode cX9_addsGuest 60 = .ok (.getfield 77, 3) := by decide +kernel
theorem dX9_addsGuest_63 : decode cX9_addsGuest 63 = .ok (.iconst 1, 1) := by decide +kernel
theorem dX9_addsGuest_64 : decode cX9_addsGuest 64 = .ok (.iadd, 1) := by decide +kernel
theorem dX9_addsGuest_65 : decode cX9_addsGuest 65 = .ok (.putfield 77, 3) := by decide +kernel
theorem dX9_addsGuest_68 : decode cX9_addsGuest 68 = .ok (.return_, 1) := by decide +kernel
theorem dX9_addsRoom_0 : decode cX9_addsRoom 0 = .ok (.aload_n 0, 1) := by decide +kernel
theorem dX9_addsRoom_1 : decode cX9_addsRoom 1 = .ok (.getfield 37, 3) := by decide +kernel
theorem dX9_addsRoom_4 : decode cX9_addsRoom 4 = .ok (.aload_n 0, 1) := by decide +kernel
theorem dX9_addsRoom_5 : decode cX9_addsRoom 5 = .ok (.getfield 80, 3) := by decide +kernel
theorem dX9_addsRoom_8 : decode cX9_addsRoom 8 = .ok (.iload_n 1, 1) := by decide +kernel
theorem dX9_addsRoom_9 : decode cX9_addsRoom 9 = .ok (.iastore, 1) := by decide +kernel
theorem dX9_addsRoom_10 : decode cX9_addsRoom 10 = .ok (.aload_n 0, 1) := by decide +kernel
theorem dX9_addsRoom_11 : decode cX9_addsRoom 11 = .ok (.dup, 1) := by decide +kernel
theorem dX9_addsRoom_12 : decode cX9_addsRoom 12 = .ok (.getfield 80, 3) := by decide +kernel
theorem dX9_addsRoom_15 : decode cX9_addsRoom 15 = .ok (.iconst 1, 1) := by decide +kernel
theorem dX9_addsRoom_16 : decode cX9_addsRoom 16 = .ok (.iadd, 1) := by decide +kernel
theorem dX9_addsRoom_17 : decode cX9_addsRoom 17 = .ok (.putfield 80, 3) := by decide +kernel
theorem dX9_addsRoom_20 : decode cX9_addsRoom 20 = .ok (.return_, 1) := by decide +kernel
theorem dX9_begins_0 : decode cX9_begins 0 = .ok (.aload_n 0, 1) := by decide +kernel
theorem dX9_begins_1 : decode cX9_begins 1 = .ok (.aload_n 0, 1) := by decide +kernel
theorem dX9_begins_2 : decode cX9_begins 2 = .ok (.getfield 77, 3) := by decide +kernel
theorem dX9_begins_5 : decode cX9_begins 5 = .ok (.putfield 69, 3) := by decide +kernel
theorem dX9_begins_8 : decode cX9_begins 8 = .ok (.iconst 0, 1) := by decide +kernel
theorem dX9_begins_9 : decode cX9_begins 9 = .ok (.istore_n 1, 1) := by decide +kernel
theorem dX9_begins_10 : decode cX9_begins 10 = .ok (.iload_n 1, 1) := by decide +kernel
theorem dX9_begins_11 : decode cX9_begins 11 = .ok (.bipush 51, 2) := by decide +kernel
theorem dX9_begins_13 : decode cX9_begins 13 = .ok (.if_icmp .ge 16, 3) := by decide +kernel
theorem dX9_begins_16 : decode cX9_begins 16 = .ok (.aload_n 0, 1) := by decide +kernel
theorem dX9_begins_17 : decode cX9_begins 17 = .ok (.getfield 7, 3) := by decide +kernel
theorem dX9_begins_20 : decode cX9_begins 20 = .ok (.iload_n 1, 1) := by decide +kernel
theorem dX9_begins_21 : decode cX9_begins 21 = .ok (.iconst 0, 1) := by decide +kernel
theorem dX9_begins_22 : decode cX9_begins 22 = .ok (.iastore, 1) := by decide +kernel
theorem dX9_begins_23 : decode cX9_begins 23 = .ok (.iinc 1 1, 3) := by decide +kernel
theorem dX9_begins_26 : decode cX9_begins 26 = .ok (.goto (-16), 3) := by decide +kernel
theorem dX9_begins_29 : decode cX9_begins 29 = .ok (.aload_n 0, 1) := by decide +kernel
theorem dX9_begins_30 : decode cX9_begins 30 = .ok (.getfield 7, 3) := by decide +kernel
theorem dX9_begins_33 : decode cX9_begins 33 = .ok (.iconst 1, 1) := by decide +kernel
theorem dX9_begins_34 : decode cX9_begins 34 = .ok (.bipush (-4), 2) := by decide +kernel
theorem dX9_begins_36 : decode cX9_begins 36 = .ok (.iastore, 1) := by decide +kernel
theorem dX9_begins_37 : decode cX9_begins 37 = .ok (.iconst 0, 1) := by decide +kernel
theorem dX9_begins_38 : decode cX9_begins 38 = .ok (.istore_n 1, 1) := by decide +kernel
theorem dX9_begins_39 : decode cX9_begins 39 = .ok (.iload_n 1, 1) := by decide +kernel
theorem dX9_begins_40 : decode cX9_begins 40 = .ok (.bipush 7, 2) := by decide +kernel
theorem dX9_begins_42 : decode cX9_begins 42 = .ok (.if_icmp .ge 20, 3) := by decide +kernel
theorem dX9_begins_45 : decode cX9_begins 45 = .ok (.aload_n 0, 1) := by decide +kernel
theorem dX9_begins_46 : decode cX9_begins 46 = .ok (.getfield 7, 3) := by decide +kernel
theorem dX9_begins_49 : decode cX9_begins 49 = .ok (.bipush 30, 2) := by decide +kernel
theorem dX9_begins_51 : decode cX9_begins 51 = .ok (.iload_n 1, 1) := by decide +kernel
theorem dX9_begins_52 : decode cX9_begins 52 = .ok (.iadd, 1) := by decide +kernel
theorem dX9_begins_53 : decode cX9_begins 53 = .ok (.bipush (-4), 2) := by decide +kernel
theorem dX9_begins_55 : decode cX9_begins 55 = .ok (.iastore, 1) := by decide +kernel
theorem dX9_begins_56 : decode cX9_begins 56 = .ok (.iinc 1 1, 3) := by decide +kernel
theorem dX9_begins_59 : decode cX9_begins 59 = .ok (.goto (-20), 3) := by decide +kernel
theorem dX9_begins_62 : decode cX9_begins 62 = .ok (.iconst 0, 1) := by decide +kernel
theorem dX9_begins_63 : decode cX9_begins 63 = .ok (.istore_n 1, 1) := by decide +kernel
theorem dX9_begins_64 : decode cX9_begins 64 = .ok (.iload_n 1, 1) := by decide +kernel
theorem dX9_begins_65 : decode cX9_begins 65 = .ok (.aload_n 0, 1) := by decide +kernel
theorem dX9_begins_66 : decode cX9_begins 66 = .ok (.getfield 69, 3) := by decide +kernel
theorem dX9_begins_69 : decode cX9_begins 69 = .ok (.if_icmp .ge 105, 3) := by decide +kernel
theorem dX9_begins_72 : decode cX9_begins 72 = .ok (.aload_n 0, 1) := by decide +kernel
theorem dX9_begins_73 : decode cX9_begins 73 = .ok (.getfield 13, 3) := by decide +kernel
theorem dX9_begins_76 : decode cX9_begins 76 = .ok (.iload_n 1, 1) := by decide +kernel
theorem dX9_begins_77 : decode cX9_begins 77 = .ok (.aload_n 0, 1) := by decide +kernel
theorem dX9_begins_78 : decode cX9_begins 78 = .ok (.getfield 34, 3) := by decide +kernel
theorem dX9_begins_81 : decode cX9_begins 81 = .ok (.iconst 5, 1) := by decide +kernel
theorem dX9_begins_82 : decode cX9_begins 82 = .ok (.iload_n 1, 1) := by decide +kernel
theorem dX9_begins_83 : decode cX9_begins 83 = .ok (.imul, 1) := by decide +kernel
theorem dX9_begins_84 : decode cX9_begins 84 = .ok (.iaload, 1) := by decide +kernel
theorem dX9_begins_85 : decode cX9_begins 85 = .ok (.iastore, 1) := by decide +kernel
theorem dX9_begins_86 : decode cX9_begins 86 = .ok (.aload_n 0, 1) := by decide +kernel
theorem dX9_begins_87 : decode cX9_begins 87 = .ok (.getfield 7, 3) := by decide +kernel
theorem dX9_begins_90 : decode cX9_begins 90 = .ok (.bipush 9, 2) := by decide +kernel
theorem dX9_begins_92 : decode cX9_begins 92 = .ok (.iload_n 1, 1) := by decide +kernel
theorem dX9_begins_93 : decode cX9_begins 93 = .ok (.iadd, 1) := by decide +kernel
theorem dX9_begins_94 : decode cX9_begins 94 = .ok (.aload_n 0, 1) := by decide +kernel
theorem dX9_begins_95 : decode cX9_begins 95 = .ok (.getfield 34, 3) := by decide +kernel
theorem dX9_begins_98 : decode cX9_begins 98 = .ok (.iconst 5, 1) := by decide +kernel
theorem dX9_begins_99 : decode cX9_begins 99 = .ok (.iload_n 1, 1) := by decide +kernel
theorem dX9_begins_100 : decode cX9_begins 100 = .ok (.imul, 1) := by decide +kernel
theorem dX9_begins_101 : decode cX9_begins 101 = .ok (.iconst 1, 1) := by decide +kernel
theorem dX9_begins_102 : decode cX9_begins 102 = .ok (.iadd, 1) := by decide +kernel
theorem dX9_begins_103 : decode cX9_begins 103 = .ok (.iaload, 1) := by decide +kernel
theorem dX9_begins_104 : decode cX9_begins 104 = .ok (.iastore, 1) := by decide +kernel
theorem dX9_begins_105 : decode cX9_begins 105 = .ok (.aload_n 0, 1) := by decide +kernel
theorem dX9_begins_106 : decode cX9_begins 106 = .ok (.getfield 16, 3) := by decide +kernel
theorem dX9_begins_109 : decode cX9_begins 109 = .ok (.iload_n 1, 1) := by decide +kernel
theorem dX9_begins_110 : decode cX9_begins 110 = .ok (.aload_n 0, 1) := by decide +kernel
theorem dX9_begins_111 : decode cX9_begins 111 = .ok (.getfield 34, 3) := by decide +kernel
theorem dX9_begins_114 : decode cX9_begins 114 = .ok (.iconst 5, 1) := by decide +kernel
theorem dX9_begins_115 : decode cX9_begins 115 = .ok (.iload_n 1, 1) := by decide +kernel
theorem dX9_begins_116 : decode cX9_begins 116 = .ok (.imul, 1) := by decide +kernel
theorem dX9_begins_117 : decode cX9_begins 117 = .ok (.iconst 2, 1) := by decide +kernel
theorem dX9_begins_118 : decode cX9_begins 118 = .ok (.iadd, 1) := by decide +kernel
theorem dX9_begins_119 : decode cX9_begins 119 = .ok (.iaload, 1) := by decide +kernel
theorem dX9_begins_120 : decode cX9_begins 120 = .ok (.iastore, 1) := by decide +kernel
theorem dX9_begins_121 : decode cX9_begins 121 = .ok (.aload_n 0, 1) := by decide +kernel
theorem dX9_begins_122 : decode cX9_begins 122 = .ok (.getfield 19, 3) := by decide +kernel
theorem dX9_begins_125 : decode cX9_begins 125 = .ok (.iload_n 1, 1) := by decide +kernel
theorem dX9_begins_126 : decode cX9_begins 126 = .ok (.aload_n 0, 1) := by decide +kernel
theorem dX9_begins_127 : decode cX9_begins 127 = .ok (.getfield 34, 3) := by decide +kernel
theorem dX9_begins_130 : decode cX9_begins 130 = .ok (.iconst 5, 1) := by decide +kernel
theorem dX9_begins_131 : decode cX9_begins 131 = .ok (.iload_n 1, 1) := by decide +kernel
theorem dX9_begins_132 : decode cX9_begins 132 = .ok (.imul, 1) := by decide +kernel
theorem dX9_begins_133 : decode cX9_begins 133 = .ok (.iconst 3, 1) := by decide +kernel
theorem dX9_begins_134 : decode cX9_begins 134 = .ok (.iadd, 1) := by decide +kernel
theorem dX9_begins_135 : decode cX9_begins 135 = .ok (.iaload, 1) := by decide +kernel
theorem dX9_begins_136 : decode cX9_begins 136 = .ok (.iastore, 1) := by decide +kernel
theorem dX9_begins_137 : decode cX9_begins 137 = .ok (.aload_n 0, 1) := by decide +kernel
theorem dX9_begins_138 : decode cX9_begins 138 = .ok (.getfield 22, 3) := by decide +kernel
theorem dX9_begins_141 : decode cX9_begins 141 = .ok (.iload_n 1, 1) := by decide +kernel
theorem dX9_begins_142 : decode cX9_begins 142 = .ok (.aload_n 0, 1) := by decide +kernel
theorem dX9_begins_143 : decode cX9_begins 143 = .ok (.getfield 34, 3) := by decide +kernel
theorem dX9_begins_146 : decode cX9_begins 146 = .ok (.iconst 5, 1) := by decide +kernel
theorem dX9_begins_147 : decode cX9_begins 147 = .ok (.iload_n 1, 1) := by decide +kernel
theorem dX9_begins_148 : decode cX9_begins 148 = .ok (.imul, 1) := by decide +kernel
theorem dX9_begins_149 : decode cX9_begins 149 = .ok (.iconst 4, 1) := by decide +kernel
theorem dX9_begins_150 : decode cX9_begins 150 = .ok (.iadd, 1) := by decide +kernel
theorem dX9_begins_151 : decode cX9_begins 151 = .ok (.iaload, 1) := by decide +kernel
theorem dX9_begins_152 : decode cX9_begins 152 = .ok (.iastore, 1) := by decide +kernel
theorem dX9_begins_153 : decode cX9_begins 153 = .ok (.aload_n 0, 1) := by decide +kernel
theorem dX9_begins_154 : decode cX9_begins 154 = .ok (.getfield 7, 3) := by decide +kernel
theorem dX9_begins_157 : decode cX9_begins 157 = .ok (.bipush 16, 2) := by decide +kernel
theorem dX9_begins_159 : decode cX9_begins 159 = .ok (.iload_n 1, 1) := by decide +kernel
theorem dX9_begins_160 : decode cX9_begins 160 = .ok (.iadd, 1) := by decide +kernel
theorem dX9_begins_161 : decode cX9_begins 161 = .ok (.aload_n 0, 1) := by decide +kernel
theorem dX9_begins_162 : decode cX9_begins 162 = .ok (.getfield 37, 3) := by decide +kernel
theorem dX9_begins_165 : decode cX9_begins 165 = .ok (.iload_n 1, 1) := by decide +kernel
theorem dX9_begins_166 : decode cX9_begins 166 = .ok (.iaload, 1) := by decide +kernel
theorem dX9_begins_167 : decode cX9_begins 167 = .ok (.iastore, 1) := by decide +kernel
theorem dX9_begins_168 : decode cX9_begins 168 = .ok (.iinc 1 1, 3) := by decide +kernel
theorem dX9_begins_171 : decode cX9_begins 171 = .ok (.goto (-107), 3) := by decide +kernel
theorem dX9_begins_174 : decode cX9_begins 174 = .ok (.aload_n 0, 1) := by decide +kernel
theorem dX9_begins_175 : decode cX9_begins 175 = .ok (.iconst 0, 1) := by decide +kernel
theorem dX9_begins_176 : decode cX9_begins 176 = .ok (.putfield 83, 3) := by decide +kernel
theorem dX9_begins_179 : decode cX9_begins 179 = .ok (.aload_n 0, 1) := by decide +kernel
theorem dX9_begins_180 : decode cX9_begins 180 = .ok (.iconst 0, 1) := by decide +kernel
theorem dX9_begins_181 : decode cX9_begins 181 = .ok (.putfield 86, 3) := by decide +kernel
theorem dX9_begins_184 : decode cX9_begins 184 = .ok (.aload_n 0, 1) := by decide +kernel
theorem dX9_begins_185 : decode cX9_begins 185 = .ok (.iconst 0, 1) := by decide +kernel
theorem dX9_begins_186 : decode cX9_begins 186 = .ok (.putfield 89, 3) := by decide +kernel
theorem dX9_begins_189 : decode cX9_begins 189 = .ok (.return_, 1) := by decide +kernel
theorem dX9_write_0 : decode cX9_write 0 = .ok (.iload_n 1, 1) := by decide +kernel
theorem dX9_write_1 : decode cX9_write 1 = .ok (.i2l, 1) := by decide +kernel
theorem dX9_write_2 : decode cX9_write 2 = .ok (.ldc2_w 92, 3) := by decide +kernel
theorem dX9_write_5 : decode cX9_write 5 = .ok (.ldc2_w 94, 3) := by decide +kernel
theorem dX9_write_8 : decode cX9_write 8 = .ok (.invokestatic 73, 3) := by decide +kernel
theorem dX9_write_11 : decode cX9_write 11 = .ok (.ifCond .ne 5, 3) := by decide +kernel
theorem dX9_write_14 : decode cX9_write 14 = .ok (.iconst (-1), 1) := by decide +kernel
theorem dX9_write_15 : decode cX9_write 15 = .ok (.ireturn, 1) := by decide +kernel
theorem dX9_write_16 : decode cX9_write 16 = .ok (.aload_n 0, 1) := by decide +kernel
theorem dX9_write_17 : decode cX9_write 17 = .ok (.getfield 96, 3) := by decide +kernel
theorem dX9_write_20 : decode cX9_write 20 = .ok (.sipush 200, 3) := by decide +kernel
theorem dX9_write_23 : decode cX9_write 23 = .ok (.if_icmp .ne 6, 3) := by decide +kernel
theorem dX9_write_26 : decode cX9_write 26 = .ok (.bipush (-3), 2) := by decide +kernel
theorem dX9_write_28 : decode cX9_write 28 = .ok (.ireturn, 1) := by decide +kernel
theorem dX9_write_29 : decode cX9_write 29 = .ok (.aload_n 0, 1) := by decide +kernel
theorem dX9_write_30 : decode cX9_write 30 = .ok (.getfield 31, 3) := by decide +kernel
theorem dX9_write_33 : decode cX9_write 33 = .ok (.aload_n 0, 1) := by decide +kernel
theorem dX9_write_34 : decode cX9_write 34 = .ok (.getfield 96, 3) := by decide +kernel
theorem dX9_write_37 : decode cX9_write 37 = .ok (.iload_n 1, 1) := by decide +kernel
theorem dX9_write_38 : decode cX9_write 38 = .ok (.iastore, 1) := by decide +kernel
theorem dX9_write_39 : decode cX9_write 39 = .ok (.aload_n 0, 1) := by decide +kernel
theorem dX9_write_40 : decode cX9_write 40 = .ok (.dup, 1) := by decide +kernel
theorem dX9_write_41 : decode cX9_write 41 = .ok (.getfield 96, 3) := by decide +kernel
theorem dX9_write_44 : decode cX9_write 44 = .ok (.iconst 1, 1) := by decide +kernel
theorem dX9_write_45 : decode cX9_write 45 = .ok (.iadd, 1) := by decide +kernel
theorem dX9_write_46 : decode cX9_write 46 = .ok (.putfield 96, 3) := by decide +kernel
theorem dX9_write_49 : decode cX9_write 49 = .ok (.aload_n 0, 1) := by decide +kernel
theorem dX9_write_50 : decode cX9_write 50 = .ok (.getfield 96, 3) := by decide +kernel
theorem dX9_write_53 : decode cX9_write 53 = .ok (.ireturn, 1) := by decide +kernel
theorem dX9_wipe_0 : decode cX9_wipe 0 = .ok (.aload_n 0, 1) := by decide +kernel
theorem dX9_wipe_1 : decode cX9_wipe 1 = .ok (.getfield 96, 3) := by decide +kernel
theorem dX9_wipe_4 : decode cX9_wipe 4 = .ok (.istore_n 1, 1) := by decide +kernel
theorem dX9_wipe_5 : decode cX9_wipe 5 = .ok (.aload_n 0, 1) := by decide +kernel
theorem dX9_wipe_6 : decode cX9_wipe 6 = .ok (.iconst 0, 1) := by decide +kernel
theorem dX9_wipe_7 : decode cX9_wipe 7 = .ok (.putfield 96, 3) := by decide +kernel
theorem dX9_wipe_10 : decode cX9_wipe 10 = .ok (.iload_n 1, 1) := by decide +kernel
theorem dX9_wipe_11 : decode cX9_wipe 11 = .ok (.ireturn, 1) := by decide +kernel
theorem dX9_letterAt_0 : decode cX9_letterAt 0 = .ok (.iload_n 1, 1) := by decide +kernel
theorem dX9_letterAt_1 : decode cX9_letterAt 1 = .ok (.aload_n 0, 1) := by decide +kernel
theorem dX9_letterAt_2 : decode cX9_letterAt 2 = .ok (.getfield 96, 3) := by decide +kernel
theorem dX9_letterAt_5 : decode cX9_letterAt 5 = .ok (.if_icmp .ge 12, 3) := by decide +kernel
theorem dX9_letterAt_8 : decode cX9_letterAt 8 = .ok (.aload_n 0, 1) := by decide +kernel
theorem dX9_letterAt_9 : decode cX9_letterAt 9 = .ok (.getfield 31, 3) := by decide +kernel
theorem dX9_letterAt_12 : decode cX9_letterAt 12 = .ok (.iload_n 1, 1) := by decide +kernel
theorem dX9_letterAt_13 : decode cX9_letterAt 13 = .ok (.iaload, 1) := by decide +kernel
theorem dX9_letterAt_14 : decode cX9_letterAt 14 = .ok (.goto 4, 3) := by decide +kernel
theorem dX9_letterAt_17 : decode cX9_letterAt 17 = .ok (.iconst (-1), 1) := by decide +kernel
theorem dX9_letterAt_18 : decode cX9_letterAt 18 = .ok (.ireturn, 1) := by decide +kernel
theorem dX9_takesNumber_0 : decode cX9_takesNumber 0 = .ok (.aload_n 0, 1) := by decide +kernel
theorem dX9_takesNumber_1 : decode cX9_takesNumber 1 = .ok (.getfield 99, 3) := by decide +kernel
theorem dX9_takesNumber_4 : decode cX9_takesNumber 4 = .ok (.istore 4, 2) := by decide +kernel
theorem dX9_takesNumber_6 : decode cX9_takesNumber 6 = .ok (.aload_n 0, 1) := by decide +kernel
theorem dX9_takesNumber_7 : decode cX9_takesNumber 7 = .ok (.iconst 0, 1) := by decide +kernel
theorem dX9_takesNumber_8 : decode cX9_takesNumber 8 = .ok (.putfield 102, 3) := by decide +kernel
theorem dX9_takesNumber_11 : decode cX9_takesNumber 11 = .ok (.aload_n 0, 1) := by decide +kernel
theorem dX9_takesNumber_12 : decode cX9_takesNumber 12 = .ok (.getfield 99, 3) := by decide +kernel
theorem dX9_takesNumber_15 : decode cX9_takesNumber 15 = .ok (.iload 4, 2) := by decide +kernel
theorem dX9_takesNumber_17 : decode cX9_takesNumber 17 = .ok (.isub, 1) := by decide +kernel
theorem dX9_takesNumber_18 : decode cX9_takesNumber 18 = .ok (.iconst 2, 1) := by decide +kernel
theorem dX9_takesNumber_19 : decode cX9_takesNumber 19 = .ok (.if_icmp .ge 60, 3) := by decide +kernel
theorem dX9_takesNumber_22 : decode cX9_takesNumber 22 = .ok (.aload_n 0, 1) := by decide +kernel
theorem dX9_takesNumber_23 : decode cX9_takesNumber 23 = .ok (.aload_n 0, 1) := by decide +kernel
theorem dX9_takesNumber_24 : decode cX9_takesNumber 24 = .ok (.getfield 99, 3) := by decide +kernel
theorem dX9_takesNumber_27 : decode cX9_takesNumber 27 = .ok (.invokevirtual 105, 3) := by decide +kernel
theorem dX9_takesNumber_30 : decode cX9_takesNumber 30 = .ok (.i2l, 1) := by decide +kernel
theorem dX9_takesNumber_31 : decode cX9_takesNumber 31 = .ok (.ldc2_w 109, 3) := by decide +kernel
theorem dX9_takesNumber_34 : decode cX9_takesNumber 34 = .ok (.ldc2_w 111, 3) := by decide +kernel
theorem dX9_takesNumber_37 : decode cX9_takesNumber 37 = .ok (.invokestatic 73, 3) := by decide +kernel
theorem dX9_takesNumber_40 : decode cX9_takesNumber 40 = .ok (.ifCond .eq 39, 3) := by decide +kernel
theorem dX9_takesNumber_43 : decode cX9_takesNumber 43 = .ok (.aload_n 0, 1) := by decide +kernel
theorem dX9_takesNumber_44 : decode cX9_takesNumber 44 = .ok (.bipush 10, 2) := by decide +kernel
theorem dX9_takesNumber_46 : decode cX9_takesNumber 46 = .ok (.aload_n 0, 1) := by decide +kernel
theorem dX9_takesNumber_47 : decode cX9_takesNumber 47 = .ok (.getfield 102, 3) := by decide +kernel
theorem dX9_takesNumber_50 : decode cX9_takesNumber 50 = .ok (.imul, 1) := by decide +kernel
theorem dX9_takesNumber_51 : decode cX9_takesNumber 51 = .ok (.aload_n 0, 1) := by decide +kernel
theorem dX9_takesNumber_52 : decode cX9_takesNumber 52 = .ok (.aload_n 0, 1) := by decide +kernel
theorem dX9_takesNumber_53 : decode cX9_takesNumber 53 = .ok (.getfield 99, 3) := by decide +kernel
theorem dX9_takesNumber_56 : decode cX9_takesNumber 56 = .ok (.invokevirtual 105, 3) := by decide +kernel
theorem dX9_takesNumber_59 : decode cX9_takesNumber 59 = .ok (.iadd, 1) := by decide +kernel
theorem dX9_takesNumber_60 : decode cX9_takesNumber 60 = .ok (.bipush 48, 2) := by decide +kernel
theorem dX9_takesNumber_62 : decode cX9_takesNumber 62 = .ok (.isub, 1) := by decide +kernel
theorem dX9_takesNumber_63 : decode cX9_takesNumber 63 = .ok (.putfield 102, 3) := by decide +kernel
theorem dX9_takesNumber_66 : decode cX9_takesNumber 66 = .ok (.aload_n 0, 1) := by decide +kernel
theorem dX9_takesNumber_67 : decode cX9_takesNumber 67 = .ok (.dup, 1) := by decide +kernel
theorem dX9_takesNumber_68 : decode cX9_takesNumber 68 = .ok (.getfield 99, 3) := by decide +kernel
theorem dX9_takesNumber_71 : decode cX9_takesNumber 71 = .ok (.iconst 1, 1) := by decide +kernel
theorem dX9_takesNumber_72 : decode cX9_takesNumber 72 = .ok (.iadd, 1) := by decide +kernel
theorem dX9_takesNumber_73 : decode cX9_takesNumber 73 = .ok (.putfield 99, 3) := by decide +kernel
theorem dX9_takesNumber_76 : decode cX9_takesNumber 76 = .ok (.goto (-65), 3) := by decide +kernel
theorem dX9_takesNumber_79 : decode cX9_takesNumber 79 = .ok (.aload_n 0, 1) := by decide +kernel
theorem dX9_takesNumber_80 : decode cX9_takesNumber 80 = .ok (.getfield 99, 3) := by decide +kernel
theorem dX9_takesNumber_83 : decode cX9_takesNumber 83 = .ok (.iload 4, 2) := by decide +kernel
theorem dX9_takesNumber_85 : decode cX9_takesNumber 85 = .ok (.if_icmp .eq 30, 3) := by decide +kernel
theorem dX9_takesNumber_88 : decode cX9_takesNumber 88 = .ok (.aload_n 0, 1) := by decide +kernel
theorem dX9_takesNumber_89 : decode cX9_takesNumber 89 = .ok (.getfield 102, 3) := by decide +kernel
theorem dX9_takesNumber_92 : decode cX9_takesNumber 92 = .ok (.i2l, 1) := by decide +kernel
theorem dX9_takesNumber_93 : decode cX9_takesNumber 93 = .ok (.iload_n 1, 1) := by decide +kernel
theorem dX9_takesNumber_94 : decode cX9_takesNumber 94 = .ok (.i2l, 1) := by decide +kernel
theorem dX9_takesNumber_95 : decode cX9_takesNumber 95 = .ok (.iload_n 2, 1) := by decide +kernel
theorem dX9_takesNumber_96 : decode cX9_takesNumber 96 = .ok (.i2l, 1) := by decide +kernel
theorem dX9_takesNumber_97 : decode cX9_takesNumber 97 = .ok (.invokestatic 73, 3) := by decide +kernel
theorem dX9_takesNumber_100 : decode cX9_takesNumber 100 = .ok (.ifCond .eq 15, 3) := by decide +kernel
theorem dX9_takesNumber_103 : decode cX9_takesNumber 103 = .ok (.aload_n 0, 1) := by decide +kernel
theorem dX9_takesNumber_104 : decode cX9_takesNumber 104 = .ok (.aload_n 0, 1) := by decide +kernel
theorem dX9_takesNumber_105 : decode cX9_takesNumber 105 = .ok (.getfield 99, 3) := by decide +kernel
theorem dX9_takesNumber_108 : decode cX9_takesNumber 108 = .ok (.invokevirtual 105, 3) := by decide +kernel
theorem dX9_takesNumber_111 : decode cX9_takesNumber 111 = .ok (.iload_n 3, 1) := by decide +kernel
theorem dX9_takesNumber_112 : decode cX9_takesNumber 112 = .ok (.if_icmp .eq 5, 3) := by decide +kernel
theorem dX9_takesNumber_115 : decode cX9_takesNumber 115 = .ok (.iconst 0, 1) := by decide +kernel
theorem dX9_takesNumber_116 : decode cX9_takesNumber 116 = .ok (.ireturn, 1) := by decide +kernel
theorem dX9_takesNumber_117 : decode cX9_takesNumber 117 = .ok (.aload_n 0, 1) := by decide +kernel
theorem dX9_takesNumber_118 : decode cX9_takesNumber 118 = .ok (.dup, 1) := by decide +kernel
theorem dX9_takesNumber_119 : decode cX9_takesNumber 119 = .ok (.getfield 99, 3) := by decide +kernel
theorem dX9_takesNumber_122 : decode cX9_takesNumber 122 = .ok (.iconst 1, 1) := by decide +kernel
theorem dX9_takesNumber_123 : decode cX9_takesNumber 123 = .ok (.iadd, 1) := by decide +kernel
theorem dX9_takesNumber_124 : decode cX9_takesNumber 124 = .ok (.putfield 99, 3) := by decide +kernel
theorem dX9_takesNumber_127 : decode cX9_takesNumber 127 = .ok (.iconst 1, 1) := by decide +kernel
theorem dX9_takesNumber_128 : decode cX9_takesNumber 128 = .ok (.ireturn, 1) := by decide +kernel
theorem dX9_takesGuest_0 : decode cX9_takesGuest 0 = .ok (.aload_n 0, 1) := by decide +kernel
theorem dX9_takesGuest_1 : decode cX9_takesGuest 1 = .ok (.getfield 77, 3) := by decide +kernel
theorem dX9_takesGuest_4 : decode cX9_takesGuest 4 = .ok (.bipush 7, 2) := by decide +kernel
theorem dX9_takesGuest_6 : decode cX9_takesGuest 6 = .ok (.if_icmp .ne 5, 3) := by decide +kernel
theorem dX9_takesGuest_9 : decode cX9_takesGuest 9 = .ok (.iconst 0, 1) := by decide +kernel
theorem dX9_takesGuest_10 : decode cX9_takesGuest 10 = .ok (.ireturn, 1) := by decide +kernel
theorem dX9_takesGuest_11 : decode cX9_takesGuest 11 = .ok (.iconst 5, 1) := by decide +kernel
theorem dX9_takesGuest_12 : decode cX9_takesGuest 12 = .ok (.aload_n 0, 1) := by decide +kernel
theorem dX9_takesGuest_13 : decode cX9_takesGuest 13 = .ok (.getfield 77, 3) := by decide +kernel
theorem dX9_takesGuest_16 : decode cX9_takesGuest 16 = .ok (.imul, 1) := by decide +kernel
theorem dX9_takesGuest_17 : decode cX9_takesGuest 17 = .ok (.istore_n 1, 1) := by decide +kernel
theorem dX9_takesGuest_18 : decode cX9_takesGuest 18 = .ok (.iconst 0, 1) := by decide +kernel
theorem dX9_takesGuest_19 : decode cX9_takesGuest 19 = .ok (.istore_n 2, 1) := by decide +kernel
theorem dX9_takesGuest_20 : decode cX9_takesGuest 20 = .ok (.iload_n 2, 1) := by decide +kernel
theorem dX9_takesGuest_21 : decode cX9_takesGuest 21 = .ok (.iconst 5, 1) := by decide +kernel
theorem dX9_takesGuest_22 : decode cX9_takesGuest 22 = .ok (.if_icmp .ge 103, 3) := by decide +kernel
theorem dX9_takesGuest_25 : decode cX9_takesGuest 25 = .ok (.iload_n 2, 1) := by decide +kernel
theorem dX9_takesGuest_26 : decode cX9_takesGuest 26 = .ok (.iconst 2, 1) := by decide +kernel
theorem dX9_takesGuest_27 : decode cX9_takesGuest 27 = .ok (.if_icmp .eq 8, 3) := by decide +kernel
theorem dX9_takesGuest_30 : decode cX9_takesGuest 30 = .ok (.iload_n 2, 1) := by decide +kernel
theorem dX9_takesGuest_31 : decode cX9_takesGuest 31 = .ok (.iconst 4, 1) := by decide +kernel
theorem dX9_takesGuest_32 : decode cX9_takesGuest 32 = .ok (.if_icmp .ne 7, 3) := by decide +kernel
theorem dX9_takesGuest_35 : decode cX9_takesGuest 35 = .ok (.iconst 1, 1) := by decide +kernel
theorem dX9_takesGuest_36 : decode cX9_takesGuest 36 = .ok (.goto 4, 3) := by decide +kernel
theorem dX9_takesGuest_39 : decode cX9_takesGuest 39 = .ok (.iconst 0, 1) := by decide +kernel
theorem dX9_takesGuest_40 : decode cX9_takesGuest 40 = .ok (.istore_n 3, 1) := by decide +kernel
theorem dX9_takesGuest_41 : decode cX9_takesGuest 41 = .ok (.iload_n 2, 1) := by decide +kernel
theorem dX9_takesGuest_42 : decode cX9_takesGuest 42 = .ok (.ifCond .ne 7, 3) := by decide +kernel
theorem dX9_takesGuest_45 : decode cX9_takesGuest 45 = .ok (.iconst 3, 1) := by decide +kernel
theorem dX9_takesGuest_46 : decode cX9_takesGuest 46 = .ok (.goto 35, 3) := by decide +kernel
theorem dX9_takesGuest_49 : decode cX9_takesGuest 49 = .ok (.iload_n 2, 1) := by decide +kernel
theorem dX9_takesGuest_50 : decode cX9_takesGuest 50 = .ok (.iconst 1, 1) := by decide +kernel
theorem dX9_takesGuest_51 : decode cX9_takesGuest 51 = .ok (.if_icmp .ne 8, 3) := by decide +kernel
theorem dX9_takesGuest_54 : decode cX9_takesGuest 54 = .ok (.bipush 40, 2) := by decide +kernel
theorem dX9_takesGuest_56 : decode cX9_takesGuest 56 = .ok (.goto 25, 3) := by decide +kernel
theorem dX9_takesGuest_59 : decode cX9_takesGuest 59 = .ok (.iload_n 2, 1) := by decide +kernel
theorem dX9_takesGuest_60 : decode cX9_takesGuest 60 = .ok (.iconst 2, 1) := by decide +kernel
theorem dX9_takesGuest_61 : decode cX9_takesGuest 61 = .ok (.if_icmp .ne 8, 3) := by decide +kernel
theorem dX9_takesGuest_64 : decode cX9_takesGuest 64 = .ok (.bipush 30, 2) := by decide +kernel
theorem dX9_takesGuest_66 : decode cX9_takesGuest 66 = .ok (.goto 15, 3) := by decide +kernel
theorem dX9_takesGuest_69 : decode cX9_takesGuest 69 = .ok (.iload_n 2, 1) := by decide +kernel
theorem dX9_takesGuest_70 : decode cX9_takesGuest 70 = .ok (.iconst 3, 1) := by decide +kernel
theorem dX9_takesGuest_71 : decode cX9_takesGuest 71 = .ok (.if_icmp .ne 8, 3) := by decide +kernel
theorem dX9_takesGuest_74 : decode cX9_takesGuest 74 = .ok (.bipush 20, 2) := by decide +kernel
theorem dX9_takesGuest_76 : decode cX9_takesGuest 76 = .ok (.goto 5, 3) := by decide +kernel
theorem dX9_takesGuest_79 : decode cX9_takesGuest 79 = .ok (.bipush 9, 2) := by decide +kernel
theorem dX9_takesGuest_81 : decode cX9_takesGuest 81 = .ok (.istore 4, 2) := by decide +kernel
theorem dX9_takesGuest_83 : decode cX9_takesGuest 83 = .ok (.aload_n 0, 1) := by decide +kernel
theorem dX9_takesGuest_84 : decode cX9_takesGuest 84 = .ok (.iload_n 3, 1) := by decide +kernel
theorem dX9_takesGuest_85 : decode cX9_takesGuest 85 = .ok (.iload 4, 2) := by decide +kernel
theorem dX9_takesGuest_87 : decode cX9_takesGuest 87 = .ok (.iload_n 2, 1) := by decide +kernel
theorem dX9_takesGuest_88 : decode cX9_takesGuest 88 = .ok (.iconst 4, 1) := by decide +kernel
theorem dX9_takesGuest_89 : decode cX9_takesGuest 89 = .ok (.if_icmp .ne 8, 3) := by decide +kernel
theorem dX9_takesGuest_92 : decode cX9_takesGuest 92 = .ok (.bipush 59, 2) := by decide +kernel
theorem dX9_takesGuest_94 : decode cX9_takesGuest 94 = .ok (.goto 5, 3) := by decide +kernel
theorem dX9_takesGuest_97 : decode cX9_takesGuest 97 = .ok (.bipush 44, 2) := by decide +kernel
theorem dX9_takesGuest_99 : decode cX9_takesGuest 99 = .ok (.invokevirtual 113, 3) := by decide +kernel
theorem dX9_takesGuest_102 : decode cX9_takesGuest 102 = .ok (.ifCond .ne 5, 3) := by decide +kernel
theorem dX9_takesGuest_105 : decode cX9_takesGuest 105 = .ok (.iconst 0, 1) := by decide +kernel
theorem dX9_takesGuest_106 : decode cX9_takesGuest 106 = .ok (.ireturn, 1) := by decide +kernel
theorem dX9_takesGuest_107 : decode cX9_takesGuest 107 = .ok (.aload_n 0, 1) := by decide +kernel
theorem dX9_takesGuest_108 : decode cX9_takesGuest 108 = .ok (.getfield 34, 3) := by decide +kernel
theorem dX9_takesGuest_111 : decode cX9_takesGuest 111 = .ok (.iload_n 1, 1) := by decide +kernel
theorem dX9_takesGuest_112 : decode cX9_takesGuest 112 = .ok (.iload_n 2, 1) := by decide +kernel
theorem dX9_takesGuest_113 : decode cX9_takesGuest 113 = .ok (.iadd, 1) := by decide +kernel
theorem dX9_takesGuest_114 : decode cX9_takesGuest 114 = .ok (.aload_n 0, 1) := by decide +kernel
theorem dX9_takesGuest_115 : decode cX9_takesGuest 115 = .ok (.getfield 102, 3) := by decide +kernel
theorem dX9_takesGuest_118 : decode cX9_takesGuest 118 = .ok (.iastore, 1) := by decide +kernel
theorem dX9_takesGuest_119 : decode cX9_takesGuest 119 = .ok (.iinc 2 1, 3) := by decide +kernel
theorem dX9_takesGuest_122 : decode cX9_takesGuest 122 = .ok (.goto (-102), 3) := by decide +kernel
theorem dX9_takesGuest_125 : decode cX9_takesGuest 125 = .ok (.aload_n 0, 1) := by decide +kernel
theorem dX9_takesGuest_126 : decode cX9_takesGuest 126 = .ok (.dup, 1) := by decide +kernel
theorem dX9_takesGuest_127 : decode cX9_takesGuest 127 = .ok (.getfield 77, 3) := by decide +kernel
theorem dX9_takesGuest_130 : decode cX9_takesGuest 130 = .ok (.iconst 1, 1) := by decide +kernel
theorem dX9_takesGuest_131 : decode cX9_takesGuest 131 = .ok (.iadd, 1) := by decide +kernel
theorem dX9_takesGuest_132 : decode cX9_takesGuest 132 = .ok (.putfield 77, 3) := by decide +kernel
theorem dX9_takesGuest_135 : decode cX9_takesGuest 135 = .ok (.iconst 1, 1) := by decide +kernel
theorem dX9_takesGuest_136 : decode cX9_takesGuest 136 = .ok (.ireturn, 1) := by decide +kernel
theorem dX9_takesRoom_0 : decode cX9_takesRoom 0 = .ok (.aload_n 0, 1) := by decide +kernel
theorem dX9_takesRoom_1 : decode cX9_takesRoom 1 = .ok (.getfield 80, 3) := by decide +kernel
theorem dX9_takesRoom_4 : decode cX9_takesRoom 4 = .ok (.bipush 7, 2) := by decide +kernel
theorem dX9_takesRoom_6 : decode cX9_takesRoom 6 = .ok (.if_icmp .eq 15, 3) := by decide +kernel
theorem dX9_takesRoom_9 : decode cX9_takesRoom 9 = .ok (.aload_n 0, 1) := by decide +kernel
theorem dX9_takesRoom_10 : decode cX9_takesRoom 10 = .ok (.iconst 0, 1) := by decide +kernel
theorem dX9_takesRoom_11 : decode cX9_takesRoom 11 = .ok (.bipush 9, 2) := by decide +kernel
theorem dX9_takesRoom_13 : decode cX9_takesRoom 13 = .ok (.bipush 59, 2) := by decide +kernel
theorem dX9_takesRoom_15 : decode cX9_takesRoom 15 = .ok (.invokevirtual 113, 3) := by decide +kernel
theorem dX9_takesRoom_18 : decode cX9_takesRoom 18 = .ok (.ifCond .ne 5, 3) := by decide +kernel
theorem dX9_takesRoom_21 : decode cX9_takesRoom 21 = .ok (.iconst 0, 1) := by decide +kernel
theorem dX9_takesRoom_22 : decode cX9_takesRoom 22 = .ok (.ireturn, 1) := by decide +kernel
theorem dX9_takesRoom_23 : decode cX9_takesRoom 23 = .ok (.aload_n 0, 1) := by decide +kernel
theorem dX9_takesRoom_24 : decode cX9_takesRoom 24 = .ok (.aload_n 0, 1) := by decide +kernel
theorem dX9_takesRoom_25 : decode cX9_takesRoom 25 = .ok (.getfield 102, 3) := by decide +kernel
theorem dX9_takesRoom_28 : decode cX9_takesRoom 28 = .ok (.invokevirtual 62, 3) := by decide +kernel
theorem dX9_takesRoom_31 : decode cX9_takesRoom 31 = .ok (.iconst 1, 1) := by decide +kernel
theorem dX9_takesRoom_32 : decode cX9_takesRoom 32 = .ok (.ireturn, 1) := by decide +kernel
theorem dX9_takesItem_0 : decode cX9_takesItem 0 = .ok (.aload_n 0, 1) := by decide +kernel
theorem dX9_takesItem_1 : decode cX9_takesItem 1 = .ok (.aload_n 0, 1) := by decide +kernel
theorem dX9_takesItem_2 : decode cX9_takesItem 2 = .ok (.getfield 99, 3) := by decide +kernel
theorem dX9_takesItem_5 : decode cX9_takesItem 5 = .ok (.invokevirtual 105, 3) := by decide +kernel
theorem dX9_takesItem_8 : decode cX9_takesItem 8 = .ok (.istore_n 1, 1) := by decide +kernel
theorem dX9_takesItem_9 : decode cX9_takesItem 9 = .ok (.aload_n 0, 1) := by decide +kernel
theorem dX9_takesItem_10 : decode cX9_takesItem 10 = .ok (.dup, 1) := by decide +kernel
theorem dX9_takesItem_11 : decode cX9_takesItem 11 = .ok (.getfield 99, 3) := by decide +kernel
theorem dX9_takesItem_14 : decode cX9_takesItem 14 = .ok (.iconst 1, 1) := by decide +kernel
theorem dX9_takesItem_15 : decode cX9_takesItem 15 = .ok (.iadd, 1) := by decide +kernel
theorem dX9_takesItem_16 : decode cX9_takesItem 16 = .ok (.putfield 99, 3) := by decide +kernel
theorem dX9_takesItem_19 : decode cX9_takesItem 19 = .ok (.iload_n 1, 1) := by decide +kernel
theorem dX9_takesItem_20 : decode cX9_takesItem 20 = .ok (.bipush 103, 2) := by decide +kernel
theorem dX9_takesItem_22 : decode cX9_takesItem 22 = .ok (.if_icmp .ne 10, 3) := by decide +kernel
theorem dX9_takesItem_25 : decode cX9_takesItem 25 = .ok (.aload_n 0, 1) := by decide +kernel
theorem dX9_takesItem_26 : decode cX9_takesItem 26 = .ok (.invokevirtual 117, 3) := by decide +kernel
theorem dX9_takesItem_29 : decode cX9_takesItem 29 = .ok (.goto 21, 3) := by decide +kernel
theorem dX9_takesItem_32 : decode cX9_takesItem 32 = .ok (.iload_n 1, 1) := by decide +kernel
theorem dX9_takesItem_33 : decode cX9_takesItem 33 = .ok (.bipush 114, 2) := by decide +kernel
theorem dX9_takesItem_35 : decode cX9_takesItem 35 = .ok (.if_icmp .ne 14, 3) := by decide +kernel
theorem dX9_takesItem_38 : decode cX9_takesItem 38 = .ok (.aload_n 0, 1) := by decide +kernel
theorem dX9_takesItem_39 : decode cX9_takesItem 39 = .ok (.invokevirtual 121, 3) := by decide +kernel
theorem dX9_takesItem_42 : decode cX9_takesItem 42 = .ok (.ifCond .eq 7, 3) := by decide +kernel
theorem dX9_takesItem_45 : decode cX9_takesItem 45 = .ok (.iconst 1, 1) := by decide +kernel
theorem dX9_takesItem_46 : decode cX9_takesItem 46 = .ok (.goto 4, 3) := by decide +kernel
theorem dX9_takesItem_49 : decode cX9_takesItem 49 = .ok (.iconst 0, 1) := by decide +kernel
theorem dX9_takesItem_50 : decode cX9_takesItem 50 = .ok (.ireturn, 1) := by decide +kernel
theorem dX9_faultOf_0 : decode cX9_faultOf 0 = .ok (.aload_n 0, 1) := by decide +kernel
theorem dX9_faultOf_1 : decode cX9_faultOf 1 = .ok (.invokevirtual 55, 3) := by decide +kernel
theorem dX9_faultOf_4 : decode cX9_faultOf 4 = .ok (.aload_n 0, 1) := by decide +kernel
theorem dX9_faultOf_5 : decode cX9_faultOf 5 = .ok (.iconst 0, 1) := by decide +kernel
theorem dX9_faultOf_6 : decode cX9_faultOf 6 = .ok (.putfield 99, 3) := by decide +kernel
theorem dX9_faultOf_9 : decode cX9_faultOf 9 = .ok (.aload_n 0, 1) := by decide +kernel
theorem dX9_faultOf_10 : decode cX9_faultOf 10 = .ok (.getfield 99, 3) := by decide +kernel
theorem dX9_faultOf_13 : decode cX9_faultOf 13 = .ok (.aload_n 0, 1) := by decide +kernel
theorem dX9_faultOf_14 : decode cX9_faultOf 14 = .ok (.getfield 96, 3) := by decide +kernel
theorem dX9_faultOf_17 : decode cX9_faultOf 17 = .ok (.if_icmp .ge 20, 3) := by decide +kernel
theorem dX9_faultOf_20 : decode cX9_faultOf 20 = .ok (.aload_n 0, 1) := by decide +kernel
theorem dX9_faultOf_21 : decode cX9_faultOf 21 = .ok (.getfield 99, 3) := by decide +kernel
theorem dX9_faultOf_24 : decode cX9_faultOf 24 = .ok (.istore_n 1, 1) := by decide +kernel
theorem dX9_faultOf_25 : decode cX9_faultOf 25 = .ok (.aload_n 0, 1) := by decide +kernel
theorem dX9_faultOf_26 : decode cX9_faultOf 26 = .ok (.invokevirtual 124, 3) := by decide +kernel
theorem dX9_faultOf_29 : decode cX9_faultOf 29 = .ok (.ifCond .ne 5, 3) := by decide +kernel
theorem dX9_faultOf_32 : decode cX9_faultOf 32 = .ok (.iload_n 1, 1) := by decide +kernel
theorem dX9_faultOf_33 : decode cX9_faultOf 33 = .ok (.ireturn, 1) := by decide +kernel
theorem dX9_faultOf_34 : decode cX9_faultOf 34 = .ok (.goto (-25), 3) := by decide +kernel
theorem dX9_faultOf_37 : decode cX9_faultOf 37 = .ok (.bipush (-4), 2) := by decide +kernel
theorem dX9_faultOf_39 : decode cX9_faultOf 39 = .ok (.ireturn, 1) := by decide +kernel
theorem dX9_fault_0 : decode cX9_fault 0 = .ok (.aload_n 0, 1) := by decide +kernel
theorem dX9_fault_1 : decode cX9_fault 1 = .ok (.invokevirtual 127, 3) := by decide +kernel
theorem dX9_fault_4 : decode cX9_fault 4 = .ok (.ireturn, 1) := by decide +kernel
theorem dX9_lay_0 : decode cX9_lay 0 = .ok (.aload_n 0, 1) := by decide +kernel
theorem dX9_lay_1 : decode cX9_lay 1 = .ok (.invokevirtual 127, 3) := by decide +kernel
theorem dX9_lay_4 : decode cX9_lay 4 = .ok (.bipush (-4), 2) := by decide +kernel
theorem dX9_lay_6 : decode cX9_lay 6 = .ok (.if_icmp .ne 10, 3) := by decide +kernel
theorem dX9_lay_9 : decode cX9_lay 9 = .ok (.aload_n 0, 1) := by decide +kernel
theorem dX9_lay_10 : decode cX9_lay 10 = .ok (.getfield 77, 3) := by decide +kernel
theorem dX9_lay_13 : decode cX9_lay 13 = .ok (.ifCond .ne 6, 3) := by decide +kernel
theorem dX9_lay_16 : decode cX9_lay 16 = .ok (.bipush (-2), 2) := by decide +kernel
theorem dX9_lay_18 : decode cX9_lay 18 = .ok (.ireturn, 1) := by decide +kernel
theorem dX9_lay_19 : decode cX9_lay 19 = .ok (.aload_n 0, 1) := by decide +kernel
theorem dX9_lay_20 : decode cX9_lay 20 = .ok (.invokevirtual 66, 3) := by decide +kernel
theorem dX9_lay_23 : decode cX9_lay 23 = .ok (.aload_n 0, 1) := by decide +kernel
theorem dX9_lay_24 : decode cX9_lay 24 = .ok (.getfield 69, 3) := by decide +kernel
theorem dX9_lay_27 : decode cX9_lay 27 = .ok (.ireturn, 1) := by decide +kernel
theorem dX9_guest_0 : decode cX9_guest 0 = .ok (.aload_n 0, 1) := by decide +kernel
theorem dX9_guest_1 : decode cX9_guest 1 = .ok (.iload_n 1, 1) := by decide +kernel
theorem dX9_guest_2 : decode cX9_guest 2 = .ok (.invokevirtual 131, 3) := by decide +kernel
theorem dX9_guest_5 : decode cX9_guest 5 = .ok (.ifCond .ne 5, 3) := by decide +kernel
theorem dX9_guest_8 : decode cX9_guest 8 = .ok (.iconst (-1), 1) := by decide +kernel
theorem dX9_guest_9 : decode cX9_guest 9 = .ok (.ireturn, 1) := by decide +kernel
theorem dX9_guest_10 : decode cX9_guest 10 = .ok (.iload_n 2, 1) := by decide +kernel
theorem dX9_guest_11 : decode cX9_guest 11 = .ok (.ifCond .ne 12, 3) := by decide +kernel
theorem dX9_guest_14 : decode cX9_guest 14 = .ok (.aload_n 0, 1) := by decide +kernel
theorem dX9_guest_15 : decode cX9_guest 15 = .ok (.getfield 13, 3) := by decide +kernel
theorem dX9_guest_18 : decode cX9_guest 18 = .ok (.iload_n 1, 1) := by decide +kernel
theorem dX9_guest_19 : decode cX9_guest 19 = .ok (.iaload, 1) := by decide +kernel
theorem dX9_guest_20 : decode cX9_guest 20 = .ok (.goto 46, 3) := by decide +kernel
theorem dX9_guest_23 : decode cX9_guest 23 = .ok (.iload_n 2, 1) := by decide +kernel
theorem dX9_guest_24 : decode cX9_guest 24 = .ok (.iconst 1, 1) := by decide +kernel
theorem dX9_guest_25 : decode cX9_guest 25 = .ok (.if_icmp .ne 12, 3) := by decide +kernel
theorem dX9_guest_28 : decode cX9_guest 28 = .ok (.aload_n 0, 1) := by decide +kernel
theorem dX9_guest_29 : decode cX9_guest 29 = .ok (.getfield 16, 3) := by decide +kernel
theorem dX9_guest_32 : decode cX9_guest 32 = .ok (.iload_n 1, 1) := by decide +kernel
theorem dX9_guest_33 : decode cX9_guest 33 = .ok (.iaload, 1) := by decide +kernel
theorem dX9_guest_34 : decode cX9_guest 34 = .ok (.goto 32, 3) := by decide +kernel
theorem dX9_guest_37 : decode cX9_guest 37 = .ok (.iload_n 2, 1) := by decide +kernel
theorem dX9_guest_38 : decode cX9_guest 38 = .ok (.iconst 2, 1) := by decide +kernel
theorem dX9_guest_39 : decode cX9_guest 39 = .ok (.if_icmp .ne 12, 3) := by decide +kernel
theorem dX9_guest_42 : decode cX9_guest 42 = .ok (.aload_n 0, 1) := by decide +kernel
theorem dX9_guest_43 : decode cX9_guest 43 = .ok (.getfield 19, 3) := by decide +kernel
theorem dX9_guest_46 : decode cX9_guest 46 = .ok (.iload_n 1, 1) := by decide +kernel
theorem dX9_guest_47 : decode cX9_guest 47 = .ok (.iaload, 1) := by decide +kernel
theorem dX9_guest_48 : decode cX9_guest 48 = .ok (.goto 18, 3) := by decide +kernel
theorem dX9_guest_51 : decode cX9_guest 51 = .ok (.iload_n 2, 1) := by decide +kernel
theorem dX9_guest_52 : decode cX9_guest 52 = .ok (.iconst 3, 1) := by decide +kernel
theorem dX9_guest_53 : decode cX9_guest 53 = .ok (.if_icmp .ne 12, 3) := by decide +kernel
theorem dX9_guest_56 : decode cX9_guest 56 = .ok (.aload_n 0, 1) := by decide +kernel
theorem dX9_guest_57 : decode cX9_guest 57 = .ok (.getfield 22, 3) := by decide +kernel
theorem dX9_guest_60 : decode cX9_guest 60 = .ok (.iload_n 1, 1) := by decide +kernel
theorem dX9_guest_61 : decode cX9_guest 61 = .ok (.iaload, 1) := by decide +kernel
theorem dX9_guest_62 : decode cX9_guest 62 = .ok (.goto 4, 3) := by decide +kernel
theorem dX9_guest_65 : decode cX9_guest 65 = .ok (.iconst (-1), 1) := by decide +kernel
theorem dX9_guest_66 : decode cX9_guest 66 = .ok (.ireturn, 1) := by decide +kernel
theorem dX9_state_0 : decode cX9_state 0 = .ok (.aload_n 0, 1) := by decide +kernel
theorem dX9_state_1 : decode cX9_state 1 = .ok (.iload_n 1, 1) := by decide +kernel
theorem dX9_state_2 : decode cX9_state 2 = .ok (.invokevirtual 131, 3) := by decide +kernel
theorem dX9_state_5 : decode cX9_state 5 = .ok (.ifCond .eq 31, 3) := by decide +kernel
theorem dX9_state_8 : decode cX9_state 8 = .ok (.iload_n 2, 1) := by decide +kernel
theorem dX9_state_9 : decode cX9_state 9 = .ok (.i2l, 1) := by decide +kernel
theorem dX9_state_10 : decode cX9_state 10 = .ok (.lconst 0, 1) := by decide +kernel
theorem dX9_state_11 : decode cX9_state 11 = .ok (.ldc2_w 135, 3) := by decide +kernel
theorem dX9_state_14 : decode cX9_state 14 = .ok (.invokestatic 73, 3) := by decide +kernel
theorem dX9_state_17 : decode cX9_state 17 = .ok (.ifCond .eq 19, 3) := by decide +kernel
theorem dX9_state_20 : decode cX9_state 20 = .ok (.aload_n 0, 1) := by decide +kernel
theorem dX9_state_21 : decode cX9_state 21 = .ok (.getfield 7, 3) := by decide +kernel
theorem dX9_state_24 : decode cX9_state 24 = .ok (.iconst 2, 1) := by decide +kernel
theorem dX9_state_25 : decode cX9_state 25 = .ok (.bipush 7, 2) := by decide +kernel
theorem dX9_state_27 : decode cX9_state 27 = .ok (.iload_n 2, 1) := by decide +kernel
theorem dX9_state_28 : decode cX9_state 28 = .ok (.imul, 1) := by decide +kernel
theorem dX9_state_29 : decode cX9_state 29 = .ok (.iadd, 1) := by decide +kernel
theorem dX9_state_30 : decode cX9_state 30 = .ok (.iload_n 1, 1) := by decide +kernel
theorem dX9_state_31 : decode cX9_state 31 = .ok (.iadd, 1) := by decide +kernel
theorem dX9_state_32 : decode cX9_state 32 = .ok (.iaload, 1) := by decide +kernel
theorem dX9_state_33 : decode cX9_state 33 = .ok (.goto 4, 3) := by decide +kernel
theorem dX9_state_36 : decode cX9_state 36 = .ok (.iconst (-1), 1) := by decide +kernel
theorem dX9_state_37 : decode cX9_state 37 = .ok (.ireturn, 1) := by decide +kernel
theorem dX9_bringsIn_0 : decode cX9_bringsIn 0 = .ok (.aload_n 0, 1) := by decide +kernel
theorem dX9_bringsIn_1 : decode cX9_bringsIn 1 = .ok (.getfield 13, 3) := by decide +kernel
theorem dX9_bringsIn_4 : decode cX9_bringsIn 4 = .ok (.iload_n 2, 1) := by decide +kernel
theorem dX9_bringsIn_5 : decode cX9_bringsIn 5 = .ok (.iaload, 1) := by decide +kernel
theorem dX9_bringsIn_6 : decode cX9_bringsIn 6 = .ok (.iconst 1, 1) := by decide +kernel
theorem dX9_bringsIn_7 : decode cX9_bringsIn 7 = .ok (.if_icmp .ne 14, 3) := by decide +kernel
theorem dX9_bringsIn_10 : decode cX9_bringsIn 10 = .ok (.iconst 2, 1) := by decide +kernel
theorem dX9_bringsIn_11 : decode cX9_bringsIn 11 = .ok (.aload_n 0, 1) := by decide +kernel
theorem dX9_bringsIn_12 : decode cX9_bringsIn 12 = .ok (.getfield 16, 3) := by decide +kernel
theorem dX9_bringsIn_15 : decode cX9_bringsIn 15 = .ok (.iload_n 2, 1) := by decide +kernel
theorem dX9_bringsIn_16 : decode cX9_bringsIn 16 = .ok (.iaload, 1) := by decide +kernel
theorem dX9_bringsIn_17 : decode cX9_bringsIn 17 = .ok (.imul, 1) := by decide +kernel
theorem dX9_bringsIn_18 : decode cX9_bringsIn 18 = .ok (.goto 30, 3) := by decide +kernel
theorem dX9_bringsIn_21 : decode cX9_bringsIn 21 = .ok (.aload_n 0, 1) := by decide +kernel
theorem dX9_bringsIn_22 : decode cX9_bringsIn 22 = .ok (.getfield 13, 3) := by decide +kernel
theorem dX9_bringsIn_25 : decode cX9_bringsIn 25 = .ok (.iload_n 2, 1) := by decide +kernel
theorem dX9_bringsIn_26 : decode cX9_bringsIn 26 = .ok (.iaload, 1) := by decide +kernel
theorem dX9_bringsIn_27 : decode cX9_bringsIn 27 = .ok (.iconst 3, 1) := by decide +kernel
theorem dX9_bringsIn_28 : decode cX9_bringsIn 28 = .ok (.if_icmp .ne 14, 3) := by decide +kernel
theorem dX9_bringsIn_31 : decode cX9_bringsIn 31 = .ok (.aload_n 0, 1) := by decide +kernel
theorem dX9_bringsIn_32 : decode cX9_bringsIn 32 = .ok (.getfield 16, 3) := by decide +kernel
theorem dX9_bringsIn_35 : decode cX9_bringsIn 35 = .ok (.iload_n 2, 1) := by decide +kernel
theorem dX9_bringsIn_36 : decode cX9_bringsIn 36 = .ok (.iaload, 1) := by decide +kernel
theorem dX9_bringsIn_37 : decode cX9_bringsIn 37 = .ok (.iconst 2, 1) := by decide +kernel
theorem dX9_bringsIn_38 : decode cX9_bringsIn 38 = .ok (.idiv, 1) := by decide +kernel
theorem dX9_bringsIn_39 : decode cX9_bringsIn 39 = .ok (.goto 9, 3) := by decide +kernel
theorem dX9_bringsIn_42 : decode cX9_bringsIn 42 = .ok (.aload_n 0, 1) := by decide +kernel
theorem dX9_bringsIn_43 : decode cX9_bringsIn 43 = .ok (.getfield 16, 3) := by decide +kernel
theorem dX9_bringsIn_46 : decode cX9_bringsIn 46 = .ok (.iload_n 2, 1) := by decide +kernel
theorem dX9_bringsIn_47 : decode cX9_bringsIn 47 = .ok (.iaload, 1) := by decide +kernel
theorem dX9_bringsIn_48 : decode cX9_bringsIn 48 = .ok (.istore_n 3, 1) := by decide +kernel
theorem dX9_bringsIn_49 : decode cX9_bringsIn 49 = .ok (.iload_n 3, 1) := by decide +kernel
theorem dX9_bringsIn_50 : decode cX9_bringsIn 50 = .ok (.aload_n 0, 1) := by decide +kernel
theorem dX9_bringsIn_51 : decode cX9_bringsIn 51 = .ok (.getfield 7, 3) := by decide +kernel
theorem dX9_bringsIn_54 : decode cX9_bringsIn 54 = .ok (.iload_n 1, 1) := by decide +kernel
theorem dX9_bringsIn_55 : decode cX9_bringsIn 55 = .ok (.bipush 16, 2) := by decide +kernel
theorem dX9_bringsIn_57 : decode cX9_bringsIn 57 = .ok (.iadd, 1) := by decide +kernel
theorem dX9_bringsIn_58 : decode cX9_bringsIn 58 = .ok (.iload_n 2, 1) := by decide +kernel
theorem dX9_bringsIn_59 : decode cX9_bringsIn 59 = .ok (.iadd, 1) := by decide +kernel
theorem dX9_bringsIn_60 : decode cX9_bringsIn 60 = .ok (.iaload, 1) := by decide +kernel
theorem dX9_bringsIn_61 : decode cX9_bringsIn 61 = .ok (.iadd, 1) := by decide +kernel
theorem dX9_bringsIn_62 : decode cX9_bringsIn 62 = .ok (.ireturn, 1) := by decide +kernel
theorem dX9_comes_0 : decode cX9_comes 0 = .ok (.aload_n 0, 1) := by decide +kernel
theorem dX9_comes_1 : decode cX9_comes 1 = .ok (.getfield 7, 3) := by decide +kernel
theorem dX9_comes_4 : decode cX9_comes 4 = .ok (.iload_n 1, 1) := by decide +kernel
theorem dX9_comes_5 : decode cX9_comes 5 = .ok (.iconst 1, 1) := by decide +kernel
theorem dX9_comes_6 : decode cX9_comes 6 = .ok (.iadd, 1) := by decide +kernel
theorem dX9_comes_7 : decode cX9_comes 7 = .ok (.iaload, 1) := by decide +kernel
theorem dX9_comes_8 : decode cX9_comes 8 = .ok (.istore_n 3, 1) := by decide +kernel
theorem dX9_comes_9 : decode cX9_comes 9 = .ok (.iload_n 3, 1) := by decide +kernel
theorem dX9_comes_10 : decode cX9_comes 10 = .ok (.bipush (-4), 2) := by decide +kernel
theorem dX9_comes_12 : decode cX9_comes 12 = .ok (.if_icmp .eq 52, 3) := by decide +kernel
theorem dX9_comes_15 : decode cX9_comes 15 = .ok (.aload_n 0, 1) := by decide +kernel
theorem dX9_comes_16 : decode cX9_comes 16 = .ok (.getfield 7, 3) := by decide +kernel
theorem dX9_comes_19 : decode cX9_comes 19 = .ok (.iload_n 1, 1) := by decide +kernel
theorem dX9_comes_20 : decode cX9_comes 20 = .ok (.bipush 23, 2) := by decide +kernel
theorem dX9_comes_22 : decode cX9_comes 22 = .ok (.iadd, 1) := by decide +kernel
theorem dX9_comes_23 : decode cX9_comes 23 = .ok (.iload_n 3, 1) := by decide +kernel
theorem dX9_comes_24 : decode cX9_comes 24 = .ok (.iadd, 1) := by decide +kernel
theorem dX9_comes_25 : decode cX9_comes 25 = .ok (.dup2, 1) := by decide +kernel
theorem dX9_comes_26 : decode cX9_comes 26 = .ok (.iaload, 1) := by decide +kernel
theorem dX9_comes_27 : decode cX9_comes 27 = .ok (.aload_n 0, 1) := by decide +kernel
theorem dX9_comes_28 : decode cX9_comes 28 = .ok (.iload_n 1, 1) := by decide +kernel
theorem dX9_comes_29 : decode cX9_comes 29 = .ok (.iload_n 2, 1) := by decide +kernel
theorem dX9_comes_30 : decode cX9_comes 30 = .ok (.invokevirtual 137, 3) := by decide +kernel
theorem dX9_comes_33 : decode cX9_comes 33 = .ok (.iadd, 1) := by decide +kernel
theorem dX9_comes_34 : decode cX9_comes 34 = .ok (.iastore, 1) := by decide +kernel
theorem dX9_comes_35 : decode cX9_comes 35 = .ok (.aload_n 0, 1) := by decide +kernel
theorem dX9_comes_36 : decode cX9_comes 36 = .ok (.getfield 7, 3) := by decide +kernel
theorem dX9_comes_39 : decode cX9_comes 39 = .ok (.iload_n 1, 1) := by decide +kernel
theorem dX9_comes_40 : decode cX9_comes 40 = .ok (.bipush 37, 2) := by decide +kernel
theorem dX9_comes_42 : decode cX9_comes 42 = .ok (.iadd, 1) := by decide +kernel
theorem dX9_comes_43 : decode cX9_comes 43 = .ok (.iload_n 3, 1) := by decide +kernel
theorem dX9_comes_44 : decode cX9_comes 44 = .ok (.iadd, 1) := by decide +kernel
theorem dX9_comes_45 : decode cX9_comes 45 = .ok (.dup2, 1) := by decide +kernel
theorem dX9_comes_46 : decode cX9_comes 46 = .ok (.iaload, 1) := by decide +kernel
theorem dX9_comes_47 : decode cX9_comes 47 = .ok (.iconst 1, 1) := by decide +kernel
theorem dX9_comes_48 : decode cX9_comes 48 = .ok (.iload_n 2, 1) := by decide +kernel
theorem dX9_comes_49 : decode cX9_comes 49 = .ok (.ishl, 1) := by decide +kernel
theorem dX9_comes_50 : decode cX9_comes 50 = .ok (.ior, 1) := by decide +kernel
theorem dX9_comes_51 : decode cX9_comes 51 = .ok (.iastore, 1) := by decide +kernel
theorem dX9_comes_52 : decode cX9_comes 52 = .ok (.aload_n 0, 1) := by decide +kernel
theorem dX9_comes_53 : decode cX9_comes 53 = .ok (.getfield 7, 3) := by decide +kernel
theorem dX9_comes_56 : decode cX9_comes 56 = .ok (.iload_n 1, 1) := by decide +kernel
theorem dX9_comes_57 : decode cX9_comes 57 = .ok (.bipush 30, 2) := by decide +kernel
theorem dX9_comes_59 : decode cX9_comes 59 = .ok (.iadd, 1) := by decide +kernel
theorem dX9_comes_60 : decode cX9_comes 60 = .ok (.iload_n 2, 1) := by decide +kernel
theorem dX9_comes_61 : decode cX9_comes 61 = .ok (.iadd, 1) := by decide +kernel
theorem dX9_comes_62 : decode cX9_comes 62 = .ok (.iload_n 3, 1) := by decide +kernel
theorem dX9_comes_63 : decode cX9_comes 63 = .ok (.iastore, 1) := by decide +kernel
theorem dX9_comes_64 : decode cX9_comes 64 = .ok (.aload_n 0, 1) := by decide +kernel
theorem dX9_comes_65 : decode cX9_comes 65 = .ok (.getfield 13, 3) := by decide +kernel
theorem dX9_comes_68 : decode cX9_comes 68 = .ok (.iload_n 2, 1) := by decide +kernel
theorem dX9_comes_69 : decode cX9_comes 69 = .ok (.iaload, 1) := by decide +kernel
theorem dX9_comes_70 : decode cX9_comes 70 = .ok (.iconst 2, 1) := by decide +kernel
theorem dX9_comes_71 : decode cX9_comes 71 = .ok (.if_icmp .ne 17, 3) := by decide +kernel
theorem dX9_comes_74 : decode cX9_comes 74 = .ok (.aload_n 0, 1) := by decide +kernel
theorem dX9_comes_75 : decode cX9_comes 75 = .ok (.getfield 7, 3) := by decide +kernel
theorem dX9_comes_78 : decode cX9_comes 78 = .ok (.iload_n 1, 1) := by decide +kernel
theorem dX9_comes_79 : decode cX9_comes 79 = .ok (.iconst 2, 1) := by decide +kernel
theorem dX9_comes_80 : decode cX9_comes 80 = .ok (.iadd, 1) := by decide +kernel
theorem dX9_comes_81 : decode cX9_comes 81 = .ok (.iload_n 2, 1) := by decide +kernel
theorem dX9_comes_82 : decode cX9_comes 82 = .ok (.iadd, 1) := by decide +kernel
theorem dX9_comes_83 : decode cX9_comes 83 = .ok (.iconst 2, 1) := by decide +kernel
theorem dX9_comes_84 : decode cX9_comes 84 = .ok (.iastore, 1) := by decide +kernel
theorem dX9_comes_85 : decode cX9_comes 85 = .ok (.goto 23, 3) := by decide +kernel
theorem dX9_comes_88 : decode cX9_comes 88 = .ok (.aload_n 0, 1) := by decide +kernel
theorem dX9_comes_89 : decode cX9_comes 89 = .ok (.getfield 7, 3) := by decide +kernel
theorem dX9_comes_92 : decode cX9_comes 92 = .ok (.iload_n 1, 1) := by decide +kernel
theorem dX9_comes_93 : decode cX9_comes 93 = .ok (.iconst 2, 1) := by decide +kernel
theorem dX9_comes_94 : decode cX9_comes 94 = .ok (.iadd, 1) := by decide +kernel
theorem dX9_comes_95 : decode cX9_comes 95 = .ok (.iload_n 2, 1) := by decide +kernel
theorem dX9_comes_96 : decode cX9_comes 96 = .ok (.iadd, 1) := by decide +kernel
theorem dX9_comes_97 : decode cX9_comes 97 = .ok (.iconst 1, 1) := by decide +kernel
theorem dX9_comes_98 : decode cX9_comes 98 = .ok (.iastore, 1) := by decide +kernel
theorem dX9_comes_99 : decode cX9_comes 99 = .ok (.aload_n 0, 1) := by decide +kernel
theorem dX9_comes_100 : decode cX9_comes 100 = .ok (.getfield 7, 3) := by decide +kernel
theorem dX9_comes_103 : decode cX9_comes 103 = .ok (.iload_n 1, 1) := by decide +kernel
theorem dX9_comes_104 : decode cX9_comes 104 = .ok (.iconst 1, 1) := by decide +kernel
theorem dX9_comes_105 : decode cX9_comes 105 = .ok (.iadd, 1) := by decide +kernel
theorem dX9_comes_106 : decode cX9_comes 106 = .ok (.iload_n 2, 1) := by decide +kernel
theorem dX9_comes_107 : decode cX9_comes 107 = .ok (.iastore, 1) := by decide +kernel
theorem dX9_comes_108 : decode cX9_comes 108 = .ok (.return_, 1) := by decide +kernel
theorem dX9_goesFree_0 : decode cX9_goesFree 0 = .ok (.aload_n 0, 1) := by decide +kernel
theorem dX9_goesFree_1 : decode cX9_goesFree 1 = .ok (.getfield 7, 3) := by decide +kernel
theorem dX9_goesFree_4 : decode cX9_goesFree 4 = .ok (.iload_n 1, 1) := by decide +kernel
theorem dX9_goesFree_5 : decode cX9_goesFree 5 = .ok (.iconst 2, 1) := by decide +kernel
theorem dX9_goesFree_6 : decode cX9_goesFree 6 = .ok (.iadd, 1) := by decide +kernel
theorem dX9_goesFree_7 : decode cX9_goesFree 7 = .ok (.iload_n 2, 1) := by decide +kernel
theorem dX9_goesFree_8 : decode cX9_goesFree 8 = .ok (.iadd, 1) := by decide +kernel
theorem dX9_goesFree_9 : decode cX9_goesFree 9 = .ok (.iconst 2, 1) := by decide +kernel
theorem dX9_goesFree_10 : decode cX9_goesFree 10 = .ok (.iastore, 1) := by decide +kernel
theorem dX9_goesFree_11 : decode cX9_goesFree 11 = .ok (.iconst 0, 1) := by decide +kernel
theorem dX9_goesFree_12 : decode cX9_goesFree 12 = .ok (.istore_n 3, 1) := by decide +kernel
theorem dX9_goesFree_13 : decode cX9_goesFree 13 = .ok (.iload_n 3, 1) := by decide +kernel
theorem dX9_goesFree_14 : decode cX9_goesFree 14 = .ok (.aload_n 0, 1) := by decide +kernel
theorem dX9_goesFree_15 : decode cX9_goesFree 15 = .ok (.getfield 69, 3) := by decide +kernel
theorem dX9_goesFree_18 : decode cX9_goesFree 18 = .ok (.if_icmp .ge 51, 3) := by decide +kernel
theorem dX9_goesFree_21 : decode cX9_goesFree 21 = .ok (.aload_n 0, 1) := by decide +kernel
theorem dX9_goesFree_22 : decode cX9_goesFree 22 = .ok (.getfield 7, 3) := by decide +kernel
theorem dX9_goesFree_25 : decode cX9_goesFree 25 = .ok (.iload_n 1, 1) := by decide +kernel
theorem dX9_goesFree_26 : decode cX9_goesFree 26 = .ok (.bipush 44, 2) := by decide +kernel
theorem dX9_goesFree_28 : decode cX9_goesFree 28 = .ok (.iadd, 1) := by decide +kernel
theorem dX9_goesFree_29 : decode cX9_goesFree 29 = .ok (.iload_n 2, 1) := by decide +kernel
theorem dX9_goesFree_30 : decode cX9_goesFree 30 = .ok (.iadd, 1) := by decide +kernel
theorem dX9_goesFree_31 : decode cX9_goesFree 31 = .ok (.dup2, 1) := by decide +kernel
theorem dX9_goesFree_32 : decode cX9_goesFree 32 = .ok (.iaload, 1) := by decide +kernel
theorem dX9_goesFree_33 : decode cX9_goesFree 33 = .ok (.aload_n 0, 1) := by decide +kernel
theorem dX9_goesFree_34 : decode cX9_goesFree 34 = .ok (.getfield 7, 3) := by decide +kernel
theorem dX9_goesFree_37 : decode cX9_goesFree 37 = .ok (.iload_n 1, 1) := by decide +kernel
theorem dX9_goesFree_38 : decode cX9_goesFree 38 = .ok (.bipush 37, 2) := by decide +kernel
theorem dX9_goesFree_40 : decode cX9_goesFree 40 = .ok (.iadd, 1) := by decide +kernel
theorem dX9_goesFree_41 : decode cX9_goesFree 41 = .ok (.iload_n 2, 1) := by decide +kernel
theorem dX9_goesFree_42 : decode cX9_goesFree 42 = .ok (.iadd, 1) := by decide +kernel
theorem dX9_goesFree_43 : decode cX9_goesFree 43 = .ok (.iaload, 1) := by decide +kernel
theorem dX9_goesFree_44 : decode cX9_goesFree 44 = .ok (.iload_n 3, 1) := by decide +kernel
theorem dX9_goesFree_45 : decode cX9_goesFree 45 = .ok (.invokestatic 141, 3) := by decide +kernel
theorem dX9_goesFree_48 : decode cX9_goesFree 48 = .ok (.ifCond .eq 12, 3) := by decide +kernel
theorem dX9_goesFree_51 : decode cX9_goesFree 51 = .ok (.aload_n 0, 1) := by decide +kernel
theorem dX9_goesFree_52 : decode cX9_goesFree 52 = .ok (.getfield 19, 3) := by decide +kernel
theorem dX9_goesFree_55 : decode cX9_goesFree 55 = .ok (.iload_n 3, 1) := by decide +kernel
theorem dX9_goesFree_56 : decode cX9_goesFree 56 = .ok (.iaload, 1) := by decide +kernel
theorem dX9_goesFree_57 : decode cX9_goesFree 57 = .ok (.goto 4, 3) := by decide +kernel
theorem dX9_goesFree_60 : decode cX9_goesFree 60 = .ok (.iconst 0, 1) := by decide +kernel
theorem dX9_goesFree_61 : decode cX9_goesFree 61 = .ok (.iadd, 1) := by decide +kernel
theorem dX9_goesFree_62 : decode cX9_goesFree 62 = .ok (.iastore, 1) := by decide +kernel
theorem dX9_goesFree_63 : decode cX9_goesFree 63 = .ok (.iinc 3 1, 3) := by decide +kernel
theorem dX9_goesFree_66 : decode cX9_goesFree 66 = .ok (.goto (-53), 3) := by decide +kernel
theorem dX9_goesFree_69 : decode cX9_goesFree 69 = .ok (.aload_n 0, 1) := by decide +kernel
theorem dX9_goesFree_70 : decode cX9_goesFree 70 = .ok (.getfield 7, 3) := by decide +kernel
theorem dX9_goesFree_73 : decode cX9_goesFree 73 = .ok (.iload_n 1, 1) := by decide +kernel
theorem dX9_goesFree_74 : decode cX9_goesFree 74 = .ok (.bipush 30, 2) := by decide +kernel
theorem dX9_goesFree_76 : decode cX9_goesFree 76 = .ok (.iadd, 1) := by decide +kernel
theorem dX9_goesFree_77 : decode cX9_goesFree 77 = .ok (.iload_n 2, 1) := by decide +kernel
theorem dX9_goesFree_78 : decode cX9_goesFree 78 = .ok (.iadd, 1) := by decide +kernel
theorem dX9_goesFree_79 : decode cX9_goesFree 79 = .ok (.iaload, 1) := by decide +kernel
theorem dX9_goesFree_80 : decode cX9_goesFree 80 = .ok (.istore_n 3, 1) := by decide +kernel
theorem dX9_goesFree_81 : decode cX9_goesFree 81 = .ok (.iload_n 3, 1) := by decide +kernel
theorem dX9_goesFree_82 : decode cX9_goesFree 82 = .ok (.bipush (-4), 2) := by decide +kernel
theorem dX9_goesFree_84 : decode cX9_goesFree 84 = .ok (.if_icmp .eq 50, 3) := by decide +kernel
theorem dX9_goesFree_87 : decode cX9_goesFree 87 = .ok (.aload_n 0, 1) := by decide +kernel
theorem dX9_goesFree_88 : decode cX9_goesFree 88 = .ok (.getfield 7, 3) := by decide +kernel
theorem dX9_goesFree_91 : decode cX9_goesFree 91 = .ok (.iload_n 1, 1) := by decide +kernel
theorem dX9_goesFree_92 : decode cX9_goesFree 92 = .ok (.bipush 44, 2) := by decide +kernel
theorem dX9_goesFree_94 : decode cX9_goesFree 94 = .ok (.iadd, 1) := by decide +kernel
theorem dX9_goesFree_95 : decode cX9_goesFree 95 = .ok (.iload_n 2, 1) := by decide +kernel
theorem dX9_goesFree_96 : decode cX9_goesFree 96 = .ok (.iadd, 1) := by decide +kernel
theorem dX9_goesFree_97 : decode cX9_goesFree 97 = .ok (.iaload, 1) := by decide +kernel
theorem dX9_goesFree_98 : decode cX9_goesFree 98 = .ok (.iconst 2, 1) := by decide +kernel
theorem dX9_goesFree_99 : decode cX9_goesFree 99 = .ok (.idiv, 1) := by decide +kernel
theorem dX9_goesFree_100 : decode cX9_goesFree 100 = .ok (.istore 4, 2) := by decide +kernel
theorem dX9_goesFree_102 : decode cX9_goesFree 102 = .ok (.aload_n 0, 1) := by decide +kernel
theorem dX9_goesFree_103 : decode cX9_goesFree 103 = .ok (.getfield 7, 3) := by decide +kernel
theorem dX9_goesFree_106 : decode cX9_goesFree 106 = .ok (.iload_n 1, 1) := by decide +kernel
theorem dX9_goesFree_107 : decode cX9_goesFree 107 = .ok (.bipush 44, 2) := by decide +kernel
theorem dX9_goesFree_109 : decode cX9_goesFree 109 = .ok (.iadd, 1) := by decide +kernel
theorem dX9_goesFree_110 : decode cX9_goesFree 110 = .ok (.iload_n 2, 1) := by decide +kernel
theorem dX9_goesFree_111 : decode cX9_goesFree 111 = .ok (.iadd, 1) := by decide +kernel
theorem dX9_goesFree_112 : decode cX9_goesFree 112 = .ok (.dup2, 1) := by decide +kernel
theorem dX9_goesFree_113 : decode cX9_goesFree 113 = .ok (.iaload, 1) := by decide +kernel
theorem dX9_goesFree_114 : decode cX9_goesFree 114 = .ok (.iload 4, 2) := by decide +kernel
theorem dX9_goesFree_116 : decode cX9_goesFree 116 = .ok (.isub, 1) := by decide +kernel
theorem dX9_goesFree_117 : decode cX9_goesFree 117 = .ok (.iastore, 1) := by decide +kernel
theorem dX9_goesFree_118 : decode cX9_goesFree 118 = .ok (.aload_n 0, 1) := by decide +kernel
theorem dX9_goesFree_119 : decode cX9_goesFree 119 = .ok (.getfield 7, 3) := by decide +kernel
theorem dX9_goesFree_122 : decode cX9_goesFree 122 = .ok (.iload_n 1, 1) := by decide +kernel
theorem dX9_goesFree_123 : decode cX9_goesFree 123 = .ok (.bipush 44, 2) := by decide +kernel
theorem dX9_goesFree_125 : decode cX9_goesFree 125 = .ok (.iadd, 1) := by decide +kernel
theorem dX9_goesFree_126 : decode cX9_goesFree 126 = .ok (.iload_n 3, 1) := by decide +kernel
theorem dX9_goesFree_127 : decode cX9_goesFree 127 = .ok (.iadd, 1) := by decide +kernel
theorem dX9_goesFree_128 : decode cX9_goesFree 128 = .ok (.dup2, 1) := by decide +kernel
theorem dX9_goesFree_129 : decode cX9_goesFree 129 = .ok (.iaload, 1) := by decide +kernel
theorem dX9_goesFree_130 : decode cX9_goesFree 130 = .ok (.iload 4, 2) := by decide +kernel
theorem dX9_goesFree_132 : decode cX9_goesFree 132 = .ok (.iadd, 1) := by decide +kernel
theorem dX9_goesFree_133 : decode cX9_goesFree 133 = .ok (.iastore, 1) := by decide +kernel
theorem dX9_goesFree_134 : decode cX9_goesFree 134 = .ok (.return_, 1) := by decide +kernel
theorem dX9_freesThose_0 : decode cX9_freesThose 0 = .ok (.iconst 0, 1) := by decide +kernel
theorem dX9_freesThose_1 : decode cX9_freesThose 1 = .ok (.istore_n 2, 1) := by decide +kernel
theorem dX9_freesThose_2 : decode cX9_freesThose 2 = .ok (.iload_n 2, 1) := by decide +kernel
theorem dX9_freesThose_3 : decode cX9_freesThose 3 = .ok (.aload_n 0, 1) := by decide +kernel
theorem dX9_freesThose_4 : decode cX9_freesThose 4 = .ok (.getfield 69, 3) := by decide +kernel
theorem dX9_freesThose_7 : decode cX9_freesThose 7 = .ok (.if_icmp .ge 55, 3) := by decide +kernel
theorem dX9_freesThose_10 : decode cX9_freesThose 10 = .ok (.aload_n 0, 1) := by decide +kernel
theorem dX9_freesThose_11 : decode cX9_freesThose 11 = .ok (.getfield 7, 3) := by decide +kernel
theorem dX9_freesThose_14 : decode cX9_freesThose 14 = .ok (.iload_n 1, 1) := by decide +kernel
theorem dX9_freesThose_15 : decode cX9_freesThose 15 = .ok (.iconst 2, 1) := by decide +kernel
theorem dX9_freesThose_16 : decode cX9_freesThose 16 = .ok (.iadd, 1) := by decide +kernel
theorem dX9_freesThose_17 : decode cX9_freesThose 17 = .ok (.iload_n 2, 1) := by decide +kernel
theorem dX9_freesThose_18 : decode cX9_freesThose 18 = .ok (.iadd, 1) := by decide +kernel
theorem dX9_freesThose_19 : decode cX9_freesThose 19 = .ok (.iaload, 1) := by decide +kernel
theorem dX9_freesThose_20 : decode cX9_freesThose 20 = .ok (.iconst 1, 1) := by decide +kernel
theorem dX9_freesThose_21 : decode cX9_freesThose 21 = .ok (.if_icmp .ne 35, 3) := by decide +kernel
theorem dX9_freesThose_24 : decode cX9_freesThose 24 = .ok (.aload_n 0, 1) := by decide +kernel
theorem dX9_freesThose_25 : decode cX9_freesThose 25 = .ok (.getfield 7, 3) := by decide +kernel
theorem dX9_freesThose_28 : decode cX9_freesThose 28 = .ok (.iload_n 1, 1) := by decide +kernel
theorem dX9_freesThose_29 : decode cX9_freesThose 29 = .ok (.iconst 1, 1) := by decide +kernel
theorem dX9_freesThose_30 : decode cX9_freesThose 30 = .ok (.iadd, 1) := by decide +kernel
theorem dX9_freesThose_31 : decode cX9_freesThose 31 = .ok (.iaload, 1) := by decide +kernel
theorem dX9_freesThose_32 : decode cX9_freesThose 32 = .ok (.iload_n 2, 1) := by decide +kernel
theorem dX9_freesThose_33 : decode cX9_freesThose 33 = .ok (.if_icmp .eq 23, 3) := by decide +kernel
theorem dX9_freesThose_36 : decode cX9_freesThose 36 = .ok (.aload_n 0, 1) := by decide +kernel
theorem dX9_freesThose_37 : decode cX9_freesThose 37 = .ok (.getfield 7, 3) := by decide +kernel
theorem dX9_freesThose_40 : decode cX9_freesThose 40 = .ok (.iload_n 1, 1) := by decide +kernel
theorem dX9_freesThose_41 : decode cX9_freesThose 41 = .ok (.bipush 23, 2) := by decide +kernel
theorem dX9_freesThose_43 : decode cX9_freesThose 43 = .ok (.iadd, 1) := by decide +kernel
theorem dX9_freesThose_44 : decode cX9_freesThose 44 = .ok (.iload_n 2, 1) := by decide +kernel
theorem dX9_freesThose_45 : decode cX9_freesThose 45 = .ok (.iadd, 1) := by decide +kernel
theorem dX9_freesThose_46 : decode cX9_freesThose 46 = .ok (.iaload, 1) := by decide +kernel
theorem dX9_freesThose_47 : decode cX9_freesThose 47 = .ok (.ifCond .ne 9, 3) := by decide +kernel
theorem dX9_freesThose_50 : decode cX9_freesThose 50 = .ok (.aload_n 0, 1) := by decide +kernel
theorem dX9_freesThose_51 : decode cX9_freesThose 51 = .ok (.iload_n 1, 1) := by decide +kernel
theorem dX9_freesThose_52 : decode cX9_freesThose 52 = .ok (.iload_n 2, 1) := by decide +kernel
theorem dX9_freesThose_53 : decode cX9_freesThose 53 = .ok (.invokevirtual 145, 3) := by decide +kernel
theorem dX9_freesThose_56 : decode cX9_freesThose 56 = .ok (.iinc 2 1, 3) := by decide +kernel
theorem dX9_freesThose_59 : decode cX9_freesThose 59 = .ok (.goto (-57), 3) := by decide +kernel
theorem dX9_freesThose_62 : decode cX9_freesThose 62 = .ok (.return_, 1) := by decide +kernel
theorem dX9_passes_0 : decode cX9_passes 0 = .ok (.iconst 0, 1) := by decide +kernel
theorem dX9_passes_1 : decode cX9_passes 1 = .ok (.istore_n 2, 1) := by decide +kernel
theorem dX9_passes_2 : decode cX9_passes 2 = .ok (.iload_n 2, 1) := by decide +kernel
theorem dX9_passes_3 : decode cX9_passes 3 = .ok (.aload_n 0, 1) := by decide +kernel
theorem dX9_passes_4 : decode cX9_passes 4 = .ok (.getfield 69, 3) := by decide +kernel
theorem dX9_passes_7 : decode cX9_passes 7 = .ok (.if_icmp .ge 50, 3) := by decide +kernel
theorem dX9_passes_10 : decode cX9_passes 10 = .ok (.aload_n 0, 1) := by decide +kernel
theorem dX9_passes_11 : decode cX9_passes 11 = .ok (.getfield 7, 3) := by decide +kernel
theorem dX9_passes_14 : decode cX9_passes 14 = .ok (.iload_n 1, 1) := by decide +kernel
theorem dX9_passes_15 : decode cX9_passes 15 = .ok (.iconst 2, 1) := by decide +kernel
theorem dX9_passes_16 : decode cX9_passes 16 = .ok (.iadd, 1) := by decide +kernel
theorem dX9_passes_17 : decode cX9_passes 17 = .ok (.iload_n 2, 1) := by decide +kernel
theorem dX9_passes_18 : decode cX9_passes 18 = .ok (.iadd, 1) := by decide +kernel
theorem dX9_passes_19 : decode cX9_passes 19 = .ok (.iaload, 1) := by decide +kernel
theorem dX9_passes_20 : decode cX9_passes 20 = .ok (.ifCond .ne 31, 3) := by decide +kernel
theorem dX9_passes_23 : decode cX9_passes 23 = .ok (.aload_n 0, 1) := by decide +kernel
theorem dX9_passes_24 : decode cX9_passes 24 = .ok (.getfield 7, 3) := by decide +kernel
theorem dX9_passes_27 : decode cX9_passes 27 = .ok (.iload_n 1, 1) := by decide +kernel
theorem dX9_passes_28 : decode cX9_passes 28 = .ok (.bipush 9, 2) := by decide +kernel
theorem dX9_passes_30 : decode cX9_passes 30 = .ok (.iadd, 1) := by decide +kernel
theorem dX9_passes_31 : decode cX9_passes 31 = .ok (.iload_n 2, 1) := by decide +kernel
theorem dX9_passes_32 : decode cX9_passes 32 = .ok (.iadd, 1) := by decide +kernel
theorem dX9_passes_33 : decode cX9_passes 33 = .ok (.iaload, 1) := by decide +kernel
theorem dX9_passes_34 : decode cX9_passes 34 = .ok (.aload_n 0, 1) := by decide +kernel
theorem dX9_passes_35 : decode cX9_passes 35 = .ok (.getfield 7, 3) := by decide +kernel
theorem dX9_passes_38 : decode cX9_passes 38 = .ok (.iload_n 1, 1) := by decide +kernel
theorem dX9_passes_39 : decode cX9_passes 39 = .ok (.iconst 0, 1) := by decide +kernel
theorem dX9_passes_40 : decode cX9_passes 40 = .ok (.iadd, 1) := by decide +kernel
theorem dX9_passes_41 : decode cX9_passes 41 = .ok (.iaload, 1) := by decide +kernel
theorem dX9_passes_42 : decode cX9_passes 42 = .ok (.if_icmp .ne 9, 3) := by decide +kernel
theorem dX9_passes_45 : decode cX9_passes 45 = .ok (.aload_n 0, 1) := by decide +kernel
theorem dX9_passes_46 : decode cX9_passes 46 = .ok (.iload_n 1, 1) := by decide +kernel
theorem dX9_passes_47 : decode cX9_passes 47 = .ok (.iload_n 2, 1) := by decide +kernel
theorem dX9_passes_48 : decode cX9_passes 48 = .ok (.invokevirtual 149, 3) := by decide +kernel
theorem dX9_passes_51 : decode cX9_passes 51 = .ok (.iinc 2 1, 3) := by decide +kernel
theorem dX9_passes_54 : decode cX9_passes 54 = .ok (.goto (-52), 3) := by decide +kernel
theorem dX9_passes_57 : decode cX9_passes 57 = .ok (.iconst 0, 1) := by decide +kernel
theorem dX9_passes_58 : decode cX9_passes 58 = .ok (.istore_n 2, 1) := by decide +kernel
theorem dX9_passes_59 : decode cX9_passes 59 = .ok (.iload_n 2, 1) := by decide +kernel
theorem dX9_passes_60 : decode cX9_passes 60 = .ok (.aload_n 0, 1) := by decide +kernel
theorem dX9_passes_61 : decode cX9_passes 61 = .ok (.getfield 69, 3) := by decide +kernel
theorem dX9_passes_64 : decode cX9_passes 64 = .ok (.if_icmp .ge 76, 3) := by decide +kernel
theorem dX9_passes_67 : decode cX9_passes 67 = .ok (.aload_n 0, 1) := by decide +kernel
theorem dX9_passes_68 : decode cX9_passes 68 = .ok (.getfield 7, 3) := by decide +kernel
theorem dX9_passes_71 : decode cX9_passes 71 = .ok (.iload_n 1, 1) := by decide +kernel
theorem dX9_passes_72 : decode cX9_passes 72 = .ok (.iconst 2, 1) := by decide +kernel
theorem dX9_passes_73 : decode cX9_passes 73 = .ok (.iadd, 1) := by decide +kernel
theorem dX9_passes_74 : decode cX9_passes 74 = .ok (.iload_n 2, 1) := by decide +kernel
theorem dX9_passes_75 : decode cX9_passes 75 = .ok (.iadd, 1) := by decide +kernel
theorem dX9_passes_76 : decode cX9_passes 76 = .ok (.iaload, 1) := by decide +kernel
theorem dX9_passes_77 : decode cX9_passes 77 = .ok (.iconst 1, 1) := by decide +kernel
theorem dX9_passes_78 : decode cX9_passes 78 = .ok (.if_icmp .ne 56, 3) := by decide +kernel
theorem dX9_passes_81 : decode cX9_passes 81 = .ok (.aload_n 0, 1) := by decide +kernel
theorem dX9_passes_82 : decode cX9_passes 82 = .ok (.getfield 7, 3) := by decide +kernel
theorem dX9_passes_85 : decode cX9_passes 85 = .ok (.iload_n 1, 1) := by decide +kernel
theorem dX9_passes_86 : decode cX9_passes 86 = .ok (.bipush 23, 2) := by decide +kernel
theorem dX9_passes_88 : decode cX9_passes 88 = .ok (.iadd, 1) := by decide +kernel
theorem dX9_passes_89 : decode cX9_passes 89 = .ok (.iload_n 2, 1) := by decide +kernel
theorem dX9_passes_90 : decode cX9_passes 90 = .ok (.iadd, 1) := by decide +kernel
theorem dX9_passes_91 : decode cX9_passes 91 = .ok (.aload_n 0, 1) := by decide +kernel
theorem dX9_passes_92 : decode cX9_passes 92 = .ok (.getfield 7, 3) := by decide +kernel
theorem dX9_passes_95 : decode cX9_passes 95 = .ok (.iload_n 1, 1) := by decide +kernel
theorem dX9_passes_96 : decode cX9_passes 96 = .ok (.bipush 23, 2) := by decide +kernel
theorem dX9_passes_98 : decode cX9_passes 98 = .ok (.iadd, 1) := by decide +kernel
theorem dX9_passes_99 : decode cX9_passes 99 = .ok (.iload_n 2, 1) := by decide +kernel
theorem dX9_passes_100 : decode cX9_passes 100 = .ok (.iadd, 1) := by decide +kernel
theorem dX9_passes_101 : decode cX9_passes 101 = .ok (.iaload, 1) := by decide +kernel
theorem dX9_passes_102 : decode cX9_passes 102 = .ok (.aload_n 0, 1) := by decide +kernel
theorem dX9_passes_103 : decode cX9_passes 103 = .ok (.getfield 22, 3) := by decide +kernel
theorem dX9_passes_106 : decode cX9_passes 106 = .ok (.iload_n 2, 1) := by decide +kernel
theorem dX9_passes_107 : decode cX9_passes 107 = .ok (.iaload, 1) := by decide +kernel
theorem dX9_passes_108 : decode cX9_passes 108 = .ok (.if_icmp .le 24, 3) := by decide +kernel
theorem dX9_passes_111 : decode cX9_passes 111 = .ok (.aload_n 0, 1) := by decide +kernel
theorem dX9_passes_112 : decode cX9_passes 112 = .ok (.getfield 7, 3) := by decide +kernel
theorem dX9_passes_115 : decode cX9_passes 115 = .ok (.iload_n 1, 1) := by decide +kernel
theorem dX9_passes_116 : decode cX9_passes 116 = .ok (.bipush 23, 2) := by decide +kernel
theorem dX9_passes_118 : decode cX9_passes 118 = .ok (.iadd, 1) := by decide +kernel
theorem dX9_passes_119 : decode cX9_passes 119 = .ok (.iload_n 2, 1) := by decide +kernel
theorem dX9_passes_120 : decode cX9_passes 120 = .ok (.iadd, 1) := by decide +kernel
theorem dX9_passes_121 : decode cX9_passes 121 = .ok (.iaload, 1) := by decide +kernel
theorem dX9_passes_122 : decode cX9_passes 122 = .ok (.aload_n 0, 1) := by decide +kernel
theorem dX9_passes_123 : decode cX9_passes 123 = .ok (.getfield 22, 3) := by decide +kernel
theorem dX9_passes_126 : decode cX9_passes 126 = .ok (.iload_n 2, 1) := by decide +kernel
theorem dX9_passes_127 : decode cX9_passes 127 = .ok (.iaload, 1) := by decide +kernel
theorem dX9_passes_128 : decode cX9_passes 128 = .ok (.isub, 1) := by decide +kernel
theorem dX9_passes_129 : decode cX9_passes 129 = .ok (.goto 4, 3) := by decide +kernel
theorem dX9_passes_132 : decode cX9_passes 132 = .ok (.iconst 0, 1) := by decide +kernel
theorem dX9_passes_133 : decode cX9_passes 133 = .ok (.iastore, 1) := by decide +kernel
theorem dX9_passes_134 : decode cX9_passes 134 = .ok (.iinc 2 1, 3) := by decide +kernel
theorem dX9_passes_137 : decode cX9_passes 137 = .ok (.goto (-78), 3) := by decide +kernel
theorem dX9_passes_140 : decode cX9_passes 140 = .ok (.aload_n 0, 1) := by decide +kernel
theorem dX9_passes_141 : decode cX9_passes 141 = .ok (.iload_n 1, 1) := by decide +kernel
theorem dX9_passes_142 : decode cX9_passes 142 = .ok (.invokevirtual 152, 3) := by decide +kernel
theorem dX9_passes_145 : decode cX9_passes 145 = .ok (.aload_n 0, 1) := by decide +kernel
theorem dX9_passes_146 : decode cX9_passes 146 = .ok (.getfield 7, 3) := by decide +kernel
theorem dX9_passes_149 : decode cX9_passes 149 = .ok (.iload_n 1, 1) := by decide +kernel
theorem dX9_passes_150 : decode cX9_passes 150 = .ok (.iconst 0, 1) := by decide +kernel
theorem dX9_passes_151 : decode cX9_passes 151 = .ok (.iadd, 1) := by decide +kernel
theorem dX9_passes_152 : decode cX9_passes 152 = .ok (.dup2, 1) := by decide +kernel
theorem dX9_passes_153 : decode cX9_passes 153 = .ok (.iaload, 1) := by decide +kernel
theorem dX9_passes_154 : decode cX9_passes 154 = .ok (.iconst 1, 1) := by decide +kernel
theorem dX9_passes_155 : decode cX9_passes 155 = .ok (.iadd, 1) := by decide +kernel
theorem dX9_passes_156 : decode cX9_passes 156 = .ok (.iastore, 1) := by decide +kernel
theorem dX9_passes_157 : decode cX9_passes 157 = .ok (.return_, 1) := by decide +kernel
theorem dX9_canBook_0 : decode cX9_canBook 0 = .ok (.aload_n 0, 1) := by decide +kernel
theorem dX9_canBook_1 : decode cX9_canBook 1 = .ok (.getfield 7, 3) := by decide +kernel
theorem dX9_canBook_4 : decode cX9_canBook 4 = .ok (.iload_n 1, 1) := by decide +kernel
theorem dX9_canBook_5 : decode cX9_canBook 5 = .ok (.iconst 2, 1) := by decide +kernel
theorem dX9_canBook_6 : decode cX9_canBook 6 = .ok (.iadd, 1) := by decide +kernel
theorem dX9_canBook_7 : decode cX9_canBook 7 = .ok (.iload_n 2, 1) := by decide +kernel
theorem dX9_canBook_8 : decode cX9_canBook 8 = .ok (.iadd, 1) := by decide +kernel
theorem dX9_canBook_9 : decode cX9_canBook 9 = .ok (.iaload, 1) := by decide +kernel
theorem dX9_canBook_10 : decode cX9_canBook 10 = .ok (.ifCond .ne 19, 3) := by decide +kernel
theorem dX9_canBook_13 : decode cX9_canBook 13 = .ok (.iload_n 3, 1) := by decide +kernel
theorem dX9_canBook_14 : decode cX9_canBook 14 = .ok (.aload_n 0, 1) := by decide +kernel
theorem dX9_canBook_15 : decode cX9_canBook 15 = .ok (.getfield 7, 3) := by decide +kernel
theorem dX9_canBook_18 : decode cX9_canBook 18 = .ok (.iload_n 1, 1) := by decide +kernel
theorem dX9_canBook_19 : decode cX9_canBook 19 = .ok (.iconst 0, 1) := by decide +kernel
theorem dX9_canBook_20 : decode cX9_canBook 20 = .ok (.iadd, 1) := by decide +kernel
theorem dX9_canBook_21 : decode cX9_canBook 21 = .ok (.iaload, 1) := by decide +kernel
theorem dX9_canBook_22 : decode cX9_canBook 22 = .ok (.if_icmp .lt 7, 3) := by decide +kernel
theorem dX9_canBook_25 : decode cX9_canBook 25 = .ok (.iconst 1, 1) := by decide +kernel
theorem dX9_canBook_26 : decode cX9_canBook 26 = .ok (.goto 4, 3) := by decide +kernel
theorem dX9_canBook_29 : decode cX9_canBook 29 = .ok (.iconst 0, 1) := by decide +kernel
theorem dX9_canBook_30 : decode cX9_canBook 30 = .ok (.ireturn, 1) := by decide +kernel
theorem dX9_canChange_0 : decode cX9_canChange 0 = .ok (.aload_n 0, 1) := by decide +kernel
theorem dX9_canChange_1 : decode cX9_canChange 1 = .ok (.getfield 7, 3) := by decide +kernel
theorem dX9_canChange_4 : decode cX9_canChange 4 = .ok (.iload_n 1, 1) := by decide +kernel
theorem dX9_canChange_5 : decode cX9_canChange 5 = .ok (.iconst 2, 1) := by decide +kernel
theorem dX9_canChange_6 : decode cX9_canChange 6 = .ok (.iadd, 1) := by decide +kernel
theorem dX9_canChange_7 : decode cX9_canChange 7 = .ok (.iload_n 2, 1) := by decide +kernel
theorem dX9_canChange_8 : decode cX9_canChange 8 = .ok (.iadd, 1) := by decide +kernel
theorem dX9_canChange_9 : decode cX9_canChange 9 = .ok (.iaload, 1) := by decide +kernel
theorem dX9_canChange_10 : decode cX9_canChange 10 = .ok (.ifCond .ne 25, 3) := by decide +kernel
theorem dX9_canChange_13 : decode cX9_canChange 13 = .ok (.aload_n 0, 1) := by decide +kernel
theorem dX9_canChange_14 : decode cX9_canChange 14 = .ok (.getfield 7, 3) := by decide +kernel
theorem dX9_canChange_17 : decode cX9_canChange 17 = .ok (.iload_n 1, 1) := by decide +kernel
theorem dX9_canChange_18 : decode cX9_canChange 18 = .ok (.iconst 2, 1) := by decide +kernel
theorem dX9_canChange_19 : decode cX9_canChange 19 = .ok (.iadd, 1) := by decide +kernel
theorem dX9_canChange_20 : decode cX9_canChange 20 = .ok (.iload_n 3, 1) := by decide +kernel
theorem dX9_canChange_21 : decode cX9_canChange 21 = .ok (.iadd, 1) := by decide +kernel
theorem dX9_canChange_22 : decode cX9_canChange 22 = .ok (.iaload, 1) := by decide +kernel
theorem dX9_canChange_23 : decode cX9_canChange 23 = .ok (.ifCond .ne 12, 3) := by decide +kernel
theorem dX9_canChange_26 : decode cX9_canChange 26 = .ok (.iload_n 2, 1) := by decide +kernel
theorem dX9_canChange_27 : decode cX9_canChange 27 = .ok (.iload_n 3, 1) := by decide +kernel
theorem dX9_canChange_28 : decode cX9_canChange 28 = .ok (.if_icmp .eq 7, 3) := by decide +kernel
theorem dX9_canChange_31 : decode cX9_canChange 31 = .ok (.iconst 1, 1) := by decide +kernel
theorem dX9_canChange_32 : decode cX9_canChange 32 = .ok (.goto 4, 3) := by decide +kernel
theorem dX9_canChange_35 : decode cX9_canChange 35 = .ok (.iconst 0, 1) := by decide +kernel
theorem dX9_canChange_36 : decode cX9_canChange 36 = .ok (.ireturn, 1) := by decide +kernel
theorem dX9_changes_0 : decode cX9_changes 0 = .ok (.aload_n 0, 1) := by decide +kernel
theorem dX9_changes_1 : decode cX9_changes 1 = .ok (.getfield 7, 3) := by decide +kernel
theorem dX9_changes_4 : decode cX9_changes 4 = .ok (.iload_n 1, 1) := by decide +kernel
theorem dX9_changes_5 : decode cX9_changes 5 = .ok (.bipush 16, 2) := by decide +kernel
theorem dX9_changes_7 : decode cX9_changes 7 = .ok (.iadd, 1) := by decide +kernel
theorem dX9_changes_8 : decode cX9_changes 8 = .ok (.iload_n 2, 1) := by decide +kernel
theorem dX9_changes_9 : decode cX9_changes 9 = .ok (.iadd, 1) := by decide +kernel
theorem dX9_changes_10 : decode cX9_changes 10 = .ok (.iaload, 1) := by decide +kernel
theorem dX9_changes_11 : decode cX9_changes 11 = .ok (.istore 4, 2) := by decide +kernel
theorem dX9_changes_13 : decode cX9_changes 13 = .ok (.aload_n 0, 1) := by decide +kernel
theorem dX9_changes_14 : decode cX9_changes 14 = .ok (.getfield 7, 3) := by decide +kernel
theorem dX9_changes_17 : decode cX9_changes 17 = .ok (.iload_n 1, 1) := by decide +kernel
theorem dX9_changes_18 : decode cX9_changes 18 = .ok (.bipush 16, 2) := by decide +kernel
theorem dX9_changes_20 : decode cX9_changes 20 = .ok (.iadd, 1) := by decide +kernel
theorem dX9_changes_21 : decode cX9_changes 21 = .ok (.iload_n 2, 1) := by decide +kernel
theorem dX9_changes_22 : decode cX9_changes 22 = .ok (.iadd, 1) := by decide +kernel
theorem dX9_changes_23 : decode cX9_changes 23 = .ok (.aload_n 0, 1) := by decide +kernel
theorem dX9_changes_24 : decode cX9_changes 24 = .ok (.getfield 7, 3) := by decide +kernel
theorem dX9_changes_27 : decode cX9_changes 27 = .ok (.iload_n 1, 1) := by decide +kernel
theorem dX9_changes_28 : decode cX9_changes 28 = .ok (.bipush 16, 2) := by decide +kernel
theorem dX9_changes_30 : decode cX9_changes 30 = .ok (.iadd, 1) := by decide +kernel
theorem dX9_changes_31 : decode cX9_changes 31 = .ok (.iload_n 3, 1) := by decide +kernel
theorem dX9_changes_32 : decode cX9_changes 32 = .ok (.iadd, 1) := by decide +kernel
theorem dX9_changes_33 : decode cX9_changes 33 = .ok (.iaload, 1) := by decide +kernel
theorem dX9_changes_34 : decode cX9_changes 34 = .ok (.iastore, 1) := by decide +kernel
theorem dX9_changes_35 : decode cX9_changes 35 = .ok (.aload_n 0, 1) := by decide +kernel
theorem dX9_changes_36 : decode cX9_changes 36 = .ok (.getfield 7, 3) := by decide +kernel
theorem dX9_changes_39 : decode cX9_changes 39 = .ok (.iload_n 1, 1) := by decide +kernel
theorem dX9_changes_40 : decode cX9_changes 40 = .ok (.bipush 16, 2) := by decide +kernel
theorem dX9_changes_42 : decode cX9_changes 42 = .ok (.iadd, 1) := by decide +kernel
theorem dX9_changes_43 : decode cX9_changes 43 = .ok (.iload_n 3, 1) := by decide +kernel
theorem dX9_changes_44 : decode cX9_changes 44 = .ok (.iadd, 1) := by decide +kernel
theorem dX9_changes_45 : decode cX9_changes 45 = .ok (.iload 4, 2) := by decide +kernel
theorem dX9_changes_47 : decode cX9_changes 47 = .ok (.iastore, 1) := by decide +kernel
theorem dX9_changes_48 : decode cX9_changes 48 = .ok (.return_, 1) := by decide +kernel
theorem dX9_minds_0 : decode cX9_minds 0 = .ok (.aload_n 0, 1) := by decide +kernel
theorem dX9_minds_1 : decode cX9_minds 1 = .ok (.getfield 83, 3) := by decide +kernel
theorem dX9_minds_4 : decode cX9_minds 4 = .ok (.bipush 8, 2) := by decide +kernel
theorem dX9_minds_6 : decode cX9_minds 6 = .ok (.if_icmp .ne 51, 3) := by decide +kernel
theorem dX9_minds_9 : decode cX9_minds 9 = .ok (.iconst 0, 1) := by decide +kernel
theorem dX9_minds_10 : decode cX9_minds 10 = .ok (.istore_n 1, 1) := by decide +kernel
theorem dX9_minds_11 : decode cX9_minds 11 = .ok (.iload_n 1, 1) := by decide +kernel
theorem dX9_minds_12 : decode cX9_minds 12 = .ok (.sipush 357, 3) := by decide +kernel
theorem dX9_minds_15 : decode cX9_minds 15 = .ok (.if_icmp .ge 32, 3) := by decide +kernel
theorem dX9_minds_18 : decode cX9_minds 18 = .ok (.aload_n 0, 1) := by decide +kernel
theorem dX9_minds_19 : decode cX9_minds 19 = .ok (.getfield 7, 3) := by decide +kernel
theorem dX9_minds_22 : decode cX9_minds 22 = .ok (.sipush 204, 3) := by decide +kernel
theorem dX9_minds_25 : decode cX9_minds 25 = .ok (.iload_n 1, 1) := by decide +kernel
theorem dX9_minds_26 : decode cX9_minds 26 = .ok (.iadd, 1) := by decide +kernel
theorem dX9_minds_27 : decode cX9_minds 27 = .ok (.aload_n 0, 1) := by decide +kernel
theorem dX9_minds_28 : decode cX9_minds 28 = .ok (.getfield 7, 3) := by decide +kernel
theorem dX9_minds_31 : decode cX9_minds 31 = .ok (.sipush 204, 3) := by decide +kernel
theorem dX9_minds_34 : decode cX9_minds 34 = .ok (.iload_n 1, 1) := by decide +kernel
theorem dX9_minds_35 : decode cX9_minds 35 = .ok (.iadd, 1) := by decide +kernel
theorem dX9_minds_36 : decode cX9_minds 36 = .ok (.bipush 51, 2) := by decide +kernel
theorem dX9_minds_38 : decode cX9_minds 38 = .ok (.iadd, 1) := by decide +kernel
theorem dX9_minds_39 : decode cX9_minds 39 = .ok (.iaload, 1) := by decide +kernel
theorem dX9_minds_40 : decode cX9_minds 40 = .ok (.iastore, 1) := by decide +kernel
theorem dX9_minds_41 : decode cX9_minds 41 = .ok (.iinc 1 1, 3) := by decide +kernel
theorem dX9_minds_44 : decode cX9_minds 44 = .ok (.goto (-33), 3) := by decide +kernel
theorem dX9_minds_47 : decode cX9_minds 47 = .ok (.aload_n 0, 1) := by decide +kernel
theorem dX9_minds_48 : decode cX9_minds 48 = .ok (.dup, 1) := by decide +kernel
theorem dX9_minds_49 : decode cX9_minds 49 = .ok (.getfield 83, 3) := by decide +kernel
theorem dX9_minds_52 : decode cX9_minds 52 = .ok (.iconst 1, 1) := by decide +kernel
theorem dX9_minds_53 : decode cX9_minds 53 = .ok (.isub, 1) := by decide +kernel
theorem dX9_minds_54 : decode cX9_minds 54 = .ok (.putfield 83, 3) := by decide +kernel
theorem dX9_minds_57 : decode cX9_minds 57 = .ok (.aload_n 0, 1) := by decide +kernel
theorem dX9_minds_58 : decode cX9_minds 58 = .ok (.iconst 0, 1) := by decide +kernel
theorem dX9_minds_59 : decode cX9_minds 59 = .ok (.sipush 204, 3) := by decide +kernel
theorem dX9_minds_62 : decode cX9_minds 62 = .ok (.bipush 51, 2) := by decide +kernel
theorem dX9_minds_64 : decode cX9_minds 64 = .ok (.aload_n 0, 1) := by decide +kernel
theorem dX9_minds_65 : decode cX9_minds 65 = .ok (.getfield 83, 3) := by decide +kernel
theorem dX9_minds_68 : decode cX9_minds 68 = .ok (.imul, 1) := by decide +kernel
theorem dX9_minds_69 : decode cX9_minds 69 = .ok (.iadd, 1) := by decide +kernel
theorem dX9_minds_70 : decode cX9_minds 70 = .ok (.invokevirtual 155, 3) := by decide +kernel
theorem dX9_minds_73 : decode cX9_minds 73 = .ok (.aload_n 0, 1) := by decide +kernel
theorem dX9_minds_74 : decode cX9_minds 74 = .ok (.dup, 1) := by decide +kernel
theorem dX9_minds_75 : decode cX9_minds 75 = .ok (.getfield 83, 3) := by decide +kernel
theorem dX9_minds_78 : decode cX9_minds 78 = .ok (.iconst 1, 1) := by decide +kernel
theorem dX9_minds_79 : decode cX9_minds 79 = .ok (.iadd, 1) := by decide +kernel
theorem dX9_minds_80 : decode cX9_minds 80 = .ok (.putfield 83, 3) := by decide +kernel
theorem dX9_minds_83 : decode cX9_minds 83 = .ok (.return_, 1) := by decide +kernel
theorem dX9_pass_0 : decode cX9_pass 0 = .ok (.iload_n 1, 1) := by decide +kernel
theorem dX9_pass_1 : decode cX9_pass 1 = .ok (.i2l, 1) := by decide +kernel
theorem dX9_pass_2 : decode cX9_pass 2 = .ok (.lconst 1, 1) := by decide +kernel
theorem dX9_pass_3 : decode cX9_pass 3 = .ok (.ldc2_w 158, 3) := by decide +kernel
theorem dX9_pass_6 : decode cX9_pass 6 = .ok (.invokestatic 73, 3) := by decide +kernel
theorem dX9_pass_9 : decode cX9_pass 9 = .ok (.ifCond .ne 5, 3) := by decide +kernel
theorem dX9_pass_12 : decode cX9_pass 12 = .ok (.iconst (-1), 1) := by decide +kernel
theorem dX9_pass_13 : decode cX9_pass 13 = .ok (.ireturn, 1) := by decide +kernel
theorem dX9_pass_14 : decode cX9_pass 14 = .ok (.aload_n 0, 1) := by decide +kernel
theorem dX9_pass_15 : decode cX9_pass 15 = .ok (.invokevirtual 160, 3) := by decide +kernel
theorem dX9_pass_18 : decode cX9_pass 18 = .ok (.iconst 0, 1) := by decide +kernel
theorem dX9_pass_19 : decode cX9_pass 19 = .ok (.istore_n 2, 1) := by decide +kernel
theorem dX9_pass_20 : decode cX9_pass 20 = .ok (.iload_n 2, 1) := by decide +kernel
theorem dX9_pass_21 : decode cX9_pass 21 = .ok (.iload_n 1, 1) := by decide +kernel
theorem dX9_pass_22 : decode cX9_pass 22 = .ok (.if_icmp .ge 14, 3) := by decide +kernel
theorem dX9_pass_25 : decode cX9_pass 25 = .ok (.aload_n 0, 1) := by decide +kernel
theorem dX9_pass_26 : decode cX9_pass 26 = .ok (.iconst 0, 1) := by decide +kernel
theorem dX9_pass_27 : decode cX9_pass 27 = .ok (.invokevirtual 163, 3) := by decide +kernel
theorem dX9_pass_30 : decode cX9_pass 30 = .ok (.iinc 2 1, 3) := by decide +kernel
theorem dX9_pass_33 : decode cX9_pass 33 = .ok (.goto (-13), 3) := by decide +kernel
theorem dX9_pass_36 : decode cX9_pass 36 = .ok (.aload_n 0, 1) := by decide +kernel
theorem dX9_pass_37 : decode cX9_pass 37 = .ok (.getfield 7, 3) := by decide +kernel
theorem dX9_pass_40 : decode cX9_pass 40 = .ok (.iconst 0, 1) := by decide +kernel
theorem dX9_pass_41 : decode cX9_pass 41 = .ok (.iaload, 1) := by decide +kernel
theorem dX9_pass_42 : decode cX9_pass 42 = .ok (.ireturn, 1) := by decide +kernel
theorem dX9_book_0 : decode cX9_book 0 = .ok (.aload_n 0, 1) := by decide +kernel
theorem dX9_book_1 : decode cX9_book 1 = .ok (.iload_n 1, 1) := by decide +kernel
theorem dX9_book_2 : decode cX9_book 2 = .ok (.invokevirtual 131, 3) := by decide +kernel
theorem dX9_book_5 : decode cX9_book 5 = .ok (.ifCond .eq 15, 3) := by decide +kernel
theorem dX9_book_8 : decode cX9_book 8 = .ok (.iload_n 2, 1) := by decide +kernel
theorem dX9_book_9 : decode cX9_book 9 = .ok (.i2l, 1) := by decide +kernel
theorem dX9_book_10 : decode cX9_book 10 = .ok (.lconst 0, 1) := by decide +kernel
theorem dX9_book_11 : decode cX9_book 11 = .ok (.ldc2_w 166, 3) := by decide +kernel
theorem dX9_book_14 : decode cX9_book 14 = .ok (.invokestatic 73, 3) := by decide +kernel
theorem dX9_book_17 : decode cX9_book 17 = .ok (.ifCond .ne 5, 3) := by decide +kernel
theorem dX9_book_20 : decode cX9_book 20 = .ok (.iconst (-1), 1) := by decide +kernel
theorem dX9_book_21 : decode cX9_book 21 = .ok (.ireturn, 1) := by decide +kernel
theorem dX9_book_22 : decode cX9_book 22 = .ok (.aload_n 0, 1) := by decide +kernel
theorem dX9_book_23 : decode cX9_book 23 = .ok (.iconst 0, 1) := by decide +kernel
theorem dX9_book_24 : decode cX9_book 24 = .ok (.iload_n 1, 1) := by decide +kernel
theorem dX9_book_25 : decode cX9_book 25 = .ok (.iload_n 2, 1) := by decide +kernel
theorem dX9_book_26 : decode cX9_book 26 = .ok (.invokevirtual 168, 3) := by decide +kernel
theorem dX9_book_29 : decode cX9_book 29 = .ok (.ifCond .ne 6, 3) := by decide +kernel
theorem dX9_book_32 : decode cX9_book 32 = .ok (.bipush (-2), 2) := by decide +kernel
theorem dX9_book_34 : decode cX9_book 34 = .ok (.ireturn, 1) := by decide +kernel
theorem dX9_book_35 : decode cX9_book 35 = .ok (.aload_n 0, 1) := by decide +kernel
theorem dX9_book_36 : decode cX9_book 36 = .ok (.invokevirtual 160, 3) := by decide +kernel
theorem dX9_book_39 : decode cX9_book 39 = .ok (.aload_n 0, 1) := by decide +kernel
theorem dX9_book_40 : decode cX9_book 40 = .ok (.getfield 7, 3) := by decide +kernel
theorem dX9_book_43 : decode cX9_book 43 = .ok (.bipush 9, 2) := by decide +kernel
theorem dX9_book_45 : decode cX9_book 45 = .ok (.iload_n 1, 1) := by decide +kernel
theorem dX9_book_46 : decode cX9_book 46 = .ok (.iadd, 1) := by decide +kernel
theorem dX9_book_47 : decode cX9_book 47 = .ok (.iaload, 1) := by decide +kernel
theorem dX9_book_48 : decode cX9_book 48 = .ok (.istore_n 3, 1) := by decide +kernel
theorem dX9_book_49 : decode cX9_book 49 = .ok (.aload_n 0, 1) := by decide +kernel
theorem dX9_book_50 : decode cX9_book 50 = .ok (.getfield 7, 3) := by decide +kernel
theorem dX9_book_53 : decode cX9_book 53 = .ok (.bipush 9, 2) := by decide +kernel
theorem dX9_book_55 : decode cX9_book 55 = .ok (.iload_n 1, 1) := by decide +kernel
theorem dX9_book_56 : decode cX9_book 56 = .ok (.iadd, 1) := by decide +kernel
theorem dX9_book_57 : decode cX9_book 57 = .ok (.iload_n 2, 1) := by decide +kernel
theorem dX9_book_58 : decode cX9_book 58 = .ok (.iastore, 1) := by decide +kernel
theorem dX9_book_59 : decode cX9_book 59 = .ok (.iload_n 3, 1) := by decide +kernel
theorem dX9_book_60 : decode cX9_book 60 = .ok (.ireturn, 1) := by decide +kernel
theorem dX9_manyHow_0 : decode cX9_manyHow 0 = .ok (.iconst 0, 1) := by decide +kernel
theorem dX9_manyHow_1 : decode cX9_manyHow 1 = .ok (.istore_n 3, 1) := by decide +kernel
theorem dX9_manyHow_2 : decode cX9_manyHow 2 = .ok (.iconst 0, 1) := by decide +kernel
theorem dX9_manyHow_3 : decode cX9_manyHow 3 = .ok (.istore 4, 2) := by decide +kernel
theorem dX9_manyHow_5 : decode cX9_manyHow 5 = .ok (.iload 4, 2) := by decide +kernel
theorem dX9_manyHow_7 : decode cX9_manyHow 7 = .ok (.aload_n 0, 1) := by decide +kernel
theorem dX9_manyHow_8 : decode cX9_manyHow 8 = .ok (.getfield 69, 3) := by decide +kernel
theorem dX9_manyHow_11 : decode cX9_manyHow 11 = .ok (.if_icmp .ge 32, 3) := by decide +kernel
theorem dX9_manyHow_14 : decode cX9_manyHow 14 = .ok (.iload_n 3, 1) := by decide +kernel
theorem dX9_manyHow_15 : decode cX9_manyHow 15 = .ok (.aload_n 0, 1) := by decide +kernel
theorem dX9_manyHow_16 : decode cX9_manyHow 16 = .ok (.getfield 7, 3) := by decide +kernel
theorem dX9_manyHow_19 : decode cX9_manyHow 19 = .ok (.iload_n 1, 1) := by decide +kernel
theorem dX9_manyHow_20 : decode cX9_manyHow 20 = .ok (.iconst 2, 1) := by decide +kernel
theorem dX9_manyHow_21 : decode cX9_manyHow 21 = .ok (.iadd, 1) := by decide +kernel
theorem dX9_manyHow_22 : decode cX9_manyHow 22 = .ok (.iload 4, 2) := by decide +kernel
theorem dX9_manyHow_24 : decode cX9_manyHow 24 = .ok (.iadd, 1) := by decide +kernel
theorem dX9_manyHow_25 : decode cX9_manyHow 25 = .ok (.iaload, 1) := by decide +kernel
theorem dX9_manyHow_26 : decode cX9_manyHow 26 = .ok (.iload_n 2, 1) := by decide +kernel
theorem dX9_manyHow_27 : decode cX9_manyHow 27 = .ok (.if_icmp .ne 7, 3) := by decide +kernel
theorem dX9_manyHow_30 : decode cX9_manyHow 30 = .ok (.iconst 1, 1) := by decide +kernel
theorem dX9_manyHow_31 : decode cX9_manyHow 31 = .ok (.goto 4, 3) := by decide +kernel
theorem dX9_manyHow_34 : decode cX9_manyHow 34 = .ok (.iconst 0, 1) := by decide +kernel
theorem dX9_manyHow_35 : decode cX9_manyHow 35 = .ok (.iadd, 1) := by decide +kernel
theorem dX9_manyHow_36 : decode cX9_manyHow 36 = .ok (.istore_n 3, 1) := by decide +kernel
theorem dX9_manyHow_37 : decode cX9_manyHow 37 = .ok (.iinc 4 1, 3) := by decide +kernel
theorem dX9_manyHow_40 : decode cX9_manyHow 40 = .ok (.goto (-35), 3) := by decide +kernel
theorem dX9_manyHow_43 : decode cX9_manyHow 43 = .ok (.iload_n 3, 1) := by decide +kernel
theorem dX9_manyHow_44 : decode cX9_manyHow 44 = .ok (.ireturn, 1) := by decide +kernel
theorem dX9_call_0 : decode cX9_call 0 = .ok (.aload_n 0, 1) := by decide +kernel
theorem dX9_call_1 : decode cX9_call 1 = .ok (.iload_n 1, 1) := by decide +kernel
theorem dX9_call_2 : decode cX9_call 2 = .ok (.invokevirtual 131, 3) := by decide +kernel
theorem dX9_call_5 : decode cX9_call 5 = .ok (.ifCond .ne 5, 3) := by decide +kernel
theorem dX9_call_8 : decode cX9_call 8 = .ok (.iconst (-1), 1) := by decide +kernel
theorem dX9_call_9 : decode cX9_call 9 = .ok (.ireturn, 1) := by decide +kernel
theorem dX9_call_10 : decode cX9_call 10 = .ok (.aload_n 0, 1) := by decide +kernel
theorem dX9_call_11 : decode cX9_call 11 = .ok (.getfield 7, 3) := by decide +kernel
theorem dX9_call_14 : decode cX9_call 14 = .ok (.iconst 2, 1) := by decide +kernel
theorem dX9_call_15 : decode cX9_call 15 = .ok (.iload_n 1, 1) := by decide +kernel
theorem dX9_call_16 : decode cX9_call 16 = .ok (.iadd, 1) := by decide +kernel
theorem dX9_call_17 : decode cX9_call 17 = .ok (.iaload, 1) := by decide +kernel
theorem dX9_call_18 : decode cX9_call 18 = .ok (.ifCond .eq 6, 3) := by decide +kernel
theorem dX9_call_21 : decode cX9_call 21 = .ok (.bipush (-2), 2) := by decide +kernel
theorem dX9_call_23 : decode cX9_call 23 = .ok (.ireturn, 1) := by decide +kernel
theorem dX9_call_24 : decode cX9_call 24 = .ok (.aload_n 0, 1) := by decide +kernel
theorem dX9_call_25 : decode cX9_call 25 = .ok (.invokevirtual 160, 3) := by decide +kernel
theorem dX9_call_28 : decode cX9_call 28 = .ok (.aload_n 0, 1) := by decide +kernel
theorem dX9_call_29 : decode cX9_call 29 = .ok (.getfield 7, 3) := by decide +kernel
theorem dX9_call_32 : decode cX9_call 32 = .ok (.iconst 2, 1) := by decide +kernel
theorem dX9_call_33 : decode cX9_call 33 = .ok (.iload_n 1, 1) := by decide +kernel
theorem dX9_call_34 : decode cX9_call 34 = .ok (.iadd, 1) := by decide +kernel
theorem dX9_call_35 : decode cX9_call 35 = .ok (.iconst 3, 1) := by decide +kernel
theorem dX9_call_36 : decode cX9_call 36 = .ok (.iastore, 1) := by decide +kernel
theorem dX9_call_37 : decode cX9_call 37 = .ok (.aload_n 0, 1) := by decide +kernel
theorem dX9_call_38 : decode cX9_call 38 = .ok (.iconst 0, 1) := by decide +kernel
theorem dX9_call_39 : decode cX9_call 39 = .ok (.iconst 0, 1) := by decide +kernel
theorem dX9_call_40 : decode cX9_call 40 = .ok (.invokevirtual 171, 3) := by decide +kernel
theorem dX9_call_43 : decode cX9_call 43 = .ok (.ireturn, 1) := by decide +kernel
theorem dX9_change_0 : decode cX9_change 0 = .ok (.aload_n 0, 1) := by decide +kernel
theorem dX9_change_1 : decode cX9_change 1 = .ok (.iload_n 1, 1) := by decide +kernel
theorem dX9_change_2 : decode cX9_change 2 = .ok (.invokevirtual 131, 3) := by decide +kernel
theorem dX9_change_5 : decode cX9_change 5 = .ok (.ifCond .eq 16, 3) := by decide +kernel
theorem dX9_change_8 : decode cX9_change 8 = .ok (.aload_n 0, 1) := by decide +kernel
theorem dX9_change_9 : decode cX9_change 9 = .ok (.iload_n 2, 1) := by decide +kernel
theorem dX9_change_10 : decode cX9_change 10 = .ok (.invokevirtual 131, 3) := by decide +kernel
theorem dX9_change_13 : decode cX9_change 13 = .ok (.ifCond .eq 8, 3) := by decide +kernel
theorem dX9_change_16 : decode cX9_change 16 = .ok (.iload_n 1, 1) := by decide +kernel
theorem dX9_change_17 : decode cX9_change 17 = .ok (.iload_n 2, 1) := by decide +kernel
theorem dX9_change_18 : decode cX9_change 18 = .ok (.if_icmp .ne 5, 3) := by decide +kernel
theorem dX9_change_21 : decode cX9_change 21 = .ok (.iconst (-1), 1) := by decide +kernel
theorem dX9_change_22 : decode cX9_change 22 = .ok (.ireturn, 1) := by decide +kernel
theorem dX9_change_23 : decode cX9_change 23 = .ok (.aload_n 0, 1) := by decide +kernel
theorem dX9_change_24 : decode cX9_change 24 = .ok (.iconst 0, 1) := by decide +kernel
theorem dX9_change_25 : decode cX9_change 25 = .ok (.iload_n 1, 1) := by decide +kernel
theorem dX9_change_26 : decode cX9_change 26 = .ok (.iload_n 2, 1) := by decide +kernel
theorem dX9_change_27 : decode cX9_change 27 = .ok (.invokevirtual 174, 3) := by decide +kernel
theorem dX9_change_30 : decode cX9_change 30 = .ok (.ifCond .ne 6, 3) := by decide +kernel
theorem dX9_change_33 : decode cX9_change 33 = .ok (.bipush (-2), 2) := by decide +kernel
theorem dX9_change_35 : decode cX9_change 35 = .ok (.ireturn, 1) := by decide +kernel
theorem dX9_change_36 : decode cX9_change 36 = .ok (.aload_n 0, 1) := by decide +kernel
theorem dX9_change_37 : decode cX9_change 37 = .ok (.invokevirtual 160, 3) := by decide +kernel
theorem dX9_change_40 : decode cX9_change 40 = .ok (.aload_n 0, 1) := by decide +kernel
theorem dX9_change_41 : decode cX9_change 41 = .ok (.iconst 0, 1) := by decide +kernel
theorem dX9_change_42 : decode cX9_change 42 = .ok (.iload_n 1, 1) := by decide +kernel
theorem dX9_change_43 : decode cX9_change 43 = .ok (.iload_n 2, 1) := by decide +kernel
theorem dX9_change_44 : decode cX9_change 44 = .ok (.invokevirtual 177, 3) := by decide +kernel
theorem dX9_change_47 : decode cX9_change 47 = .ok (.aload_n 0, 1) := by decide +kernel
theorem dX9_change_48 : decode cX9_change 48 = .ok (.getfield 7, 3) := by decide +kernel
theorem dX9_change_51 : decode cX9_change 51 = .ok (.bipush 16, 2) := by decide +kernel
theorem dX9_change_53 : decode cX9_change 53 = .ok (.iload_n 1, 1) := by decide +kernel
theorem dX9_change_54 : decode cX9_change 54 = .ok (.iadd, 1) := by decide +kernel
theorem dX9_change_55 : decode cX9_change 55 = .ok (.iaload, 1) := by decide +kernel
theorem dX9_change_56 : decode cX9_change 56 = .ok (.ireturn, 1) := by decide +kernel
theorem dX9_undo_0 : decode cX9_undo 0 = .ok (.aload_n 0, 1) := by decide +kernel
theorem dX9_undo_1 : decode cX9_undo 1 = .ok (.getfield 83, 3) := by decide +kernel
theorem dX9_undo_4 : decode cX9_undo 4 = .ok (.ifCond .ne 6, 3) := by decide +kernel
theorem dX9_undo_7 : decode cX9_undo 7 = .ok (.bipush (-2), 2) := by decide +kernel
theorem dX9_undo_9 : decode cX9_undo 9 = .ok (.ireturn, 1) := by decide +kernel
theorem dX9_undo_10 : decode cX9_undo 10 = .ok (.aload_n 0, 1) := by decide +kernel
theorem dX9_undo_11 : decode cX9_undo 11 = .ok (.dup, 1) := by decide +kernel
theorem dX9_undo_12 : decode cX9_undo 12 = .ok (.getfield 83, 3) := by decide +kernel
theorem dX9_undo_15 : decode cX9_undo 15 = .ok (.iconst 1, 1) := by decide +kernel
theorem dX9_undo_16 : decode cX9_undo 16 = .ok (.isub, 1) := by decide +kernel
theorem dX9_undo_17 : decode cX9_undo 17 = .ok (.putfield 83, 3) := by decide +kernel
theorem dX9_undo_20 : decode cX9_undo 20 = .ok (.aload_n 0, 1) := by decide +kernel
theorem dX9_undo_21 : decode cX9_undo 21 = .ok (.sipush 204, 3) := by decide +kernel
theorem dX9_undo_24 : decode cX9_undo 24 = .ok (.bipush 51, 2) := by decide +kernel
theorem dX9_undo_26 : decode cX9_undo 26 = .ok (.aload_n 0, 1) := by decide +kernel
theorem dX9_undo_27 : decode cX9_undo 27 = .ok (.getfield 83, 3) := by decide +kernel
theorem dX9_undo_30 : decode cX9_undo 30 = .ok (.imul, 1) := by decide +kernel
theorem dX9_undo_31 : decode cX9_undo 31 = .ok (.iadd, 1) := by decide +kernel
theorem dX9_undo_32 : decode cX9_undo 32 = .ok (.iconst 0, 1) := by decide +kernel
theorem dX9_undo_33 : decode cX9_undo 33 = .ok (.invokevirtual 155, 3) := by decide +kernel
theorem dX9_undo_36 : decode cX9_undo 36 = .ok (.aload_n 0, 1) := by decide +kernel
theorem dX9_undo_37 : decode cX9_undo 37 = .ok (.getfield 83, 3) := by decide +kernel
theorem dX9_undo_40 : decode cX9_undo 40 = .ok (.ireturn, 1) := by decide +kernel
theorem dX9_tries_0 : decode cX9_tries 0 = .ok (.aload_n 0, 1) := by decide +kernel
theorem dX9_tries_1 : decode cX9_tries 1 = .ok (.iconst 0, 1) := by decide +kernel
theorem dX9_tries_2 : decode cX9_tries 2 = .ok (.bipush 51, 2) := by decide +kernel
theorem dX9_tries_4 : decode cX9_tries 4 = .ok (.invokevirtual 155, 3) := by decide +kernel
theorem dX9_tries_7 : decode cX9_tries 7 = .ok (.return_, 1) := by decide +kernel
theorem dX9_freed_0 : decode cX9_freed 0 = .ok (.aload_n 0, 1) := by decide +kernel
theorem dX9_freed_1 : decode cX9_freed 1 = .ok (.iload_n 1, 1) := by decide +kernel
theorem dX9_freed_2 : decode cX9_freed 2 = .ok (.invokevirtual 131, 3) := by decide +kernel
theorem dX9_freed_5 : decode cX9_freed 5 = .ok (.ifCond .ne 5, 3) := by decide +kernel
theorem dX9_freed_8 : decode cX9_freed 8 = .ok (.iconst (-1), 1) := by decide +kernel
theorem dX9_freed_9 : decode cX9_freed 9 = .ok (.ireturn, 1) := by decide +kernel
theorem dX9_freed_10 : decode cX9_freed 10 = .ok (.aload_n 0, 1) := by decide +kernel
theorem dX9_freed_11 : decode cX9_freed 11 = .ok (.invokevirtual 181, 3) := by decide +kernel
theorem dX9_freed_14 : decode cX9_freed 14 = .ok (.iconst 0, 1) := by decide +kernel
theorem dX9_freed_15 : decode cX9_freed 15 = .ok (.istore_n 2, 1) := by decide +kernel
theorem dX9_freed_16 : decode cX9_freed 16 = .ok (.iload_n 2, 1) := by decide +kernel
theorem dX9_freed_17 : decode cX9_freed 17 = .ok (.bipush 99, 2) := by decide +kernel
theorem dX9_freed_19 : decode cX9_freed 19 = .ok (.if_icmp .gt 30, 3) := by decide +kernel
theorem dX9_freed_22 : decode cX9_freed 22 = .ok (.aload_n 0, 1) := by decide +kernel
theorem dX9_freed_23 : decode cX9_freed 23 = .ok (.getfield 7, 3) := by decide +kernel
theorem dX9_freed_26 : decode cX9_freed 26 = .ok (.bipush 53, 2) := by decide +kernel
theorem dX9_freed_28 : decode cX9_freed 28 = .ok (.iload_n 1, 1) := by decide +kernel
theorem dX9_freed_29 : decode cX9_freed 29 = .ok (.iadd, 1) := by decide +kernel
theorem dX9_freed_30 : decode cX9_freed 30 = .ok (.iaload, 1) := by decide +kernel
theorem dX9_freed_31 : decode cX9_freed 31 = .ok (.iconst 2, 1) := by decide +kernel
theorem dX9_freed_32 : decode cX9_freed 32 = .ok (.if_icmp .ne 5, 3) := by decide +kernel
theorem dX9_freed_35 : decode cX9_freed 35 = .ok (.iload_n 2, 1) := by decide +kernel
theorem dX9_freed_36 : decode cX9_freed 36 = .ok (.ireturn, 1) := by decide +kernel
theorem dX9_freed_37 : decode cX9_freed 37 = .ok (.aload_n 0, 1) := by decide +kernel
theorem dX9_freed_38 : decode cX9_freed 38 = .ok (.bipush 51, 2) := by decide +kernel
theorem dX9_freed_40 : decode cX9_freed 40 = .ok (.invokevirtual 163, 3) := by decide +kernel
theorem dX9_freed_43 : decode cX9_freed 43 = .ok (.iinc 2 1, 3) := by decide +kernel
theorem dX9_freed_46 : decode cX9_freed 46 = .ok (.goto (-30), 3) := by decide +kernel
theorem dX9_freed_49 : decode cX9_freed 49 = .ok (.bipush (-4), 2) := by decide +kernel
theorem dX9_freed_51 : decode cX9_freed 51 = .ok (.ireturn, 1) := by decide +kernel
theorem dX9_taskOf_0 : decode cX9_taskOf 0 = .ok (.aload_n 0, 1) := by decide +kernel
theorem dX9_taskOf_1 : decode cX9_taskOf 1 = .ok (.getfield 7, 3) := by decide +kernel
theorem dX9_taskOf_4 : decode cX9_taskOf 4 = .ok (.bipush 51, 2) := by decide +kernel
theorem dX9_taskOf_6 : decode cX9_taskOf 6 = .ok (.iaload, 1) := by decide +kernel
theorem dX9_taskOf_7 : decode cX9_taskOf 7 = .ok (.bipush 40, 2) := by decide +kernel
theorem dX9_taskOf_9 : decode cX9_taskOf 9 = .ok (.if_icmp .gt 12, 3) := by decide +kernel
theorem dX9_taskOf_12 : decode cX9_taskOf 12 = .ok (.aload_n 0, 1) := by decide +kernel
theorem dX9_taskOf_13 : decode cX9_taskOf 13 = .ok (.bipush 51, 2) := by decide +kernel
theorem dX9_taskOf_15 : decode cX9_taskOf 15 = .ok (.invokevirtual 163, 3) := by decide +kernel
theorem dX9_taskOf_18 : decode cX9_taskOf 18 = .ok (.goto (-18), 3) := by decide +kernel
theorem dX9_taskOf_21 : decode cX9_taskOf 21 = .ok (.iconst 0, 1) := by decide +kernel
theorem dX9_taskOf_22 : decode cX9_taskOf 22 = .ok (.istore_n 2, 1) := by decide +kernel
theorem dX9_taskOf_23 : decode cX9_taskOf 23 = .ok (.iconst 0, 1) := by decide +kernel
theorem dX9_taskOf_24 : decode cX9_taskOf 24 = .ok (.istore_n 3, 1) := by decide +kernel
theorem dX9_taskOf_25 : decode cX9_taskOf 25 = .ok (.iload_n 3, 1) := by decide +kernel
theorem dX9_taskOf_26 : decode cX9_taskOf 26 = .ok (.aload_n 0, 1) := by decide +kernel
theorem dX9_taskOf_27 : decode cX9_taskOf 27 = .ok (.getfield 69, 3) := by decide +kernel
theorem dX9_taskOf_30 : decode cX9_taskOf 30 = .ok (.if_icmp .ge 39, 3) := by decide +kernel
theorem dX9_taskOf_33 : decode cX9_taskOf 33 = .ok (.iload_n 2, 1) := by decide +kernel
theorem dX9_taskOf_34 : decode cX9_taskOf 34 = .ok (.aload_n 0, 1) := by decide +kernel
theorem dX9_taskOf_35 : decode cX9_taskOf 35 = .ok (.getfield 7, 3) := by decide +kernel
theorem dX9_taskOf_38 : decode cX9_taskOf 38 = .ok (.bipush 88, 2) := by decide +kernel
theorem dX9_taskOf_40 : decode cX9_taskOf 40 = .ok (.iload_n 1, 1) := by decide +kernel
theorem dX9_taskOf_41 : decode cX9_taskOf 41 = .ok (.iadd, 1) := by decide +kernel
theorem dX9_taskOf_42 : decode cX9_taskOf 42 = .ok (.iaload, 1) := by decide +kernel
theorem dX9_taskOf_43 : decode cX9_taskOf 43 = .ok (.iload_n 3, 1) := by decide +kernel
theorem dX9_taskOf_44 : decode cX9_taskOf 44 = .ok (.invokestatic 141, 3) := by decide +kernel
theorem dX9_taskOf_47 : decode cX9_taskOf 47 = .ok (.ifCond .eq 13, 3) := by decide +kernel
theorem dX9_taskOf_50 : decode cX9_taskOf 50 = .ok (.aload_n 0, 1) := by decide +kernel
theorem dX9_taskOf_51 : decode cX9_taskOf 51 = .ok (.bipush 51, 2) := by decide +kernel
theorem dX9_taskOf_53 : decode cX9_taskOf 53 = .ok (.iload_n 3, 1) := by decide +kernel
theorem dX9_taskOf_54 : decode cX9_taskOf 54 = .ok (.invokevirtual 137, 3) := by decide +kernel
theorem dX9_taskOf_57 : decode cX9_taskOf 57 = .ok (.goto 4, 3) := by decide +kernel
theorem dX9_taskOf_60 : decode cX9_taskOf 60 = .ok (.iconst 0, 1) := by decide +kernel
theorem dX9_taskOf_61 : decode cX9_taskOf 61 = .ok (.iadd, 1) := by decide +kernel
theorem dX9_taskOf_62 : decode cX9_taskOf 62 = .ok (.istore_n 2, 1) := by decide +kernel
theorem dX9_taskOf_63 : decode cX9_taskOf 63 = .ok (.iinc 3 1, 3) := by decide +kernel
theorem dX9_taskOf_66 : decode cX9_taskOf 66 = .ok (.goto (-41), 3) := by decide +kernel
theorem dX9_taskOf_69 : decode cX9_taskOf 69 = .ok (.iload_n 2, 1) := by decide +kernel
theorem dX9_taskOf_70 : decode cX9_taskOf 70 = .ok (.ireturn, 1) := by decide +kernel
theorem dX9_task_0 : decode cX9_task 0 = .ok (.aload_n 0, 1) := by decide +kernel
theorem dX9_task_1 : decode cX9_task 1 = .ok (.iload_n 1, 1) := by decide +kernel
theorem dX9_task_2 : decode cX9_task 2 = .ok (.invokevirtual 131, 3) := by decide +kernel
theorem dX9_task_5 : decode cX9_task 5 = .ok (.ifCond .ne 5, 3) := by decide +kernel
theorem dX9_task_8 : decode cX9_task 8 = .ok (.iconst (-1), 1) := by decide +kernel
theorem dX9_task_9 : decode cX9_task 9 = .ok (.ireturn, 1) := by decide +kernel
theorem dX9_task_10 : decode cX9_task 10 = .ok (.aload_n 0, 1) := by decide +kernel
theorem dX9_task_11 : decode cX9_task 11 = .ok (.invokevirtual 181, 3) := by decide +kernel
theorem dX9_task_14 : decode cX9_task 14 = .ok (.aload_n 0, 1) := by decide +kernel
theorem dX9_task_15 : decode cX9_task 15 = .ok (.iload_n 1, 1) := by decide +kernel
theorem dX9_task_16 : decode cX9_task 16 = .ok (.invokevirtual 184, 3) := by decide +kernel
theorem dX9_task_19 : decode cX9_task 19 = .ok (.ireturn, 1) := by decide +kernel
theorem dX9_early_0 : decode cX9_early 0 = .ok (.aload_n 0, 1) := by decide +kernel
theorem dX9_early_1 : decode cX9_early 1 = .ok (.iload_n 1, 1) := by decide +kernel
theorem dX9_early_2 : decode cX9_early 2 = .ok (.invokevirtual 131, 3) := by decide +kernel
theorem dX9_early_5 : decode cX9_early 5 = .ok (.ifCond .eq 13, 3) := by decide +kernel
theorem dX9_early_8 : decode cX9_early 8 = .ok (.iload_n 2, 1) := by decide +kernel
theorem dX9_early_9 : decode cX9_early 9 = .ok (.i2l, 1) := by decide +kernel
theorem dX9_early_10 : decode cX9_early 10 = .ok (.lconst 0, 1) := by decide +kernel
theorem dX9_early_11 : decode cX9_early 11 = .ok (.lconst 1, 1) := by decide +kernel
theorem dX9_early_12 : decode cX9_early 12 = .ok (.invokestatic 73, 3) := by decide +kernel
theorem dX9_early_15 : decode cX9_early 15 = .ok (.ifCond .ne 5, 3) := by decide +kernel
theorem dX9_early_18 : decode cX9_early 18 = .ok (.iconst (-1), 1) := by decide +kernel
theorem dX9_early_19 : decode cX9_early 19 = .ok (.ireturn, 1) := by decide +kernel
theorem dX9_early_20 : decode cX9_early 20 = .ok (.aload_n 0, 1) := by decide +kernel
theorem dX9_early_21 : decode cX9_early 21 = .ok (.getfield 7, 3) := by decide +kernel
theorem dX9_early_24 : decode cX9_early 24 = .ok (.iconst 2, 1) := by decide +kernel
theorem dX9_early_25 : decode cX9_early 25 = .ok (.iload_n 1, 1) := by decide +kernel
theorem dX9_early_26 : decode cX9_early 26 = .ok (.iadd, 1) := by decide +kernel
theorem dX9_early_27 : decode cX9_early 27 = .ok (.iaload, 1) := by decide +kernel
theorem dX9_early_28 : decode cX9_early 28 = .ok (.ifCond .eq 6, 3) := by decide +kernel
theorem dX9_early_31 : decode cX9_early 31 = .ok (.bipush (-2), 2) := by decide +kernel
theorem dX9_early_33 : decode cX9_early 33 = .ok (.ireturn, 1) := by decide +kernel
theorem dX9_early_34 : decode cX9_early 34 = .ok (.bipush (-4), 2) := by decide +kernel
theorem dX9_early_36 : decode cX9_early 36 = .ok (.istore_n 3, 1) := by decide +kernel
theorem dX9_early_37 : decode cX9_early 37 = .ok (.ldc 187, 2) := by decide +kernel
theorem dX9_early_39 : decode cX9_early 39 = .ok (.istore 4, 2) := by decide +kernel
theorem dX9_early_41 : decode cX9_early 41 = .ok (.aload_n 0, 1) := by decide +kernel
theorem dX9_early_42 : decode cX9_early 42 = .ok (.getfield 7, 3) := by decide +kernel
theorem dX9_early_45 : decode cX9_early 45 = .ok (.iconst 0, 1) := by decide +kernel
theorem dX9_early_46 : decode cX9_early 46 = .ok (.iaload, 1) := by decide +kernel
theorem dX9_early_47 : decode cX9_early 47 = .ok (.istore 5, 2) := by decide +kernel
theorem dX9_early_49 : decode cX9_early 49 = .ok (.iload 5, 2) := by decide +kernel
theorem dX9_early_51 : decode cX9_early 51 = .ok (.bipush 40, 2) := by decide +kernel
theorem dX9_early_53 : decode cX9_early 53 = .ok (.if_icmp .gt 61, 3) := by decide +kernel
theorem dX9_early_56 : decode cX9_early 56 = .ok (.aload_n 0, 1) := by decide +kernel
theorem dX9_early_57 : decode cX9_early 57 = .ok (.invokevirtual 181, 3) := by decide +kernel
theorem dX9_early_60 : decode cX9_early 60 = .ok (.aload_n 0, 1) := by decide +kernel
theorem dX9_early_61 : decode cX9_early 61 = .ok (.getfield 7, 3) := by decide +kernel
theorem dX9_early_64 : decode cX9_early 64 = .ok (.bipush 60, 2) := by decide +kernel
theorem dX9_early_66 : decode cX9_early 66 = .ok (.iload_n 1, 1) := by decide +kernel
theorem dX9_early_67 : decode cX9_early 67 = .ok (.iadd, 1) := by decide +kernel
theorem dX9_early_68 : decode cX9_early 68 = .ok (.iload 5, 2) := by decide +kernel
theorem dX9_early_70 : decode cX9_early 70 = .ok (.iastore, 1) := by decide +kernel
theorem dX9_early_71 : decode cX9_early 71 = .ok (.aload_n 0, 1) := by decide +kernel
theorem dX9_early_72 : decode cX9_early 72 = .ok (.iload_n 1, 1) := by decide +kernel
theorem dX9_early_73 : decode cX9_early 73 = .ok (.invokevirtual 184, 3) := by decide +kernel
theorem dX9_early_76 : decode cX9_early 76 = .ok (.istore 6, 2) := by decide +kernel
theorem dX9_early_78 : decode cX9_early 78 = .ok (.iload 6, 2) := by decide +kernel
theorem dX9_early_80 : decode cX9_early 80 = .ok (.iload 4, 2) := by decide +kernel
theorem dX9_early_82 : decode cX9_early 82 = .ok (.if_icmp .ge 8, 3) := by decide +kernel
theorem dX9_early_85 : decode cX9_early 85 = .ok (.iload 5, 2) := by decide +kernel
theorem dX9_early_87 : decode cX9_early 87 = .ok (.goto 4, 3) := by decide +kernel
theorem dX9_early_90 : decode cX9_early 90 = .ok (.iload_n 3, 1) := by decide +kernel
theorem dX9_early_91 : decode cX9_early 91 = .ok (.istore_n 3, 1) := by decide +kernel
theorem dX9_early_92 : decode cX9_early 92 = .ok (.iload 6, 2) := by decide +kernel
theorem dX9_early_94 : decode cX9_early 94 = .ok (.iload 4, 2) := by decide +kernel
theorem dX9_early_96 : decode cX9_early 96 = .ok (.if_icmp .ge 8, 3) := by decide +kernel
theorem dX9_early_99 : decode cX9_early 99 = .ok (.iload 6, 2) := by decide +kernel
theorem dX9_early_101 : decode cX9_early 101 = .ok (.goto 5, 3) := by decide +kernel
theorem dX9_early_104 : decode cX9_early 104 = .ok (.iload 4, 2) := by decide +kernel
theorem dX9_early_106 : decode cX9_early 106 = .ok (.istore 4, 2) := by decide +kernel
theorem dX9_early_108 : decode cX9_early 108 = .ok (.iinc 5 1, 3) := by decide +kernel
theorem dX9_early_111 : decode cX9_early 111 = .ok (.goto (-62), 3) := by decide +kernel
theorem dX9_early_114 : decode cX9_early 114 = .ok (.iload_n 3, 1) := by decide +kernel
theorem dX9_early_115 : decode cX9_early 115 = .ok (.bipush (-4), 2) := by decide +kernel
theorem dX9_early_117 : decode cX9_early 117 = .ok (.if_icmp .ne 8, 3) := by decide +kernel
theorem dX9_early_120 : decode cX9_early 120 = .ok (.bipush (-4), 2) := by decide +kernel
theorem dX9_early_122 : decode cX9_early 122 = .ok (.goto 13, 3) := by decide +kernel
theorem dX9_early_125 : decode cX9_early 125 = .ok (.iload_n 2, 1) := by decide +kernel
theorem dX9_early_126 : decode cX9_early 126 = .ok (.ifCond .ne 7, 3) := by decide +kernel
theorem dX9_early_129 : decode cX9_early 129 = .ok (.iload_n 3, 1) := by decide +kernel
theorem dX9_early_130 : decode cX9_early 130 = .ok (.goto 5, 3) := by decide +kernel
theorem dX9_early_133 : decode cX9_early 133 = .ok (.iload 4, 2) := by decide +kernel
theorem dX9_early_135 : decode cX9_early 135 = .ok (.ireturn, 1) := by decide +kernel
theorem dX9_isDone_0 : decode cX9_isDone 0 = .ok (.iconst 1, 1) := by decide +kernel
theorem dX9_isDone_1 : decode cX9_isDone 1 = .ok (.istore_n 2, 1) := by decide +kernel
theorem dX9_isDone_2 : decode cX9_isDone 2 = .ok (.iconst 0, 1) := by decide +kernel
theorem dX9_isDone_3 : decode cX9_isDone 3 = .ok (.istore_n 3, 1) := by decide +kernel
theorem dX9_isDone_4 : decode cX9_isDone 4 = .ok (.iload_n 3, 1) := by decide +kernel
theorem dX9_isDone_5 : decode cX9_isDone 5 = .ok (.aload_n 0, 1) := by decide +kernel
theorem dX9_isDone_6 : decode cX9_isDone 6 = .ok (.getfield 69, 3) := by decide +kernel
theorem dX9_isDone_9 : decode cX9_isDone 9 = .ok (.if_icmp .ge 58, 3) := by decide +kernel
theorem dX9_isDone_12 : decode cX9_isDone 12 = .ok (.iload_n 2, 1) := by decide +kernel
theorem dX9_isDone_13 : decode cX9_isDone 13 = .ok (.ifCond .eq 46, 3) := by decide +kernel
theorem dX9_isDone_16 : decode cX9_isDone 16 = .ok (.aload_n 0, 1) := by decide +kernel
theorem dX9_isDone_17 : decode cX9_isDone 17 = .ok (.getfield 7, 3) := by decide +kernel
theorem dX9_isDone_20 : decode cX9_isDone 20 = .ok (.iload_n 1, 1) := by decide +kernel
theorem dX9_isDone_21 : decode cX9_isDone 21 = .ok (.iconst 2, 1) := by decide +kernel
theorem dX9_isDone_22 : decode cX9_isDone 22 = .ok (.iadd, 1) := by decide +kernel
theorem dX9_isDone_23 : decode cX9_isDone 23 = .ok (.iload_n 3, 1) := by decide +kernel
theorem dX9_isDone_24 : decode cX9_isDone 24 = .ok (.iadd, 1) := by decide +kernel
theorem dX9_isDone_25 : decode cX9_isDone 25 = .ok (.iaload, 1) := by decide +kernel
theorem dX9_isDone_26 : decode cX9_isDone 26 = .ok (.ifCond .eq 33, 3) := by decide +kernel
theorem dX9_isDone_29 : decode cX9_isDone 29 = .ok (.aload_n 0, 1) := by decide +kernel
theorem dX9_isDone_30 : decode cX9_isDone 30 = .ok (.getfield 7, 3) := by decide +kernel
theorem dX9_isDone_33 : decode cX9_isDone 33 = .ok (.iload_n 1, 1) := by decide +kernel
theorem dX9_isDone_34 : decode cX9_isDone 34 = .ok (.iconst 2, 1) := by decide +kernel
theorem dX9_isDone_35 : decode cX9_isDone 35 = .ok (.iadd, 1) := by decide +kernel
theorem dX9_isDone_36 : decode cX9_isDone 36 = .ok (.iload_n 3, 1) := by decide +kernel
theorem dX9_isDone_37 : decode cX9_isDone 37 = .ok (.iadd, 1) := by decide +kernel
theorem dX9_isDone_38 : decode cX9_isDone 38 = .ok (.iaload, 1) := by decide +kernel
theorem dX9_isDone_39 : decode cX9_isDone 39 = .ok (.iconst 1, 1) := by decide +kernel
theorem dX9_isDone_40 : decode cX9_isDone 40 = .ok (.if_icmp .ne 15, 3) := by decide +kernel
theorem dX9_isDone_43 : decode cX9_isDone 43 = .ok (.aload_n 0, 1) := by decide +kernel
theorem dX9_isDone_44 : decode cX9_isDone 44 = .ok (.getfield 7, 3) := by decide +kernel
theorem dX9_isDone_47 : decode cX9_isDone 47 = .ok (.iload_n 1, 1) := by decide +kernel
theorem dX9_isDone_48 : decode cX9_isDone 48 = .ok (.iconst 1, 1) := by decide +kernel
theorem dX9_isDone_49 : decode cX9_isDone 49 = .ok (.iadd, 1) := by decide +kernel
theorem dX9_isDone_50 : decode cX9_isDone 50 = .ok (.iaload, 1) := by decide +kernel
theorem dX9_isDone_51 : decode cX9_isDone 51 = .ok (.iload_n 3, 1) := by decide +kernel
theorem dX9_isDone_52 : decode cX9_isDone 52 = .ok (.if_icmp .ne 7, 3) := by decide +kernel
theorem dX9_isDone_55 : decode cX9_isDone 55 = .ok (.iconst 1, 1) := by decide +kernel
theorem dX9_isDone_56 : decode cX9_isDone 56 = .ok (.goto 4, 3) := by decide +kernel
theorem dX9_isDone_59 : decode cX9_isDone 59 = .ok (.iconst 0, 1) := by decide +kernel
theorem dX9_isDone_60 : decode cX9_isDone 60 = .ok (.istore_n 2, 1) := by decide +kernel
theorem dX9_isDone_61 : decode cX9_isDone 61 = .ok (.iinc 3 1, 3) := by decide +kernel
theorem dX9_isDone_64 : decode cX9_isDone 64 = .ok (.goto (-60), 3) := by decide +kernel
theorem dX9_isDone_67 : decode cX9_isDone 67 = .ok (.iload_n 2, 1) := by decide +kernel
theorem dX9_isDone_68 : decode cX9_isDone 68 = .ok (.ireturn, 1) := by decide +kernel
theorem dX9_doneBy_0 : decode cX9_doneBy 0 = .ok (.iconst 0, 1) := by decide +kernel
theorem dX9_doneBy_1 : decode cX9_doneBy 1 = .ok (.istore_n 1, 1) := by decide +kernel
theorem dX9_doneBy_2 : decode cX9_doneBy 2 = .ok (.iload_n 1, 1) := by decide +kernel
theorem dX9_doneBy_3 : decode cX9_doneBy 3 = .ok (.bipush 99, 2) := by decide +kernel
theorem dX9_doneBy_5 : decode cX9_doneBy 5 = .ok (.if_icmp .gt 26, 3) := by decide +kernel
theorem dX9_doneBy_8 : decode cX9_doneBy 8 = .ok (.aload_n 0, 1) := by decide +kernel
theorem dX9_doneBy_9 : decode cX9_doneBy 9 = .ok (.bipush 51, 2) := by decide +kernel
theorem dX9_doneBy_11 : decode cX9_doneBy 11 = .ok (.invokevirtual 188, 3) := by decide +kernel
theorem dX9_doneBy_14 : decode cX9_doneBy 14 = .ok (.ifCond .eq 5, 3) := by decide +kernel
theorem dX9_doneBy_17 : decode cX9_doneBy 17 = .ok (.iload_n 1, 1) := by decide +kernel
theorem dX9_doneBy_18 : decode cX9_doneBy 18 = .ok (.ireturn, 1) := by decide +kernel
theorem dX9_doneBy_19 : decode cX9_doneBy 19 = .ok (.aload_n 0, 1) := by decide +kernel
theorem dX9_doneBy_20 : decode cX9_doneBy 20 = .ok (.bipush 51, 2) := by decide +kernel
theorem dX9_doneBy_22 : decode cX9_doneBy 22 = .ok (.invokevirtual 163, 3) := by decide +kernel
theorem dX9_doneBy_25 : decode cX9_doneBy 25 = .ok (.iinc 1 1, 3) := by decide +kernel
theorem dX9_doneBy_28 : decode cX9_doneBy 28 = .ok (.goto (-26), 3) := by decide +kernel
theorem dX9_doneBy_31 : decode cX9_doneBy 31 = .ok (.ldc 187, 2) := by decide +kernel
theorem dX9_doneBy_33 : decode cX9_doneBy 33 = .ok (.ireturn, 1) := by decide +kernel
theorem dX9_done_0 : decode cX9_done 0 = .ok (.aload_n 0, 1) := by decide +kernel
theorem dX9_done_1 : decode cX9_done 1 = .ok (.invokevirtual 181, 3) := by decide +kernel
theorem dX9_done_4 : decode cX9_done 4 = .ok (.aload_n 0, 1) := by decide +kernel
theorem dX9_done_5 : decode cX9_done 5 = .ok (.invokevirtual 191, 3) := by decide +kernel
theorem dX9_done_8 : decode cX9_done 8 = .ok (.istore_n 1, 1) := by decide +kernel
theorem dX9_done_9 : decode cX9_done 9 = .ok (.iload_n 1, 1) := by decide +kernel
theorem dX9_done_10 : decode cX9_done 10 = .ok (.ldc 187, 2) := by decide +kernel
theorem dX9_done_12 : decode cX9_done 12 = .ok (.if_icmp .ne 8, 3) := by decide +kernel
theorem dX9_done_15 : decode cX9_done 15 = .ok (.bipush (-4), 2) := by decide +kernel
theorem dX9_done_17 : decode cX9_done 17 = .ok (.goto 4, 3) := by decide +kernel
theorem dX9_done_20 : decode cX9_done 20 = .ok (.iload_n 1, 1) := by decide +kernel
theorem dX9_done_21 : decode cX9_done 21 = .ok (.ireturn, 1) := by decide +kernel
theorem dX9_bestDeal_0 : decode cX9_bestDeal 0 = .ok (.iconst 0, 1) := by decide +kernel
theorem dX9_bestDeal_1 : decode cX9_bestDeal 1 = .ok (.istore_n 1, 1) := by decide +kernel
theorem dX9_bestDeal_2 : decode cX9_bestDeal 2 = .ok (.iconst 0, 1) := by decide +kernel
theorem dX9_bestDeal_3 : decode cX9_bestDeal 3 = .ok (.istore_n 2, 1) := by decide +kernel
theorem dX9_bestDeal_4 : decode cX9_bestDeal 4 = .ok (.iload_n 2, 1) := by decide +kernel
theorem dX9_bestDeal_5 : decode cX9_bestDeal 5 = .ok (.aload_n 0, 1) := by decide +kernel
theorem dX9_bestDeal_6 : decode cX9_bestDeal 6 = .ok (.getfield 69, 3) := by decide +kernel
theorem dX9_bestDeal_9 : decode cX9_bestDeal 9 = .ok (.if_icmp .ge 30, 3) := by decide +kernel
theorem dX9_bestDeal_12 : decode cX9_bestDeal 12 = .ok (.aload_n 0, 1) := by decide +kernel
theorem dX9_bestDeal_13 : decode cX9_bestDeal 13 = .ok (.getfield 7, 3) := by decide +kernel
theorem dX9_bestDeal_16 : decode cX9_bestDeal 16 = .ok (.iconst 2, 1) := by decide +kernel
theorem dX9_bestDeal_17 : decode cX9_bestDeal 17 = .ok (.iload_n 2, 1) := by decide +kernel
theorem dX9_bestDeal_18 : decode cX9_bestDeal 18 = .ok (.iadd, 1) := by decide +kernel
theorem dX9_bestDeal_19 : decode cX9_bestDeal 19 = .ok (.iaload, 1) := by decide +kernel
theorem dX9_bestDeal_20 : decode cX9_bestDeal 20 = .ok (.ifCond .ne 13, 3) := by decide +kernel
theorem dX9_bestDeal_23 : decode cX9_bestDeal 23 = .ok (.aload_n 0, 1) := by decide +kernel
theorem dX9_bestDeal_24 : decode cX9_bestDeal 24 = .ok (.getfield 40, 3) := by decide +kernel
theorem dX9_bestDeal_27 : decode cX9_bestDeal 27 = .ok (.iload_n 1, 1) := by decide +kernel
theorem dX9_bestDeal_28 : decode cX9_bestDeal 28 = .ok (.iload_n 2, 1) := by decide +kernel
theorem dX9_bestDeal_29 : decode cX9_bestDeal 29 = .ok (.iastore, 1) := by decide +kernel
theorem dX9_bestDeal_30 : decode cX9_bestDeal 30 = .ok (.iinc 1 1, 3) := by decide +kernel
theorem dX9_bestDeal_33 : decode cX9_bestDeal 33 = .ok (.iinc 2 1, 3) := by decide +kernel
theorem dX9_bestDeal_36 : decode cX9_bestDeal 36 = .ok (.goto (-32), 3) := by decide +kernel
theorem dX9_bestDeal_39 : decode cX9_bestDeal 39 = .ok (.ldc 187, 2) := by decide +kernel
theorem dX9_bestDeal_41 : decode cX9_bestDeal 41 = .ok (.istore_n 2, 1) := by decide +kernel
theorem dX9_bestDeal_42 : decode cX9_bestDeal 42 = .ok (.iconst 0, 1) := by decide +kernel
theorem dX9_bestDeal_43 : decode cX9_bestDeal 43 = .ok (.istore_n 3, 1) := by decide +kernel
theorem dX9_bestDeal_44 : decode cX9_bestDeal 44 = .ok (.aload_n 0, 1) := by decide +kernel
theorem dX9_bestDeal_45 : decode cX9_bestDeal 45 = .ok (.getfield 43, 3) := by decide +kernel
theorem dX9_bestDeal_48 : decode cX9_bestDeal 48 = .ok (.iconst 0, 1) := by decide +kernel
theorem dX9_bestDeal_49 : decode cX9_bestDeal 49 = .ok (.iconst (-1), 1) := by decide +kernel
theorem dX9_bestDeal_50 : decode cX9_bestDeal 50 = .ok (.iastore, 1) := by decide +kernel
theorem dX9_bestDeal_51 : decode cX9_bestDeal 51 = .ok (.iload_n 3, 1) := by decide +kernel
theorem dX9_bestDeal_52 : decode cX9_bestDeal 52 = .ok (.ifCond .lt 219, 3) := by decide +kernel
theorem dX9_bestDeal_55 : decode cX9_bestDeal 55 = .ok (.iconst 0, 1) := by decide +kernel
theorem dX9_bestDeal_56 : decode cX9_bestDeal 56 = .ok (.istore 4, 2) := by decide +kernel
theorem dX9_bestDeal_58 : decode cX9_bestDeal 58 = .ok (.iconst 0, 1) := by decide +kernel
theorem dX9_bestDeal_59 : decode cX9_bestDeal 59 = .ok (.istore 5, 2) := by decide +kernel
theorem dX9_bestDeal_61 : decode cX9_bestDeal 61 = .ok (.iload 5, 2) := by decide +kernel
theorem dX9_bestDeal_63 : decode cX9_bestDeal 63 = .ok (.iload_n 3, 1) := by decide +kernel
theorem dX9_bestDeal_64 : decode cX9_bestDeal 64 = .ok (.if_icmp .ge 23, 3) := by decide +kernel
theorem dX9_bestDeal_67 : decode cX9_bestDeal 67 = .ok (.iload 4, 2) := by decide +kernel
theorem dX9_bestDeal_69 : decode cX9_bestDeal 69 = .ok (.iconst 1, 1) := by decide +kernel
theorem dX9_bestDeal_70 : decode cX9_bestDeal 70 = .ok (.aload_n 0, 1) := by decide +kernel
theorem dX9_bestDeal_71 : decode cX9_bestDeal 71 = .ok (.getfield 43, 3) := by decide +kernel
theorem dX9_bestDeal_74 : decode cX9_bestDeal 74 = .ok (.iload 5, 2) := by decide +kernel
theorem dX9_bestDeal_76 : decode cX9_bestDeal 76 = .ok (.iaload, 1) := by decide +kernel
theorem dX9_bestDeal_77 : decode cX9_bestDeal 77 = .ok (.ishl, 1) := by decide +kernel
theorem dX9_bestDeal_78 : decode cX9_bestDeal 78 = .ok (.ior, 1) := by decide +kernel
theorem dX9_bestDeal_79 : decode cX9_bestDeal 79 = .ok (.istore 4, 2) := by decide +kernel
theorem dX9_bestDeal_81 : decode cX9_bestDeal 81 = .ok (.iinc 5 1, 3) := by decide +kernel
theorem dX9_bestDeal_84 : decode cX9_bestDeal 84 = .ok (.goto (-23), 3) := by decide +kernel
theorem dX9_bestDeal_87 : decode cX9_bestDeal 87 = .ok (.iload_n 3, 1) := by decide +kernel
theorem dX9_bestDeal_88 : decode cX9_bestDeal 88 = .ok (.iload_n 1, 1) := by decide +kernel
theorem dX9_bestDeal_89 : decode cX9_bestDeal 89 = .ok (.if_icmp .ne 117, 3) := by decide +kernel
theorem dX9_bestDeal_92 : decode cX9_bestDeal 92 = .ok (.aload_n 0, 1) := by decide +kernel
theorem dX9_bestDeal_93 : decode cX9_bestDeal 93 = .ok (.invokevirtual 181, 3) := by decide +kernel
theorem dX9_bestDeal_96 : decode cX9_bestDeal 96 = .ok (.iconst 0, 1) := by decide +kernel
theorem dX9_bestDeal_97 : decode cX9_bestDeal 97 = .ok (.istore 5, 2) := by decide +kernel
theorem dX9_bestDeal_99 : decode cX9_bestDeal 99 = .ok (.iload 5, 2) := by decide +kernel
theorem dX9_bestDeal_101 : decode cX9_bestDeal 101 = .ok (.iload_n 1, 1) := by decide +kernel
theorem dX9_bestDeal_102 : decode cX9_bestDeal 102 = .ok (.if_icmp .ge 44, 3) := by decide +kernel
theorem dX9_bestDeal_105 : decode cX9_bestDeal 105 = .ok (.aload_n 0, 1) := by decide +kernel
theorem dX9_bestDeal_106 : decode cX9_bestDeal 106 = .ok (.getfield 7, 3) := by decide +kernel
theorem dX9_bestDeal_109 : decode cX9_bestDeal 109 = .ok (.bipush 67, 2) := by decide +kernel
theorem dX9_bestDeal_111 : decode cX9_bestDeal 111 = .ok (.aload_n 0, 1) := by decide +kernel
theorem dX9_bestDeal_112 : decode cX9_bestDeal 112 = .ok (.getfield 40, 3) := by decide +kernel
theorem dX9_bestDeal_115 : decode cX9_bestDeal 115 = .ok (.iload 5, 2) := by decide +kernel
theorem dX9_bestDeal_117 : decode cX9_bestDeal 117 = .ok (.iaload, 1) := by decide +kernel
theorem dX9_bestDeal_118 : decode cX9_bestDeal 118 = .ok (.iadd, 1) := by decide +kernel
theorem dX9_bestDeal_119 : decode cX9_bestDeal 119 = .ok (.aload_n 0, 1) := by decide +kernel
theorem dX9_bestDeal_120 : decode cX9_bestDeal 120 = .ok (.getfield 7, 3) := by decide +kernel
theorem dX9_bestDeal_123 : decode cX9_bestDeal 123 = .ok (.bipush 16, 2) := by decide +kernel
theorem dX9_bestDeal_125 : decode cX9_bestDeal 125 = .ok (.aload_n 0, 1) := by decide +kernel
theorem dX9_bestDeal_126 : decode cX9_bestDeal 126 = .ok (.getfield 40, 3) := by decide +kernel
theorem dX9_bestDeal_129 : decode cX9_bestDeal 129 = .ok (.aload_n 0, 1) := by decide +kernel
theorem dX9_bestDeal_130 : decode cX9_bestDeal 130 = .ok (.getfield 43, 3) := by decide +kernel
theorem dX9_bestDeal_133 : decode cX9_bestDeal 133 = .ok (.iload 5, 2) := by decide +kernel
theorem dX9_bestDeal_135 : decode cX9_bestDeal 135 = .ok (.iaload, 1) := by decide +kernel
theorem dX9_bestDeal_136 : decode cX9_bestDeal 136 = .ok (.iaload, 1) := by decide +kernel
theorem dX9_bestDeal_137 : decode cX9_bestDeal 137 = .ok (.iadd, 1) := by decide +kernel
theorem dX9_bestDeal_138 : decode cX9_bestDeal 138 = .ok (.iaload, 1) := by decide +kernel
theorem dX9_bestDeal_139 : decode cX9_bestDeal 139 = .ok (.iastore, 1) := by decide +kernel
theorem dX9_bestDeal_140 : decode cX9_bestDeal 140 = .ok (.iinc 5 1, 3) := by decide +kernel
theorem dX9_bestDeal_143 : decode cX9_bestDeal 143 = .ok (.goto (-44), 3) := by decide +kernel
theorem dX9_bestDeal_146 : decode cX9_bestDeal 146 = .ok (.aload_n 0, 1) := by decide +kernel
theorem dX9_bestDeal_147 : decode cX9_bestDeal 147 = .ok (.invokevirtual 191, 3) := by decide +kernel
theorem dX9_bestDeal_150 : decode cX9_bestDeal 150 = .ok (.istore 5, 2) := by decide +kernel
theorem dX9_bestDeal_152 : decode cX9_bestDeal 152 = .ok (.iload 5, 2) := by decide +kernel
theorem dX9_bestDeal_154 : decode cX9_bestDeal 154 = .ok (.iload_n 2, 1) := by decide +kernel
theorem dX9_bestDeal_155 : decode cX9_bestDeal 155 = .ok (.if_icmp .ge 45, 3) := by decide +kernel
theorem dX9_bestDeal_158 : decode cX9_bestDeal 158 = .ok (.iload 5, 2) := by decide +kernel
theorem dX9_bestDeal_160 : decode cX9_bestDeal 160 = .ok (.istore_n 2, 1) := by decide +kernel
theorem dX9_bestDeal_161 : decode cX9_bestDeal 161 = .ok (.iconst 0, 1) := by decide +kernel
theorem dX9_bestDeal_162 : decode cX9_bestDeal 162 = .ok (.istore 6, 2) := by decide +kernel
theorem dX9_bestDeal_164 : decode cX9_bestDeal 164 = .ok (.iload 6, 2) := by decide +kernel
theorem dX9_bestDeal_166 : decode cX9_bestDeal 166 = .ok (.iload_n 1, 1) := by decide +kernel
theorem dX9_bestDeal_167 : decode cX9_bestDeal 167 = .ok (.if_icmp .ge 33, 3) := by decide +kernel
theorem dX9_bestDeal_170 : decode cX9_bestDeal 170 = .ok (.aload_n 0, 1) := by decide +kernel
theorem dX9_bestDeal_171 : decode cX9_bestDeal 171 = .ok (.getfield 46, 3) := by decide +kernel
theorem dX9_bestDeal_174 : decode cX9_bestDeal 174 = .ok (.aload_n 0, 1) := by decide +kernel
theorem dX9_bestDeal_175 : decode cX9_bestDeal 175 = .ok (.getfield 40, 3) := by decide +kernel
theorem dX9_bestDeal_178 : decode cX9_bestDeal 178 = .ok (.iload 6, 2) := by decide +kernel
theorem dX9_bestDeal_180 : decode cX9_bestDeal 180 = .ok (.iaload, 1) := by decide +kernel
theorem dX9_bestDeal_181 : decode cX9_bestDeal 181 = .ok (.aload_n 0, 1) := by decide +kernel
theorem dX9_bestDeal_182 : decode cX9_bestDeal 182 = .ok (.getfield 40, 3) := by decide +kernel
theorem dX9_bestDeal_185 : decode cX9_bestDeal 185 = .ok (.aload_n 0, 1) := by decide +kernel
theorem dX9_bestDeal_186 : decode cX9_bestDeal 186 = .ok (.getfield 43, 3) := by decide +kernel
theorem dX9_bestDeal_189 : decode cX9_bestDeal 189 = .ok (.iload 6, 2) := by decide +kernel
theorem dX9_bestDeal_191 : decode cX9_bestDeal 191 = .ok (.iaload, 1) := by decide +kernel
theorem dX9_bestDeal_192 : decode cX9_bestDeal 192 = .ok (.iaload, 1) := by decide +kernel
theorem dX9_bestDeal_193 : decode cX9_bestDeal 193 = .ok (.iastore, 1) := by decide +kernel
theorem dX9_bestDeal_194 : decode cX9_bestDeal 194 = .ok (.iinc 6 1, 3) := by decide +kernel
theorem dX9_bestDeal_197 : decode cX9_bestDeal 197 = .ok (.goto (-33), 3) := by decide +kernel
theorem dX9_bestDeal_200 : decode cX9_bestDeal 200 = .ok (.iinc 3 (-1), 3) := by decide +kernel
theorem dX9_bestDeal_203 : decode cX9_bestDeal 203 = .ok (.goto 65, 3) := by decide +kernel
theorem dX9_bestDeal_206 : decode cX9_bestDeal 206 = .ok (.aload_n 0, 1) := by decide +kernel
theorem dX9_bestDeal_207 : decode cX9_bestDeal 207 = .ok (.getfield 43, 3) := by decide +kernel
theorem dX9_bestDeal_210 : decode cX9_bestDeal 210 = .ok (.iload_n 3, 1) := by decide +kernel
theorem dX9_bestDeal_211 : decode cX9_bestDeal 211 = .ok (.iaload, 1) := by decide +kernel
theorem dX9_bestDeal_212 : decode cX9_bestDeal 212 = .ok (.iconst 1, 1) := by decide +kernel
theorem dX9_bestDeal_213 : decode cX9_bestDeal 213 = .ok (.iadd, 1) := by decide +kernel
theorem dX9_bestDeal_214 : decode cX9_bestDeal 214 = .ok (.istore 5, 2) := by decide +kernel
theorem dX9_bestDeal_216 : decode cX9_bestDeal 216 = .ok (.iload 5, 2) := by decide +kernel
theorem dX9_bestDeal_218 : decode cX9_bestDeal 218 = .ok (.iload_n 1, 1) := by decide +kernel
theorem dX9_bestDeal_219 : decode cX9_bestDeal 219 = .ok (.if_icmp .ge 19, 3) := by decide +kernel
theorem dX9_bestDeal_222 : decode cX9_bestDeal 222 = .ok (.iload 4, 2) := by decide +kernel
theorem dX9_bestDeal_224 : decode cX9_bestDeal 224 = .ok (.iload 5, 2) := by decide +kernel
theorem dX9_bestDeal_226 : decode cX9_bestDeal 226 = .ok (.invokestatic 141, 3) := by decide +kernel
theorem dX9_bestDeal_229 : decode cX9_bestDeal 229 = .ok (.ifCond .eq 9, 3) := by decide +kernel
theorem dX9_bestDeal_232 : decode cX9_bestDeal 232 = .ok (.iinc 5 1, 3) := by decide +kernel
theorem dX9_bestDeal_235 : decode cX9_bestDeal 235 = .ok (.goto (-19), 3) := by decide +kernel
theorem dX9_bestDeal_238 : decode cX9_bestDeal 238 = .ok (.aload_n 0, 1) := by decide +kernel
theorem dX9_bestDeal_239 : decode cX9_bestDeal 239 = .ok (.getfield 43, 3) := by decide +kernel
theorem dX9_bestDeal_242 : decode cX9_bestDeal 242 = .ok (.iload_n 3, 1) := by decide +kernel
theorem dX9_bestDeal_243 : decode cX9_bestDeal 243 = .ok (.iload 5, 2) := by decide +kernel
theorem dX9_bestDeal_245 : decode cX9_bestDeal 245 = .ok (.iastore, 1) := by decide +kernel
theorem dX9_bestDeal_246 : decode cX9_bestDeal 246 = .ok (.iload 5, 2) := by decide +kernel
theorem dX9_bestDeal_248 : decode cX9_bestDeal 248 = .ok (.iload_n 1, 1) := by decide +kernel
theorem dX9_bestDeal_249 : decode cX9_bestDeal 249 = .ok (.if_icmp .ne 9, 3) := by decide +kernel
theorem dX9_bestDeal_252 : decode cX9_bestDeal 252 = .ok (.iinc 3 (-1), 3) := by decide +kernel
theorem dX9_bestDeal_255 : decode cX9_bestDeal 255 = .ok (.goto 13, 3) := by decide +kernel
theorem dX9_bestDeal_258 : decode cX9_bestDeal 258 = .ok (.iinc 3 1, 3) := by decide +kernel
theorem dX9_bestDeal_261 : decode cX9_bestDeal 261 = .ok (.aload_n 0, 1) := by decide +kernel
theorem dX9_bestDeal_262 : decode cX9_bestDeal 262 = .ok (.getfield 43, 3) := by decide +kernel
theorem dX9_bestDeal_265 : decode cX9_bestDeal 265 = .ok (.iload_n 3, 1) := by decide +kernel
theorem dX9_bestDeal_266 : decode cX9_bestDeal 266 = .ok (.iconst (-1), 1) := by decide +kernel
theorem dX9_bestDeal_267 : decode cX9_bestDeal 267 = .ok (.iastore, 1) := by decide +kernel
theorem dX9_bestDeal_268 : decode cX9_bestDeal 268 = .ok (.goto (-217), 3) := by decide +kernel
theorem dX9_bestDeal_271 : decode cX9_bestDeal 271 = .ok (.iload_n 2, 1) := by decide +kernel
theorem dX9_bestDeal_272 : decode cX9_bestDeal 272 = .ok (.ireturn, 1) := by decide +kernel
theorem dX9_deal_0 : decode cX9_deal 0 = .ok (.iload_n 1, 1) := by decide +kernel
theorem dX9_deal_1 : decode cX9_deal 1 = .ok (.iconst (-1), 1) := by decide +kernel
theorem dX9_deal_2 : decode cX9_deal 2 = .ok (.if_icmp .eq 13, 3) := by decide +kernel
theorem dX9_deal_5 : decode cX9_deal 5 = .ok (.aload_n 0, 1) := by decide +kernel
theorem dX9_deal_6 : decode cX9_deal 6 = .ok (.iload_n 1, 1) := by decide +kernel
theorem dX9_deal_7 : decode cX9_deal 7 = .ok (.invokevirtual 131, 3) := by decide +kernel
theorem dX9_deal_10 : decode cX9_deal 10 = .ok (.ifCond .ne 5, 3) := by decide +kernel
theorem dX9_deal_13 : decode cX9_deal 13 = .ok (.iconst (-1), 1) := by decide +kernel
theorem dX9_deal_14 : decode cX9_deal 14 = .ok (.ireturn, 1) := by decide +kernel
theorem dX9_deal_15 : decode cX9_deal 15 = .ok (.aload_n 0, 1) := by decide +kernel
theorem dX9_deal_16 : decode cX9_deal 16 = .ok (.invokevirtual 194, 3) := by decide +kernel
theorem dX9_deal_19 : decode cX9_deal 19 = .ok (.istore_n 2, 1) := by decide +kernel
theorem dX9_deal_20 : decode cX9_deal 20 = .ok (.iload_n 2, 1) := by decide +kernel
theorem dX9_deal_21 : decode cX9_deal 21 = .ok (.ldc 187, 2) := by decide +kernel
theorem dX9_deal_23 : decode cX9_deal 23 = .ok (.if_icmp .ne 6, 3) := by decide +kernel
theorem dX9_deal_26 : decode cX9_deal 26 = .ok (.bipush (-4), 2) := by decide +kernel
theorem dX9_deal_28 : decode cX9_deal 28 = .ok (.ireturn, 1) := by decide +kernel
theorem dX9_deal_29 : decode cX9_deal 29 = .ok (.iload_n 1, 1) := by decide +kernel
theorem dX9_deal_30 : decode cX9_deal 30 = .ok (.iconst (-1), 1) := by decide +kernel
theorem dX9_deal_31 : decode cX9_deal 31 = .ok (.if_icmp .ne 7, 3) := by decide +kernel
theorem dX9_deal_34 : decode cX9_deal 34 = .ok (.iload_n 2, 1) := by decide +kernel
theorem dX9_deal_35 : decode cX9_deal 35 = .ok (.goto 25, 3) := by decide +kernel
theorem dX9_deal_38 : decode cX9_deal 38 = .ok (.aload_n 0, 1) := by decide +kernel
theorem dX9_deal_39 : decode cX9_deal 39 = .ok (.getfield 7, 3) := by decide +kernel
theorem dX9_deal_42 : decode cX9_deal 42 = .ok (.iconst 2, 1) := by decide +kernel
theorem dX9_deal_43 : decode cX9_deal 43 = .ok (.iload_n 1, 1) := by decide +kernel
theorem dX9_deal_44 : decode cX9_deal 44 = .ok (.iadd, 1) := by decide +kernel
theorem dX9_deal_45 : decode cX9_deal 45 = .ok (.iaload, 1) := by decide +kernel
theorem dX9_deal_46 : decode cX9_deal 46 = .ok (.ifCond .ne 12, 3) := by decide +kernel
theorem dX9_deal_49 : decode cX9_deal 49 = .ok (.aload_n 0, 1) := by decide +kernel
theorem dX9_deal_50 : decode cX9_deal 50 = .ok (.getfield 46, 3) := by decide +kernel
theorem dX9_deal_53 : decode cX9_deal 53 = .ok (.iload_n 1, 1) := by decide +kernel
theorem dX9_deal_54 : decode cX9_deal 54 = .ok (.iaload, 1) := by decide +kernel
theorem dX9_deal_55 : decode cX9_deal 55 = .ok (.goto 5, 3) := by decide +kernel
theorem dX9_deal_58 : decode cX9_deal 58 = .ok (.bipush (-4), 2) := by decide +kernel
theorem dX9_deal_60 : decode cX9_deal 60 = .ok (.ireturn, 1) := by decide +kernel
theorem dX9_off_0 : decode cX9_off 0 = .ok (.iload_n 1, 1) := by decide +kernel
theorem dX9_off_1 : decode cX9_off 1 = .ok (.i2l, 1) := by decide +kernel
theorem dX9_off_2 : decode cX9_off 2 = .ok (.lconst 0, 1) := by decide +kernel
theorem dX9_off_3 : decode cX9_off 3 = .ok (.lconst 1, 1) := by decide +kernel
theorem dX9_off_4 : decode cX9_off 4 = .ok (.invokestatic 73, 3) := by decide +kernel
theorem dX9_off_7 : decode cX9_off 7 = .ok (.ifCond .ne 5, 3) := by decide +kernel
theorem dX9_off_10 : decode cX9_off 10 = .ok (.iconst (-1), 1) := by decide +kernel
theorem dX9_off_11 : decode cX9_off 11 = .ok (.ireturn, 1) := by decide +kernel
theorem dX9_off_12 : decode cX9_off 12 = .ok (.bipush (-4), 2) := by decide +kernel
theorem dX9_off_14 : decode cX9_off 14 = .ok (.istore_n 2, 1) := by decide +kernel
theorem dX9_off_15 : decode cX9_off 15 = .ok (.ldc 187, 2) := by decide +kernel
theorem dX9_off_17 : decode cX9_off 17 = .ok (.istore_n 3, 1) := by decide +kernel
theorem dX9_off_18 : decode cX9_off 18 = .ok (.iconst 0, 1) := by decide +kernel
theorem dX9_off_19 : decode cX9_off 19 = .ok (.istore 4, 2) := by decide +kernel
theorem dX9_off_21 : decode cX9_off 21 = .ok (.iload 4, 2) := by decide +kernel
theorem dX9_off_23 : decode cX9_off 23 = .ok (.aload_n 0, 1) := by decide +kernel
theorem dX9_off_24 : decode cX9_off 24 = .ok (.getfield 69, 3) := by decide +kernel
theorem dX9_off_27 : decode cX9_off 27 = .ok (.if_icmp .ge 68, 3) := by decide +kernel
theorem dX9_off_30 : decode cX9_off 30 = .ok (.aload_n 0, 1) := by decide +kernel
theorem dX9_off_31 : decode cX9_off 31 = .ok (.getfield 7, 3) := by decide +kernel
theorem dX9_off_34 : decode cX9_off 34 = .ok (.iconst 2, 1) := by decide +kernel
theorem dX9_off_35 : decode cX9_off 35 = .ok (.iload 4, 2) := by decide +kernel
theorem dX9_off_37 : decode cX9_off 37 = .ok (.iadd, 1) := by decide +kernel
theorem dX9_off_38 : decode cX9_off 38 = .ok (.iaload, 1) := by decide +kernel
theorem dX9_off_39 : decode cX9_off 39 = .ok (.ifCond .ne 50, 3) := by decide +kernel
theorem dX9_off_42 : decode cX9_off 42 = .ok (.aload_n 0, 1) := by decide +kernel
theorem dX9_off_43 : decode cX9_off 43 = .ok (.invokevirtual 181, 3) := by decide +kernel
theorem dX9_off_46 : decode cX9_off 46 = .ok (.aload_n 0, 1) := by decide +kernel
theorem dX9_off_47 : decode cX9_off 47 = .ok (.getfield 7, 3) := by decide +kernel
theorem dX9_off_50 : decode cX9_off 50 = .ok (.bipush 53, 2) := by decide +kernel
theorem dX9_off_52 : decode cX9_off 52 = .ok (.iload 4, 2) := by decide +kernel
theorem dX9_off_54 : decode cX9_off 54 = .ok (.iadd, 1) := by decide +kernel
theorem dX9_off_55 : decode cX9_off 55 = .ok (.iconst 3, 1) := by decide +kernel
theorem dX9_off_56 : decode cX9_off 56 = .ok (.iastore, 1) := by decide +kernel
theorem dX9_off_57 : decode cX9_off 57 = .ok (.aload_n 0, 1) := by decide +kernel
theorem dX9_off_58 : decode cX9_off 58 = .ok (.invokevirtual 191, 3) := by decide +kernel
theorem dX9_off_61 : decode cX9_off 61 = .ok (.istore 5, 2) := by decide +kernel
theorem dX9_off_63 : decode cX9_off 63 = .ok (.iload 5, 2) := by decide +kernel
theorem dX9_off_65 : decode cX9_off 65 = .ok (.iload_n 3, 1) := by decide +kernel
theorem dX9_off_66 : decode cX9_off 66 = .ok (.if_icmp .ge 8, 3) := by decide +kernel
theorem dX9_off_69 : decode cX9_off 69 = .ok (.iload 4, 2) := by decide +kernel
theorem dX9_off_71 : decode cX9_off 71 = .ok (.goto 4, 3) := by decide +kernel
theorem dX9_off_74 : decode cX9_off 74 = .ok (.iload_n 2, 1) := by decide +kernel
theorem dX9_off_75 : decode cX9_off 75 = .ok (.istore_n 2, 1) := by decide +kernel
theorem dX9_off_76 : decode cX9_off 76 = .ok (.iload 5, 2) := by decide +kernel
theorem dX9_off_78 : decode cX9_off 78 = .ok (.iload_n 3, 1) := by decide +kernel
theorem dX9_off_79 : decode cX9_off 79 = .ok (.if_icmp .ge 8, 3) := by decide +kernel
theorem dX9_off_82 : decode cX9_off 82 = .ok (.iload 5, 2) := by decide +kernel
theorem dX9_off_84 : decode cX9_off 84 = .ok (.goto 4, 3) := by decide +kernel
theorem dX9_off_87 : decode cX9_off 87 = .ok (.iload_n 3, 1) := by decide +kernel
theorem dX9_off_88 : decode cX9_off 88 = .ok (.istore_n 3, 1) := by decide +kernel
theorem dX9_off_89 : decode cX9_off 89 = .ok (.iinc 4 1, 3) := by decide +kernel
theorem dX9_off_92 : decode cX9_off 92 = .ok (.goto (-71), 3) := by decide +kernel
theorem dX9_off_95 : decode cX9_off 95 = .ok (.iload_n 2, 1) := by decide +kernel
theorem dX9_off_96 : decode cX9_off 96 = .ok (.bipush (-4), 2) := by decide +kernel
theorem dX9_off_98 : decode cX9_off 98 = .ok (.if_icmp .ne 8, 3) := by decide +kernel
theorem dX9_off_101 : decode cX9_off 101 = .ok (.bipush (-4), 2) := by decide +kernel
theorem dX9_off_103 : decode cX9_off 103 = .ok (.goto 12, 3) := by decide +kernel
theorem dX9_off_106 : decode cX9_off 106 = .ok (.iload_n 1, 1) := by decide +kernel
theorem dX9_off_107 : decode cX9_off 107 = .ok (.ifCond .ne 7, 3) := by decide +kernel
theorem dX9_off_110 : decode cX9_off 110 = .ok (.iload_n 2, 1) := by decide +kernel
theorem dX9_off_111 : decode cX9_off 111 = .ok (.goto 4, 3) := by decide +kernel
theorem dX9_off_114 : decode cX9_off 114 = .ok (.iload_n 3, 1) := by decide +kernel
theorem dX9_off_115 : decode cX9_off 115 = .ok (.ireturn, 1) := by decide +kernel
theorem dX9_see_0 : decode cX9_see 0 = .ok (.aload_n 0, 1) := by decide +kernel
theorem dX9_see_1 : decode cX9_see 1 = .ok (.iload_n 1, 1) := by decide +kernel
theorem dX9_see_2 : decode cX9_see 2 = .ok (.invokevirtual 131, 3) := by decide +kernel
theorem dX9_see_5 : decode cX9_see 5 = .ok (.ifCond .eq 15, 3) := by decide +kernel
theorem dX9_see_8 : decode cX9_see 8 = .ok (.iload_n 2, 1) := by decide +kernel
theorem dX9_see_9 : decode cX9_see 9 = .ok (.i2l, 1) := by decide +kernel
theorem dX9_see_10 : decode cX9_see 10 = .ok (.lconst 0, 1) := by decide +kernel
theorem dX9_see_11 : decode cX9_see 11 = .ok (.ldc2_w 197, 3) := by decide +kernel
theorem dX9_see_14 : decode cX9_see 14 = .ok (.invokestatic 73, 3) := by decide +kernel
theorem dX9_see_17 : decode cX9_see 17 = .ok (.ifCond .ne 5, 3) := by decide +kernel
theorem dX9_see_20 : decode cX9_see 20 = .ok (.iconst (-1), 1) := by decide +kernel
theorem dX9_see_21 : decode cX9_see 21 = .ok (.ireturn, 1) := by decide +kernel
theorem dX9_see_22 : decode cX9_see 22 = .ok (.aload_n 0, 1) := by decide +kernel
theorem dX9_see_23 : decode cX9_see 23 = .ok (.getfield 89, 3) := by decide +kernel
theorem dX9_see_26 : decode cX9_see 26 = .ok (.bipush 7, 2) := by decide +kernel
theorem dX9_see_28 : decode cX9_see 28 = .ok (.if_icmp .ne 6, 3) := by decide +kernel
theorem dX9_see_31 : decode cX9_see 31 = .ok (.bipush (-3), 2) := by decide +kernel
theorem dX9_see_33 : decode cX9_see 33 = .ok (.ireturn, 1) := by decide +kernel
theorem dX9_see_34 : decode cX9_see 34 = .ok (.aload_n 0, 1) := by decide +kernel
theorem dX9_see_35 : decode cX9_see 35 = .ok (.getfield 25, 3) := by decide +kernel
theorem dX9_see_38 : decode cX9_see 38 = .ok (.aload_n 0, 1) := by decide +kernel
theorem dX9_see_39 : decode cX9_see 39 = .ok (.getfield 89, 3) := by decide +kernel
theorem dX9_see_42 : decode cX9_see 42 = .ok (.iload_n 1, 1) := by decide +kernel
theorem dX9_see_43 : decode cX9_see 43 = .ok (.iastore, 1) := by decide +kernel
theorem dX9_see_44 : decode cX9_see 44 = .ok (.aload_n 0, 1) := by decide +kernel
theorem dX9_see_45 : decode cX9_see 45 = .ok (.getfield 28, 3) := by decide +kernel
theorem dX9_see_48 : decode cX9_see 48 = .ok (.aload_n 0, 1) := by decide +kernel
theorem dX9_see_49 : decode cX9_see 49 = .ok (.getfield 89, 3) := by decide +kernel
theorem dX9_see_52 : decode cX9_see 52 = .ok (.iload_n 2, 1) := by decide +kernel
theorem dX9_see_53 : decode cX9_see 53 = .ok (.iastore, 1) := by decide +kernel
theorem dX9_see_54 : decode cX9_see 54 = .ok (.aload_n 0, 1) := by decide +kernel
theorem dX9_see_55 : decode cX9_see 55 = .ok (.dup, 1) := by decide +kernel
theorem dX9_see_56 : decode cX9_see 56 = .ok (.getfield 89, 3) := by decide +kernel
theorem dX9_see_59 : decode cX9_see 59 = .ok (.iconst 1, 1) := by decide +kernel
theorem dX9_see_60 : decode cX9_see 60 = .ok (.iadd, 1) := by decide +kernel
theorem dX9_see_61 : decode cX9_see 61 = .ok (.putfield 89, 3) := by decide +kernel
theorem dX9_see_64 : decode cX9_see 64 = .ok (.aload_n 0, 1) := by decide +kernel
theorem dX9_see_65 : decode cX9_see 65 = .ok (.getfield 89, 3) := by decide +kernel
theorem dX9_see_68 : decode cX9_see 68 = .ok (.ireturn, 1) := by decide +kernel
theorem dX9_forget_0 : decode cX9_forget 0 = .ok (.aload_n 0, 1) := by decide +kernel
theorem dX9_forget_1 : decode cX9_forget 1 = .ok (.getfield 89, 3) := by decide +kernel
theorem dX9_forget_4 : decode cX9_forget 4 = .ok (.istore_n 1, 1) := by decide +kernel
theorem dX9_forget_5 : decode cX9_forget 5 = .ok (.aload_n 0, 1) := by decide +kernel
theorem dX9_forget_6 : decode cX9_forget 6 = .ok (.iconst 0, 1) := by decide +kernel
theorem dX9_forget_7 : decode cX9_forget 7 = .ok (.putfield 89, 3) := by decide +kernel
theorem dX9_forget_10 : decode cX9_forget 10 = .ok (.iload_n 1, 1) := by decide +kernel
theorem dX9_forget_11 : decode cX9_forget 11 = .ok (.ireturn, 1) := by decide +kernel
theorem dX9_areSo_0 : decode cX9_areSo 0 = .ok (.aload_n 0, 1) := by decide +kernel
theorem dX9_areSo_1 : decode cX9_areSo 1 = .ok (.invokevirtual 181, 3) := by decide +kernel
theorem dX9_areSo_4 : decode cX9_areSo 4 = .ok (.aload_n 0, 1) := by decide +kernel
theorem dX9_areSo_5 : decode cX9_areSo 5 = .ok (.getfield 7, 3) := by decide +kernel
theorem dX9_areSo_8 : decode cX9_areSo 8 = .ok (.bipush 52, 2) := by decide +kernel
theorem dX9_areSo_10 : decode cX9_areSo 10 = .ok (.bipush (-4), 2) := by decide +kernel
theorem dX9_areSo_12 : decode cX9_areSo 12 = .ok (.iastore, 1) := by decide +kernel
theorem dX9_areSo_13 : decode cX9_areSo 13 = .ok (.iconst 0, 1) := by decide +kernel
theorem dX9_areSo_14 : decode cX9_areSo 14 = .ok (.istore_n 1, 1) := by decide +kernel
theorem dX9_areSo_15 : decode cX9_areSo 15 = .ok (.iload_n 1, 1) := by decide +kernel
theorem dX9_areSo_16 : decode cX9_areSo 16 = .ok (.aload_n 0, 1) := by decide +kernel
theorem dX9_areSo_17 : decode cX9_areSo 17 = .ok (.getfield 69, 3) := by decide +kernel
theorem dX9_areSo_20 : decode cX9_areSo 20 = .ok (.if_icmp .ge 60, 3) := by decide +kernel
theorem dX9_areSo_23 : decode cX9_areSo 23 = .ok (.aload_n 0, 1) := by decide +kernel
theorem dX9_areSo_24 : decode cX9_areSo 24 = .ok (.getfield 7, 3) := by decide +kernel
theorem dX9_areSo_27 : decode cX9_areSo 27 = .ok (.bipush 53, 2) := by decide +kernel
theorem dX9_areSo_29 : decode cX9_areSo 29 = .ok (.iload_n 1, 1) := by decide +kernel
theorem dX9_areSo_30 : decode cX9_areSo 30 = .ok (.iadd, 1) := by decide +kernel
theorem dX9_areSo_31 : decode cX9_areSo 31 = .ok (.iconst 0, 1) := by decide +kernel
theorem dX9_areSo_32 : decode cX9_areSo 32 = .ok (.iastore, 1) := by decide +kernel
theorem dX9_areSo_33 : decode cX9_areSo 33 = .ok (.aload_n 0, 1) := by decide +kernel
theorem dX9_areSo_34 : decode cX9_areSo 34 = .ok (.getfield 7, 3) := by decide +kernel
theorem dX9_areSo_37 : decode cX9_areSo 37 = .ok (.bipush 74, 2) := by decide +kernel
theorem dX9_areSo_39 : decode cX9_areSo 39 = .ok (.iload_n 1, 1) := by decide +kernel
theorem dX9_areSo_40 : decode cX9_areSo 40 = .ok (.iadd, 1) := by decide +kernel
theorem dX9_areSo_41 : decode cX9_areSo 41 = .ok (.iconst 0, 1) := by decide +kernel
theorem dX9_areSo_42 : decode cX9_areSo 42 = .ok (.iastore, 1) := by decide +kernel
theorem dX9_areSo_43 : decode cX9_areSo 43 = .ok (.aload_n 0, 1) := by decide +kernel
theorem dX9_areSo_44 : decode cX9_areSo 44 = .ok (.getfield 7, 3) := by decide +kernel
theorem dX9_areSo_47 : decode cX9_areSo 47 = .ok (.bipush 81, 2) := by decide +kernel
theorem dX9_areSo_49 : decode cX9_areSo 49 = .ok (.iload_n 1, 1) := by decide +kernel
theorem dX9_areSo_50 : decode cX9_areSo 50 = .ok (.iadd, 1) := by decide +kernel
theorem dX9_areSo_51 : decode cX9_areSo 51 = .ok (.bipush (-4), 2) := by decide +kernel
theorem dX9_areSo_53 : decode cX9_areSo 53 = .ok (.iastore, 1) := by decide +kernel
theorem dX9_areSo_54 : decode cX9_areSo 54 = .ok (.aload_n 0, 1) := by decide +kernel
theorem dX9_areSo_55 : decode cX9_areSo 55 = .ok (.getfield 7, 3) := by decide +kernel
theorem dX9_areSo_58 : decode cX9_areSo 58 = .ok (.bipush 88, 2) := by decide +kernel
theorem dX9_areSo_60 : decode cX9_areSo 60 = .ok (.iload_n 1, 1) := by decide +kernel
theorem dX9_areSo_61 : decode cX9_areSo 61 = .ok (.iadd, 1) := by decide +kernel
theorem dX9_areSo_62 : decode cX9_areSo 62 = .ok (.iconst 0, 1) := by decide +kernel
theorem dX9_areSo_63 : decode cX9_areSo 63 = .ok (.iastore, 1) := by decide +kernel
theorem dX9_areSo_64 : decode cX9_areSo 64 = .ok (.aload_n 0, 1) := by decide +kernel
theorem dX9_areSo_65 : decode cX9_areSo 65 = .ok (.getfield 7, 3) := by decide +kernel
theorem dX9_areSo_68 : decode cX9_areSo 68 = .ok (.bipush 95, 2) := by decide +kernel
theorem dX9_areSo_70 : decode cX9_areSo 70 = .ok (.iload_n 1, 1) := by decide +kernel
theorem dX9_areSo_71 : decode cX9_areSo 71 = .ok (.iadd, 1) := by decide +kernel
theorem dX9_areSo_72 : decode cX9_areSo 72 = .ok (.iconst 0, 1) := by decide +kernel
theorem dX9_areSo_73 : decode cX9_areSo 73 = .ok (.iastore, 1) := by decide +kernel
theorem dX9_areSo_74 : decode cX9_areSo 74 = .ok (.iinc 1 1, 3) := by decide +kernel
theorem dX9_areSo_77 : decode cX9_areSo 77 = .ok (.goto (-62), 3) := by decide +kernel
theorem dX9_areSo_80 : decode cX9_areSo 80 = .ok (.iconst 0, 1) := by decide +kernel
theorem dX9_areSo_81 : decode cX9_areSo 81 = .ok (.istore_n 1, 1) := by decide +kernel
theorem dX9_areSo_82 : decode cX9_areSo 82 = .ok (.iload_n 1, 1) := by decide +kernel
theorem dX9_areSo_83 : decode cX9_areSo 83 = .ok (.aload_n 0, 1) := by decide +kernel
theorem dX9_areSo_84 : decode cX9_areSo 84 = .ok (.getfield 69, 3) := by decide +kernel
theorem dX9_areSo_87 : decode cX9_areSo 87 = .ok (.if_icmp .ge 53, 3) := by decide +kernel
theorem dX9_areSo_90 : decode cX9_areSo 90 = .ok (.aload_n 0, 1) := by decide +kernel
theorem dX9_areSo_91 : decode cX9_areSo 91 = .ok (.bipush 51, 2) := by decide +kernel
theorem dX9_areSo_93 : decode cX9_areSo 93 = .ok (.aload_n 0, 1) := by decide +kernel
theorem dX9_areSo_94 : decode cX9_areSo 94 = .ok (.getfield 49, 3) := by decide +kernel
theorem dX9_areSo_97 : decode cX9_areSo 97 = .ok (.iload_n 1, 1) := by decide +kernel
theorem dX9_areSo_98 : decode cX9_areSo 98 = .ok (.iaload, 1) := by decide +kernel
theorem dX9_areSo_99 : decode cX9_areSo 99 = .ok (.invokevirtual 149, 3) := by decide +kernel
theorem dX9_areSo_102 : decode cX9_areSo 102 = .ok (.iconst 0, 1) := by decide +kernel
theorem dX9_areSo_103 : decode cX9_areSo 103 = .ok (.istore_n 2, 1) := by decide +kernel
end
section
theorem dX9_areSo_104 : decode cX9_areSo 104 = .ok (.iload_n 2, 1) := by decide +kernel
theorem dX9_areSo_105 : decode cX9_areSo 105 = .ok (.aload_n 0, 1) := by decide +kernel
theorem dX9_areSo_106 : decode cX9_areSo 106 = .ok (.getfield 69, 3) := by decide +kernel
theorem dX9_areSo_109 : decode cX9_areSo 109 = .ok (.if_icmp .ge 19, 3) := by decide +kernel
theorem dX9_areSo_112 : decode cX9_areSo 112 = .ok (.aload_n 0, 1) := by decide +kernel
theorem dX9_areSo_113 : decode cX9_areSo 113 = .ok (.getfield 7, 3) := by decide +kernel
theorem dX9_areSo_116 : decode cX9_areSo 116 = .ok (.bipush 74, 2) := by decide +kernel
theorem dX9_areSo_118 : decode cX9_areSo 118 = .ok (.iload_n 2, 1) := by decide +kernel
theorem dX9_areSo_119 : decode cX9_areSo 119 = .ok (.iadd, 1) := by decide +kernel
theorem dX9_areSo_120 : decode cX9_areSo 120 = .ok (.iconst 0, 1) := by decide +kernel
theorem dX9_areSo_121 : decode cX9_areSo 121 = .ok (.iastore, 1) := by decide +kernel
theorem dX9_areSo_122 : decode cX9_areSo 122 = .ok (.iinc 2 1, 3) := by decide +kernel
theorem dX9_areSo_125 : decode cX9_areSo 125 = .ok (.goto (-21), 3) := by decide +kernel
theorem dX9_areSo_128 : decode cX9_areSo 128 = .ok (.aload_n 0, 1) := by decide +kernel
theorem dX9_areSo_129 : decode cX9_areSo 129 = .ok (.bipush 51, 2) := by decide +kernel
theorem dX9_areSo_131 : decode cX9_areSo 131 = .ok (.invokevirtual 152, 3) := by decide +kernel
theorem dX9_areSo_134 : decode cX9_areSo 134 = .ok (.iinc 1 1, 3) := by decide +kernel
theorem dX9_areSo_137 : decode cX9_areSo 137 = .ok (.goto (-55), 3) := by decide +kernel
theorem dX9_areSo_140 : decode cX9_areSo 140 = .ok (.iconst 1, 1) := by decide +kernel
theorem dX9_areSo_141 : decode cX9_areSo 141 = .ok (.istore_n 1, 1) := by decide +kernel
theorem dX9_areSo_142 : decode cX9_areSo 142 = .ok (.iconst 0, 1) := by decide +kernel
theorem dX9_areSo_143 : decode cX9_areSo 143 = .ok (.istore_n 2, 1) := by decide +kernel
theorem dX9_areSo_144 : decode cX9_areSo 144 = .ok (.iload_n 2, 1) := by decide +kernel
theorem dX9_areSo_145 : decode cX9_areSo 145 = .ok (.aload_n 0, 1) := by decide +kernel
theorem dX9_areSo_146 : decode cX9_areSo 146 = .ok (.getfield 89, 3) := by decide +kernel
theorem dX9_areSo_149 : decode cX9_areSo 149 = .ok (.if_icmp .ge 42, 3) := by decide +kernel
theorem dX9_areSo_152 : decode cX9_areSo 152 = .ok (.iload_n 1, 1) := by decide +kernel
theorem dX9_areSo_153 : decode cX9_areSo 153 = .ok (.ifCond .eq 30, 3) := by decide +kernel
theorem dX9_areSo_156 : decode cX9_areSo 156 = .ok (.aload_n 0, 1) := by decide +kernel
theorem dX9_areSo_157 : decode cX9_areSo 157 = .ok (.getfield 7, 3) := by decide +kernel
theorem dX9_areSo_160 : decode cX9_areSo 160 = .ok (.bipush 95, 2) := by decide +kernel
theorem dX9_areSo_162 : decode cX9_areSo 162 = .ok (.aload_n 0, 1) := by decide +kernel
theorem dX9_areSo_163 : decode cX9_areSo 163 = .ok (.getfield 25, 3) := by decide +kernel
theorem dX9_areSo_166 : decode cX9_areSo 166 = .ok (.iload_n 2, 1) := by decide +kernel
theorem dX9_areSo_167 : decode cX9_areSo 167 = .ok (.iaload, 1) := by decide +kernel
theorem dX9_areSo_168 : decode cX9_areSo 168 = .ok (.iadd, 1) := by decide +kernel
theorem dX9_areSo_169 : decode cX9_areSo 169 = .ok (.iaload, 1) := by decide +kernel
theorem dX9_areSo_170 : decode cX9_areSo 170 = .ok (.aload_n 0, 1) := by decide +kernel
theorem dX9_areSo_171 : decode cX9_areSo 171 = .ok (.getfield 28, 3) := by decide +kernel
theorem dX9_areSo_174 : decode cX9_areSo 174 = .ok (.iload_n 2, 1) := by decide +kernel
theorem dX9_areSo_175 : decode cX9_areSo 175 = .ok (.iaload, 1) := by decide +kernel
theorem dX9_areSo_176 : decode cX9_areSo 176 = .ok (.if_icmp .ne 7, 3) := by decide +kernel
theorem dX9_areSo_179 : decode cX9_areSo 179 = .ok (.iconst 1, 1) := by decide +kernel
theorem dX9_areSo_180 : decode cX9_areSo 180 = .ok (.goto 4, 3) := by decide +kernel
theorem dX9_areSo_183 : decode cX9_areSo 183 = .ok (.iconst 0, 1) := by decide +kernel
theorem dX9_areSo_184 : decode cX9_areSo 184 = .ok (.istore_n 1, 1) := by decide +kernel
theorem dX9_areSo_185 : decode cX9_areSo 185 = .ok (.iinc 2 1, 3) := by decide +kernel
theorem dX9_areSo_188 : decode cX9_areSo 188 = .ok (.goto (-44), 3) := by decide +kernel
theorem dX9_areSo_191 : decode cX9_areSo 191 = .ok (.iload_n 1, 1) := by decide +kernel
theorem dX9_areSo_192 : decode cX9_areSo 192 = .ok (.ireturn, 1) := by decide +kernel
theorem dX9_manyOrders_0 : decode cX9_manyOrders 0 = .ok (.iconst 0, 1) := by decide +kernel
theorem dX9_manyOrders_1 : decode cX9_manyOrders 1 = .ok (.istore_n 1, 1) := by decide +kernel
theorem dX9_manyOrders_2 : decode cX9_manyOrders 2 = .ok (.iconst 0, 1) := by decide +kernel
theorem dX9_manyOrders_3 : decode cX9_manyOrders 3 = .ok (.istore_n 2, 1) := by decide +kernel
theorem dX9_manyOrders_4 : decode cX9_manyOrders 4 = .ok (.aload_n 0, 1) := by decide +kernel
theorem dX9_manyOrders_5 : decode cX9_manyOrders 5 = .ok (.getfield 49, 3) := by decide +kernel
theorem dX9_manyOrders_8 : decode cX9_manyOrders 8 = .ok (.iconst 0, 1) := by decide +kernel
theorem dX9_manyOrders_9 : decode cX9_manyOrders 9 = .ok (.iconst (-1), 1) := by decide +kernel
theorem dX9_manyOrders_10 : decode cX9_manyOrders 10 = .ok (.iastore, 1) := by decide +kernel
theorem dX9_manyOrders_11 : decode cX9_manyOrders 11 = .ok (.iload_n 2, 1) := by decide +kernel
theorem dX9_manyOrders_12 : decode cX9_manyOrders 12 = .ok (.ifCond .lt 162, 3) := by decide +kernel
theorem dX9_manyOrders_15 : decode cX9_manyOrders 15 = .ok (.iconst 0, 1) := by decide +kernel
theorem dX9_manyOrders_16 : decode cX9_manyOrders 16 = .ok (.istore_n 3, 1) := by decide +kernel
theorem dX9_manyOrders_17 : decode cX9_manyOrders 17 = .ok (.iconst 0, 1) := by decide +kernel
theorem dX9_manyOrders_18 : decode cX9_manyOrders 18 = .ok (.istore 4, 2) := by decide +kernel
theorem dX9_manyOrders_20 : decode cX9_manyOrders 20 = .ok (.iload 4, 2) := by decide +kernel
theorem dX9_manyOrders_22 : decode cX9_manyOrders 22 = .ok (.iload_n 2, 1) := by decide +kernel
theorem dX9_manyOrders_23 : decode cX9_manyOrders 23 = .ok (.if_icmp .ge 21, 3) := by decide +kernel
theorem dX9_manyOrders_26 : decode cX9_manyOrders 26 = .ok (.iload_n 3, 1) := by decide +kernel
theorem dX9_manyOrders_27 : decode cX9_manyOrders 27 = .ok (.iconst 1, 1) := by decide +kernel
theorem dX9_manyOrders_28 : decode cX9_manyOrders 28 = .ok (.aload_n 0, 1) := by decide +kernel
theorem dX9_manyOrders_29 : decode cX9_manyOrders 29 = .ok (.getfield 49, 3) := by decide +kernel
theorem dX9_manyOrders_32 : decode cX9_manyOrders 32 = .ok (.iload 4, 2) := by decide +kernel
theorem dX9_manyOrders_34 : decode cX9_manyOrders 34 = .ok (.iaload, 1) := by decide +kernel
theorem dX9_manyOrders_35 : decode cX9_manyOrders 35 = .ok (.ishl, 1) := by decide +kernel
theorem dX9_manyOrders_36 : decode cX9_manyOrders 36 = .ok (.ior, 1) := by decide +kernel
theorem dX9_manyOrders_37 : decode cX9_manyOrders 37 = .ok (.istore_n 3, 1) := by decide +kernel
theorem dX9_manyOrders_38 : decode cX9_manyOrders 38 = .ok (.iinc 4 1, 3) := by decide +kernel
theorem dX9_manyOrders_41 : decode cX9_manyOrders 41 = .ok (.goto (-21), 3) := by decide +kernel
theorem dX9_manyOrders_44 : decode cX9_manyOrders 44 = .ok (.iload_n 2, 1) := by decide +kernel
theorem dX9_manyOrders_45 : decode cX9_manyOrders 45 = .ok (.aload_n 0, 1) := by decide +kernel
theorem dX9_manyOrders_46 : decode cX9_manyOrders 46 = .ok (.getfield 69, 3) := by decide +kernel
theorem dX9_manyOrders_49 : decode cX9_manyOrders 49 = .ok (.if_icmp .ne 55, 3) := by decide +kernel
theorem dX9_manyOrders_52 : decode cX9_manyOrders 52 = .ok (.aload_n 0, 1) := by decide +kernel
theorem dX9_manyOrders_53 : decode cX9_manyOrders 53 = .ok (.invokevirtual 199, 3) := by decide +kernel
theorem dX9_manyOrders_56 : decode cX9_manyOrders 56 = .ok (.ifCond .eq 42, 3) := by decide +kernel
theorem dX9_manyOrders_59 : decode cX9_manyOrders 59 = .ok (.iconst 0, 1) := by decide +kernel
theorem dX9_manyOrders_60 : decode cX9_manyOrders 60 = .ok (.istore 4, 2) := by decide +kernel
theorem dX9_manyOrders_62 : decode cX9_manyOrders 62 = .ok (.iload 4, 2) := by decide +kernel
theorem dX9_manyOrders_64 : decode cX9_manyOrders 64 = .ok (.aload_n 0, 1) := by decide +kernel
theorem dX9_manyOrders_65 : decode cX9_manyOrders 65 = .ok (.getfield 69, 3) := by decide +kernel
theorem dX9_manyOrders_68 : decode cX9_manyOrders 68 = .ok (.if_icmp .ge 27, 3) := by decide +kernel
theorem dX9_manyOrders_71 : decode cX9_manyOrders 71 = .ok (.iload_n 1, 1) := by decide +kernel
theorem dX9_manyOrders_72 : decode cX9_manyOrders 72 = .ok (.ifCond .ne 23, 3) := by decide +kernel
theorem dX9_manyOrders_75 : decode cX9_manyOrders 75 = .ok (.aload_n 0, 1) := by decide +kernel
theorem dX9_manyOrders_76 : decode cX9_manyOrders 76 = .ok (.getfield 52, 3) := by decide +kernel
theorem dX9_manyOrders_79 : decode cX9_manyOrders 79 = .ok (.iload 4, 2) := by decide +kernel
theorem dX9_manyOrders_81 : decode cX9_manyOrders 81 = .ok (.aload_n 0, 1) := by decide +kernel
theorem dX9_manyOrders_82 : decode cX9_manyOrders 82 = .ok (.getfield 49, 3) := by decide +kernel
theorem dX9_manyOrders_85 : decode cX9_manyOrders 85 = .ok (.iload 4, 2) := by decide +kernel
theorem dX9_manyOrders_87 : decode cX9_manyOrders 87 = .ok (.iaload, 1) := by decide +kernel
theorem dX9_manyOrders_88 : decode cX9_manyOrders 88 = .ok (.iastore, 1) := by decide +kernel
theorem dX9_manyOrders_89 : decode cX9_manyOrders 89 = .ok (.iinc 4 1, 3) := by decide +kernel
theorem dX9_manyOrders_92 : decode cX9_manyOrders 92 = .ok (.goto (-30), 3) := by decide +kernel
theorem dX9_manyOrders_95 : decode cX9_manyOrders 95 = .ok (.iinc 1 1, 3) := by decide +kernel
theorem dX9_manyOrders_98 : decode cX9_manyOrders 98 = .ok (.iinc 2 (-1), 3) := by decide +kernel
theorem dX9_manyOrders_101 : decode cX9_manyOrders 101 = .ok (.goto 70, 3) := by decide +kernel
theorem dX9_manyOrders_104 : decode cX9_manyOrders 104 = .ok (.aload_n 0, 1) := by decide +kernel
theorem dX9_manyOrders_105 : decode cX9_manyOrders 105 = .ok (.getfield 49, 3) := by decide +kernel
theorem dX9_manyOrders_108 : decode cX9_manyOrders 108 = .ok (.iload_n 2, 1) := by decide +kernel
theorem dX9_manyOrders_109 : decode cX9_manyOrders 109 = .ok (.iaload, 1) := by decide +kernel
theorem dX9_manyOrders_110 : decode cX9_manyOrders 110 = .ok (.iconst 1, 1) := by decide +kernel
theorem dX9_manyOrders_111 : decode cX9_manyOrders 111 = .ok (.iadd, 1) := by decide +kernel
theorem dX9_manyOrders_112 : decode cX9_manyOrders 112 = .ok (.istore 4, 2) := by decide +kernel
theorem dX9_manyOrders_114 : decode cX9_manyOrders 114 = .ok (.iload 4, 2) := by decide +kernel
theorem dX9_manyOrders_116 : decode cX9_manyOrders 116 = .ok (.aload_n 0, 1) := by decide +kernel
theorem dX9_manyOrders_117 : decode cX9_manyOrders 117 = .ok (.getfield 69, 3) := by decide +kernel
theorem dX9_manyOrders_120 : decode cX9_manyOrders 120 = .ok (.if_icmp .ge 18, 3) := by decide +kernel
theorem dX9_manyOrders_123 : decode cX9_manyOrders 123 = .ok (.iload_n 3, 1) := by decide +kernel
theorem dX9_manyOrders_124 : decode cX9_manyOrders 124 = .ok (.iload 4, 2) := by decide +kernel
theorem dX9_manyOrders_126 : decode cX9_manyOrders 126 = .ok (.invokestatic 141, 3) := by decide +kernel
theorem dX9_manyOrders_129 : decode cX9_manyOrders 129 = .ok (.ifCond .eq 9, 3) := by decide +kernel
theorem dX9_manyOrders_132 : decode cX9_manyOrders 132 = .ok (.iinc 4 1, 3) := by decide +kernel
theorem dX9_manyOrders_135 : decode cX9_manyOrders 135 = .ok (.goto (-21), 3) := by decide +kernel
theorem dX9_manyOrders_138 : decode cX9_manyOrders 138 = .ok (.aload_n 0, 1) := by decide +kernel
theorem dX9_manyOrders_139 : decode cX9_manyOrders 139 = .ok (.getfield 49, 3) := by decide +kernel
theorem dX9_manyOrders_142 : decode cX9_manyOrders 142 = .ok (.iload_n 2, 1) := by decide +kernel
theorem dX9_manyOrders_143 : decode cX9_manyOrders 143 = .ok (.iload 4, 2) := by decide +kernel
theorem dX9_manyOrders_145 : decode cX9_manyOrders 145 = .ok (.iastore, 1) := by decide +kernel
theorem dX9_manyOrders_146 : decode cX9_manyOrders 146 = .ok (.iload 4, 2) := by decide +kernel
theorem dX9_manyOrders_148 : decode cX9_manyOrders 148 = .ok (.aload_n 0, 1) := by decide +kernel
theorem dX9_manyOrders_149 : decode cX9_manyOrders 149 = .ok (.getfield 69, 3) := by decide +kernel
theorem dX9_manyOrders_152 : decode cX9_manyOrders 152 = .ok (.if_icmp .ne 9, 3) := by decide +kernel
theorem dX9_manyOrders_155 : decode cX9_manyOrders 155 = .ok (.iinc 2 (-1), 3) := by decide +kernel
theorem dX9_manyOrders_158 : decode cX9_manyOrders 158 = .ok (.goto 13, 3) := by decide +kernel
theorem dX9_manyOrders_161 : decode cX9_manyOrders 161 = .ok (.iinc 2 1, 3) := by decide +kernel
theorem dX9_manyOrders_164 : decode cX9_manyOrders 164 = .ok (.aload_n 0, 1) := by decide +kernel
theorem dX9_manyOrders_165 : decode cX9_manyOrders 165 = .ok (.getfield 49, 3) := by decide +kernel
theorem dX9_manyOrders_168 : decode cX9_manyOrders 168 = .ok (.iload_n 2, 1) := by decide +kernel
theorem dX9_manyOrders_169 : decode cX9_manyOrders 169 = .ok (.iconst (-1), 1) := by decide +kernel
theorem dX9_manyOrders_170 : decode cX9_manyOrders 170 = .ok (.iastore, 1) := by decide +kernel
theorem dX9_manyOrders_171 : decode cX9_manyOrders 171 = .ok (.goto (-160), 3) := by decide +kernel
theorem dX9_manyOrders_174 : decode cX9_manyOrders 174 = .ok (.iload_n 1, 1) := by decide +kernel
theorem dX9_manyOrders_175 : decode cX9_manyOrders 175 = .ok (.ireturn, 1) := by decide +kernel
theorem dX9_orders_0 : decode cX9_orders 0 = .ok (.iload_n 1, 1) := by decide +kernel
theorem dX9_orders_1 : decode cX9_orders 1 = .ok (.i2l, 1) := by decide +kernel
theorem dX9_orders_2 : decode cX9_orders 2 = .ok (.ldc2_w 202, 3) := by decide +kernel
theorem dX9_orders_5 : decode cX9_orders 5 = .ok (.aload_n 0, 1) := by decide +kernel
theorem dX9_orders_6 : decode cX9_orders 6 = .ok (.getfield 69, 3) := by decide +kernel
theorem dX9_orders_9 : decode cX9_orders 9 = .ok (.iconst 1, 1) := by decide +kernel
theorem dX9_orders_10 : decode cX9_orders 10 = .ok (.isub, 1) := by decide +kernel
theorem dX9_orders_11 : decode cX9_orders 11 = .ok (.i2l, 1) := by decide +kernel
theorem dX9_orders_12 : decode cX9_orders 12 = .ok (.invokestatic 73, 3) := by decide +kernel
theorem dX9_orders_15 : decode cX9_orders 15 = .ok (.ifCond .ne 5, 3) := by decide +kernel
theorem dX9_orders_18 : decode cX9_orders 18 = .ok (.iconst (-1), 1) := by decide +kernel
theorem dX9_orders_19 : decode cX9_orders 19 = .ok (.ireturn, 1) := by decide +kernel
theorem dX9_orders_20 : decode cX9_orders 20 = .ok (.aload_n 0, 1) := by decide +kernel
theorem dX9_orders_21 : decode cX9_orders 21 = .ok (.invokevirtual 204, 3) := by decide +kernel
theorem dX9_orders_24 : decode cX9_orders 24 = .ok (.istore_n 2, 1) := by decide +kernel
theorem dX9_orders_25 : decode cX9_orders 25 = .ok (.iload_n 1, 1) := by decide +kernel
theorem dX9_orders_26 : decode cX9_orders 26 = .ok (.ifCond .ge 7, 3) := by decide +kernel
theorem dX9_orders_29 : decode cX9_orders 29 = .ok (.iload_n 2, 1) := by decide +kernel
theorem dX9_orders_30 : decode cX9_orders 30 = .ok (.goto 18, 3) := by decide +kernel
theorem dX9_orders_33 : decode cX9_orders 33 = .ok (.iload_n 2, 1) := by decide +kernel
theorem dX9_orders_34 : decode cX9_orders 34 = .ok (.ifCond .ne 8, 3) := by decide +kernel
theorem dX9_orders_37 : decode cX9_orders 37 = .ok (.bipush (-4), 2) := by decide +kernel
theorem dX9_orders_39 : decode cX9_orders 39 = .ok (.goto 9, 3) := by decide +kernel
theorem dX9_orders_42 : decode cX9_orders 42 = .ok (.aload_n 0, 1) := by decide +kernel
theorem dX9_orders_43 : decode cX9_orders 43 = .ok (.getfield 52, 3) := by decide +kernel
theorem dX9_orders_46 : decode cX9_orders 46 = .ok (.iload_n 1, 1) := by decide +kernel
theorem dX9_orders_47 : decode cX9_orders 47 = .ok (.iaload, 1) := by decide +kernel
theorem dX9_orders_48 : decode cX9_orders 48 = .ok (.ireturn, 1) := by decide +kernel
theorem dX9_absent_0 : decode cX9_absent 0 = .ok (.aload_n 0, 1) := by decide +kernel
theorem dX9_absent_1 : decode cX9_absent 1 = .ok (.iload_n 1, 1) := by decide +kernel
theorem dX9_absent_2 : decode cX9_absent 2 = .ok (.invokevirtual 131, 3) := by decide +kernel
theorem dX9_absent_5 : decode cX9_absent 5 = .ok (.ifCond .eq 25, 3) := by decide +kernel
theorem dX9_absent_8 : decode cX9_absent 8 = .ok (.iload_n 2, 1) := by decide +kernel
theorem dX9_absent_9 : decode cX9_absent 9 = .ok (.i2l, 1) := by decide +kernel
theorem dX9_absent_10 : decode cX9_absent 10 = .ok (.lconst 0, 1) := by decide +kernel
theorem dX9_absent_11 : decode cX9_absent 11 = .ok (.ldc2_w 207, 3) := by decide +kernel
theorem dX9_absent_14 : decode cX9_absent 14 = .ok (.invokestatic 73, 3) := by decide +kernel
theorem dX9_absent_17 : decode cX9_absent 17 = .ok (.ifCond .eq 13, 3) := by decide +kernel
theorem dX9_absent_20 : decode cX9_absent 20 = .ok (.iload_n 3, 1) := by decide +kernel
theorem dX9_absent_21 : decode cX9_absent 21 = .ok (.i2l, 1) := by decide +kernel
theorem dX9_absent_22 : decode cX9_absent 22 = .ok (.lconst 0, 1) := by decide +kernel
theorem dX9_absent_23 : decode cX9_absent 23 = .ok (.lconst 1, 1) := by decide +kernel
theorem dX9_absent_24 : decode cX9_absent 24 = .ok (.invokestatic 73, 3) := by decide +kernel
theorem dX9_absent_27 : decode cX9_absent 27 = .ok (.ifCond .ne 5, 3) := by decide +kernel
theorem dX9_absent_30 : decode cX9_absent 30 = .ok (.iconst (-1), 1) := by decide +kernel
theorem dX9_absent_31 : decode cX9_absent 31 = .ok (.ireturn, 1) := by decide +kernel
theorem dX9_absent_32 : decode cX9_absent 32 = .ok (.iconst 0, 1) := by decide +kernel
theorem dX9_absent_33 : decode cX9_absent 33 = .ok (.istore 4, 2) := by decide +kernel
theorem dX9_absent_35 : decode cX9_absent 35 = .ok (.iconst 1, 1) := by decide +kernel
theorem dX9_absent_36 : decode cX9_absent 36 = .ok (.istore 5, 2) := by decide +kernel
theorem dX9_absent_38 : decode cX9_absent 38 = .ok (.iconst 0, 1) := by decide +kernel
theorem dX9_absent_39 : decode cX9_absent 39 = .ok (.istore 6, 2) := by decide +kernel
theorem dX9_absent_41 : decode cX9_absent 41 = .ok (.iload 6, 2) := by decide +kernel
theorem dX9_absent_43 : decode cX9_absent 43 = .ok (.aload_n 0, 1) := by decide +kernel
theorem dX9_absent_44 : decode cX9_absent 44 = .ok (.getfield 69, 3) := by decide +kernel
theorem dX9_absent_47 : decode cX9_absent 47 = .ok (.if_icmp .ge 32, 3) := by decide +kernel
theorem dX9_absent_50 : decode cX9_absent 50 = .ok (.iload 5, 2) := by decide +kernel
theorem dX9_absent_52 : decode cX9_absent 52 = .ok (.aload_n 0, 1) := by decide +kernel
theorem dX9_absent_53 : decode cX9_absent 53 = .ok (.getfield 7, 3) := by decide +kernel
theorem dX9_absent_56 : decode cX9_absent 56 = .ok (.iconst 2, 1) := by decide +kernel
theorem dX9_absent_57 : decode cX9_absent 57 = .ok (.iload 6, 2) := by decide +kernel
theorem dX9_absent_59 : decode cX9_absent 59 = .ok (.iadd, 1) := by decide +kernel
theorem dX9_absent_60 : decode cX9_absent 60 = .ok (.iaload, 1) := by decide +kernel
theorem dX9_absent_61 : decode cX9_absent 61 = .ok (.ifCond .ne 8, 3) := by decide +kernel
theorem dX9_absent_64 : decode cX9_absent 64 = .ok (.bipush 10, 2) := by decide +kernel
theorem dX9_absent_66 : decode cX9_absent 66 = .ok (.goto 4, 3) := by decide +kernel
theorem dX9_absent_69 : decode cX9_absent 69 = .ok (.iconst 1, 1) := by decide +kernel
theorem dX9_absent_70 : decode cX9_absent 70 = .ok (.imul, 1) := by decide +kernel
theorem dX9_absent_71 : decode cX9_absent 71 = .ok (.istore 5, 2) := by decide +kernel
theorem dX9_absent_73 : decode cX9_absent 73 = .ok (.iinc 6 1, 3) := by decide +kernel
theorem dX9_absent_76 : decode cX9_absent 76 = .ok (.goto (-35), 3) := by decide +kernel
theorem dX9_absent_79 : decode cX9_absent 79 = .ok (.iconst 0, 1) := by decide +kernel
theorem dX9_absent_80 : decode cX9_absent 80 = .ok (.istore 6, 2) := by decide +kernel
theorem dX9_absent_82 : decode cX9_absent 82 = .ok (.iload 6, 2) := by decide +kernel
theorem dX9_absent_84 : decode cX9_absent 84 = .ok (.iconst 1, 1) := by decide +kernel
theorem dX9_absent_85 : decode cX9_absent 85 = .ok (.aload_n 0, 1) := by decide +kernel
theorem dX9_absent_86 : decode cX9_absent 86 = .ok (.getfield 69, 3) := by decide +kernel
theorem dX9_absent_89 : decode cX9_absent 89 = .ok (.ishl, 1) := by decide +kernel
theorem dX9_absent_90 : decode cX9_absent 90 = .ok (.if_icmp .ge 168, 3) := by decide +kernel
theorem dX9_absent_93 : decode cX9_absent 93 = .ok (.iconst 1, 1) := by decide +kernel
theorem dX9_absent_94 : decode cX9_absent 94 = .ok (.istore 7, 2) := by decide +kernel
theorem dX9_absent_96 : decode cX9_absent 96 = .ok (.aload_n 0, 1) := by decide +kernel
theorem dX9_absent_97 : decode cX9_absent 97 = .ok (.invokevirtual 181, 3) := by decide +kernel
theorem dX9_absent_100 : decode cX9_absent 100 = .ok (.iconst 0, 1) := by decide +kernel
theorem dX9_absent_101 : decode cX9_absent 101 = .ok (.istore 8, 2) := by decide +kernel
theorem dX9_absent_103 : decode cX9_absent 103 = .ok (.iload 8, 2) := by decide +kernel
theorem dX9_absent_105 : decode cX9_absent 105 = .ok (.aload_n 0, 1) := by decide +kernel
theorem dX9_absent_106 : decode cX9_absent 106 = .ok (.getfield 69, 3) := by decide +kernel
theorem dX9_absent_109 : decode cX9_absent 109 = .ok (.if_icmp .ge 92, 3) := by decide +kernel
theorem dX9_absent_112 : decode cX9_absent 112 = .ok (.aload_n 0, 1) := by decide +kernel
theorem dX9_absent_113 : decode cX9_absent 113 = .ok (.getfield 7, 3) := by decide +kernel
theorem dX9_absent_116 : decode cX9_absent 116 = .ok (.iconst 2, 1) := by decide +kernel
theorem dX9_absent_117 : decode cX9_absent 117 = .ok (.iload 8, 2) := by decide +kernel
theorem dX9_absent_119 : decode cX9_absent 119 = .ok (.iadd, 1) := by decide +kernel
theorem dX9_absent_120 : decode cX9_absent 120 = .ok (.iaload, 1) := by decide +kernel
theorem dX9_absent_121 : decode cX9_absent 121 = .ok (.ifCond .ne 54, 3) := by decide +kernel
theorem dX9_absent_124 : decode cX9_absent 124 = .ok (.iload 7, 2) := by decide +kernel
theorem dX9_absent_126 : decode cX9_absent 126 = .ok (.iload 6, 2) := by decide +kernel
theorem dX9_absent_128 : decode cX9_absent 128 = .ok (.iload 8, 2) := by decide +kernel
theorem dX9_absent_130 : decode cX9_absent 130 = .ok (.invokestatic 141, 3) := by decide +kernel
theorem dX9_absent_133 : decode cX9_absent 133 = .ok (.ifCond .eq 7, 3) := by decide +kernel
theorem dX9_absent_136 : decode cX9_absent 136 = .ok (.iload_n 2, 1) := by decide +kernel
theorem dX9_absent_137 : decode cX9_absent 137 = .ok (.goto 7, 3) := by decide +kernel
theorem dX9_absent_140 : decode cX9_absent 140 = .ok (.bipush 10, 2) := by decide +kernel
theorem dX9_absent_142 : decode cX9_absent 142 = .ok (.iload_n 2, 1) := by decide +kernel
theorem dX9_absent_143 : decode cX9_absent 143 = .ok (.isub, 1) := by decide +kernel
theorem dX9_absent_144 : decode cX9_absent 144 = .ok (.imul, 1) := by decide +kernel
theorem dX9_absent_145 : decode cX9_absent 145 = .ok (.istore 7, 2) := by decide +kernel
theorem dX9_absent_147 : decode cX9_absent 147 = .ok (.aload_n 0, 1) := by decide +kernel
theorem dX9_absent_148 : decode cX9_absent 148 = .ok (.getfield 7, 3) := by decide +kernel
theorem dX9_absent_151 : decode cX9_absent 151 = .ok (.bipush 53, 2) := by decide +kernel
theorem dX9_absent_153 : decode cX9_absent 153 = .ok (.iload 8, 2) := by decide +kernel
theorem dX9_absent_155 : decode cX9_absent 155 = .ok (.iadd, 1) := by decide +kernel
theorem dX9_absent_156 : decode cX9_absent 156 = .ok (.iload 6, 2) := by decide +kernel
theorem dX9_absent_158 : decode cX9_absent 158 = .ok (.iload 8, 2) := by decide +kernel
theorem dX9_absent_160 : decode cX9_absent 160 = .ok (.invokestatic 141, 3) := by decide +kernel
theorem dX9_absent_163 : decode cX9_absent 163 = .ok (.ifCond .eq 7, 3) := by decide +kernel
theorem dX9_absent_166 : decode cX9_absent 166 = .ok (.iconst 3, 1) := by decide +kernel
theorem dX9_absent_167 : decode cX9_absent 167 = .ok (.goto 4, 3) := by decide +kernel
theorem dX9_absent_170 : decode cX9_absent 170 = .ok (.iconst 0, 1) := by decide +kernel
theorem dX9_absent_171 : decode cX9_absent 171 = .ok (.iastore, 1) := by decide +kernel
theorem dX9_absent_172 : decode cX9_absent 172 = .ok (.goto 23, 3) := by decide +kernel
theorem dX9_absent_175 : decode cX9_absent 175 = .ok (.iload 7, 2) := by decide +kernel
theorem dX9_absent_177 : decode cX9_absent 177 = .ok (.iload 6, 2) := by decide +kernel
theorem dX9_absent_179 : decode cX9_absent 179 = .ok (.iload 8, 2) := by decide +kernel
theorem dX9_absent_181 : decode cX9_absent 181 = .ok (.invokestatic 141, 3) := by decide +kernel
theorem dX9_absent_184 : decode cX9_absent 184 = .ok (.ifCond .eq 7, 3) := by decide +kernel
theorem dX9_absent_187 : decode cX9_absent 187 = .ok (.iconst 0, 1) := by decide +kernel
theorem dX9_absent_188 : decode cX9_absent 188 = .ok (.goto 4, 3) := by decide +kernel
theorem dX9_absent_191 : decode cX9_absent 191 = .ok (.iconst 1, 1) := by decide +kernel
theorem dX9_absent_192 : decode cX9_absent 192 = .ok (.imul, 1) := by decide +kernel
theorem dX9_absent_193 : decode cX9_absent 193 = .ok (.istore 7, 2) := by decide +kernel
theorem dX9_absent_195 : decode cX9_absent 195 = .ok (.iinc 8 1, 3) := by decide +kernel
theorem dX9_absent_198 : decode cX9_absent 198 = .ok (.goto (-95), 3) := by decide +kernel
theorem dX9_absent_201 : decode cX9_absent 201 = .ok (.iload 7, 2) := by decide +kernel
theorem dX9_absent_203 : decode cX9_absent 203 = .ok (.ifCond .le 49, 3) := by decide +kernel
theorem dX9_absent_206 : decode cX9_absent 206 = .ok (.iconst 0, 1) := by decide +kernel
theorem dX9_absent_207 : decode cX9_absent 207 = .ok (.istore 8, 2) := by decide +kernel
theorem dX9_absent_209 : decode cX9_absent 209 = .ok (.iload 8, 2) := by decide +kernel
theorem dX9_absent_211 : decode cX9_absent 211 = .ok (.bipush 99, 2) := by decide +kernel
theorem dX9_absent_213 : decode cX9_absent 213 = .ok (.if_icmp .ge 15, 3) := by decide +kernel
theorem dX9_absent_216 : decode cX9_absent 216 = .ok (.aload_n 0, 1) := by decide +kernel
theorem dX9_absent_217 : decode cX9_absent 217 = .ok (.bipush 51, 2) := by decide +kernel
theorem dX9_absent_219 : decode cX9_absent 219 = .ok (.invokevirtual 163, 3) := by decide +kernel
theorem dX9_absent_222 : decode cX9_absent 222 = .ok (.iinc 8 1, 3) := by decide +kernel
theorem dX9_absent_225 : decode cX9_absent 225 = .ok (.goto (-16), 3) := by decide +kernel
theorem dX9_absent_228 : decode cX9_absent 228 = .ok (.iload 4, 2) := by decide +kernel
theorem dX9_absent_230 : decode cX9_absent 230 = .ok (.aload_n 0, 1) := by decide +kernel
theorem dX9_absent_231 : decode cX9_absent 231 = .ok (.getfield 7, 3) := by decide +kernel
theorem dX9_absent_234 : decode cX9_absent 234 = .ok (.bipush 53, 2) := by decide +kernel
theorem dX9_absent_236 : decode cX9_absent 236 = .ok (.iload_n 1, 1) := by decide +kernel
theorem dX9_absent_237 : decode cX9_absent 237 = .ok (.iadd, 1) := by decide +kernel
theorem dX9_absent_238 : decode cX9_absent 238 = .ok (.iaload, 1) := by decide +kernel
theorem dX9_absent_239 : decode cX9_absent 239 = .ok (.iconst 2, 1) := by decide +kernel
theorem dX9_absent_240 : decode cX9_absent 240 = .ok (.if_icmp .ne 8, 3) := by decide +kernel
theorem dX9_absent_243 : decode cX9_absent 243 = .ok (.iload 7, 2) := by decide +kernel
theorem dX9_absent_245 : decode cX9_absent 245 = .ok (.goto 4, 3) := by decide +kernel
theorem dX9_absent_248 : decode cX9_absent 248 = .ok (.iconst 0, 1) := by decide +kernel
theorem dX9_absent_249 : decode cX9_absent 249 = .ok (.iadd, 1) := by decide +kernel
theorem dX9_absent_250 : decode cX9_absent 250 = .ok (.istore 4, 2) := by decide +kernel
theorem dX9_absent_252 : decode cX9_absent 252 = .ok (.iinc 6 1, 3) := by decide +kernel
theorem dX9_absent_255 : decode cX9_absent 255 = .ok (.goto (-173), 3) := by decide +kernel
theorem dX9_absent_258 : decode cX9_absent 258 = .ok (.iload 4, 2) := by decide +kernel
theorem dX9_absent_260 : decode cX9_absent 260 = .ok (.istore 6, 2) := by decide +kernel
theorem dX9_absent_262 : decode cX9_absent 262 = .ok (.iload 5, 2) := by decide +kernel
theorem dX9_absent_264 : decode cX9_absent 264 = .ok (.istore 7, 2) := by decide +kernel
theorem dX9_absent_266 : decode cX9_absent 266 = .ok (.iload 7, 2) := by decide +kernel
theorem dX9_absent_268 : decode cX9_absent 268 = .ok (.ifCond .eq 21, 3) := by decide +kernel
theorem dX9_absent_271 : decode cX9_absent 271 = .ok (.iload 6, 2) := by decide +kernel
theorem dX9_absent_273 : decode cX9_absent 273 = .ok (.iload 7, 2) := by decide +kernel
theorem dX9_absent_275 : decode cX9_absent 275 = .ok (.irem, 1) := by decide +kernel
theorem dX9_absent_276 : decode cX9_absent 276 = .ok (.istore 8, 2) := by decide +kernel
theorem dX9_absent_278 : decode cX9_absent 278 = .ok (.iload 7, 2) := by decide +kernel
theorem dX9_absent_280 : decode cX9_absent 280 = .ok (.istore 6, 2) := by decide +kernel
theorem dX9_absent_282 : decode cX9_absent 282 = .ok (.iload 8, 2) := by decide +kernel
theorem dX9_absent_284 : decode cX9_absent 284 = .ok (.istore 7, 2) := by decide +kernel
theorem dX9_absent_286 : decode cX9_absent 286 = .ok (.goto (-20), 3) := by decide +kernel
theorem dX9_absent_289 : decode cX9_absent 289 = .ok (.iload_n 3, 1) := by decide +kernel
theorem dX9_absent_290 : decode cX9_absent 290 = .ok (.ifCond .ne 11, 3) := by decide +kernel
theorem dX9_absent_293 : decode cX9_absent 293 = .ok (.iload 4, 2) := by decide +kernel
theorem dX9_absent_295 : decode cX9_absent 295 = .ok (.iload 6, 2) := by decide +kernel
theorem dX9_absent_297 : decode cX9_absent 297 = .ok (.idiv, 1) := by decide +kernel
theorem dX9_absent_298 : decode cX9_absent 298 = .ok (.goto 8, 3) := by decide +kernel
theorem dX9_absent_301 : decode cX9_absent 301 = .ok (.iload 5, 2) := by decide +kernel
theorem dX9_absent_303 : decode cX9_absent 303 = .ok (.iload 6, 2) := by decide +kernel
theorem dX9_absent_305 : decode cX9_absent 305 = .ok (.idiv, 1) := by decide +kernel
theorem dX9_absent_306 : decode cX9_absent 306 = .ok (.ireturn, 1) := by decide +kernel
theorem dX9_doesBy_0 : decode cX9_doesBy 0 = .ok (.iload_n 1, 1) := by decide +kernel
theorem dX9_doesBy_1 : decode cX9_doesBy 1 = .ok (.bipush 8, 2) := by decide +kernel
theorem dX9_doesBy_3 : decode cX9_doesBy 3 = .ok (.idiv, 1) := by decide +kernel
theorem dX9_doesBy_4 : decode cX9_doesBy 4 = .ok (.aload_n 0, 1) := by decide +kernel
theorem dX9_doesBy_5 : decode cX9_doesBy 5 = .ok (.getfield 69, 3) := by decide +kernel
theorem dX9_doesBy_8 : decode cX9_doesBy 8 = .ok (.irem, 1) := by decide +kernel
theorem dX9_doesBy_9 : decode cX9_doesBy 9 = .ok (.istore_n 2, 1) := by decide +kernel
theorem dX9_doesBy_10 : decode cX9_doesBy 10 = .ok (.iload_n 1, 1) := by decide +kernel
theorem dX9_doesBy_11 : decode cX9_doesBy 11 = .ok (.bipush 8, 2) := by decide +kernel
theorem dX9_doesBy_13 : decode cX9_doesBy 13 = .ok (.irem, 1) := by decide +kernel
theorem dX9_doesBy_14 : decode cX9_doesBy 14 = .ok (.istore_n 3, 1) := by decide +kernel
theorem dX9_doesBy_15 : decode cX9_doesBy 15 = .ok (.iload_n 3, 1) := by decide +kernel
theorem dX9_doesBy_16 : decode cX9_doesBy 16 = .ok (.ifCond .ne 62, 3) := by decide +kernel
theorem dX9_doesBy_19 : decode cX9_doesBy 19 = .ok (.aload_n 0, 1) := by decide +kernel
theorem dX9_doesBy_20 : decode cX9_doesBy 20 = .ok (.getfield 7, 3) := by decide +kernel
theorem dX9_doesBy_23 : decode cX9_doesBy 23 = .ok (.bipush 51, 2) := by decide +kernel
theorem dX9_doesBy_25 : decode cX9_doesBy 25 = .ok (.iaload, 1) := by decide +kernel
theorem dX9_doesBy_26 : decode cX9_doesBy 26 = .ok (.iload_n 1, 1) := by decide +kernel
theorem dX9_doesBy_27 : decode cX9_doesBy 27 = .ok (.bipush 64, 2) := by decide +kernel
theorem dX9_doesBy_29 : decode cX9_doesBy 29 = .ok (.idiv, 1) := by decide +kernel
theorem dX9_doesBy_30 : decode cX9_doesBy 30 = .ok (.bipush 8, 2) := by decide +kernel
theorem dX9_doesBy_32 : decode cX9_doesBy 32 = .ok (.irem, 1) := by decide +kernel
theorem dX9_doesBy_33 : decode cX9_doesBy 33 = .ok (.iadd, 1) := by decide +kernel
theorem dX9_doesBy_34 : decode cX9_doesBy 34 = .ok (.istore 4, 2) := by decide +kernel
theorem dX9_doesBy_36 : decode cX9_doesBy 36 = .ok (.iload 4, 2) := by decide +kernel
theorem dX9_doesBy_38 : decode cX9_doesBy 38 = .ok (.bipush 40, 2) := by decide +kernel
theorem dX9_doesBy_40 : decode cX9_doesBy 40 = .ok (.if_icmp .le 8, 3) := by decide +kernel
theorem dX9_doesBy_43 : decode cX9_doesBy 43 = .ok (.bipush 40, 2) := by decide +kernel
theorem dX9_doesBy_45 : decode cX9_doesBy 45 = .ok (.goto 5, 3) := by decide +kernel
theorem dX9_doesBy_48 : decode cX9_doesBy 48 = .ok (.iload 4, 2) := by decide +kernel
theorem dX9_doesBy_50 : decode cX9_doesBy 50 = .ok (.istore 4, 2) := by decide +kernel
theorem dX9_doesBy_52 : decode cX9_doesBy 52 = .ok (.aload_n 0, 1) := by decide +kernel
theorem dX9_doesBy_53 : decode cX9_doesBy 53 = .ok (.bipush 51, 2) := by decide +kernel
theorem dX9_doesBy_55 : decode cX9_doesBy 55 = .ok (.iload_n 2, 1) := by decide +kernel
theorem dX9_doesBy_56 : decode cX9_doesBy 56 = .ok (.iload 4, 2) := by decide +kernel
theorem dX9_doesBy_58 : decode cX9_doesBy 58 = .ok (.invokevirtual 168, 3) := by decide +kernel
theorem dX9_doesBy_61 : decode cX9_doesBy 61 = .ok (.ifCond .eq 14, 3) := by decide +kernel
theorem dX9_doesBy_64 : decode cX9_doesBy 64 = .ok (.aload_n 0, 1) := by decide +kernel
theorem dX9_doesBy_65 : decode cX9_doesBy 65 = .ok (.getfield 7, 3) := by decide +kernel
theorem dX9_doesBy_68 : decode cX9_doesBy 68 = .ok (.bipush 60, 2) := by decide +kernel
theorem dX9_doesBy_70 : decode cX9_doesBy 70 = .ok (.iload_n 2, 1) := by decide +kernel
theorem dX9_doesBy_71 : decode cX9_doesBy 71 = .ok (.iadd, 1) := by decide +kernel
theorem dX9_doesBy_72 : decode cX9_doesBy 72 = .ok (.iload 4, 2) := by decide +kernel
theorem dX9_doesBy_74 : decode cX9_doesBy 74 = .ok (.iastore, 1) := by decide +kernel
theorem dX9_doesBy_75 : decode cX9_doesBy 75 = .ok (.goto 70, 3) := by decide +kernel
theorem dX9_doesBy_78 : decode cX9_doesBy 78 = .ok (.iload_n 3, 1) := by decide +kernel
theorem dX9_doesBy_79 : decode cX9_doesBy 79 = .ok (.iconst 1, 1) := by decide +kernel
theorem dX9_doesBy_80 : decode cX9_doesBy 80 = .ok (.if_icmp .ne 28, 3) := by decide +kernel
theorem dX9_doesBy_83 : decode cX9_doesBy 83 = .ok (.aload_n 0, 1) := by decide +kernel
theorem dX9_doesBy_84 : decode cX9_doesBy 84 = .ok (.getfield 7, 3) := by decide +kernel
theorem dX9_doesBy_87 : decode cX9_doesBy 87 = .ok (.bipush 53, 2) := by decide +kernel
theorem dX9_doesBy_89 : decode cX9_doesBy 89 = .ok (.iload_n 2, 1) := by decide +kernel
theorem dX9_doesBy_90 : decode cX9_doesBy 90 = .ok (.iadd, 1) := by decide +kernel
theorem dX9_doesBy_91 : decode cX9_doesBy 91 = .ok (.iaload, 1) := by decide +kernel
theorem dX9_doesBy_92 : decode cX9_doesBy 92 = .ok (.ifCond .ne 53, 3) := by decide +kernel
theorem dX9_doesBy_95 : decode cX9_doesBy 95 = .ok (.aload_n 0, 1) := by decide +kernel
theorem dX9_doesBy_96 : decode cX9_doesBy 96 = .ok (.getfield 7, 3) := by decide +kernel
theorem dX9_doesBy_99 : decode cX9_doesBy 99 = .ok (.bipush 53, 2) := by decide +kernel
theorem dX9_doesBy_101 : decode cX9_doesBy 101 = .ok (.iload_n 2, 1) := by decide +kernel
theorem dX9_doesBy_102 : decode cX9_doesBy 102 = .ok (.iadd, 1) := by decide +kernel
theorem dX9_doesBy_103 : decode cX9_doesBy 103 = .ok (.iconst 3, 1) := by decide +kernel
theorem dX9_doesBy_104 : decode cX9_doesBy 104 = .ok (.iastore, 1) := by decide +kernel
theorem dX9_doesBy_105 : decode cX9_doesBy 105 = .ok (.goto 40, 3) := by decide +kernel
theorem dX9_doesBy_108 : decode cX9_doesBy 108 = .ok (.iload_n 3, 1) := by decide +kernel
theorem dX9_doesBy_109 : decode cX9_doesBy 109 = .ok (.iconst 2, 1) := by decide +kernel
theorem dX9_doesBy_110 : decode cX9_doesBy 110 = .ok (.if_icmp .ne 35, 3) := by decide +kernel
theorem dX9_doesBy_113 : decode cX9_doesBy 113 = .ok (.iload_n 1, 1) := by decide +kernel
theorem dX9_doesBy_114 : decode cX9_doesBy 114 = .ok (.bipush 64, 2) := by decide +kernel
theorem dX9_doesBy_116 : decode cX9_doesBy 116 = .ok (.idiv, 1) := by decide +kernel
theorem dX9_doesBy_117 : decode cX9_doesBy 117 = .ok (.aload_n 0, 1) := by decide +kernel
theorem dX9_doesBy_118 : decode cX9_doesBy 118 = .ok (.getfield 69, 3) := by decide +kernel
theorem dX9_doesBy_121 : decode cX9_doesBy 121 = .ok (.irem, 1) := by decide +kernel
theorem dX9_doesBy_122 : decode cX9_doesBy 122 = .ok (.istore 4, 2) := by decide +kernel
theorem dX9_doesBy_124 : decode cX9_doesBy 124 = .ok (.aload_n 0, 1) := by decide +kernel
theorem dX9_doesBy_125 : decode cX9_doesBy 125 = .ok (.bipush 51, 2) := by decide +kernel
theorem dX9_doesBy_127 : decode cX9_doesBy 127 = .ok (.iload_n 2, 1) := by decide +kernel
theorem dX9_doesBy_128 : decode cX9_doesBy 128 = .ok (.iload 4, 2) := by decide +kernel
theorem dX9_doesBy_130 : decode cX9_doesBy 130 = .ok (.invokevirtual 174, 3) := by decide +kernel
theorem dX9_doesBy_133 : decode cX9_doesBy 133 = .ok (.ifCond .eq 12, 3) := by decide +kernel
theorem dX9_doesBy_136 : decode cX9_doesBy 136 = .ok (.aload_n 0, 1) := by decide +kernel
theorem dX9_doesBy_137 : decode cX9_doesBy 137 = .ok (.bipush 51, 2) := by decide +kernel
theorem dX9_doesBy_139 : decode cX9_doesBy 139 = .ok (.iload_n 2, 1) := by decide +kernel
theorem dX9_doesBy_140 : decode cX9_doesBy 140 = .ok (.iload 4, 2) := by decide +kernel
theorem dX9_doesBy_142 : decode cX9_doesBy 142 = .ok (.invokevirtual 177, 3) := by decide +kernel
theorem dX9_doesBy_145 : decode cX9_doesBy 145 = .ok (.return_, 1) := by decide +kernel
theorem dX9_coinsOf_0 : decode cX9_coinsOf 0 = .ok (.iconst 0, 1) := by decide +kernel
theorem dX9_coinsOf_1 : decode cX9_coinsOf 1 = .ok (.istore_n 2, 1) := by decide +kernel
theorem dX9_coinsOf_2 : decode cX9_coinsOf 2 = .ok (.iconst 0, 1) := by decide +kernel
theorem dX9_coinsOf_3 : decode cX9_coinsOf 3 = .ok (.istore_n 3, 1) := by decide +kernel
theorem dX9_coinsOf_4 : decode cX9_coinsOf 4 = .ok (.iload_n 3, 1) := by decide +kernel
theorem dX9_coinsOf_5 : decode cX9_coinsOf 5 = .ok (.aload_n 0, 1) := by decide +kernel
theorem dX9_coinsOf_6 : decode cX9_coinsOf 6 = .ok (.getfield 69, 3) := by decide +kernel
theorem dX9_coinsOf_9 : decode cX9_coinsOf 9 = .ok (.if_icmp .ge 23, 3) := by decide +kernel
theorem dX9_coinsOf_12 : decode cX9_coinsOf 12 = .ok (.iload_n 2, 1) := by decide +kernel
theorem dX9_coinsOf_13 : decode cX9_coinsOf 13 = .ok (.aload_n 0, 1) := by decide +kernel
theorem dX9_coinsOf_14 : decode cX9_coinsOf 14 = .ok (.getfield 7, 3) := by decide +kernel
theorem dX9_coinsOf_17 : decode cX9_coinsOf 17 = .ok (.iload_n 1, 1) := by decide +kernel
theorem dX9_coinsOf_18 : decode cX9_coinsOf 18 = .ok (.bipush 44, 2) := by decide +kernel
theorem dX9_coinsOf_20 : decode cX9_coinsOf 20 = .ok (.iadd, 1) := by decide +kernel
theorem dX9_coinsOf_21 : decode cX9_coinsOf 21 = .ok (.iload_n 3, 1) := by decide +kernel
theorem dX9_coinsOf_22 : decode cX9_coinsOf 22 = .ok (.iadd, 1) := by decide +kernel
theorem dX9_coinsOf_23 : decode cX9_coinsOf 23 = .ok (.iaload, 1) := by decide +kernel
theorem dX9_coinsOf_24 : decode cX9_coinsOf 24 = .ok (.iadd, 1) := by decide +kernel
theorem dX9_coinsOf_25 : decode cX9_coinsOf 25 = .ok (.istore_n 2, 1) := by decide +kernel
theorem dX9_coinsOf_26 : decode cX9_coinsOf 26 = .ok (.iinc 3 1, 3) := by decide +kernel
theorem dX9_coinsOf_29 : decode cX9_coinsOf 29 = .ok (.goto (-25), 3) := by decide +kernel
theorem dX9_coinsOf_32 : decode cX9_coinsOf 32 = .ok (.iload_n 2, 1) := by decide +kernel
theorem dX9_coinsOf_33 : decode cX9_coinsOf 33 = .ok (.ireturn, 1) := by decide +kernel
theorem dX9_season_0 : decode cX9_season 0 = .ok (.iload_n 1, 1) := by decide +kernel
theorem dX9_season_1 : decode cX9_season 1 = .ok (.i2l, 1) := by decide +kernel
theorem dX9_season_2 : decode cX9_season 2 = .ok (.lconst 0, 1) := by decide +kernel
theorem dX9_season_3 : decode cX9_season 3 = .ok (.ldc2_w 209, 3) := by decide +kernel
theorem dX9_season_6 : decode cX9_season 6 = .ok (.invokestatic 73, 3) := by decide +kernel
theorem dX9_season_9 : decode cX9_season 9 = .ok (.ifCond .eq 25, 3) := by decide +kernel
theorem dX9_season_12 : decode cX9_season 12 = .ok (.iload_n 2, 1) := by decide +kernel
theorem dX9_season_13 : decode cX9_season 13 = .ok (.i2l, 1) := by decide +kernel
theorem dX9_season_14 : decode cX9_season 14 = .ok (.lconst 1, 1) := by decide +kernel
theorem dX9_season_15 : decode cX9_season 15 = .ok (.ldc2_w 211, 3) := by decide +kernel
theorem dX9_season_18 : decode cX9_season 18 = .ok (.invokestatic 73, 3) := by decide +kernel
theorem dX9_season_21 : decode cX9_season 21 = .ok (.ifCond .eq 13, 3) := by decide +kernel
theorem dX9_season_24 : decode cX9_season 24 = .ok (.iload_n 3, 1) := by decide +kernel
theorem dX9_season_25 : decode cX9_season 25 = .ok (.i2l, 1) := by decide +kernel
theorem dX9_season_26 : decode cX9_season 26 = .ok (.lconst 0, 1) := by decide +kernel
theorem dX9_season_27 : decode cX9_season 27 = .ok (.lconst 1, 1) := by decide +kernel
theorem dX9_season_28 : decode cX9_season 28 = .ok (.invokestatic 73, 3) := by decide +kernel
theorem dX9_season_31 : decode cX9_season 31 = .ok (.ifCond .ne 5, 3) := by decide +kernel
theorem dX9_season_34 : decode cX9_season 34 = .ok (.iconst (-1), 1) := by decide +kernel
theorem dX9_season_35 : decode cX9_season 35 = .ok (.ireturn, 1) := by decide +kernel
theorem dX9_season_36 : decode cX9_season 36 = .ok (.aload_n 0, 1) := by decide +kernel
theorem dX9_season_37 : decode cX9_season 37 = .ok (.invokevirtual 181, 3) := by decide +kernel
theorem dX9_season_40 : decode cX9_season 40 = .ok (.iconst 0, 1) := by decide +kernel
theorem dX9_season_41 : decode cX9_season 41 = .ok (.istore 4, 2) := by decide +kernel
theorem dX9_season_43 : decode cX9_season 43 = .ok (.iload 4, 2) := by decide +kernel
theorem dX9_season_45 : decode cX9_season 45 = .ok (.iload_n 2, 1) := by decide +kernel
theorem dX9_season_46 : decode cX9_season 46 = .ok (.if_icmp .ge 47, 3) := by decide +kernel
theorem dX9_season_49 : decode cX9_season 49 = .ok (.ldc2_w 213, 3) := by decide +kernel
theorem dX9_season_52 : decode cX9_season 52 = .ok (.iload_n 1, 1) := by decide +kernel
theorem dX9_season_53 : decode cX9_season 53 = .ok (.i2l, 1) := by decide +kernel
theorem dX9_season_54 : decode cX9_season 54 = .ok (.lmul, 1) := by decide +kernel
theorem dX9_season_55 : decode cX9_season 55 = .ok (.ldc2_w 215, 3) := by decide +kernel
theorem dX9_season_58 : decode cX9_season 58 = .ok (.iload 4, 2) := by decide +kernel
theorem dX9_season_60 : decode cX9_season 60 = .ok (.i2l, 1) := by decide +kernel
theorem dX9_season_61 : decode cX9_season 61 = .ok (.lmul, 1) := by decide +kernel
theorem dX9_season_62 : decode cX9_season 62 = .ok (.ladd, 1) := by decide +kernel
theorem dX9_season_63 : decode cX9_season 63 = .ok (.lconst 1, 1) := by decide +kernel
theorem dX9_season_64 : decode cX9_season 64 = .ok (.ladd, 1) := by decide +kernel
theorem dX9_season_65 : decode cX9_season 65 = .ok (.lstore 5, 2) := by decide +kernel
theorem dX9_season_67 : decode cX9_season 67 = .ok (.aload_n 0, 1) := by decide +kernel
theorem dX9_season_68 : decode cX9_season 68 = .ok (.lload 5, 2) := by decide +kernel
theorem dX9_season_70 : decode cX9_season 70 = .ok (.lload 5, 2) := by decide +kernel
theorem dX9_season_72 : decode cX9_season 72 = .ok (.lmul, 1) := by decide +kernel
theorem dX9_season_73 : decode cX9_season 73 = .ok (.ldc2_w 217, 3) := by decide +kernel
theorem dX9_season_76 : decode cX9_season 76 = .ok (.lrem, 1) := by decide +kernel
theorem dX9_season_77 : decode cX9_season 77 = .ok (.l2i, 1) := by decide +kernel
theorem dX9_season_78 : decode cX9_season 78 = .ok (.invokevirtual 219, 3) := by decide +kernel
theorem dX9_season_81 : decode cX9_season 81 = .ok (.aload_n 0, 1) := by decide +kernel
theorem dX9_season_82 : decode cX9_season 82 = .ok (.bipush 51, 2) := by decide +kernel
theorem dX9_season_84 : decode cX9_season 84 = .ok (.invokevirtual 163, 3) := by decide +kernel
theorem dX9_season_87 : decode cX9_season 87 = .ok (.iinc 4 1, 3) := by decide +kernel
theorem dX9_season_90 : decode cX9_season 90 = .ok (.goto (-47), 3) := by decide +kernel
theorem dX9_season_93 : decode cX9_season 93 = .ok (.iload_n 3, 1) := by decide +kernel
theorem dX9_season_94 : decode cX9_season 94 = .ok (.ifCond .ne 13, 3) := by decide +kernel
theorem dX9_season_97 : decode cX9_season 97 = .ok (.aload_n 0, 1) := by decide +kernel
theorem dX9_season_98 : decode cX9_season 98 = .ok (.bipush 51, 2) := by decide +kernel
theorem dX9_season_100 : decode cX9_season 100 = .ok (.iconst 2, 1) := by decide +kernel
theorem dX9_season_101 : decode cX9_season 101 = .ok (.invokevirtual 171, 3) := by decide +kernel
theorem dX9_season_104 : decode cX9_season 104 = .ok (.goto 9, 3) := by decide +kernel
theorem dX9_season_107 : decode cX9_season 107 = .ok (.aload_n 0, 1) := by decide +kernel
theorem dX9_season_108 : decode cX9_season 108 = .ok (.bipush 51, 2) := by decide +kernel
theorem dX9_season_110 : decode cX9_season 110 = .ok (.invokevirtual 222, 3) := by decide +kernel
theorem dX9_season_113 : decode cX9_season 113 = .ok (.ireturn, 1) := by decide +kernel
theorem dX9_keep_0 : decode cX9_keep 0 = .ok (.aload_n 0, 1) := by decide +kernel
theorem dX9_keep_1 : decode cX9_keep 1 = .ok (.getfield 86, 3) := by decide +kernel
theorem dX9_keep_4 : decode cX9_keep 4 = .ok (.iconst 2, 1) := by decide +kernel
theorem dX9_keep_5 : decode cX9_keep 5 = .ok (.if_icmp .ne 6, 3) := by decide +kernel
theorem dX9_keep_8 : decode cX9_keep 8 = .ok (.bipush (-3), 2) := by decide +kernel
theorem dX9_keep_10 : decode cX9_keep 10 = .ok (.ireturn, 1) := by decide +kernel
theorem dX9_keep_11 : decode cX9_keep 11 = .ok (.aload_n 0, 1) := by decide +kernel
theorem dX9_keep_12 : decode cX9_keep 12 = .ok (.iconst 0, 1) := by decide +kernel
theorem dX9_keep_13 : decode cX9_keep 13 = .ok (.bipush 102, 2) := by decide +kernel
theorem dX9_keep_15 : decode cX9_keep 15 = .ok (.bipush 51, 2) := by decide +kernel
theorem dX9_keep_17 : decode cX9_keep 17 = .ok (.aload_n 0, 1) := by decide +kernel
theorem dX9_keep_18 : decode cX9_keep 18 = .ok (.getfield 86, 3) := by decide +kernel
theorem dX9_keep_21 : decode cX9_keep 21 = .ok (.imul, 1) := by decide +kernel
theorem dX9_keep_22 : decode cX9_keep 22 = .ok (.iadd, 1) := by decide +kernel
theorem dX9_keep_23 : decode cX9_keep 23 = .ok (.invokevirtual 155, 3) := by decide +kernel
theorem dX9_keep_26 : decode cX9_keep 26 = .ok (.aload_n 0, 1) := by decide +kernel
theorem dX9_keep_27 : decode cX9_keep 27 = .ok (.dup, 1) := by decide +kernel
theorem dX9_keep_28 : decode cX9_keep 28 = .ok (.getfield 86, 3) := by decide +kernel
theorem dX9_keep_31 : decode cX9_keep 31 = .ok (.iconst 1, 1) := by decide +kernel
theorem dX9_keep_32 : decode cX9_keep 32 = .ok (.iadd, 1) := by decide +kernel
theorem dX9_keep_33 : decode cX9_keep 33 = .ok (.putfield 86, 3) := by decide +kernel
theorem dX9_keep_36 : decode cX9_keep 36 = .ok (.aload_n 0, 1) := by decide +kernel
theorem dX9_keep_37 : decode cX9_keep 37 = .ok (.getfield 86, 3) := by decide +kernel
theorem dX9_keep_40 : decode cX9_keep 40 = .ok (.ireturn, 1) := by decide +kernel
theorem dX9_back_0 : decode cX9_back 0 = .ok (.aload_n 0, 1) := by decide +kernel
theorem dX9_back_1 : decode cX9_back 1 = .ok (.getfield 86, 3) := by decide +kernel
theorem dX9_back_4 : decode cX9_back 4 = .ok (.ifCond .ne 6, 3) := by decide +kernel
theorem dX9_back_7 : decode cX9_back 7 = .ok (.bipush (-2), 2) := by decide +kernel
theorem dX9_back_9 : decode cX9_back 9 = .ok (.ireturn, 1) := by decide +kernel
theorem dX9_back_10 : decode cX9_back 10 = .ok (.aload_n 0, 1) := by decide +kernel
theorem dX9_back_11 : decode cX9_back 11 = .ok (.dup, 1) := by decide +kernel
theorem dX9_back_12 : decode cX9_back 12 = .ok (.getfield 86, 3) := by decide +kernel
theorem dX9_back_15 : decode cX9_back 15 = .ok (.iconst 1, 1) := by decide +kernel
theorem dX9_back_16 : decode cX9_back 16 = .ok (.isub, 1) := by decide +kernel
theorem dX9_back_17 : decode cX9_back 17 = .ok (.putfield 86, 3) := by decide +kernel
theorem dX9_back_20 : decode cX9_back 20 = .ok (.aload_n 0, 1) := by decide +kernel
theorem dX9_back_21 : decode cX9_back 21 = .ok (.bipush 102, 2) := by decide +kernel
theorem dX9_back_23 : decode cX9_back 23 = .ok (.bipush 51, 2) := by decide +kernel
theorem dX9_back_25 : decode cX9_back 25 = .ok (.aload_n 0, 1) := by decide +kernel
theorem dX9_back_26 : decode cX9_back 26 = .ok (.getfield 86, 3) := by decide +kernel
theorem dX9_back_29 : decode cX9_back 29 = .ok (.imul, 1) := by decide +kernel
theorem dX9_back_30 : decode cX9_back 30 = .ok (.iadd, 1) := by decide +kernel
theorem dX9_back_31 : decode cX9_back 31 = .ok (.iconst 0, 1) := by decide +kernel
theorem dX9_back_32 : decode cX9_back 32 = .ok (.invokevirtual 155, 3) := by decide +kernel
theorem dX9_back_35 : decode cX9_back 35 = .ok (.aload_n 0, 1) := by decide +kernel
theorem dX9_back_36 : decode cX9_back 36 = .ok (.iconst 0, 1) := by decide +kernel
theorem dX9_back_37 : decode cX9_back 37 = .ok (.putfield 83, 3) := by decide +kernel
theorem dX9_back_40 : decode cX9_back 40 = .ok (.aload_n 0, 1) := by decide +kernel
theorem dX9_back_41 : decode cX9_back 41 = .ok (.getfield 86, 3) := by decide +kernel
theorem dX9_back_44 : decode cX9_back 44 = .ok (.ireturn, 1) := by decide +kernel
theorem dX9_allToDo_0 : decode cX9_allToDo 0 = .ok (.iconst 0, 1) := by decide +kernel
theorem dX9_allToDo_1 : decode cX9_allToDo 1 = .ok (.istore_n 1, 1) := by decide +kernel
theorem dX9_allToDo_2 : decode cX9_allToDo 2 = .ok (.iconst 0, 1) := by decide +kernel
theorem dX9_allToDo_3 : decode cX9_allToDo 3 = .ok (.istore_n 2, 1) := by decide +kernel
theorem dX9_allToDo_4 : decode cX9_allToDo 4 = .ok (.iload_n 2, 1) := by decide +kernel
theorem dX9_allToDo_5 : decode cX9_allToDo 5 = .ok (.aload_n 0, 1) := by decide +kernel
theorem dX9_allToDo_6 : decode cX9_allToDo 6 = .ok (.getfield 69, 3) := by decide +kernel
theorem dX9_allToDo_9 : decode cX9_allToDo 9 = .ok (.if_icmp .ge 21, 3) := by decide +kernel
theorem dX9_allToDo_12 : decode cX9_allToDo 12 = .ok (.iload_n 1, 1) := by decide +kernel
theorem dX9_allToDo_13 : decode cX9_allToDo 13 = .ok (.aload_n 0, 1) := by decide +kernel
theorem dX9_allToDo_14 : decode cX9_allToDo 14 = .ok (.getfield 7, 3) := by decide +kernel
theorem dX9_allToDo_17 : decode cX9_allToDo 17 = .ok (.bipush 23, 2) := by decide +kernel
theorem dX9_allToDo_19 : decode cX9_allToDo 19 = .ok (.iload_n 2, 1) := by decide +kernel
theorem dX9_allToDo_20 : decode cX9_allToDo 20 = .ok (.iadd, 1) := by decide +kernel
theorem dX9_allToDo_21 : decode cX9_allToDo 21 = .ok (.iaload, 1) := by decide +kernel
theorem dX9_allToDo_22 : decode cX9_allToDo 22 = .ok (.iadd, 1) := by decide +kernel
theorem dX9_allToDo_23 : decode cX9_allToDo 23 = .ok (.istore_n 1, 1) := by decide +kernel
theorem dX9_allToDo_24 : decode cX9_allToDo 24 = .ok (.iinc 2 1, 3) := by decide +kernel
theorem dX9_allToDo_27 : decode cX9_allToDo 27 = .ok (.goto (-23), 3) := by decide +kernel
theorem dX9_allToDo_30 : decode cX9_allToDo 30 = .ok (.iload_n 1, 1) := by decide +kernel
theorem dX9_allToDo_31 : decode cX9_allToDo 31 = .ok (.ireturn, 1) := by decide +kernel
theorem dX9_count_0 : decode cX9_count 0 = .ok (.iload_n 1, 1) := by decide +kernel
theorem dX9_count_1 : decode cX9_count 1 = .ok (.tableswitch 145 0 12 #[67, 72, 79, 86, 93, 100, 107, 114, 120, 125, 130, 135, 140], 67) := by decide +kernel
theorem dX9_count_68 : decode cX9_count 68 = .ok (.aload_n 0, 1) := by decide +kernel
theorem dX9_count_69 : decode cX9_count 69 = .ok (.getfield 69, 3) := by decide +kernel
theorem dX9_count_72 : decode cX9_count 72 = .ok (.ireturn, 1) := by decide +kernel
theorem dX9_count_73 : decode cX9_count 73 = .ok (.aload_n 0, 1) := by decide +kernel
theorem dX9_count_74 : decode cX9_count 74 = .ok (.getfield 7, 3) := by decide +kernel
theorem dX9_count_77 : decode cX9_count 77 = .ok (.iconst 0, 1) := by decide +kernel
theorem dX9_count_78 : decode cX9_count 78 = .ok (.iaload, 1) := by decide +kernel
theorem dX9_count_79 : decode cX9_count 79 = .ok (.ireturn, 1) := by decide +kernel
theorem dX9_count_80 : decode cX9_count 80 = .ok (.aload_n 0, 1) := by decide +kernel
theorem dX9_count_81 : decode cX9_count 81 = .ok (.iconst 0, 1) := by decide +kernel
theorem dX9_count_82 : decode cX9_count 82 = .ok (.iconst 0, 1) := by decide +kernel
theorem dX9_count_83 : decode cX9_count 83 = .ok (.invokevirtual 171, 3) := by decide +kernel
theorem dX9_count_86 : decode cX9_count 86 = .ok (.ireturn, 1) := by decide +kernel
theorem dX9_count_87 : decode cX9_count 87 = .ok (.aload_n 0, 1) := by decide +kernel
theorem dX9_count_88 : decode cX9_count 88 = .ok (.iconst 0, 1) := by decide +kernel
theorem dX9_count_89 : decode cX9_count 89 = .ok (.iconst 1, 1) := by decide +kernel
theorem dX9_count_90 : decode cX9_count 90 = .ok (.invokevirtual 171, 3) := by decide +kernel
theorem dX9_count_93 : decode cX9_count 93 = .ok (.ireturn, 1) := by decide +kernel
theorem dX9_count_94 : decode cX9_count 94 = .ok (.aload_n 0, 1) := by decide +kernel
theorem dX9_count_95 : decode cX9_count 95 = .ok (.iconst 0, 1) := by decide +kernel
theorem dX9_count_96 : decode cX9_count 96 = .ok (.iconst 2, 1) := by decide +kernel
theorem dX9_count_97 : decode cX9_count 97 = .ok (.invokevirtual 171, 3) := by decide +kernel
theorem dX9_count_100 : decode cX9_count 100 = .ok (.ireturn, 1) := by decide +kernel
theorem dX9_count_101 : decode cX9_count 101 = .ok (.aload_n 0, 1) := by decide +kernel
theorem dX9_count_102 : decode cX9_count 102 = .ok (.iconst 0, 1) := by decide +kernel
theorem dX9_count_103 : decode cX9_count 103 = .ok (.iconst 3, 1) := by decide +kernel
theorem dX9_count_104 : decode cX9_count 104 = .ok (.invokevirtual 171, 3) := by decide +kernel
theorem dX9_count_107 : decode cX9_count 107 = .ok (.ireturn, 1) := by decide +kernel
theorem dX9_count_108 : decode cX9_count 108 = .ok (.aload_n 0, 1) := by decide +kernel
theorem dX9_count_109 : decode cX9_count 109 = .ok (.getfield 7, 3) := by decide +kernel
theorem dX9_count_112 : decode cX9_count 112 = .ok (.iconst 1, 1) := by decide +kernel
theorem dX9_count_113 : decode cX9_count 113 = .ok (.iaload, 1) := by decide +kernel
theorem dX9_count_114 : decode cX9_count 114 = .ok (.ireturn, 1) := by decide +kernel
theorem dX9_count_115 : decode cX9_count 115 = .ok (.aload_n 0, 1) := by decide +kernel
theorem dX9_count_116 : decode cX9_count 116 = .ok (.iconst 0, 1) := by decide +kernel
theorem dX9_count_117 : decode cX9_count 117 = .ok (.invokevirtual 222, 3) := by decide +kernel
theorem dX9_count_120 : decode cX9_count 120 = .ok (.ireturn, 1) := by decide +kernel
theorem dX9_count_121 : decode cX9_count 121 = .ok (.aload_n 0, 1) := by decide +kernel
theorem dX9_count_122 : decode cX9_count 122 = .ok (.invokevirtual 225, 3) := by decide +kernel
theorem dX9_count_125 : decode cX9_count 125 = .ok (.ireturn, 1) := by decide +kernel
theorem dX9_count_126 : decode cX9_count 126 = .ok (.aload_n 0, 1) := by decide +kernel
theorem dX9_count_127 : decode cX9_count 127 = .ok (.getfield 89, 3) := by decide +kernel
theorem dX9_count_130 : decode cX9_count 130 = .ok (.ireturn, 1) := by decide +kernel
theorem dX9_count_131 : decode cX9_count 131 = .ok (.aload_n 0, 1) := by decide +kernel
theorem dX9_count_132 : decode cX9_count 132 = .ok (.getfield 83, 3) := by decide +kernel
theorem dX9_count_135 : decode cX9_count 135 = .ok (.ireturn, 1) := by decide +kernel
theorem dX9_count_136 : decode cX9_count 136 = .ok (.aload_n 0, 1) := by decide +kernel
theorem dX9_count_137 : decode cX9_count 137 = .ok (.getfield 86, 3) := by decide +kernel
theorem dX9_count_140 : decode cX9_count 140 = .ok (.ireturn, 1) := by decide +kernel
theorem dX9_count_141 : decode cX9_count 141 = .ok (.aload_n 0, 1) := by decide +kernel
theorem dX9_count_142 : decode cX9_count 142 = .ok (.getfield 96, 3) := by decide +kernel
theorem dX9_count_145 : decode cX9_count 145 = .ok (.ireturn, 1) := by decide +kernel
theorem dX9_count_146 : decode cX9_count 146 = .ok (.iconst (-1), 1) := by decide +kernel
theorem dX9_count_147 : decode cX9_count 147 = .ok (.ireturn, 1) := by decide +kernel
theorem dJ9_max_7cf53_0 : decode cJ9_max_7cf53 0 = .ok (.iload_n 0, 1) := by decide +kernel
theorem dJ9_max_7cf53_1 : decode cJ9_max_7cf53 1 = .ok (.iload_n 1, 1) := by decide +kernel
theorem dJ9_max_7cf53_2 : decode cJ9_max_7cf53 2 = .ok (.if_icmp .lt 7, 3) := by decide +kernel
theorem dJ9_max_7cf53_5 : decode cJ9_max_7cf53 5 = .ok (.iload_n 0, 1) := by decide +kernel
theorem dJ9_max_7cf53_6 : decode cJ9_max_7cf53 6 = .ok (.goto 4, 3) := by decide +kernel
theorem dJ9_max_7cf53_9 : decode cJ9_max_7cf53 9 = .ok (.iload_n 1, 1) := by decide +kernel
theorem dJ9_max_7cf53_10 : decode cJ9_max_7cf53 10 = .ok (.ireturn, 1) := by decide +kernel
theorem dJ9_min_7cf53_0 : decode cJ9_min_7cf53 0 = .ok (.iload_n 0, 1) := by decide +kernel
theorem dJ9_min_7cf53_1 : decode cJ9_min_7cf53 1 = .ok (.iload_n 1, 1) := by decide +kernel
theorem dJ9_min_7cf53_2 : decode cJ9_min_7cf53 2 = .ok (.if_icmp .gt 7, 3) := by decide +kernel
theorem dJ9_min_7cf53_5 : decode cJ9_min_7cf53 5 = .ok (.iload_n 0, 1) := by decide +kernel
theorem dJ9_min_7cf53_6 : decode cJ9_min_7cf53 6 = .ok (.goto 4, 3) := by decide +kernel
theorem dJ9_min_7cf53_9 : decode cJ9_min_7cf53 9 = .ok (.iload_n 1, 1) := by decide +kernel
theorem dJ9_min_7cf53_10 : decode cJ9_min_7cf53 10 = .ok (.ireturn, 1) := by decide +kernel
theorem dJ0_length_8abf5_0 : decode cJ0_length_8abf5 0 = .ok (.aload_n 0, 1) := by decide +kernel
theorem dJ0_length_8abf5_1 : decode cJ0_length_8abf5 1 = .ok (.getfield 9, 3) := by decide +kernel
theorem dJ0_length_8abf5_4 : decode cJ0_length_8abf5 4 = .ok (.arraylength, 1) := by decide +kernel
theorem dJ0_length_8abf5_5 : decode cJ0_length_8abf5 5 = .ok (.aload_n 0, 1) := by decide +kernel
theorem dJ0_length_8abf5_6 : decode cJ0_length_8abf5 6 = .ok (.invokevirtual 335, 3) := by decide +kernel
theorem dJ0_length_8abf5_9 : decode cJ0_length_8abf5 9 = .ok (.ishr, 1) := by decide +kernel
theorem dJ0_length_8abf5_10 : decode cJ0_length_8abf5 10 = .ok (.ireturn, 1) := by decide +kernel
theorem dJ0_charAt_5068e_0 : decode cJ0_charAt_5068e 0 = .ok (.aload_n 0, 1) := by decide +kernel
theorem dJ0_charAt_5068e_1 : decode cJ0_charAt_5068e 1 = .ok (.invokevirtual 492, 3) := by decide +kernel
theorem dJ0_charAt_5068e_4 : decode cJ0_charAt_5068e 4 = .ok (.ifCond .eq 12, 3) := by decide +kernel
theorem dJ0_charAt_5068e_7 : decode cJ0_charAt_5068e 7 = .ok (.aload_n 0, 1) := by decide +kernel
theorem dJ0_charAt_5068e_8 : decode cJ0_charAt_5068e 8 = .ok (.getfield 9, 3) := by decide +kernel
theorem dJ0_charAt_5068e_11 : decode cJ0_charAt_5068e 11 = .ok (.iload_n 1, 1) := by decide +kernel
theorem dJ0_charAt_5068e_12 : decode cJ0_charAt_5068e 12 = .ok (.invokestatic 495, 3) := by decide +kernel
theorem dJ0_charAt_5068e_15 : decode cJ0_charAt_5068e 15 = .ok (.ireturn, 1) := by decide +kernel
theorem dJ0_charAt_5068e_16 : decode cJ0_charAt_5068e 16 = .ok (.aload_n 0, 1) := by decide +kernel
theorem dJ0_charAt_5068e_17 : decode cJ0_charAt_5068e 17 = .ok (.getfield 9, 3) := by decide +kernel
theorem dJ0_charAt_5068e_20 : decode cJ0_charAt_5068e 20 = .ok (.iload_n 1, 1) := by decide +kernel
theorem dJ0_charAt_5068e_21 : decode cJ0_charAt_5068e 21 = .ok (.invokestatic 498, 3) := by decide +kernel
theorem dJ0_charAt_5068e_24 : decode cJ0_charAt_5068e 24 = .ok (.ireturn, 1) := by decide +kernel
theorem dJ0_coder_7d493_0 : decode cJ0_coder_7d493 0 = .ok (.getstatic 38, 3) := by decide +kernel
theorem dJ0_coder_7d493_3 : decode cJ0_coder_7d493 3 = .ok (.ifCond .eq 10, 3) := by decide +kernel
theorem dJ0_coder_7d493_6 : decode cJ0_coder_7d493 6 = .ok (.aload_n 0, 1) := by decide +kernel
theorem dJ0_coder_7d493_7 : decode cJ0_coder_7d493 7 = .ok (.getfield 15, 3) := by decide +kernel
theorem dJ0_coder_7d493_10 : decode cJ0_coder_7d493 10 = .ok (.goto 4, 3) := by decide +kernel
theorem dJ0_coder_7d493_13 : decode cJ0_coder_7d493 13 = .ok (.iconst 1, 1) := by decide +kernel
theorem dJ0_coder_7d493_14 : decode cJ0_coder_7d493 14 = .ok (.ireturn, 1) := by decide +kernel
theorem dJ0_isLatin1_aae02_0 : decode cJ0_isLatin1_aae02 0 = .ok (.getstatic 38, 3) := by decide +kernel
theorem dJ0_isLatin1_aae02_3 : decode cJ0_isLatin1_aae02 3 = .ok (.ifCond .eq 14, 3) := by decide +kernel
theorem dJ0_isLatin1_aae02_6 : decode cJ0_isLatin1_aae02 6 = .ok (.aload_n 0, 1) := by decide +kernel
theorem dJ0_isLatin1_aae02_7 : decode cJ0_isLatin1_aae02 7 = .ok (.getfield 15, 3) := by decide +kernel
theorem dJ0_isLatin1_aae02_10 : decode cJ0_isLatin1_aae02 10 = .ok (.ifCond .ne 7, 3) := by decide +kernel
theorem dJ0_isLatin1_aae02_13 : decode cJ0_isLatin1_aae02 13 = .ok (.iconst 1, 1) := by decide +kernel
theorem dJ0_isLatin1_aae02_14 : decode cJ0_isLatin1_aae02 14 = .ok (.goto 4, 3) := by decide +kernel
theorem dJ0_isLatin1_aae02_17 : decode cJ0_isLatin1_aae02 17 = .ok (.iconst 0, 1) := by decide +kernel
theorem dJ0_isLatin1_aae02_18 : decode cJ0_isLatin1_aae02 18 = .ok (.ireturn, 1) := by decide +kernel
theorem dJ0_checkIndex_df160_0 : decode cJ0_checkIndex_df160 0 = .ok (.iload_n 0, 1) := by decide +kernel
theorem dJ0_checkIndex_df160_1 : decode cJ0_checkIndex_df160 1 = .ok (.iload_n 1, 1) := by decide +kernel
theorem dJ0_checkIndex_df160_2 : decode cJ0_checkIndex_df160 2 = .ok (.getstatic 1053, 3) := by decide +kernel
theorem dJ0_checkIndex_df160_5 : decode cJ0_checkIndex_df160 5 = .ok (.invokestatic 1059, 3) := by decide +kernel
theorem dJ0_checkIndex_df160_8 : decode cJ0_checkIndex_df160 8 = .ok (.pop, 1) := by decide +kernel
theorem dJ0_checkIndex_df160_9 : decode cJ0_checkIndex_df160 9 = .ok (.return_, 1) := by decide +kernel
theorem dJ1_charAt_3b067_0 : decode cJ1_charAt_3b067 0 = .ok (.iload_n 1, 1) := by decide +kernel
theorem dJ1_charAt_3b067_1 : decode cJ1_charAt_3b067 1 = .ok (.aload_n 0, 1) := by decide +kernel
theorem dJ1_charAt_3b067_2 : decode cJ1_charAt_3b067 2 = .ok (.arraylength, 1) := by decide +kernel
theorem dJ1_charAt_3b067_3 : decode cJ1_charAt_3b067 3 = .ok (.invokestatic 9, 3) := by decide +kernel
theorem dJ1_charAt_3b067_6 : decode cJ1_charAt_3b067 6 = .ok (.aload_n 0, 1) := by decide +kernel
theorem dJ1_charAt_3b067_7 : decode cJ1_charAt_3b067 7 = .ok (.iload_n 1, 1) := by decide +kernel
theorem dJ1_charAt_3b067_8 : decode cJ1_charAt_3b067 8 = .ok (.baload, 1) := by decide +kernel
theorem dJ1_charAt_3b067_9 : decode cJ1_charAt_3b067 9 = .ok (.sipush 255, 3) := by decide +kernel
theorem dJ1_charAt_3b067_12 : decode cJ1_charAt_3b067 12 = .ok (.iand, 1) := by decide +kernel
theorem dJ1_charAt_3b067_13 : decode cJ1_charAt_3b067 13 = .ok (.i2c, 1) := by decide +kernel
theorem dJ1_charAt_3b067_14 : decode cJ1_charAt_3b067 14 = .ok (.ireturn, 1) := by decide +kernel
theorem dJ2_getChar_3b067_0 : decode cJ2_getChar_3b067 0 = .ok (.getstatic 44, 3) := by decide +kernel
theorem dJ2_getChar_3b067_3 : decode cJ2_getChar_3b067 3 = .ok (.ifCond .ne 25, 3) := by decide +kernel
theorem dJ2_getChar_3b067_6 : decode cJ2_getChar_3b067 6 = .ok (.iload_n 1, 1) := by decide +kernel
theorem dJ2_getChar_3b067_7 : decode cJ2_getChar_3b067 7 = .ok (.ifCond .lt 11, 3) := by decide +kernel
theorem dJ2_getChar_3b067_10 : decode cJ2_getChar_3b067 10 = .ok (.iload_n 1, 1) := by decide +kernel
theorem dJ2_getChar_3b067_11 : decode cJ2_getChar_3b067 11 = .ok (.aload_n 0, 1) := by decide +kernel
theorem dJ2_getChar_3b067_12 : decode cJ2_getChar_3b067 12 = .ok (.invokestatic 48, 3) := by decide +kernel
theorem dJ2_getChar_3b067_15 : decode cJ2_getChar_3b067 15 = .ok (.if_icmp .lt 13, 3) := by decide +kernel
theorem dJ2_getChar_3b067_18 : decode cJ2_getChar_3b067 18 = .ok (.new 52, 3) := by decide +kernel
theorem dJ2_getChar_3b067_21 : decode cJ2_getChar_3b067 21 = .ok (.dup, 1) := by decide +kernel
theorem dJ2_getChar_3b067_22 : decode cJ2_getChar_3b067 22 = .ok (.ldc 54, 2) := by decide +kernel
theorem dJ2_getChar_3b067_24 : decode cJ2_getChar_3b067 24 = .ok (.invokespecial 56, 3) := by decide +kernel
theorem dJ2_getChar_3b067_27 : decode cJ2_getChar_3b067 27 = .ok (.athrow, 1) := by decide +kernel
theorem dJ2_getChar_3b067_28 : decode cJ2_getChar_3b067 28 = .ok (.iload_n 1, 1) := by decide +kernel
theorem dJ2_getChar_3b067_29 : decode cJ2_getChar_3b067 29 = .ok (.iconst 1, 1) := by decide +kernel
theorem dJ2_getChar_3b067_30 : decode cJ2_getChar_3b067 30 = .ok (.ishl, 1) := by decide +kernel
theorem dJ2_getChar_3b067_31 : decode cJ2_getChar_3b067 31 = .ok (.istore_n 1, 1) := by decide +kernel
theorem dJ2_getChar_3b067_32 : decode cJ2_getChar_3b067 32 = .ok (.aload_n 0, 1) := by decide +kernel
theorem dJ2_getChar_3b067_33 : decode cJ2_getChar_3b067 33 = .ok (.iload_n 1, 1) := by decide +kernel
theorem dJ2_getChar_3b067_34 : decode cJ2_getChar_3b067 34 = .ok (.iinc 1 1, 3) := by decide +kernel
theorem dJ2_getChar_3b067_37 : decode cJ2_getChar_3b067 37 = .ok (.baload, 1) := by decide +kernel
theorem dJ2_getChar_3b067_38 : decode cJ2_getChar_3b067 38 = .ok (.sipush 255, 3) := by decide +kernel
theorem dJ2_getChar_3b067_41 : decode cJ2_getChar_3b067 41 = .ok (.iand, 1) := by decide +kernel
theorem dJ2_getChar_3b067_42 : decode cJ2_getChar_3b067 42 = .ok (.getstatic 59, 3) := by decide +kernel
theorem dJ2_getChar_3b067_45 : decode cJ2_getChar_3b067 45 = .ok (.ishl, 1) := by decide +kernel
theorem dJ2_getChar_3b067_46 : decode cJ2_getChar_3b067 46 = .ok (.aload_n 0, 1) := by decide +kernel
theorem dJ2_getChar_3b067_47 : decode cJ2_getChar_3b067 47 = .ok (.iload_n 1, 1) := by decide +kernel
theorem dJ2_getChar_3b067_48 : decode cJ2_getChar_3b067 48 = .ok (.baload, 1) := by decide +kernel
theorem dJ2_getChar_3b067_49 : decode cJ2_getChar_3b067 49 = .ok (.sipush 255, 3) := by decide +kernel
theorem dJ2_getChar_3b067_52 : decode cJ2_getChar_3b067 52 = .ok (.iand, 1) := by decide +kernel
theorem dJ2_getChar_3b067_53 : decode cJ2_getChar_3b067 53 = .ok (.getstatic 63, 3) := by decide +kernel
theorem dJ2_getChar_3b067_56 : decode cJ2_getChar_3b067 56 = .ok (.ishl, 1) := by decide +kernel
theorem dJ2_getChar_3b067_57 : decode cJ2_getChar_3b067 57 = .ok (.ior, 1) := by decide +kernel
theorem dJ2_getChar_3b067_58 : decode cJ2_getChar_3b067 58 = .ok (.i2c, 1) := by decide +kernel
theorem dJ2_getChar_3b067_59 : decode cJ2_getChar_3b067 59 = .ok (.ireturn, 1) := by decide +kernel
theorem dJ2_length_9d52b_0 : decode cJ2_length_9d52b 0 = .ok (.aload_n 0, 1) := by decide +kernel
theorem dJ2_length_9d52b_1 : decode cJ2_length_9d52b 1 = .ok (.arraylength, 1) := by decide +kernel
theorem dJ2_length_9d52b_2 : decode cJ2_length_9d52b 2 = .ok (.iconst 1, 1) := by decide +kernel
theorem dJ2_length_9d52b_3 : decode cJ2_length_9d52b 3 = .ok (.ishr, 1) := by decide +kernel
theorem dJ2_length_9d52b_4 : decode cJ2_length_9d52b 4 = .ok (.ireturn, 1) := by decide +kernel
theorem dJ2_charAt_3b067_0 : decode cJ2_charAt_3b067 0 = .ok (.iload_n 1, 1) := by decide +kernel
theorem dJ2_charAt_3b067_1 : decode cJ2_charAt_3b067 1 = .ok (.aload_n 0, 1) := by decide +kernel
theorem dJ2_charAt_3b067_2 : decode cJ2_charAt_3b067 2 = .ok (.invokestatic 67, 3) := by decide +kernel
theorem dJ2_charAt_3b067_5 : decode cJ2_charAt_3b067 5 = .ok (.aload_n 0, 1) := by decide +kernel
theorem dJ2_charAt_3b067_6 : decode cJ2_charAt_3b067 6 = .ok (.iload_n 1, 1) := by decide +kernel
theorem dJ2_charAt_3b067_7 : decode cJ2_charAt_3b067 7 = .ok (.invokestatic 71, 3) := by decide +kernel
theorem dJ2_charAt_3b067_10 : decode cJ2_charAt_3b067 10 = .ok (.ireturn, 1) := by decide +kernel
theorem dJ2_checkIndex_2214a_0 : decode cJ2_checkIndex_2214a 0 = .ok (.iload_n 0, 1) := by decide +kernel
theorem dJ2_checkIndex_2214a_1 : decode cJ2_checkIndex_2214a 1 = .ok (.aload_n 1, 1) := by decide +kernel
theorem dJ2_checkIndex_2214a_2 : decode cJ2_checkIndex_2214a 2 = .ok (.invokestatic 48, 3) := by decide +kernel
theorem dJ2_checkIndex_2214a_5 : decode cJ2_checkIndex_2214a 5 = .ok (.invokestatic 414, 3) := by decide +kernel
theorem dJ2_checkIndex_2214a_8 : decode cJ2_checkIndex_2214a 8 = .ok (.return_, 1) := by decide +kernel
theorem dJ3_checkIndex_8e157_0 : decode cJ3_checkIndex_8e157 0 = .ok (.iload_n 0, 1) := by decide +kernel
theorem dJ3_checkIndex_8e157_1 : decode cJ3_checkIndex_8e157 1 = .ok (.ifCond .lt 8, 3) := by decide +kernel
theorem dJ3_checkIndex_8e157_4 : decode cJ3_checkIndex_8e157 4 = .ok (.iload_n 0, 1) := by decide +kernel
theorem dJ3_checkIndex_8e157_5 : decode cJ3_checkIndex_8e157 5 = .ok (.iload_n 1, 1) := by decide +kernel
theorem dJ3_checkIndex_8e157_6 : decode cJ3_checkIndex_8e157 6 = .ok (.if_icmp .lt 10, 3) := by decide +kernel
theorem dJ3_checkIndex_8e157_9 : decode cJ3_checkIndex_8e157 9 = .ok (.aload_n 2, 1) := by decide +kernel
theorem dJ3_checkIndex_8e157_10 : decode cJ3_checkIndex_8e157 10 = .ok (.iload_n 0, 1) := by decide +kernel
theorem dJ3_checkIndex_8e157_11 : decode cJ3_checkIndex_8e157 11 = .ok (.iload_n 1, 1) := by decide +kernel
theorem dJ3_checkIndex_8e157_12 : decode cJ3_checkIndex_8e157 12 = .ok (.invokestatic 95, 3) := by decide +kernel
theorem dJ3_checkIndex_8e157_15 : decode cJ3_checkIndex_8e157 15 = .ok (.athrow, 1) := by decide +kernel
theorem dJ3_checkIndex_8e157_16 : decode cJ3_checkIndex_8e157 16 = .ok (.iload_n 0, 1) := by decide +kernel
theorem dJ3_checkIndex_8e157_17 : decode cJ3_checkIndex_8e157 17 = .ok (.ireturn, 1) := by decide +kernel
theorem dL_law_0 : decode cL_law 0 = .ok (.new 7, 3) := by decide +kernel
theorem dL_law_3 : decode cL_law 3 = .ok (.dup, 1) := by decide +kernel
theorem dL_law_4 : decode cL_law 4 = .ok (.invokespecial 9, 3) := by decide +kernel
theorem dL_law_7 : decode cL_law 7 = .ok (.astore_n 1, 1) := by decide +kernel
theorem dL_law_8 : decode cL_law 8 = .ok (.new 10, 3) := by decide +kernel
theorem dL_law_11 : decode cL_law 11 = .ok (.dup, 1) := by decide +kernel
theorem dL_law_12 : decode cL_law 12 = .ok (.invokespecial 12, 3) := by decide +kernel
theorem dL_law_15 : decode cL_law 15 = .ok (.astore_n 2, 1) := by decide +kernel
theorem dL_law_16 : decode cL_law 16 = .ok (.iconst 0, 1) := by decide +kernel
theorem dL_law_17 : decode cL_law 17 = .ok (.istore_n 3, 1) := by decide +kernel
theorem dL_law_18 : decode cL_law 18 = .ok (.iload_n 3, 1) := by decide +kernel
theorem dL_law_19 : decode cL_law 19 = .ok (.aload_n 0, 1) := by decide +kernel
theorem dL_law_20 : decode cL_law 20 = .ok (.arraylength, 1) := by decide +kernel
theorem dL_law_21 : decode cL_law 21 = .ok (.iconst 4, 1) := by decide +kernel
theorem dL_law_22 : decode cL_law 22 = .ok (.isub, 1) := by decide +kernel
theorem dL_law_23 : decode cL_law 23 = .ok (.if_icmp .gt 726, 3) := by decide +kernel
theorem dL_law_26 : decode cL_law 26 = .ok (.aload_n 0, 1) := by decide +kernel
theorem dL_law_27 : decode cL_law 27 = .ok (.iload_n 3, 1) := by decide +kernel
theorem dL_law_28 : decode cL_law 28 = .ok (.iaload, 1) := by decide +kernel
theorem dL_law_29 : decode cL_law 29 = .ok (.bipush 31, 2) := by decide +kernel
theorem dL_law_31 : decode cL_law 31 = .ok (.iand, 1) := by decide +kernel
theorem dL_law_32 : decode cL_law 32 = .ok (.tableswitch 711 0 24 #[116, 139, 152, 165, 178, 211, 244, 267, 300, 323, 356, 369, 392, 415, 448, 461, 484, 507, 540, 553, 576, 619, 662, 675, 688], 116) := by decide +kernel
theorem dL_law_148 : decode cL_law 148 = .ok (.aload_n 1, 1) := by decide +kernel
theorem dL_law_149 : decode cL_law 149 = .ok (.aload_n 0, 1) := by decide +kernel
theorem dL_law_150 : decode cL_law 150 = .ok (.iload_n 3, 1) := by decide +kernel
theorem dL_law_151 : decode cL_law 151 = .ok (.iconst 1, 1) := by decide +kernel
theorem dL_law_152 : decode cL_law 152 = .ok (.iadd, 1) := by decide +kernel
theorem dL_law_153 : decode cL_law 153 = .ok (.iaload, 1) := by decide +kernel
theorem dL_law_154 : decode cL_law 154 = .ok (.invokevirtual 13, 3) := by decide +kernel
theorem dL_law_157 : decode cL_law 157 = .ok (.aload_n 2, 1) := by decide +kernel
theorem dL_law_158 : decode cL_law 158 = .ok (.aload_n 0, 1) := by decide +kernel
theorem dL_law_159 : decode cL_law 159 = .ok (.iload_n 3, 1) := by decide +kernel
theorem dL_law_160 : decode cL_law 160 = .ok (.iconst 1, 1) := by decide +kernel
theorem dL_law_161 : decode cL_law 161 = .ok (.iadd, 1) := by decide +kernel
theorem dL_law_162 : decode cL_law 162 = .ok (.iaload, 1) := by decide +kernel
theorem dL_law_163 : decode cL_law 163 = .ok (.invokevirtual 17, 3) := by decide +kernel
theorem dL_law_166 : decode cL_law 166 = .ok (.if_icmp .eq 577, 3) := by decide +kernel
theorem dL_law_169 : decode cL_law 169 = .ok (.iconst 0, 1) := by decide +kernel
theorem dL_law_170 : decode cL_law 170 = .ok (.ireturn, 1) := by decide +kernel
theorem dL_law_171 : decode cL_law 171 = .ok (.aload_n 1, 1) := by decide +kernel
theorem dL_law_172 : decode cL_law 172 = .ok (.invokevirtual 18, 3) := by decide +kernel
theorem dL_law_175 : decode cL_law 175 = .ok (.aload_n 2, 1) := by decide +kernel
theorem dL_law_176 : decode cL_law 176 = .ok (.invokevirtual 22, 3) := by decide +kernel
theorem dL_law_179 : decode cL_law 179 = .ok (.if_icmp .eq 564, 3) := by decide +kernel
theorem dL_law_182 : decode cL_law 182 = .ok (.iconst 0, 1) := by decide +kernel
theorem dL_law_183 : decode cL_law 183 = .ok (.ireturn, 1) := by decide +kernel
theorem dL_law_184 : decode cL_law 184 = .ok (.aload_n 1, 1) := by decide +kernel
theorem dL_law_185 : decode cL_law 185 = .ok (.invokevirtual 23, 3) := by decide +kernel
theorem dL_law_188 : decode cL_law 188 = .ok (.aload_n 2, 1) := by decide +kernel
theorem dL_law_189 : decode cL_law 189 = .ok (.invokevirtual 26, 3) := by decide +kernel
theorem dL_law_192 : decode cL_law 192 = .ok (.if_icmp .eq 551, 3) := by decide +kernel
theorem dL_law_195 : decode cL_law 195 = .ok (.iconst 0, 1) := by decide +kernel
theorem dL_law_196 : decode cL_law 196 = .ok (.ireturn, 1) := by decide +kernel
theorem dL_law_197 : decode cL_law 197 = .ok (.aload_n 1, 1) := by decide +kernel
theorem dL_law_198 : decode cL_law 198 = .ok (.invokevirtual 27, 3) := by decide +kernel
theorem dL_law_201 : decode cL_law 201 = .ok (.aload_n 2, 1) := by decide +kernel
theorem dL_law_202 : decode cL_law 202 = .ok (.invokevirtual 30, 3) := by decide +kernel
theorem dL_law_205 : decode cL_law 205 = .ok (.if_icmp .eq 538, 3) := by decide +kernel
theorem dL_law_208 : decode cL_law 208 = .ok (.iconst 0, 1) := by decide +kernel
theorem dL_law_209 : decode cL_law 209 = .ok (.ireturn, 1) := by decide +kernel
theorem dL_law_210 : decode cL_law 210 = .ok (.aload_n 1, 1) := by decide +kernel
theorem dL_law_211 : decode cL_law 211 = .ok (.aload_n 0, 1) := by decide +kernel
theorem dL_law_212 : decode cL_law 212 = .ok (.iload_n 3, 1) := by decide +kernel
theorem dL_law_213 : decode cL_law 213 = .ok (.iconst 1, 1) := by decide +kernel
theorem dL_law_214 : decode cL_law 214 = .ok (.iadd, 1) := by decide +kernel
theorem dL_law_215 : decode cL_law 215 = .ok (.iaload, 1) := by decide +kernel
theorem dL_law_216 : decode cL_law 216 = .ok (.aload_n 0, 1) := by decide +kernel
theorem dL_law_217 : decode cL_law 217 = .ok (.iload_n 3, 1) := by decide +kernel
theorem dL_law_218 : decode cL_law 218 = .ok (.iconst 2, 1) := by decide +kernel
theorem dL_law_219 : decode cL_law 219 = .ok (.iadd, 1) := by decide +kernel
theorem dL_law_220 : decode cL_law 220 = .ok (.iaload, 1) := by decide +kernel
theorem dL_law_221 : decode cL_law 221 = .ok (.invokevirtual 31, 3) := by decide +kernel
theorem dL_law_224 : decode cL_law 224 = .ok (.aload_n 2, 1) := by decide +kernel
theorem dL_law_225 : decode cL_law 225 = .ok (.aload_n 0, 1) := by decide +kernel
theorem dL_law_226 : decode cL_law 226 = .ok (.iload_n 3, 1) := by decide +kernel
theorem dL_law_227 : decode cL_law 227 = .ok (.iconst 1, 1) := by decide +kernel
theorem dL_law_228 : decode cL_law 228 = .ok (.iadd, 1) := by decide +kernel
theorem dL_law_229 : decode cL_law 229 = .ok (.iaload, 1) := by decide +kernel
theorem dL_law_230 : decode cL_law 230 = .ok (.aload_n 0, 1) := by decide +kernel
theorem dL_law_231 : decode cL_law 231 = .ok (.iload_n 3, 1) := by decide +kernel
theorem dL_law_232 : decode cL_law 232 = .ok (.iconst 2, 1) := by decide +kernel
theorem dL_law_233 : decode cL_law 233 = .ok (.iadd, 1) := by decide +kernel
theorem dL_law_234 : decode cL_law 234 = .ok (.iaload, 1) := by decide +kernel
theorem dL_law_235 : decode cL_law 235 = .ok (.invokevirtual 35, 3) := by decide +kernel
theorem dL_law_238 : decode cL_law 238 = .ok (.if_icmp .eq 505, 3) := by decide +kernel
theorem dL_law_241 : decode cL_law 241 = .ok (.iconst 0, 1) := by decide +kernel
theorem dL_law_242 : decode cL_law 242 = .ok (.ireturn, 1) := by decide +kernel
theorem dL_law_243 : decode cL_law 243 = .ok (.aload_n 1, 1) := by decide +kernel
theorem dL_law_244 : decode cL_law 244 = .ok (.aload_n 0, 1) := by decide +kernel
theorem dL_law_245 : decode cL_law 245 = .ok (.iload_n 3, 1) := by decide +kernel
theorem dL_law_246 : decode cL_law 246 = .ok (.iconst 1, 1) := by decide +kernel
theorem dL_law_247 : decode cL_law 247 = .ok (.iadd, 1) := by decide +kernel
theorem dL_law_248 : decode cL_law 248 = .ok (.iaload, 1) := by decide +kernel
theorem dL_law_249 : decode cL_law 249 = .ok (.aload_n 0, 1) := by decide +kernel
theorem dL_law_250 : decode cL_law 250 = .ok (.iload_n 3, 1) := by decide +kernel
theorem dL_law_251 : decode cL_law 251 = .ok (.iconst 2, 1) := by decide +kernel
theorem dL_law_252 : decode cL_law 252 = .ok (.iadd, 1) := by decide +kernel
theorem dL_law_253 : decode cL_law 253 = .ok (.iaload, 1) := by decide +kernel
theorem dL_law_254 : decode cL_law 254 = .ok (.invokevirtual 36, 3) := by decide +kernel
theorem dL_law_257 : decode cL_law 257 = .ok (.aload_n 2, 1) := by decide +kernel
theorem dL_law_258 : decode cL_law 258 = .ok (.aload_n 0, 1) := by decide +kernel
theorem dL_law_259 : decode cL_law 259 = .ok (.iload_n 3, 1) := by decide +kernel
theorem dL_law_260 : decode cL_law 260 = .ok (.iconst 1, 1) := by decide +kernel
theorem dL_law_261 : decode cL_law 261 = .ok (.iadd, 1) := by decide +kernel
theorem dL_law_262 : decode cL_law 262 = .ok (.iaload, 1) := by decide +kernel
theorem dL_law_263 : decode cL_law 263 = .ok (.aload_n 0, 1) := by decide +kernel
theorem dL_law_264 : decode cL_law 264 = .ok (.iload_n 3, 1) := by decide +kernel
theorem dL_law_265 : decode cL_law 265 = .ok (.iconst 2, 1) := by decide +kernel
theorem dL_law_266 : decode cL_law 266 = .ok (.iadd, 1) := by decide +kernel
theorem dL_law_267 : decode cL_law 267 = .ok (.iaload, 1) := by decide +kernel
theorem dL_law_268 : decode cL_law 268 = .ok (.invokevirtual 39, 3) := by decide +kernel
theorem dL_law_271 : decode cL_law 271 = .ok (.if_icmp .eq 472, 3) := by decide +kernel
theorem dL_law_274 : decode cL_law 274 = .ok (.iconst 0, 1) := by decide +kernel
theorem dL_law_275 : decode cL_law 275 = .ok (.ireturn, 1) := by decide +kernel
theorem dL_law_276 : decode cL_law 276 = .ok (.aload_n 1, 1) := by decide +kernel
theorem dL_law_277 : decode cL_law 277 = .ok (.aload_n 0, 1) := by decide +kernel
theorem dL_law_278 : decode cL_law 278 = .ok (.iload_n 3, 1) := by decide +kernel
theorem dL_law_279 : decode cL_law 279 = .ok (.iconst 1, 1) := by decide +kernel
theorem dL_law_280 : decode cL_law 280 = .ok (.iadd, 1) := by decide +kernel
theorem dL_law_281 : decode cL_law 281 = .ok (.iaload, 1) := by decide +kernel
theorem dL_law_282 : decode cL_law 282 = .ok (.invokevirtual 40, 3) := by decide +kernel
theorem dL_law_285 : decode cL_law 285 = .ok (.aload_n 2, 1) := by decide +kernel
theorem dL_law_286 : decode cL_law 286 = .ok (.aload_n 0, 1) := by decide +kernel
theorem dL_law_287 : decode cL_law 287 = .ok (.iload_n 3, 1) := by decide +kernel
theorem dL_law_288 : decode cL_law 288 = .ok (.iconst 1, 1) := by decide +kernel
theorem dL_law_289 : decode cL_law 289 = .ok (.iadd, 1) := by decide +kernel
theorem dL_law_290 : decode cL_law 290 = .ok (.iaload, 1) := by decide +kernel
theorem dL_law_291 : decode cL_law 291 = .ok (.invokevirtual 43, 3) := by decide +kernel
theorem dL_law_294 : decode cL_law 294 = .ok (.if_icmp .eq 449, 3) := by decide +kernel
theorem dL_law_297 : decode cL_law 297 = .ok (.iconst 0, 1) := by decide +kernel
theorem dL_law_298 : decode cL_law 298 = .ok (.ireturn, 1) := by decide +kernel
theorem dL_law_299 : decode cL_law 299 = .ok (.aload_n 1, 1) := by decide +kernel
theorem dL_law_300 : decode cL_law 300 = .ok (.aload_n 0, 1) := by decide +kernel
theorem dL_law_301 : decode cL_law 301 = .ok (.iload_n 3, 1) := by decide +kernel
theorem dL_law_302 : decode cL_law 302 = .ok (.iconst 1, 1) := by decide +kernel
theorem dL_law_303 : decode cL_law 303 = .ok (.iadd, 1) := by decide +kernel
theorem dL_law_304 : decode cL_law 304 = .ok (.iaload, 1) := by decide +kernel
theorem dL_law_305 : decode cL_law 305 = .ok (.aload_n 0, 1) := by decide +kernel
theorem dL_law_306 : decode cL_law 306 = .ok (.iload_n 3, 1) := by decide +kernel
theorem dL_law_307 : decode cL_law 307 = .ok (.iconst 2, 1) := by decide +kernel
theorem dL_law_308 : decode cL_law 308 = .ok (.iadd, 1) := by decide +kernel
theorem dL_law_309 : decode cL_law 309 = .ok (.iaload, 1) := by decide +kernel
theorem dL_law_310 : decode cL_law 310 = .ok (.invokevirtual 44, 3) := by decide +kernel
theorem dL_law_313 : decode cL_law 313 = .ok (.aload_n 2, 1) := by decide +kernel
theorem dL_law_314 : decode cL_law 314 = .ok (.aload_n 0, 1) := by decide +kernel
theorem dL_law_315 : decode cL_law 315 = .ok (.iload_n 3, 1) := by decide +kernel
theorem dL_law_316 : decode cL_law 316 = .ok (.iconst 1, 1) := by decide +kernel
theorem dL_law_317 : decode cL_law 317 = .ok (.iadd, 1) := by decide +kernel
theorem dL_law_318 : decode cL_law 318 = .ok (.iaload, 1) := by decide +kernel
theorem dL_law_319 : decode cL_law 319 = .ok (.aload_n 0, 1) := by decide +kernel
theorem dL_law_320 : decode cL_law 320 = .ok (.iload_n 3, 1) := by decide +kernel
theorem dL_law_321 : decode cL_law 321 = .ok (.iconst 2, 1) := by decide +kernel
theorem dL_law_322 : decode cL_law 322 = .ok (.iadd, 1) := by decide +kernel
theorem dL_law_323 : decode cL_law 323 = .ok (.iaload, 1) := by decide +kernel
theorem dL_law_324 : decode cL_law 324 = .ok (.invokevirtual 47, 3) := by decide +kernel
theorem dL_law_327 : decode cL_law 327 = .ok (.if_icmp .eq 416, 3) := by decide +kernel
theorem dL_law_330 : decode cL_law 330 = .ok (.iconst 0, 1) := by decide +kernel
theorem dL_law_331 : decode cL_law 331 = .ok (.ireturn, 1) := by decide +kernel
theorem dL_law_332 : decode cL_law 332 = .ok (.aload_n 1, 1) := by decide +kernel
theorem dL_law_333 : decode cL_law 333 = .ok (.aload_n 0, 1) := by decide +kernel
theorem dL_law_334 : decode cL_law 334 = .ok (.iload_n 3, 1) := by decide +kernel
theorem dL_law_335 : decode cL_law 335 = .ok (.iconst 1, 1) := by decide +kernel
theorem dL_law_336 : decode cL_law 336 = .ok (.iadd, 1) := by decide +kernel
theorem dL_law_337 : decode cL_law 337 = .ok (.iaload, 1) := by decide +kernel
theorem dL_law_338 : decode cL_law 338 = .ok (.invokevirtual 48, 3) := by decide +kernel
theorem dL_law_341 : decode cL_law 341 = .ok (.aload_n 2, 1) := by decide +kernel
theorem dL_law_342 : decode cL_law 342 = .ok (.aload_n 0, 1) := by decide +kernel
theorem dL_law_343 : decode cL_law 343 = .ok (.iload_n 3, 1) := by decide +kernel
theorem dL_law_344 : decode cL_law 344 = .ok (.iconst 1, 1) := by decide +kernel
theorem dL_law_345 : decode cL_law 345 = .ok (.iadd, 1) := by decide +kernel
theorem dL_law_346 : decode cL_law 346 = .ok (.iaload, 1) := by decide +kernel
theorem dL_law_347 : decode cL_law 347 = .ok (.invokevirtual 51, 3) := by decide +kernel
theorem dL_law_350 : decode cL_law 350 = .ok (.if_icmp .eq 393, 3) := by decide +kernel
theorem dL_law_353 : decode cL_law 353 = .ok (.iconst 0, 1) := by decide +kernel
theorem dL_law_354 : decode cL_law 354 = .ok (.ireturn, 1) := by decide +kernel
theorem dL_law_355 : decode cL_law 355 = .ok (.aload_n 1, 1) := by decide +kernel
theorem dL_law_356 : decode cL_law 356 = .ok (.aload_n 0, 1) := by decide +kernel
theorem dL_law_357 : decode cL_law 357 = .ok (.iload_n 3, 1) := by decide +kernel
theorem dL_law_358 : decode cL_law 358 = .ok (.iconst 1, 1) := by decide +kernel
theorem dL_law_359 : decode cL_law 359 = .ok (.iadd, 1) := by decide +kernel
theorem dL_law_360 : decode cL_law 360 = .ok (.iaload, 1) := by decide +kernel
theorem dL_law_361 : decode cL_law 361 = .ok (.aload_n 0, 1) := by decide +kernel
theorem dL_law_362 : decode cL_law 362 = .ok (.iload_n 3, 1) := by decide +kernel
theorem dL_law_363 : decode cL_law 363 = .ok (.iconst 2, 1) := by decide +kernel
theorem dL_law_364 : decode cL_law 364 = .ok (.iadd, 1) := by decide +kernel
theorem dL_law_365 : decode cL_law 365 = .ok (.iaload, 1) := by decide +kernel
theorem dL_law_366 : decode cL_law 366 = .ok (.invokevirtual 52, 3) := by decide +kernel
theorem dL_law_369 : decode cL_law 369 = .ok (.aload_n 2, 1) := by decide +kernel
theorem dL_law_370 : decode cL_law 370 = .ok (.aload_n 0, 1) := by decide +kernel
theorem dL_law_371 : decode cL_law 371 = .ok (.iload_n 3, 1) := by decide +kernel
theorem dL_law_372 : decode cL_law 372 = .ok (.iconst 1, 1) := by decide +kernel
theorem dL_law_373 : decode cL_law 373 = .ok (.iadd, 1) := by decide +kernel
theorem dL_law_374 : decode cL_law 374 = .ok (.iaload, 1) := by decide +kernel
theorem dL_law_375 : decode cL_law 375 = .ok (.aload_n 0, 1) := by decide +kernel
theorem dL_law_376 : decode cL_law 376 = .ok (.iload_n 3, 1) := by decide +kernel
theorem dL_law_377 : decode cL_law 377 = .ok (.iconst 2, 1) := by decide +kernel
theorem dL_law_378 : decode cL_law 378 = .ok (.iadd, 1) := by decide +kernel
theorem dL_law_379 : decode cL_law 379 = .ok (.iaload, 1) := by decide +kernel
theorem dL_law_380 : decode cL_law 380 = .ok (.invokevirtual 55, 3) := by decide +kernel
theorem dL_law_383 : decode cL_law 383 = .ok (.if_icmp .eq 360, 3) := by decide +kernel
theorem dL_law_386 : decode cL_law 386 = .ok (.iconst 0, 1) := by decide +kernel
theorem dL_law_387 : decode cL_law 387 = .ok (.ireturn, 1) := by decide +kernel
theorem dL_law_388 : decode cL_law 388 = .ok (.aload_n 1, 1) := by decide +kernel
theorem dL_law_389 : decode cL_law 389 = .ok (.invokevirtual 56, 3) := by decide +kernel
theorem dL_law_392 : decode cL_law 392 = .ok (.aload_n 2, 1) := by decide +kernel
theorem dL_law_393 : decode cL_law 393 = .ok (.invokevirtual 59, 3) := by decide +kernel
theorem dL_law_396 : decode cL_law 396 = .ok (.if_icmp .eq 347, 3) := by decide +kernel
theorem dL_law_399 : decode cL_law 399 = .ok (.iconst 0, 1) := by decide +kernel
theorem dL_law_400 : decode cL_law 400 = .ok (.ireturn, 1) := by decide +kernel
theorem dL_law_401 : decode cL_law 401 = .ok (.aload_n 1, 1) := by decide +kernel
theorem dL_law_402 : decode cL_law 402 = .ok (.aload_n 0, 1) := by decide +kernel
theorem dL_law_403 : decode cL_law 403 = .ok (.iload_n 3, 1) := by decide +kernel
theorem dL_law_404 : decode cL_law 404 = .ok (.iconst 1, 1) := by decide +kernel
theorem dL_law_405 : decode cL_law 405 = .ok (.iadd, 1) := by decide +kernel
theorem dL_law_406 : decode cL_law 406 = .ok (.iaload, 1) := by decide +kernel
theorem dL_law_407 : decode cL_law 407 = .ok (.invokevirtual 60, 3) := by decide +kernel
theorem dL_law_410 : decode cL_law 410 = .ok (.aload_n 2, 1) := by decide +kernel
theorem dL_law_411 : decode cL_law 411 = .ok (.aload_n 0, 1) := by decide +kernel
theorem dL_law_412 : decode cL_law 412 = .ok (.iload_n 3, 1) := by decide +kernel
theorem dL_law_413 : decode cL_law 413 = .ok (.iconst 1, 1) := by decide +kernel
theorem dL_law_414 : decode cL_law 414 = .ok (.iadd, 1) := by decide +kernel
theorem dL_law_415 : decode cL_law 415 = .ok (.iaload, 1) := by decide +kernel
theorem dL_law_416 : decode cL_law 416 = .ok (.invokevirtual 63, 3) := by decide +kernel
theorem dL_law_419 : decode cL_law 419 = .ok (.if_icmp .eq 324, 3) := by decide +kernel
theorem dL_law_422 : decode cL_law 422 = .ok (.iconst 0, 1) := by decide +kernel
theorem dL_law_423 : decode cL_law 423 = .ok (.ireturn, 1) := by decide +kernel
theorem dL_law_424 : decode cL_law 424 = .ok (.aload_n 1, 1) := by decide +kernel
theorem dL_law_425 : decode cL_law 425 = .ok (.aload_n 0, 1) := by decide +kernel
theorem dL_law_426 : decode cL_law 426 = .ok (.iload_n 3, 1) := by decide +kernel
theorem dL_law_427 : decode cL_law 427 = .ok (.iconst 1, 1) := by decide +kernel
theorem dL_law_428 : decode cL_law 428 = .ok (.iadd, 1) := by decide +kernel
theorem dL_law_429 : decode cL_law 429 = .ok (.iaload, 1) := by decide +kernel
theorem dL_law_430 : decode cL_law 430 = .ok (.invokevirtual 64, 3) := by decide +kernel
theorem dL_law_433 : decode cL_law 433 = .ok (.aload_n 2, 1) := by decide +kernel
theorem dL_law_434 : decode cL_law 434 = .ok (.aload_n 0, 1) := by decide +kernel
theorem dL_law_435 : decode cL_law 435 = .ok (.iload_n 3, 1) := by decide +kernel
theorem dL_law_436 : decode cL_law 436 = .ok (.iconst 1, 1) := by decide +kernel
theorem dL_law_437 : decode cL_law 437 = .ok (.iadd, 1) := by decide +kernel
theorem dL_law_438 : decode cL_law 438 = .ok (.iaload, 1) := by decide +kernel
theorem dL_law_439 : decode cL_law 439 = .ok (.invokevirtual 67, 3) := by decide +kernel
theorem dL_law_442 : decode cL_law 442 = .ok (.if_icmp .eq 301, 3) := by decide +kernel
theorem dL_law_445 : decode cL_law 445 = .ok (.iconst 0, 1) := by decide +kernel
theorem dL_law_446 : decode cL_law 446 = .ok (.ireturn, 1) := by decide +kernel
theorem dL_law_447 : decode cL_law 447 = .ok (.aload_n 1, 1) := by decide +kernel
theorem dL_law_448 : decode cL_law 448 = .ok (.aload_n 0, 1) := by decide +kernel
theorem dL_law_449 : decode cL_law 449 = .ok (.iload_n 3, 1) := by decide +kernel
theorem dL_law_450 : decode cL_law 450 = .ok (.iconst 1, 1) := by decide +kernel
theorem dL_law_451 : decode cL_law 451 = .ok (.iadd, 1) := by decide +kernel
theorem dL_law_452 : decode cL_law 452 = .ok (.iaload, 1) := by decide +kernel
theorem dL_law_453 : decode cL_law 453 = .ok (.aload_n 0, 1) := by decide +kernel
theorem dL_law_454 : decode cL_law 454 = .ok (.iload_n 3, 1) := by decide +kernel
theorem dL_law_455 : decode cL_law 455 = .ok (.iconst 2, 1) := by decide +kernel
theorem dL_law_456 : decode cL_law 456 = .ok (.iadd, 1) := by decide +kernel
theorem dL_law_457 : decode cL_law 457 = .ok (.iaload, 1) := by decide +kernel
theorem dL_law_458 : decode cL_law 458 = .ok (.invokevirtual 68, 3) := by decide +kernel
theorem dL_law_461 : decode cL_law 461 = .ok (.aload_n 2, 1) := by decide +kernel
theorem dL_law_462 : decode cL_law 462 = .ok (.aload_n 0, 1) := by decide +kernel
theorem dL_law_463 : decode cL_law 463 = .ok (.iload_n 3, 1) := by decide +kernel
theorem dL_law_464 : decode cL_law 464 = .ok (.iconst 1, 1) := by decide +kernel
theorem dL_law_465 : decode cL_law 465 = .ok (.iadd, 1) := by decide +kernel
theorem dL_law_466 : decode cL_law 466 = .ok (.iaload, 1) := by decide +kernel
theorem dL_law_467 : decode cL_law 467 = .ok (.aload_n 0, 1) := by decide +kernel
theorem dL_law_468 : decode cL_law 468 = .ok (.iload_n 3, 1) := by decide +kernel
theorem dL_law_469 : decode cL_law 469 = .ok (.iconst 2, 1) := by decide +kernel
theorem dL_law_470 : decode cL_law 470 = .ok (.iadd, 1) := by decide +kernel
theorem dL_law_471 : decode cL_law 471 = .ok (.iaload, 1) := by decide +kernel
theorem dL_law_472 : decode cL_law 472 = .ok (.invokevirtual 71, 3) := by decide +kernel
theorem dL_law_475 : decode cL_law 475 = .ok (.if_icmp .eq 268, 3) := by decide +kernel
theorem dL_law_478 : decode cL_law 478 = .ok (.iconst 0, 1) := by decide +kernel
theorem dL_law_479 : decode cL_law 479 = .ok (.ireturn, 1) := by decide +kernel
theorem dL_law_480 : decode cL_law 480 = .ok (.aload_n 1, 1) := by decide +kernel
theorem dL_law_481 : decode cL_law 481 = .ok (.invokevirtual 72, 3) := by decide +kernel
theorem dL_law_484 : decode cL_law 484 = .ok (.aload_n 2, 1) := by decide +kernel
theorem dL_law_485 : decode cL_law 485 = .ok (.invokevirtual 75, 3) := by decide +kernel
theorem dL_law_488 : decode cL_law 488 = .ok (.if_icmp .eq 255, 3) := by decide +kernel
theorem dL_law_491 : decode cL_law 491 = .ok (.iconst 0, 1) := by decide +kernel
theorem dL_law_492 : decode cL_law 492 = .ok (.ireturn, 1) := by decide +kernel
theorem dL_law_493 : decode cL_law 493 = .ok (.aload_n 1, 1) := by decide +kernel
theorem dL_law_494 : decode cL_law 494 = .ok (.aload_n 0, 1) := by decide +kernel
theorem dL_law_495 : decode cL_law 495 = .ok (.iload_n 3, 1) := by decide +kernel
theorem dL_law_496 : decode cL_law 496 = .ok (.iconst 1, 1) := by decide +kernel
theorem dL_law_497 : decode cL_law 497 = .ok (.iadd, 1) := by decide +kernel
theorem dL_law_498 : decode cL_law 498 = .ok (.iaload, 1) := by decide +kernel
theorem dL_law_499 : decode cL_law 499 = .ok (.invokevirtual 76, 3) := by decide +kernel
theorem dL_law_502 : decode cL_law 502 = .ok (.aload_n 2, 1) := by decide +kernel
theorem dL_law_503 : decode cL_law 503 = .ok (.aload_n 0, 1) := by decide +kernel
theorem dL_law_504 : decode cL_law 504 = .ok (.iload_n 3, 1) := by decide +kernel
theorem dL_law_505 : decode cL_law 505 = .ok (.iconst 1, 1) := by decide +kernel
theorem dL_law_506 : decode cL_law 506 = .ok (.iadd, 1) := by decide +kernel
theorem dL_law_507 : decode cL_law 507 = .ok (.iaload, 1) := by decide +kernel
theorem dL_law_508 : decode cL_law 508 = .ok (.invokevirtual 79, 3) := by decide +kernel
theorem dL_law_511 : decode cL_law 511 = .ok (.if_icmp .eq 232, 3) := by decide +kernel
theorem dL_law_514 : decode cL_law 514 = .ok (.iconst 0, 1) := by decide +kernel
theorem dL_law_515 : decode cL_law 515 = .ok (.ireturn, 1) := by decide +kernel
theorem dL_law_516 : decode cL_law 516 = .ok (.aload_n 1, 1) := by decide +kernel
theorem dL_law_517 : decode cL_law 517 = .ok (.aload_n 0, 1) := by decide +kernel
theorem dL_law_518 : decode cL_law 518 = .ok (.iload_n 3, 1) := by decide +kernel
theorem dL_law_519 : decode cL_law 519 = .ok (.iconst 1, 1) := by decide +kernel
theorem dL_law_520 : decode cL_law 520 = .ok (.iadd, 1) := by decide +kernel
theorem dL_law_521 : decode cL_law 521 = .ok (.iaload, 1) := by decide +kernel
theorem dL_law_522 : decode cL_law 522 = .ok (.invokevirtual 80, 3) := by decide +kernel
theorem dL_law_525 : decode cL_law 525 = .ok (.aload_n 2, 1) := by decide +kernel
theorem dL_law_526 : decode cL_law 526 = .ok (.aload_n 0, 1) := by decide +kernel
theorem dL_law_527 : decode cL_law 527 = .ok (.iload_n 3, 1) := by decide +kernel
theorem dL_law_528 : decode cL_law 528 = .ok (.iconst 1, 1) := by decide +kernel
theorem dL_law_529 : decode cL_law 529 = .ok (.iadd, 1) := by decide +kernel
theorem dL_law_530 : decode cL_law 530 = .ok (.iaload, 1) := by decide +kernel
theorem dL_law_531 : decode cL_law 531 = .ok (.invokevirtual 83, 3) := by decide +kernel
theorem dL_law_534 : decode cL_law 534 = .ok (.if_icmp .eq 209, 3) := by decide +kernel
theorem dL_law_537 : decode cL_law 537 = .ok (.iconst 0, 1) := by decide +kernel
theorem dL_law_538 : decode cL_law 538 = .ok (.ireturn, 1) := by decide +kernel
theorem dL_law_539 : decode cL_law 539 = .ok (.aload_n 1, 1) := by decide +kernel
theorem dL_law_540 : decode cL_law 540 = .ok (.aload_n 0, 1) := by decide +kernel
theorem dL_law_541 : decode cL_law 541 = .ok (.iload_n 3, 1) := by decide +kernel
theorem dL_law_542 : decode cL_law 542 = .ok (.iconst 1, 1) := by decide +kernel
theorem dL_law_543 : decode cL_law 543 = .ok (.iadd, 1) := by decide +kernel
theorem dL_law_544 : decode cL_law 544 = .ok (.iaload, 1) := by decide +kernel
theorem dL_law_545 : decode cL_law 545 = .ok (.aload_n 0, 1) := by decide +kernel
theorem dL_law_546 : decode cL_law 546 = .ok (.iload_n 3, 1) := by decide +kernel
theorem dL_law_547 : decode cL_law 547 = .ok (.iconst 2, 1) := by decide +kernel
theorem dL_law_548 : decode cL_law 548 = .ok (.iadd, 1) := by decide +kernel
theorem dL_law_549 : decode cL_law 549 = .ok (.iaload, 1) := by decide +kernel
theorem dL_law_550 : decode cL_law 550 = .ok (.invokevirtual 84, 3) := by decide +kernel
theorem dL_law_553 : decode cL_law 553 = .ok (.aload_n 2, 1) := by decide +kernel
theorem dL_law_554 : decode cL_law 554 = .ok (.aload_n 0, 1) := by decide +kernel
theorem dL_law_555 : decode cL_law 555 = .ok (.iload_n 3, 1) := by decide +kernel
theorem dL_law_556 : decode cL_law 556 = .ok (.iconst 1, 1) := by decide +kernel
theorem dL_law_557 : decode cL_law 557 = .ok (.iadd, 1) := by decide +kernel
theorem dL_law_558 : decode cL_law 558 = .ok (.iaload, 1) := by decide +kernel
theorem dL_law_559 : decode cL_law 559 = .ok (.aload_n 0, 1) := by decide +kernel
theorem dL_law_560 : decode cL_law 560 = .ok (.iload_n 3, 1) := by decide +kernel
theorem dL_law_561 : decode cL_law 561 = .ok (.iconst 2, 1) := by decide +kernel
theorem dL_law_562 : decode cL_law 562 = .ok (.iadd, 1) := by decide +kernel
theorem dL_law_563 : decode cL_law 563 = .ok (.iaload, 1) := by decide +kernel
theorem dL_law_564 : decode cL_law 564 = .ok (.invokevirtual 87, 3) := by decide +kernel
theorem dL_law_567 : decode cL_law 567 = .ok (.if_icmp .eq 176, 3) := by decide +kernel
theorem dL_law_570 : decode cL_law 570 = .ok (.iconst 0, 1) := by decide +kernel
theorem dL_law_571 : decode cL_law 571 = .ok (.ireturn, 1) := by decide +kernel
theorem dL_law_572 : decode cL_law 572 = .ok (.aload_n 1, 1) := by decide +kernel
theorem dL_law_573 : decode cL_law 573 = .ok (.invokevirtual 88, 3) := by decide +kernel
theorem dL_law_576 : decode cL_law 576 = .ok (.aload_n 2, 1) := by decide +kernel
theorem dL_law_577 : decode cL_law 577 = .ok (.invokevirtual 91, 3) := by decide +kernel
theorem dL_law_580 : decode cL_law 580 = .ok (.if_icmp .eq 163, 3) := by decide +kernel
theorem dL_law_583 : decode cL_law 583 = .ok (.iconst 0, 1) := by decide +kernel
theorem dL_law_584 : decode cL_law 584 = .ok (.ireturn, 1) := by decide +kernel
theorem dL_law_585 : decode cL_law 585 = .ok (.aload_n 1, 1) := by decide +kernel
theorem dL_law_586 : decode cL_law 586 = .ok (.aload_n 0, 1) := by decide +kernel
theorem dL_law_587 : decode cL_law 587 = .ok (.iload_n 3, 1) := by decide +kernel
theorem dL_law_588 : decode cL_law 588 = .ok (.iconst 1, 1) := by decide +kernel
theorem dL_law_589 : decode cL_law 589 = .ok (.iadd, 1) := by decide +kernel
theorem dL_law_590 : decode cL_law 590 = .ok (.iaload, 1) := by decide +kernel
theorem dL_law_591 : decode cL_law 591 = .ok (.invokevirtual 92, 3) := by decide +kernel
theorem dL_law_594 : decode cL_law 594 = .ok (.aload_n 2, 1) := by decide +kernel
theorem dL_law_595 : decode cL_law 595 = .ok (.aload_n 0, 1) := by decide +kernel
theorem dL_law_596 : decode cL_law 596 = .ok (.iload_n 3, 1) := by decide +kernel
theorem dL_law_597 : decode cL_law 597 = .ok (.iconst 1, 1) := by decide +kernel
theorem dL_law_598 : decode cL_law 598 = .ok (.iadd, 1) := by decide +kernel
theorem dL_law_599 : decode cL_law 599 = .ok (.iaload, 1) := by decide +kernel
theorem dL_law_600 : decode cL_law 600 = .ok (.invokevirtual 95, 3) := by decide +kernel
theorem dL_law_603 : decode cL_law 603 = .ok (.if_icmp .eq 140, 3) := by decide +kernel
theorem dL_law_606 : decode cL_law 606 = .ok (.iconst 0, 1) := by decide +kernel
theorem dL_law_607 : decode cL_law 607 = .ok (.ireturn, 1) := by decide +kernel
theorem dL_law_608 : decode cL_law 608 = .ok (.aload_n 1, 1) := by decide +kernel
theorem dL_law_609 : decode cL_law 609 = .ok (.aload_n 0, 1) := by decide +kernel
theorem dL_law_610 : decode cL_law 610 = .ok (.iload_n 3, 1) := by decide +kernel
theorem dL_law_611 : decode cL_law 611 = .ok (.iconst 1, 1) := by decide +kernel
theorem dL_law_612 : decode cL_law 612 = .ok (.iadd, 1) := by decide +kernel
theorem dL_law_613 : decode cL_law 613 = .ok (.iaload, 1) := by decide +kernel
theorem dL_law_614 : decode cL_law 614 = .ok (.aload_n 0, 1) := by decide +kernel
theorem dL_law_615 : decode cL_law 615 = .ok (.iload_n 3, 1) := by decide +kernel
theorem dL_law_616 : decode cL_law 616 = .ok (.iconst 2, 1) := by decide +kernel
theorem dL_law_617 : decode cL_law 617 = .ok (.iadd, 1) := by decide +kernel
theorem dL_law_618 : decode cL_law 618 = .ok (.iaload, 1) := by decide +kernel
theorem dL_law_619 : decode cL_law 619 = .ok (.aload_n 0, 1) := by decide +kernel
theorem dL_law_620 : decode cL_law 620 = .ok (.iload_n 3, 1) := by decide +kernel
theorem dL_law_621 : decode cL_law 621 = .ok (.iconst 3, 1) := by decide +kernel
theorem dL_law_622 : decode cL_law 622 = .ok (.iadd, 1) := by decide +kernel
theorem dL_law_623 : decode cL_law 623 = .ok (.iaload, 1) := by decide +kernel
theorem dL_law_624 : decode cL_law 624 = .ok (.invokevirtual 96, 3) := by decide +kernel
theorem dL_law_627 : decode cL_law 627 = .ok (.aload_n 2, 1) := by decide +kernel
theorem dL_law_628 : decode cL_law 628 = .ok (.aload_n 0, 1) := by decide +kernel
theorem dL_law_629 : decode cL_law 629 = .ok (.iload_n 3, 1) := by decide +kernel
theorem dL_law_630 : decode cL_law 630 = .ok (.iconst 1, 1) := by decide +kernel
theorem dL_law_631 : decode cL_law 631 = .ok (.iadd, 1) := by decide +kernel
theorem dL_law_632 : decode cL_law 632 = .ok (.iaload, 1) := by decide +kernel
theorem dL_law_633 : decode cL_law 633 = .ok (.aload_n 0, 1) := by decide +kernel
theorem dL_law_634 : decode cL_law 634 = .ok (.iload_n 3, 1) := by decide +kernel
theorem dL_law_635 : decode cL_law 635 = .ok (.iconst 2, 1) := by decide +kernel
theorem dL_law_636 : decode cL_law 636 = .ok (.iadd, 1) := by decide +kernel
theorem dL_law_637 : decode cL_law 637 = .ok (.iaload, 1) := by decide +kernel
theorem dL_law_638 : decode cL_law 638 = .ok (.aload_n 0, 1) := by decide +kernel
theorem dL_law_639 : decode cL_law 639 = .ok (.iload_n 3, 1) := by decide +kernel
theorem dL_law_640 : decode cL_law 640 = .ok (.iconst 3, 1) := by decide +kernel
theorem dL_law_641 : decode cL_law 641 = .ok (.iadd, 1) := by decide +kernel
theorem dL_law_642 : decode cL_law 642 = .ok (.iaload, 1) := by decide +kernel
theorem dL_law_643 : decode cL_law 643 = .ok (.invokevirtual 100, 3) := by decide +kernel
theorem dL_law_646 : decode cL_law 646 = .ok (.if_icmp .eq 97, 3) := by decide +kernel
theorem dL_law_649 : decode cL_law 649 = .ok (.iconst 0, 1) := by decide +kernel
theorem dL_law_650 : decode cL_law 650 = .ok (.ireturn, 1) := by decide +kernel
theorem dL_law_651 : decode cL_law 651 = .ok (.aload_n 1, 1) := by decide +kernel
theorem dL_law_652 : decode cL_law 652 = .ok (.aload_n 0, 1) := by decide +kernel
theorem dL_law_653 : decode cL_law 653 = .ok (.iload_n 3, 1) := by decide +kernel
theorem dL_law_654 : decode cL_law 654 = .ok (.iconst 1, 1) := by decide +kernel
theorem dL_law_655 : decode cL_law 655 = .ok (.iadd, 1) := by decide +kernel
theorem dL_law_656 : decode cL_law 656 = .ok (.iaload, 1) := by decide +kernel
theorem dL_law_657 : decode cL_law 657 = .ok (.aload_n 0, 1) := by decide +kernel
theorem dL_law_658 : decode cL_law 658 = .ok (.iload_n 3, 1) := by decide +kernel
theorem dL_law_659 : decode cL_law 659 = .ok (.iconst 2, 1) := by decide +kernel
theorem dL_law_660 : decode cL_law 660 = .ok (.iadd, 1) := by decide +kernel
theorem dL_law_661 : decode cL_law 661 = .ok (.iaload, 1) := by decide +kernel
theorem dL_law_662 : decode cL_law 662 = .ok (.aload_n 0, 1) := by decide +kernel
theorem dL_law_663 : decode cL_law 663 = .ok (.iload_n 3, 1) := by decide +kernel
theorem dL_law_664 : decode cL_law 664 = .ok (.iconst 3, 1) := by decide +kernel
theorem dL_law_665 : decode cL_law 665 = .ok (.iadd, 1) := by decide +kernel
theorem dL_law_666 : decode cL_law 666 = .ok (.iaload, 1) := by decide +kernel
theorem dL_law_667 : decode cL_law 667 = .ok (.invokevirtual 101, 3) := by decide +kernel
theorem dL_law_670 : decode cL_law 670 = .ok (.aload_n 2, 1) := by decide +kernel
theorem dL_law_671 : decode cL_law 671 = .ok (.aload_n 0, 1) := by decide +kernel
theorem dL_law_672 : decode cL_law 672 = .ok (.iload_n 3, 1) := by decide +kernel
theorem dL_law_673 : decode cL_law 673 = .ok (.iconst 1, 1) := by decide +kernel
theorem dL_law_674 : decode cL_law 674 = .ok (.iadd, 1) := by decide +kernel
theorem dL_law_675 : decode cL_law 675 = .ok (.iaload, 1) := by decide +kernel
theorem dL_law_676 : decode cL_law 676 = .ok (.aload_n 0, 1) := by decide +kernel
theorem dL_law_677 : decode cL_law 677 = .ok (.iload_n 3, 1) := by decide +kernel
theorem dL_law_678 : decode cL_law 678 = .ok (.iconst 2, 1) := by decide +kernel
theorem dL_law_679 : decode cL_law 679 = .ok (.iadd, 1) := by decide +kernel
theorem dL_law_680 : decode cL_law 680 = .ok (.iaload, 1) := by decide +kernel
theorem dL_law_681 : decode cL_law 681 = .ok (.aload_n 0, 1) := by decide +kernel
theorem dL_law_682 : decode cL_law 682 = .ok (.iload_n 3, 1) := by decide +kernel
theorem dL_law_683 : decode cL_law 683 = .ok (.iconst 3, 1) := by decide +kernel
theorem dL_law_684 : decode cL_law 684 = .ok (.iadd, 1) := by decide +kernel
theorem dL_law_685 : decode cL_law 685 = .ok (.iaload, 1) := by decide +kernel
theorem dL_law_686 : decode cL_law 686 = .ok (.invokevirtual 104, 3) := by decide +kernel
theorem dL_law_689 : decode cL_law 689 = .ok (.if_icmp .eq 54, 3) := by decide +kernel
theorem dL_law_692 : decode cL_law 692 = .ok (.iconst 0, 1) := by decide +kernel
theorem dL_law_693 : decode cL_law 693 = .ok (.ireturn, 1) := by decide +kernel
theorem dL_law_694 : decode cL_law 694 = .ok (.aload_n 1, 1) := by decide +kernel
theorem dL_law_695 : decode cL_law 695 = .ok (.invokevirtual 105, 3) := by decide +kernel
theorem dL_law_698 : decode cL_law 698 = .ok (.aload_n 2, 1) := by decide +kernel
theorem dL_law_699 : decode cL_law 699 = .ok (.invokevirtual 108, 3) := by decide +kernel
theorem dL_law_702 : decode cL_law 702 = .ok (.if_icmp .eq 41, 3) := by decide +kernel
theorem dL_law_705 : decode cL_law 705 = .ok (.iconst 0, 1) := by decide +kernel
theorem dL_law_706 : decode cL_law 706 = .ok (.ireturn, 1) := by decide +kernel
theorem dL_law_707 : decode cL_law 707 = .ok (.aload_n 1, 1) := by decide +kernel
theorem dL_law_708 : decode cL_law 708 = .ok (.invokevirtual 109, 3) := by decide +kernel
theorem dL_law_711 : decode cL_law 711 = .ok (.aload_n 2, 1) := by decide +kernel
theorem dL_law_712 : decode cL_law 712 = .ok (.invokevirtual 112, 3) := by decide +kernel
theorem dL_law_715 : decode cL_law 715 = .ok (.if_icmp .eq 28, 3) := by decide +kernel
theorem dL_law_718 : decode cL_law 718 = .ok (.iconst 0, 1) := by decide +kernel
theorem dL_law_719 : decode cL_law 719 = .ok (.ireturn, 1) := by decide +kernel
theorem dL_law_720 : decode cL_law 720 = .ok (.aload_n 1, 1) := by decide +kernel
theorem dL_law_721 : decode cL_law 721 = .ok (.aload_n 0, 1) := by decide +kernel
theorem dL_law_722 : decode cL_law 722 = .ok (.iload_n 3, 1) := by decide +kernel
theorem dL_law_723 : decode cL_law 723 = .ok (.iconst 1, 1) := by decide +kernel
theorem dL_law_724 : decode cL_law 724 = .ok (.iadd, 1) := by decide +kernel
theorem dL_law_725 : decode cL_law 725 = .ok (.iaload, 1) := by decide +kernel
theorem dL_law_726 : decode cL_law 726 = .ok (.invokevirtual 113, 3) := by decide +kernel
theorem dL_law_729 : decode cL_law 729 = .ok (.aload_n 2, 1) := by decide +kernel
theorem dL_law_730 : decode cL_law 730 = .ok (.aload_n 0, 1) := by decide +kernel
theorem dL_law_731 : decode cL_law 731 = .ok (.iload_n 3, 1) := by decide +kernel
theorem dL_law_732 : decode cL_law 732 = .ok (.iconst 1, 1) := by decide +kernel
theorem dL_law_733 : decode cL_law 733 = .ok (.iadd, 1) := by decide +kernel
theorem dL_law_734 : decode cL_law 734 = .ok (.iaload, 1) := by decide +kernel
theorem dL_law_735 : decode cL_law 735 = .ok (.invokevirtual 116, 3) := by decide +kernel
theorem dL_law_738 : decode cL_law 738 = .ok (.if_icmp .eq 5, 3) := by decide +kernel
theorem dL_law_741 : decode cL_law 741 = .ok (.iconst 0, 1) := by decide +kernel
theorem dL_law_742 : decode cL_law 742 = .ok (.ireturn, 1) := by decide +kernel
theorem dL_law_743 : decode cL_law 743 = .ok (.iinc 3 4, 3) := by decide +kernel
theorem dL_law_746 : decode cL_law 746 = .ok (.goto (-728), 3) := by decide +kernel
theorem dL_law_749 : decode cL_law 749 = .ok (.iconst 1, 1) := by decide +kernel
theorem dL_law_750 : decode cL_law 750 = .ok (.ireturn, 1) := by decide +kernel
end
section
def imax (x y : Int32) : Int32 := if x < y then y else x
def imin (x y : Int32) : Int32 := if y < x then y else x
/-! the good words of the tables, in one list; the words of nest mates -/
def BIG : List Cond := lw_tbl.filter goodWord
def isNest : Cond → Bool
  | .methodLinkNest _ _ _ _ => true
  | .fieldLinkNest _ _ _ _ _ _ => true
  | _ => false
def NWL : List Cond := tables_1.filter isNest
theorem big_t {w : Cond} (i : Nat) (h : tables_1[i]? = some w) (g : goodWord w = true) : w ∈ BIG := List.mem_filter.mpr ⟨List.mem_append_right _ (List.mem_of_getElem? h), g⟩
theorem big_p {y : MethodName} {n : Nat} (h : (y, n) ∈ lw_privs) : Cond.selects y.cls y y ∈ BIG := List.mem_filter.mpr ⟨List.mem_append_left _ (List.mem_map.mpr ⟨(y, n), h, rfl⟩), rfl⟩
theorem nw_t {w : Cond} (i : Nat) (h : tables_1[i]? = some w) (g : isNest w = true) : w ∈ NWL := List.mem_filter.mpr ⟨List.mem_of_getElem? h, g⟩
theorem big_good {w : Cond} (h : w ∈ BIG) : (w.onTables && w.keeps) = true ∨ ∃ ty, w = .arrayClass ty := good_of_word (List.mem_filter.mp h).2
theorem big_in {y : MethodName} {bytes : ByteArray} {n : Nat} {ret : Option FieldType} (h : Cond.code y bytes n ret ∈ BIG) : GoodIn BIG (Cond.code y bytes n ret :: BIG) := by
  intro w hw
  rcases List.mem_cons.mp hw with e | e
  · rw [e]; exact ⟨h, big_good h⟩
  · exact ⟨e, big_good e⟩
theorem nw_warm {s U : State} (hW : s.WarmedH U.vm) (h : ∀ w ∈ NWL, va_Nw w s) : ∀ w ∈ NWL, va_Nw w U := by
  intro w hw
  have hn := (List.mem_filter.mp hw).2
  have h0 := h w hw
  unfold isNest at hn
  split at hn
  · exact va_Nw.warmM hW h0
  · exact va_Nw.warmF hW h0
  · cases hn
theorem nw_same {u U : State} (e : u.vm = U.vm) (h : ∀ w ∈ NWL, va_Nw w u) : ∀ w ∈ NWL, va_Nw w U := by
  intro w hw
  have hn := (List.mem_filter.mp hw).2
  have h0 := h w hw
  unfold isNest at hn
  split at hn
  · exact va_Nw.same rfl e h0
  · exact va_Nw.same rfl e h0
  · cases hn
/-! memory: a number for each cell and place -/
abbrev Mem : Type := Nat → Nat → Int32
def mset (M : Mem) (k i : Nat) (v : Int32) : Mem := fun q => if q = k then upd (M k) i v else M q
theorem mset_self (M : Mem) (k i : Nat) (v : Int32) : mset M k i v k = upd (M k) i v := if_pos rfl
theorem mset_ne {M : Mem} {k i q : Nat} {v : Int32} (h : q ≠ k) : mset M k i v q = M q := if_neg h
abbrev ZT : Type := Nat × (Nat × ((Nat → Nat) × (ClassId × (ClassId × (va_G × (Nat → Nat))))))
def zb (Z : ZT) : Nat := Z.1
def zn (Z : ZT) : Nat := Z.2.1
def zl (Z : ZT) : Nat → Nat := Z.2.2.1
def zI (Z : ZT) : ClassId := Z.2.2.2.1
def zH (Z : ZT) : ClassId := Z.2.2.2.2.1
def zG (Z : ZT) : va_G := Z.2.2.2.2.2.1
def zt (Z : ZT) : Nat → Nat := Z.2.2.2.2.2.2

def layXl : List Nat := [8, 5, 300, 105, 4, 107, 107, 107, 107, 107, 107, 4, 107, 107, 107, 107, 107, 107, 2, 107, 107, 107, 107, 107, 107, 107, 2, 107, 107, 107, 107, 107, 107, 107, 3, 107, 107, 107, 107, 107, 6, 2008, 2, 107, 107, 107, 107, 107, 107, 107, 2, 107, 107, 107, 107, 107, 107, 107, 2, 107, 107, 107, 107, 107, 107, 107, 2, 107, 107, 107, 107, 107, 107, 107, 2, 107, 107, 107, 107, 107, 107, 107, 2, 107, 107, 107, 107, 107, 107, 107, 2, 107, 107, 107, 107, 107, 107, 107, 2, 107, 107, 107, 107, 107, 107, 107, 6, 2002, 2, 107, 107, 107, 107, 107, 107, 107, 2, 107, 107, 107, 107, 107, 107, 107, 1, 107, 107, 107, 2, 107, 107, 107, 107, 107, 107, 107, 3, 107, 107, 107, 107, 107, 7, 107, 107, 107, 107, 107, 0, 107, 2, 107, 107, 107, 107, 107, 107, 107, 3, 107, 107, 107, 107, 107]
def layMl : List Nat := [9, 712, 107, 107, 107, 107, 107, 107, 300, 135, 107, 107, 108, 107, 108, 107]
def layX (k : Nat) : Nat := layXl.getD k 0
def layM (k : Nat) : Nat := layMl.getD k 0
/-- the fields of an object of class kd at k, its numbers in r -/
def fvals (b : Nat) (r : Nat → Int32) (k : Nat) : Nat → List Value
  | 0 => [.ref (b + 4), .ref (b + (k + 2)), .ref (b + (k + 10)), .ref (b + (k + 1)), .int (r 4), .int (r 5), .int (r 6)]
  | 1 => [.ref (b + 4), .ref (b + (k + 4)), .ref (b + (k + 12)), .ref (b + (k + 1)), .ref (b + (k + 2)), .ref (b + (k + 3)), .int (r 6), .int (r 7), .int (r 8), .int (r 9), .int (r 10)]
  | 2 => [.ref (b + 4), .ref (b + (k + 1)), .ref (b + (k + 2)), .ref (b + (k + 3)), .ref (b + (k + 4)), .ref (b + (k + 5)), .ref (b + (k + 6)), .ref (b + (k + 7)), .int (r 8), .int (r 9)]
  | 3 => [.ref (b + 4), .ref (b + (k + 1)), .ref (b + (k + 2)), .ref (b + (k + 3)), .ref (b + (k + 4)), .ref (b + (k + 5)), .int (r 6), .int (r 7), .int (r 8)]
  | 4 => [.ref (b + (k + 1)), .ref (b + (k + 2)), .ref (b + (k + 3)), .ref (b + (k + 4)), .ref (b + (k + 5)), .ref (b + (k + 6)), .int (r 6), .int (r 7)]
  | 5 => [.ref (b + (k + 1)), .ref (b + (k + 2)), .int (r 2)]
  | 6 => [.ref (b + (k + 1)), .int (r 1)]
  | 7 => [.ref (b + 4), .ref (b + (k + 1)), .ref (b + (k + 2)), .ref (b + (k + 3)), .ref (b + (k + 4)), .ref (b + (k + 5)), .int (r 6), .int (r 7), .int (r 8)]
  | 8 => [.ref (b + 1), .ref (b + 4), .ref (b + 11), .ref (b + 18), .ref (b + 26), .ref (b + 34), .ref (b + 40), .ref (b + 106), .ref (b + 124), .ref (b + 142), .ref (b + 148)]
  | 9 => [.ref (b + (k + 1)), .int (r 1), .int (r 2), .int (r 3), .ref (b + (k + 2)), .ref (b + (k + 3)), .ref (b + (k + 4)), .ref (b + (k + 5)), .int (r 8), .ref (b + (k + 6)), .ref (b + (k + 7)), .ref (b + (k + 8)), .int (r 12), .int (r 13), .int (r 14), .int (r 15), .ref (b + (k + 9)), .int (r 17), .ref (b + (k + 10)), .ref (b + (k + 11)), .ref (b + (k + 12)), .ref (b + (k + 13)), .ref (b + (k + 14)), .ref (b + (k + 15))]
  | _ => []
def cellE (Z : ZT) (r : Nat → Int32) (k : Nat) : va_E :=
  if zl Z k < 100 then .inr (zl Z k, fvals (zb Z) r k (zl Z k)) else if zl Z k < 2000 then .inl (zI Z, (zl Z k - 100, .inl r)) else .inl (zH Z, (zl Z k - 2000, .inr (.inr (.inr (.inr (fun i => some (zb Z + (r i).toNatClampNeg)))))))
def wl (Z : ZT) (M : Mem) : va_W := (List.range (zn Z)).map (fun k => (zb Z + k, cellE Z (M k) k))
def Wd (Z : ZT) (M : Mem) (H : Heap) : Prop := va_P (zG Z) vwCl (wl Z M) H
def AZ (Z : ZT) : Nat → Prop := fun q => zb Z ≤ q ∧ q < zb Z + zn Z
theorem wl_get {Z : ZT} {M : Mem} {k : Nat} (h : k < zn Z) : (wl Z M)[k]? = some (zb Z + k, cellE Z (M k) k) := by
  unfold wl
  rw [List.getElem?_map, List.getElem?_range h]; rfl
theorem wl_inv {Z : ZT} {M : Mem} {k : Nat} {q : Nat × va_E} (h : (wl Z M)[k]? = some q) : k < zn Z ∧ q = (zb Z + k, cellE Z (M k) k) := by
  have hl := (List.getElem?_eq_some_iff.mp h).1
  have hk : k < zn Z := by simpa [wl] using hl
  refine ⟨hk, ?_⟩
  rw [wl_get hk] at h
  exact (Option.some.inj h).symm
theorem wl_set {Z : ZT} {M : Mem} {k i : Nat} {v : Int32} : (wl Z M).set k (zb Z + k, cellE Z (upd (M k) i v) k) = wl Z (mset M k i v) := by
  apply List.ext_getElem?
  intro j
  by_cases hj : j < zn Z
  · by_cases e : k = j
    · subst e
      rw [List.getElem?_set_self (by simpa [wl] using hj), wl_get hj, mset_self]
    · rw [List.getElem?_set_ne e, wl_get hj, wl_get hj, mset_ne (fun z => e z.symm)]
  · rw [List.getElem?_eq_none (by simpa [wl] using hj), List.getElem?_eq_none (by simpa [wl] using hj)]
theorem wl_D {Z : ZT} {M : Mem} : va_D (AZ Z) (wl Z M) := by
  refine ⟨fun i j p q hi hj e => ?_, fun k q hk => ?_⟩
  · obtain ⟨h1, rfl⟩ := wl_inv hi
    obtain ⟨h2, rfl⟩ := wl_inv hj
    exact Nat.add_left_cancel e
  · obtain ⟨h1, rfl⟩ := wl_inv hk
    exact ⟨Nat.le_add_right _ _, Nat.add_lt_add_left h1 _⟩
def AtO (Z : ZT) (k kd : Nat) : Prop := zl Z k = kd ∧ k < zn Z ∧ kd < 100
def AtA (Z : ZT) (k n : Nat) : Prop := zl Z k = 100 + n ∧ k < zn Z ∧ n < 1000
def AtR (Z : ZT) (k n : Nat) : Prop := zl Z k = 2000 + n ∧ k < zn Z ∧ n < 1000
theorem wl_obj {Z : ZT} {M : Mem} {k kd : Nat} (h : AtO Z k kd) : (wl Z M)[k]? = some (zb Z + k, .inr (kd, fvals (zb Z) (M k) k kd)) := by
  rw [wl_get h.2.1, cellE, h.1, if_pos h.2.2]
theorem wl_arr {Z : ZT} {M : Mem} {k n : Nat} (h : AtA Z k n) : (wl Z M)[k]? = some (zb Z + k, .inl (zI Z, (n, .inl (M k)))) := by
  have h3 := h.2.2
  rw [wl_get h.2.1, cellE, h.1, if_neg (by omega), if_pos (by omega), Nat.add_sub_cancel_left]
theorem wl_refs {Z : ZT} {M : Mem} {k n : Nat} (h : AtR Z k n) : (wl Z M)[k]? = some (zb Z + k, .inl (zH Z, (n, .inr (.inr (.inr (.inr (fun i => some (zb Z + (M k i).toNatClampNeg)))))))) := by
  have h3 := h.2.2
  rw [wl_get h.2.1, cellE, h.1, if_neg (by omega), if_neg (by omega), Nat.add_sub_cancel_left]
theorem cellE_obj {Z : ZT} {r : Nat → Int32} {k kd : Nat} (h : AtO Z k kd) : cellE Z r k = .inr (kd, fvals (zb Z) r k kd) := by
  rw [cellE, h.1, if_pos h.2.2]
theorem cellE_arr {Z : ZT} {r : Nat → Int32} {k n : Nat} (h : AtA Z k n) : cellE Z r k = .inl (zI Z, (n, .inl r)) := by
  have h3 := h.2.2
  rw [cellE, h.1, if_neg (by omega), if_pos (by omega), Nat.add_sub_cancel_left]
theorem cellE_refs {Z : ZT} {r : Nat → Int32} {k n : Nat} (h : AtR Z k n) : cellE Z r k = .inl (zH Z, (n, .inr (.inr (.inr (.inr (fun i => some (zb Z + (r i).toNatClampNeg))))))) := by
  have h3 := h.2.2
  rw [cellE, h.1, if_neg (by omega), if_neg (by omega), Nat.add_sub_cancel_left]
/-! the static rows of numbers -/
def tnm : Nat → String
  | 0 => "GUEST_LEAST"
  | 1 => "GUEST_MOST"
  | 2 => "ROOM_LEAST"
  | _ => "ROOM_MOST"
def tln : Nat → Nat
  | 0 => 5
  | 1 => 5
  | _ => 1
def tva : Nat → Nat → Int32
  | 0, j => ([0, 0, 1, 0, 1] : List Int32).getD j 0
  | 1, j => ([3, 40, 30, 20, 9] : List Int32).getD j 0
  | 2, j => ([0] : List Int32).getD j 0
  | _, j => ([9] : List Int32).getD j 0
def TB (Z : ZT) (s : State) (H : Heap) : Prop := ∀ j, j < 4 → va_Z RX5 (tnm j) "[I" (.ref (zt Z j)) (AZ Z) s H ∧ va_T .int (zt Z j) (tln j) (fun i => .int (tva j i)) (AZ Z) s H
def EX (Z : ZT) (s : State) : Prop := va_K (zG Z) vwCl [(zI Z, .int), (zH Z, .object RX2)] s ∧ (∀ w ∈ NWL, va_Nw w s) ∧ TB Z s s.heap
theorem EX.step {Z : ZT} {s U : State} {H : Heap} {locs : List Loc} (E : EX Z s) (hS : va_S (AZ Z) s.heap H locs) (hU : U.heap = H) (hW : s.WarmedH U.vm) : EX Z U :=
  ⟨va_K.moved hW.alike E.1, nw_warm hW E.2.1, fun j hj => ⟨((E.2.2 j hj).1.moved hW.alike).kept (fun a h1 h2 => by rw [hU]; exact hS.2.1 a h1 h2), ((E.2.2 j hj).2.moved hW.alike).kept (fun a h1 h2 => by rw [hU]; exact hS.2.1 a h1 h2)⟩⟩
theorem EX.blind {Z : ZT} {U : State} (E : EX Z U) (g : JFrame) (mk : MethodId) (a : Array Value) : EX Z (U.calling g mk a) :=
  ⟨va_K.moved (u := U) (U := U.calling g mk a) (Vm.Alike.refl U.vm) E.1, nw_same (u := U) (U := U.calling g mk a) rfl E.2.1, fun j hj => ⟨(E.2.2 j hj).1.moved (u := U) (U := U.calling g mk a) (Vm.Alike.refl U.vm), (E.2.2 j hj).2.moved (u := U) (U := U.calling g mk a) (Vm.Alike.refl U.vm)⟩⟩
/-! the abstract walk -/
abbrev XT : Type := Program × (Launch × (Env × (Room × (State × (MethodId × (Array Value × (List Frame × (Method × (Code × ((State → Prop) × Nat))))))))))
def xp (X : XT) : Program := X.1
def xl (X : XT) : Launch := X.2.1
def xe (X : XT) : Env := X.2.2.1
def xR (X : XT) : Room := X.2.2.2.1
def xs (X : XT) : State := X.2.2.2.2.1
def xm (X : XT) : MethodId := X.2.2.2.2.2.1
def xa (X : XT) : Array Value := X.2.2.2.2.2.2.1
def xb (X : XT) : List Frame := X.2.2.2.2.2.2.2.1
def xt (X : XT) : Method := X.2.2.2.2.2.2.2.2.1
def xc (X : XT) : Code := X.2.2.2.2.2.2.2.2.2.1
def xQ (X : XT) : State → Prop := X.2.2.2.2.2.2.2.2.2.2.1
def xn (X : XT) : Nat := X.2.2.2.2.2.2.2.2.2.2.2
def GS (Z : ZT) (X : XT) (pc : Nat) (lv : List (Nat × Value)) (st : List Value) (M : Mem) : Prop :=
  ∀ (H : Heap) (locs : List Loc) (ls : Array Slot), Wd Z M H → va_S (AZ Z) (xs X).heap H locs → lv_has ls (xn X) lv → W (xp X) (xl X) (xe X) (xR X) (xs X) (xm X) (xa X) (xb X) (xt X) (xc X) H locs 0 0 (xQ X) (F0 (xm X) pc ls st)
def CX (X : XT) (cc : ByteArray) (own : String) (nL fr lo : Nat) : Prop :=
  (xp X).tables.exec = Jvm.exec ∧ (xc X).code = cc ∧ (xc X).maxLocals = nL ∧ (xs X).vm.findClass own = some (xm X).cls ∧ (∀ w ∈ BIG, w.before (xa X) (xs X) = true) ∧ (xt X).locks = false ∧ xn X = nL ∧ (xR X).frames = fr ∧ (xR X).locals = lo
section Rows
variable {Z : ZT} {X : XT} {cc : ByteArray} {own : String} {nL fr lo pc n : Nat} {lv lv' : List (Nat × Value)} {rest st : List Value} {M : Mem}
theorem g_sub (ps : List Nat) (h : lv_pick lv ps = lv') (k : GS Z X pc lv' st M) : GS Z X pc lv st M := fun H locs ls hW hS hl => k H locs ls hW hS (lv_sub hl ps h)
theorem CX.word (C : CX X cc own nL fr lo) {w : Cond} (h : w ∈ BIG) : w.before (xa X) (xs X) = true := C.2.2.2.2.1 w h
theorem CX.fix (C : CX X cc own nL fr lo) : CallFix (xp X) (xm X) (xc X) cc nL (xs X) (xa X) BIG own := ⟨C.1, C.2.1, C.2.2.1, C.2.2.2.1, C.2.2.2.2.1⟩

theorem g_iconst {q : Int} (v : Int32) (C : CX X cc own nL fr lo) (d : decode cc pc = .ok (.iconst q, 1)) (hv : Int32.ofInt q = v) (hn : pc + 1 = n) (k : GS Z X n lv (.int v :: rest) M) : GS Z X pc lv (rest) M := by
  subst hn
  exact fun H locs ls hW hS hl => lv_iconst C.1 C.2.1 d hv (k H locs ls hW hS hl)
theorem g_bipush {q : Int} (v : Int32) (C : CX X cc own nL fr lo) (d : decode cc pc = .ok (.bipush q, 2)) (hv : (Int8.ofInt q).toInt32 = v) (hn : pc + 2 = n) (k : GS Z X n lv (.int v :: rest) M) : GS Z X pc lv (rest) M := by
  subst hn
  exact fun H locs ls hW hS hl => lv_bipush C.1 C.2.1 d hv (k H locs ls hW hS hl)
theorem g_sipush {q : Int} (v : Int32) (C : CX X cc own nL fr lo) (d : decode cc pc = .ok (.sipush q, 3)) (hv : (Int16.ofInt q).toInt32 = v) (hn : pc + 3 = n) (k : GS Z X n lv (.int v :: rest) M) : GS Z X pc lv (rest) M := by
  subst hn
  exact fun H locs ls hW hS hl => lv_sipush C.1 C.2.1 d hv (k H locs ls hW hS hl)
theorem g_lconst {q : Fin 2} (v : Int64) (C : CX X cc own nL fr lo) (d : decode cc pc = .ok (.lconst q, 1)) (hv : Int64.ofNat (q : Nat) = v) (hn : pc + 1 = n) (k : GS Z X n lv (.long v :: rest) M) : GS Z X pc lv (rest) M := by
  subst hn
  exact fun H locs ls hW hS hl => lv_lconst C.1 C.2.1 d hv (k H locs ls hW hS hl)
theorem g_iadd {x y : Int32} (C : CX X cc own nL fr lo) (d : decode cc pc = .ok (.iadd, 1))  (hn : pc + 1 = n) (k : GS Z X n lv (.int (x + y) :: rest) M) : GS Z X pc lv (.int y :: .int x :: rest) M := by
  subst hn
  exact fun H locs ls hW hS hl => lv_iadd C.1 C.2.1 d  (k H locs ls hW hS hl)
theorem g_isub {x y : Int32} (C : CX X cc own nL fr lo) (d : decode cc pc = .ok (.isub, 1))  (hn : pc + 1 = n) (k : GS Z X n lv (.int (x - y) :: rest) M) : GS Z X pc lv (.int y :: .int x :: rest) M := by
  subst hn
  exact fun H locs ls hW hS hl => lv_isub C.1 C.2.1 d  (k H locs ls hW hS hl)
theorem g_imul {x y : Int32} (C : CX X cc own nL fr lo) (d : decode cc pc = .ok (.imul, 1))  (hn : pc + 1 = n) (k : GS Z X n lv (.int (x * y) :: rest) M) : GS Z X pc lv (.int y :: .int x :: rest) M := by
  subst hn
  exact fun H locs ls hW hS hl => lv_imul C.1 C.2.1 d  (k H locs ls hW hS hl)
theorem g_iand {x y : Int32} (C : CX X cc own nL fr lo) (d : decode cc pc = .ok (.iand, 1))  (hn : pc + 1 = n) (k : GS Z X n lv (.int (x &&& y) :: rest) M) : GS Z X pc lv (.int y :: .int x :: rest) M := by
  subst hn
  exact fun H locs ls hW hS hl => lv_iand C.1 C.2.1 d  (k H locs ls hW hS hl)
theorem g_ior {x y : Int32} (C : CX X cc own nL fr lo) (d : decode cc pc = .ok (.ior, 1))  (hn : pc + 1 = n) (k : GS Z X n lv (.int (x ||| y) :: rest) M) : GS Z X pc lv (.int y :: .int x :: rest) M := by
  subst hn
  exact fun H locs ls hW hS hl => lv_ior C.1 C.2.1 d  (k H locs ls hW hS hl)
theorem g_ixor {x y : Int32} (C : CX X cc own nL fr lo) (d : decode cc pc = .ok (.ixor, 1))  (hn : pc + 1 = n) (k : GS Z X n lv (.int (x ^^^ y) :: rest) M) : GS Z X pc lv (.int y :: .int x :: rest) M := by
  subst hn
  exact fun H locs ls hW hS hl => lv_ixor C.1 C.2.1 d  (k H locs ls hW hS hl)
theorem g_ishl {x y : Int32} (C : CX X cc own nL fr lo) (d : decode cc pc = .ok (.ishl, 1))  (hn : pc + 1 = n) (k : GS Z X n lv (.int (x <<< (y &&& 31)) :: rest) M) : GS Z X pc lv (.int y :: .int x :: rest) M := by
  subst hn
  exact fun H locs ls hW hS hl => lv_ishl C.1 C.2.1 d  (k H locs ls hW hS hl)
theorem g_ishr {x y : Int32} (C : CX X cc own nL fr lo) (d : decode cc pc = .ok (.ishr, 1))  (hn : pc + 1 = n) (k : GS Z X n lv (.int (x >>> (y &&& 31)) :: rest) M) : GS Z X pc lv (.int y :: .int x :: rest) M := by
  subst hn
  exact fun H locs ls hW hS hl => lv_ishr C.1 C.2.1 d  (k H locs ls hW hS hl)
theorem g_idiv {x y : Int32} (C : CX X cc own nL fr lo) (d : decode cc pc = .ok (.idiv, 1)) (hne : ¬ y = 0) (hn : pc + 1 = n) (k : GS Z X n lv (.int (x / y) :: rest) M) : GS Z X pc lv (.int y :: .int x :: rest) M := by
  subst hn
  exact fun H locs ls hW hS hl => lv_idiv C.1 C.2.1 d hne (k H locs ls hW hS hl)
theorem g_irem {x y : Int32} (C : CX X cc own nL fr lo) (d : decode cc pc = .ok (.irem, 1)) (hne : ¬ y = 0) (hn : pc + 1 = n) (k : GS Z X n lv (.int (x - x / y * y) :: rest) M) : GS Z X pc lv (.int y :: .int x :: rest) M := by
  subst hn
  exact fun H locs ls hW hS hl => lv_irem C.1 C.2.1 d hne (k H locs ls hW hS hl)
theorem g_ladd {x y : Int64} (C : CX X cc own nL fr lo) (d : decode cc pc = .ok (.ladd, 1))  (hn : pc + 1 = n) (k : GS Z X n lv (.long (x + y) :: rest) M) : GS Z X pc lv (.long y :: .long x :: rest) M := by
  subst hn
  exact fun H locs ls hW hS hl => lv_ladd C.1 C.2.1 d  (k H locs ls hW hS hl)
theorem g_lmul {x y : Int64} (C : CX X cc own nL fr lo) (d : decode cc pc = .ok (.lmul, 1))  (hn : pc + 1 = n) (k : GS Z X n lv (.long (x * y) :: rest) M) : GS Z X pc lv (.long y :: .long x :: rest) M := by
  subst hn
  exact fun H locs ls hW hS hl => lv_lmul C.1 C.2.1 d  (k H locs ls hW hS hl)
theorem g_lsub {x y : Int64} (C : CX X cc own nL fr lo) (d : decode cc pc = .ok (.lsub, 1))  (hn : pc + 1 = n) (k : GS Z X n lv (.long (x - y) :: rest) M) : GS Z X pc lv (.long y :: .long x :: rest) M := by
  subst hn
  exact fun H locs ls hW hS hl => lv_lsub C.1 C.2.1 d  (k H locs ls hW hS hl)
theorem g_lrem {x y : Int64} (C : CX X cc own nL fr lo) (d : decode cc pc = .ok (.lrem, 1)) (hne : ¬ y = 0) (hn : pc + 1 = n) (k : GS Z X n lv (.long (x - x / y * y) :: rest) M) : GS Z X pc lv (.long y :: .long x :: rest) M := by
  subst hn
  exact fun H locs ls hW hS hl => lv_lrem C.1 C.2.1 d hne (k H locs ls hW hS hl)
theorem g_i2l {x : Int32} (C : CX X cc own nL fr lo) (d : decode cc pc = .ok (.i2l, 1))  (hn : pc + 1 = n) (k : GS Z X n lv (.long x.toInt64 :: rest) M) : GS Z X pc lv (.int x :: rest) M := by
  subst hn
  exact fun H locs ls hW hS hl => lv_i2l C.1 C.2.1 d rfl (k H locs ls hW hS hl)
theorem g_l2i {x : Int64} (C : CX X cc own nL fr lo) (d : decode cc pc = .ok (.l2i, 1))  (hn : pc + 1 = n) (k : GS Z X n lv (.int x.toInt32 :: rest) M) : GS Z X pc lv (.long x :: rest) M := by
  subst hn
  exact fun H locs ls hW hS hl => lv_l2i C.1 C.2.1 d rfl (k H locs ls hW hS hl)
theorem g_lcmp {x y : Int64} (C : CX X cc own nL fr lo) (d : decode cc pc = .ok (.lcmp, 1))  (hn : pc + 1 = n) (k : GS Z X n lv (.int (lg_cmp x y) :: rest) M) : GS Z X pc lv (.long y :: .long x :: rest) M := by
  subst hn
  exact fun H locs ls hW hS hl => W.lcmp C.1 C.2.1 d  (k H locs ls hW hS hl)
theorem g_dup {va : Value} (C : CX X cc own nL fr lo) (d : decode cc pc = .ok (.dup, 1)) (hva : va.category = 1) (hn : pc + 1 = n) (k : GS Z X n lv (va :: va :: rest) M) : GS Z X pc lv (va :: rest) M := by
  subst hn
  exact fun H locs ls hW hS hl => lv_dup C.1 C.2.1 d hva (k H locs ls hW hS hl)
theorem g_pop {va : Value} (C : CX X cc own nL fr lo) (d : decode cc pc = .ok (.pop, 1)) (hva : va.category = 1) (hn : pc + 1 = n) (k : GS Z X n lv (rest) M) : GS Z X pc lv (va :: rest) M := by
  subst hn
  exact fun H locs ls hW hS hl => lv_pop C.1 C.2.1 d hva (k H locs ls hW hS hl)
theorem g_dup2 {va vb : Value} (C : CX X cc own nL fr lo) (d : decode cc pc = .ok (.dup2, 1)) (hva : va.category = 1) (hvb : vb.category = 1) (hn : pc + 1 = n) (k : GS Z X n lv (va :: vb :: va :: vb :: rest) M) : GS Z X pc lv (va :: vb :: rest) M := by
  subst hn
  exact fun H locs ls hW hS hl => lv_dup2_11 C.1 C.2.1 d hva hvb (k H locs ls hW hS hl)
theorem g_iload_n {q : Fin 4} {i : Nat} {x : Int32} (C : CX X cc own nL fr lo) (d : decode cc pc = .ok (.iload_n q, 1)) (hi : (q : Nat) = i) (p : Nat) (hp : lv[p]? = some (i, .int x)) (hn : pc + 1 = n) (k : GS Z X n lv (.int x :: rest) M) : GS Z X pc lv rest M := by
  subst hn
  exact fun H locs ls hW hS hl => lv_iload_n C.1 C.2.1 d hi (lv_at hl p hp) (k H locs ls hW hS hl)
theorem g_iload {i : Nat} {x : Int32} (C : CX X cc own nL fr lo) (d : decode cc pc = .ok (.iload i, 2)) (p : Nat) (hp : lv[p]? = some (i, .int x)) (hn : pc + 2 = n) (k : GS Z X n lv (.int x :: rest) M) : GS Z X pc lv rest M := by
  subst hn
  exact fun H locs ls hW hS hl => lv_iload C.1 C.2.1 d (lv_at hl p hp) (k H locs ls hW hS hl)
theorem g_aload_n {q : Fin 4} {i : Nat} {x : Nat} (C : CX X cc own nL fr lo) (d : decode cc pc = .ok (.aload_n q, 1)) (hi : (q : Nat) = i) (p : Nat) (hp : lv[p]? = some (i, .ref x)) (hn : pc + 1 = n) (k : GS Z X n lv (.ref x :: rest) M) : GS Z X pc lv rest M := by
  subst hn
  exact fun H locs ls hW hS hl => lv_aload_n C.1 C.2.1 d hi (lv_at hl p hp) (k H locs ls hW hS hl)
theorem g_aload {i : Nat} {x : Nat} (C : CX X cc own nL fr lo) (d : decode cc pc = .ok (.aload i, 2)) (p : Nat) (hp : lv[p]? = some (i, .ref x)) (hn : pc + 2 = n) (k : GS Z X n lv (.ref x :: rest) M) : GS Z X pc lv rest M := by
  subst hn
  exact fun H locs ls hW hS hl => lv_aload C.1 C.2.1 d (lv_at hl p hp) (k H locs ls hW hS hl)
theorem g_lload_n {q : Fin 4} {i : Nat} {x : Int64} (C : CX X cc own nL fr lo) (d : decode cc pc = .ok (.lload_n q, 1)) (hi : (q : Nat) = i) (p : Nat) (hp : lv[p]? = some (i, .long x)) (hn : pc + 1 = n) (k : GS Z X n lv (.long x :: rest) M) : GS Z X pc lv rest M := by
  subst hn
  exact fun H locs ls hW hS hl => lv_lload_n C.1 C.2.1 d hi (lv_at hl p hp) (k H locs ls hW hS hl)
theorem g_lload {i : Nat} {x : Int64} (C : CX X cc own nL fr lo) (d : decode cc pc = .ok (.lload i, 2)) (p : Nat) (hp : lv[p]? = some (i, .long x)) (hn : pc + 2 = n) (k : GS Z X n lv (.long x :: rest) M) : GS Z X pc lv rest M := by
  subst hn
  exact fun H locs ls hW hS hl => lv_lload C.1 C.2.1 d (lv_at hl p hp) (k H locs ls hW hS hl)
theorem g_istore_n {q : Fin 4} {i : Nat} {x : Int32} (C : CX X cc own nL fr lo) (d : decode cc pc = .ok (.istore_n q, 1)) (hi : (q : Nat) = i) (hm : i < nL) (hf : lv.filter (fun q => !(q.1 == i) && !(q.1 + 1 == i && q.2.category == 2)) = lv') (hn : pc + 1 = n) (k : ∀ z : Int32, z = x → GS Z X n ((i, .int z) :: lv') rest M) : GS Z X pc lv (.int x :: rest) M := by
  subst hn
  exact fun H locs ls hW hS hl => lv_istore_n C.1 C.2.1 d hi hl (by rw [C.2.2.2.2.2.2.1]; exact hm) (congrArg (List.cons (i, Value.int x)) hf) (fun ls2 hl2 => k x rfl H locs ls2 hW hS hl2)
theorem g_istore {i : Nat} {x : Int32} (C : CX X cc own nL fr lo) (d : decode cc pc = .ok (.istore i, 2)) (hm : i < nL) (hf : lv.filter (fun q => !(q.1 == i) && !(q.1 + 1 == i && q.2.category == 2)) = lv') (hn : pc + 2 = n) (k : ∀ z : Int32, z = x → GS Z X n ((i, .int z) :: lv') rest M) : GS Z X pc lv (.int x :: rest) M := by
  subst hn
  exact fun H locs ls hW hS hl => lv_istore C.1 C.2.1 d hl (by rw [C.2.2.2.2.2.2.1]; exact hm) (congrArg (List.cons (i, Value.int x)) hf) (fun ls2 hl2 => k x rfl H locs ls2 hW hS hl2)
theorem g_astore_n {q : Fin 4} {i : Nat} {x : Nat} (C : CX X cc own nL fr lo) (d : decode cc pc = .ok (.astore_n q, 1)) (hi : (q : Nat) = i) (hm : i < nL) (hf : lv.filter (fun q => !(q.1 == i) && !(q.1 + 1 == i && q.2.category == 2)) = lv') (hn : pc + 1 = n) (k : GS Z X n ((i, .ref x) :: lv') rest M) : GS Z X pc lv (.ref x :: rest) M := by
  subst hn
  exact fun H locs ls hW hS hl => lv_astore_n C.1 C.2.1 d hi hl (by rw [C.2.2.2.2.2.2.1]; exact hm) (congrArg (List.cons (i, Value.ref x)) hf) (fun ls2 hl2 => k H locs ls2 hW hS hl2)
theorem g_astore {i : Nat} {x : Nat} (C : CX X cc own nL fr lo) (d : decode cc pc = .ok (.astore i, 2)) (hm : i < nL) (hf : lv.filter (fun q => !(q.1 == i) && !(q.1 + 1 == i && q.2.category == 2)) = lv') (hn : pc + 2 = n) (k : GS Z X n ((i, .ref x) :: lv') rest M) : GS Z X pc lv (.ref x :: rest) M := by
  subst hn
  exact fun H locs ls hW hS hl => lv_astore C.1 C.2.1 d hl (by rw [C.2.2.2.2.2.2.1]; exact hm) (congrArg (List.cons (i, Value.ref x)) hf) (fun ls2 hl2 => k H locs ls2 hW hS hl2)
theorem g_lstore_n {q : Fin 4} {i : Nat} {x : Int64} (C : CX X cc own nL fr lo) (d : decode cc pc = .ok (.lstore_n q, 1)) (hi : (q : Nat) = i) (hm : i + 1 < nL) (hf : lv.filter (fun q => !(q.1 == i) && (!(q.1 == i + 1) && !(q.1 + 1 == i && q.2.category == 2))) = lv') (hn : pc + 1 = n) (k : ∀ z : Int64, z = x → GS Z X n ((i, .long z) :: lv') rest M) : GS Z X pc lv (.long x :: rest) M := by
  subst hn
  exact fun H locs ls hW hS hl => lv_lstore_n C.1 C.2.1 d hi hl (by rw [C.2.2.2.2.2.2.1]; exact hm) (congrArg (List.cons (i, Value.long x)) hf) (fun ls2 hl2 => k x rfl H locs ls2 hW hS hl2)
theorem g_lstore {i : Nat} {x : Int64} (C : CX X cc own nL fr lo) (d : decode cc pc = .ok (.lstore i, 2)) (hm : i + 1 < nL) (hf : lv.filter (fun q => !(q.1 == i) && (!(q.1 == i + 1) && !(q.1 + 1 == i && q.2.category == 2))) = lv') (hn : pc + 2 = n) (k : ∀ z : Int64, z = x → GS Z X n ((i, .long z) :: lv') rest M) : GS Z X pc lv (.long x :: rest) M := by
  subst hn
  exact fun H locs ls hW hS hl => lv_lstore C.1 C.2.1 d hl (by rw [C.2.2.2.2.2.2.1]; exact hm) (congrArg (List.cons (i, Value.long x)) hf) (fun ls2 hl2 => k x rfl H locs ls2 hW hS hl2)
theorem g_iinc {i : Nat} {x v : Int32} {q : Int} (C : CX X cc own nL fr lo) (d : decode cc pc = .ok (.iinc i q, 3)) (p : Nat) (hp : lv[p]? = some (i, .int x)) (hv : Int32.ofInt q = v) (hm : i < nL) (hf : lv.filter (fun q => !(q.1 == i) && !(q.1 + 1 == i && q.2.category == 2)) = lv') (hn : pc + 3 = n) (k : ∀ z : Int32, z = x + v → GS Z X n ((i, .int z) :: lv') rest M) : GS Z X pc lv rest M := by
  subst hn
  subst hv
  exact fun H locs ls hW hS hl => lv_iinc C.1 C.2.1 d hl hp rfl (by rw [C.2.2.2.2.2.2.1]; exact hm) (congrArg (List.cons (i, Value.int (x + Int32.ofInt q))) hf) (fun ls2 hl2 => k _ rfl H locs ls2 hW hS hl2)
theorem g_icmp_eq {x y : Int32} {off : Int} {tgt : Nat} (C : CX X cc own nL fr lo) (d : decode cc pc = .ok (.if_icmp .eq off, 3)) (ht : (pc : Int) + off = (tgt : Int)) (hn : pc + 3 = n) (kt : x = y → GS Z X tgt lv rest M) (kf : ¬ x = y → GS Z X n lv rest M) : GS Z X pc lv (.int y :: .int x :: rest) M := by
  subst hn
  exact fun H locs ls hW hS hl => lv_icmp_eq C.1 C.2.1 d ht (fun c => kt c H locs ls hW hS hl) (fun c => kf c H locs ls hW hS hl)
theorem g_if_eq {x : Int32} {off : Int} {tgt : Nat} (C : CX X cc own nL fr lo) (d : decode cc pc = .ok (.ifCond .eq off, 3)) (ht : (pc : Int) + off = (tgt : Int)) (hn : pc + 3 = n) (kt : x = 0 → GS Z X tgt lv rest M) (kf : ¬ x = 0 → GS Z X n lv rest M) : GS Z X pc lv (.int x :: rest) M := by
  subst hn
  exact fun H locs ls hW hS hl => lv_if_eq C.1 C.2.1 d ht (fun c => kt c H locs ls hW hS hl) (fun c => kf c H locs ls hW hS hl)
theorem g_icmp_ne {x y : Int32} {off : Int} {tgt : Nat} (C : CX X cc own nL fr lo) (d : decode cc pc = .ok (.if_icmp .ne off, 3)) (ht : (pc : Int) + off = (tgt : Int)) (hn : pc + 3 = n) (kt : ¬ x = y → GS Z X tgt lv rest M) (kf : x = y → GS Z X n lv rest M) : GS Z X pc lv (.int y :: .int x :: rest) M := by
  subst hn
  exact fun H locs ls hW hS hl => lv_icmp_ne C.1 C.2.1 d ht (fun c => kt c H locs ls hW hS hl) (fun c => kf c H locs ls hW hS hl)
theorem g_if_ne {x : Int32} {off : Int} {tgt : Nat} (C : CX X cc own nL fr lo) (d : decode cc pc = .ok (.ifCond .ne off, 3)) (ht : (pc : Int) + off = (tgt : Int)) (hn : pc + 3 = n) (kt : ¬ x = 0 → GS Z X tgt lv rest M) (kf : x = 0 → GS Z X n lv rest M) : GS Z X pc lv (.int x :: rest) M := by
  subst hn
  exact fun H locs ls hW hS hl => lv_if_ne C.1 C.2.1 d ht (fun c => kt c H locs ls hW hS hl) (fun c => kf c H locs ls hW hS hl)
theorem g_icmp_lt {x y : Int32} {off : Int} {tgt : Nat} (C : CX X cc own nL fr lo) (d : decode cc pc = .ok (.if_icmp .lt off, 3)) (ht : (pc : Int) + off = (tgt : Int)) (hn : pc + 3 = n) (kt : x < y → GS Z X tgt lv rest M) (kf : ¬ x < y → GS Z X n lv rest M) : GS Z X pc lv (.int y :: .int x :: rest) M := by
  subst hn
  exact fun H locs ls hW hS hl => lv_icmp_lt C.1 C.2.1 d ht (fun c => kt c H locs ls hW hS hl) (fun c => kf c H locs ls hW hS hl)
theorem g_if_lt {x : Int32} {off : Int} {tgt : Nat} (C : CX X cc own nL fr lo) (d : decode cc pc = .ok (.ifCond .lt off, 3)) (ht : (pc : Int) + off = (tgt : Int)) (hn : pc + 3 = n) (kt : x < 0 → GS Z X tgt lv rest M) (kf : ¬ x < 0 → GS Z X n lv rest M) : GS Z X pc lv (.int x :: rest) M := by
  subst hn
  exact fun H locs ls hW hS hl => lv_if_lt C.1 C.2.1 d ht (fun c => kt c H locs ls hW hS hl) (fun c => kf c H locs ls hW hS hl)
theorem g_icmp_ge {x y : Int32} {off : Int} {tgt : Nat} (C : CX X cc own nL fr lo) (d : decode cc pc = .ok (.if_icmp .ge off, 3)) (ht : (pc : Int) + off = (tgt : Int)) (hn : pc + 3 = n) (kt : y ≤ x → GS Z X tgt lv rest M) (kf : ¬ y ≤ x → GS Z X n lv rest M) : GS Z X pc lv (.int y :: .int x :: rest) M := by
  subst hn
  exact fun H locs ls hW hS hl => lv_icmp_ge C.1 C.2.1 d ht (fun c => kt c H locs ls hW hS hl) (fun c => kf c H locs ls hW hS hl)
theorem g_if_ge {x : Int32} {off : Int} {tgt : Nat} (C : CX X cc own nL fr lo) (d : decode cc pc = .ok (.ifCond .ge off, 3)) (ht : (pc : Int) + off = (tgt : Int)) (hn : pc + 3 = n) (kt : 0 ≤ x → GS Z X tgt lv rest M) (kf : ¬ 0 ≤ x → GS Z X n lv rest M) : GS Z X pc lv (.int x :: rest) M := by
  subst hn
  exact fun H locs ls hW hS hl => lv_if_ge C.1 C.2.1 d ht (fun c => kt c H locs ls hW hS hl) (fun c => kf c H locs ls hW hS hl)
theorem g_icmp_gt {x y : Int32} {off : Int} {tgt : Nat} (C : CX X cc own nL fr lo) (d : decode cc pc = .ok (.if_icmp .gt off, 3)) (ht : (pc : Int) + off = (tgt : Int)) (hn : pc + 3 = n) (kt : y < x → GS Z X tgt lv rest M) (kf : ¬ y < x → GS Z X n lv rest M) : GS Z X pc lv (.int y :: .int x :: rest) M := by
  subst hn
  exact fun H locs ls hW hS hl => lv_icmp_gt C.1 C.2.1 d ht (fun c => kt c H locs ls hW hS hl) (fun c => kf c H locs ls hW hS hl)
theorem g_if_gt {x : Int32} {off : Int} {tgt : Nat} (C : CX X cc own nL fr lo) (d : decode cc pc = .ok (.ifCond .gt off, 3)) (ht : (pc : Int) + off = (tgt : Int)) (hn : pc + 3 = n) (kt : 0 < x → GS Z X tgt lv rest M) (kf : ¬ 0 < x → GS Z X n lv rest M) : GS Z X pc lv (.int x :: rest) M := by
  subst hn
  exact fun H locs ls hW hS hl => lv_if_gt C.1 C.2.1 d ht (fun c => kt c H locs ls hW hS hl) (fun c => kf c H locs ls hW hS hl)
theorem g_icmp_le {x y : Int32} {off : Int} {tgt : Nat} (C : CX X cc own nL fr lo) (d : decode cc pc = .ok (.if_icmp .le off, 3)) (ht : (pc : Int) + off = (tgt : Int)) (hn : pc + 3 = n) (kt : x ≤ y → GS Z X tgt lv rest M) (kf : ¬ x ≤ y → GS Z X n lv rest M) : GS Z X pc lv (.int y :: .int x :: rest) M := by
  subst hn
  exact fun H locs ls hW hS hl => lv_icmp_le C.1 C.2.1 d ht (fun c => kt c H locs ls hW hS hl) (fun c => kf c H locs ls hW hS hl)
theorem g_if_le {x : Int32} {off : Int} {tgt : Nat} (C : CX X cc own nL fr lo) (d : decode cc pc = .ok (.ifCond .le off, 3)) (ht : (pc : Int) + off = (tgt : Int)) (hn : pc + 3 = n) (kt : x ≤ 0 → GS Z X tgt lv rest M) (kf : ¬ x ≤ 0 → GS Z X n lv rest M) : GS Z X pc lv (.int x :: rest) M := by
  subst hn
  exact fun H locs ls hW hS hl => lv_if_le C.1 C.2.1 d ht (fun c => kt c H locs ls hW hS hl) (fun c => kf c H locs ls hW hS hl)
theorem g_goto {off : Int} {tgt : Nat} (C : CX X cc own nL fr lo) (d : decode cc pc = .ok (.goto off, 3)) (ht : (pc : Int) + off = (tgt : Int)) (k : GS Z X tgt lv st M) : GS Z X pc lv st M := fun H locs ls hW hS hl => lv_goto C.1 C.2.1 d ht (k H locs ls hW hS hl)
theorem g_ifnonnull {x : Nat} {off : Int} {tgt : Nat} (C : CX X cc own nL fr lo) (d : decode cc pc = .ok (.ifnonnull off, 3)) (ht : (pc : Int) + off = (tgt : Int)) (k : GS Z X tgt lv rest M) : GS Z X pc lv (.ref x :: rest) M := fun H locs ls hW hS hl => lv_ifnonnull C.1 C.2.1 d ht (k H locs ls hW hS hl)
theorem g_ifnull {x : Nat} {off : Int} (C : CX X cc own nL fr lo) (d : decode cc pc = .ok (.ifnull off, 3)) (hn : pc + 3 = n) (k : GS Z X n lv rest M) : GS Z X pc lv (.ref x :: rest) M := by
  subst hn
  exact fun H locs ls hW hS hl => lv_ifnull C.1 C.2.1 d (k H locs ls hW hS hl)
theorem g_tableIn {dflt lo2 hi : Int} {offs : Array Int} {len : Nat} {x v : Int32} {off : Int} {tgt : Nat} (C : CX X cc own nL fr lo) (d : decode cc pc = .ok (.tableswitch dflt lo2 hi offs, len)) (hx : x = v) (h1 : ¬ v.toInt < lo2) (h2 : ¬ hi < v.toInt) (ho : offs[(v.toInt - lo2).toNat]? = some off) (ht : (pc : Int) + off = (tgt : Int)) (k : GS Z X tgt lv rest M) : GS Z X pc lv (.int x :: rest) M := by
  subst hx
  exact fun H locs ls hW hS hl => lv_tableIn C.1 C.2.1 d h1 h2 ho ht (k H locs ls hW hS hl)
theorem g_tableOut {dflt lo2 hi : Int} {offs : Array Int} {len : Nat} {x : Int32} {tgt : Nat} (C : CX X cc own nL fr lo) (d : decode cc pc = .ok (.tableswitch dflt lo2 hi offs, len)) (h : x.toInt < lo2 ∨ hi < x.toInt) (ht : (pc : Int) + dflt = (tgt : Int)) (k : GS Z X tgt lv rest M) : GS Z X pc lv (.int x :: rest) M := fun H locs ls hW hS hl => lv_tableOut C.1 C.2.1 d h ht (k H locs ls hW hS hl)
theorem g_ldc {idx : Nat} (v : Int32) (C : CX X cc own nL fr lo) (hc : Cond.constant own idx v ∈ BIG) (d : decode cc pc = .ok (.ldc idx, 2)) (hn : pc + 2 = n) (k : GS Z X n lv (.int v :: rest) M) : GS Z X pc lv rest M := by
  subst hn
  exact fun H locs ls hW hS hl => lv_ldc C.1 C.2.1 C.2.2.2.1 (C.word hc) d (k H locs ls hW hS hl)
theorem g_ldc2 {idx : Nat} (v : Int64) (C : CX X cc own nL fr lo) (hc : Cond.constantLong own idx v ∈ BIG) (d : decode cc pc = .ok (.ldc2_w idx, 3)) (hn : pc + 3 = n) (k : GS Z X n lv (.long v :: rest) M) : GS Z X pc lv rest M := by
  subst hn
  exact fun H locs ls hW hS hl => lv_ldc2 C.1 C.2.1 C.2.2.2.1 (C.word hc) d (k H locs ls hW hS hl)
/-! arrays -/
theorem g_iald {k len : Nat} {i : Int32} (C : CX X cc own nL fr lo) (E : EX Z (xs X)) (hk : AtA Z k len) (hi : vp_in i len) (d : decode cc pc = .ok (.iaload, 1)) (hn : pc + 1 = n) (kk : GS Z X n lv (.int (M k i.toNatClampNeg) :: rest) M) : GS Z X pc lv (.int i :: .ref (zb Z + k) :: rest) M := by
  subst hn
  exact fun H locs ls hW hS hl => va_iald (ws := wl Z M) C.1 C.2.1 E.1 hW k 0 (wl_arr hk) rfl hi d (kk H locs ls hW hS hl)
theorem g_iast {k len : Nat} {i x : Int32} (C : CX X cc own nL fr lo) (E : EX Z (xs X)) (hk : AtA Z k len) (hi : vp_in i len) (d : decode cc pc = .ok (.iastore, 1)) (hn : pc + 1 = n) (kk : ∀ M1 : Mem, M1 = mset M k i.toNatClampNeg x → GS Z X n lv rest M1) : GS Z X pc lv (.int x :: .int i :: .ref (zb Z + k) :: rest) M := by
  subst hn
  refine fun H locs ls hW hS hl => va_iast (ws := wl Z M) C.1 C.2.1 E.1 hW wl_D hS k 0 (wl_arr hk) rfl hi d (fun H1 locs1 hP hD hS1 => ?_)
  rw [← cellE_arr hk, wl_set] at hP
  exact kk _ rfl H1 locs1 ls hP hS1 hl
theorem g_alen {k len : Nat} (v : Int32) (C : CX X cc own nL fr lo) (E : EX Z (xs X)) (hk : AtA Z k len) (hv : Int32.ofNat len = v) (d : decode cc pc = .ok (.arraylength, 1)) (hn : pc + 1 = n) (kk : GS Z X n lv (.int v :: rest) M) : GS Z X pc lv (.ref (zb Z + k) :: rest) M := by
  subst hn
  exact fun H locs ls hW hS hl => va_alen (ws := wl Z M) C.1 C.2.1 E.1 hW k 0 (wl_arr hk) rfl hv d (kk H locs ls hW hS hl)
theorem g_rlen {k len : Nat} (v : Int32) (C : CX X cc own nL fr lo) (E : EX Z (xs X)) (hk : AtR Z k len) (hv : Int32.ofNat len = v) (d : decode cc pc = .ok (.arraylength, 1)) (hn : pc + 1 = n) (kk : GS Z X n lv (.int v :: rest) M) : GS Z X pc lv (.ref (zb Z + k) :: rest) M := by
  subst hn
  exact fun H locs ls hW hS hl => va_alen (ws := wl Z M) C.1 C.2.1 E.1 hW k 1 (wl_refs hk) rfl hv d (kk H locs ls hW hS hl)
theorem g_aald {k len : Nat} {i : Int32} (C : CX X cc own nL fr lo) (E : EX Z (xs X)) (hk : AtR Z k len) (hi : vp_in i len) (d : decode cc pc = .ok (.aaload, 1)) (hn : pc + 1 = n) (kk : GS Z X n lv (.ref (zb Z + (M k i.toNatClampNeg).toNatClampNeg) :: rest) M) : GS Z X pc lv (.int i :: .ref (zb Z + k) :: rest) M := by
  subst hn
  exact fun H locs ls hW hS hl => va_aldq (ws := wl Z M) C.1 C.2.1 E.1 hW k 1 (wl_refs hk) rfl hi d (kk H locs ls hW hS hl)
theorem g_aast {k len a : Nat} {i : Int32} (C : CX X cc own nL fr lo) (E : EX Z (xs X)) (hk : AtR Z k len) (ha : AtO Z a 2) (ha2 : a < 2 ^ 31) (hi : vp_in i len) (d : decode cc pc = .ok (.aastore, 1)) (hn : pc + 1 = n) (kk : ∀ M1 : Mem, M1 = mset M k i.toNatClampNeg (nI a) → GS Z X n lv rest M1) : GS Z X pc lv (.ref (zb Z + a) :: .int i :: .ref (zb Z + k) :: rest) M := by
  subst hn
  refine fun H locs ls hW hS hl => va_astq (ws := wl Z M) C.1 C.2.1 E.1 hW wl_D hS k 1 a 2 (r := (RX2, TX2, 10)) (wl_refs hk) rfl (wl_obj ha) rfl hi d (fun H1 locs1 hP hD hS1 => ?_)
  have e : va_up (fun i => some (zb Z + (M k i).toNatClampNeg)) i.toNatClampNeg (some (zb Z + a)) = (fun j => some (zb Z + (upd (M k) i.toNatClampNeg (nI a) j).toNatClampNeg)) := by
    funext j
    unfold va_up upd
    by_cases h : j = i.toNatClampNeg
    · rw [if_pos h, if_pos h, nI_clamp ha2]
    · rw [if_neg h, if_neg h]
  rw [e, ← cellE_refs (r := upd (M k) i.toNatClampNeg (nI a)) hk, wl_set] at hP
  exact kk _ rfl H1 locs1 ls hP hS1 hl
/-! static rows of numbers -/
theorem g_gets {idx : Nat} (j : Nat) (hj : j < 4) (C : CX X cc own nL fr lo) (E : EX Z (xs X)) (hl0 : Cond.fieldLink own idx RX5 (tnm j) "[I" ∈ BIG) (d : decode cc pc = .ok (.getstatic idx, 3)) (hn : pc + 3 = n) (kk : GS Z X n lv (.ref (zt Z j) :: rest) M) : GS Z X pc lv rest M := by
  subst hn
  exact fun H locs ls hW hS hl => va_gets C.1 C.2.1 (E.2.2 j hj).1 hS C.2.2.2.1 (C.word hl0) (fun _ h => h) d (kk H locs ls hW hS hl)
theorem g_tald (j : Nat) (hj : j < 4) {i : Int32} (C : CX X cc own nL fr lo) (E : EX Z (xs X)) (hi : vp_in i (tln j)) (d : decode cc pc = .ok (.iaload, 1)) (hn : pc + 1 = n) (kk : GS Z X n lv (.int (tva j i.toNatClampNeg) :: rest) M) : GS Z X pc lv (.int i :: .ref (zt Z j) :: rest) M := by
  subst hn
  exact fun H locs ls hW hS hl => va_ti C.1 C.2.1 (E.2.2 j hj).2 hS hi rfl d (kk H locs ls hW hS hl)
theorem g_tlen (j : Nat) (hj : j < 4) (C : CX X cc own nL fr lo) (E : EX Z (xs X)) (d : decode cc pc = .ok (.arraylength, 1)) (hn : pc + 1 = n) (kk : GS Z X n lv (.int (Int32.ofNat (tln j)) :: rest) M) : GS Z X pc lv (.ref (zt Z j) :: rest) M := by
  subst hn
  exact fun H locs ls hW hS hl => va_tlen C.1 C.2.1 (E.2.2 j hj).2 hS rfl d (kk H locs ls hW hS hl)
/-! fields -/
theorem g_get {k kd idx N : Nat} {Rc : String} {T : u_T} (j : Nat) {v : Value} (C : CX X cc own nL fr lo) (E : EX Z (xs X)) (hc : vwCl[kd]? = some (Rc, T, N)) (hin : ∀ w ∈ u_ws Rc T N, w ∈ BIG) (hj : j < N) (hlink : Cond.fieldLink own idx (T j).1 (T j).2.1 (T j).2.2.1 ∈ BIG) (hk : AtO Z k kd) (hv : (fvals (zb Z) (M k) k kd)[j]? = some v) (d : decode cc pc = .ok (.getfield idx, 3)) (hn : pc + 3 = n) (kk : GS Z X n lv (v :: rest) M) : GS Z X pc lv (.ref (zb Z + k) :: rest) M := by
  subst hn
  exact fun H locs ls hW hS hl => va_get (ws := wl Z M) C.1 C.2.1 C.2.2.2.2.1 hin C.2.2.2.1 E.1 hW k (wl_obj hk) hc j hj (C.word hlink) (fun _ h => h) hv d (kk H locs ls hW hS hl)
theorem g_getN {k kd idx N : Nat} {Rc host : String} {T : u_T} (j : Nat) {v : Value} (C : CX X cc own nL fr lo) (E : EX Z (xs X)) (hc : vwCl[kd]? = some (Rc, T, N)) (hin : ∀ w ∈ u_ws Rc T N, w ∈ BIG) (hj : j < N) (hlink : Cond.fieldLinkNest own idx (T j).1 (T j).2.1 (T j).2.2.1 host ∈ NWL) (hk : AtO Z k kd) (hv : (fvals (zb Z) (M k) k kd)[j]? = some v) (d : decode cc pc = .ok (.getfield idx, 3)) (hn : pc + 3 = n) (kk : GS Z X n lv (v :: rest) M) : GS Z X pc lv (.ref (zb Z + k) :: rest) M := by
  subst hn
  exact fun H locs ls hW hS hl => va_getN (ws := wl Z M) C.1 C.2.1 C.2.2.2.2.1 hin C.2.2.2.1 E.1 hW k (wl_obj hk) hc j hj (va_Nw.use rfl (E.2.1 _ hlink)) (fun _ h => h) hv d (kk H locs ls hW hS hl)
theorem g_put {k kd idx N : Nat} {Rc : String} {T : u_T} (j : Nat) {x : Int32} {ty : FieldType} (C : CX X cc own nL fr lo) (E : EX Z (xs X)) (hc : vwCl[kd]? = some (Rc, T, N)) (hin : ∀ w ∈ u_ws Rc T N, w ∈ BIG) (hj : j < N) (hlink : Cond.fieldLink own idx (T j).1 (T j).2.1 (T j).2.2.1 ∈ BIG)
    (ty0 : Nat → FieldType) (hty : ∀ k, k < N → parseFieldDescriptor (T k).2.2.1 = some (ty0 k)) (hnm : ∀ a, a < N → ∀ b, b < N → a ≠ b → (T a).2.1 ≠ (T b).2.1) (hfin : (T j).2.2.2 = false) (hd : parseFieldDescriptor (T j).2.2.1 = some ty) (hnr : narrow ty (.int x) = .int x) (hfit : fits ty (.int x) = true) (hfs : ∀ (b : Nat) (r : Nat → Int32), (fvals b r k kd).set j (.int x) = fvals b (upd r j x) k kd) (hlen : ∀ (b : Nat) (r : Nat → Int32), j < (fvals b r k kd).length)
    (hk : AtO Z k kd) (d : decode cc pc = .ok (.putfield idx, 3)) (hn : pc + 3 = n) (kk : ∀ M1 : Mem, M1 = mset M k j x → GS Z X n lv rest M1) : GS Z X pc lv (.int x :: .ref (zb Z + k) :: rest) M := by
  subst hn
  refine fun H locs ls hW hS hl => va_put (ws := wl Z M) C.1 C.2.1 C.2.2.2.2.1 hin ty0 hty hnm C.2.2.2.1 E.1 hW wl_D hS k (wl_obj hk) hc j hj (C.word hlink) (fun _ h => h) hfin hd hnr hfit (hlen _ _) d (fun H1 locs1 hP hD hS1 => ?_)
  rw [hfs, ← cellE_obj hk, wl_set] at hP
  exact kk _ rfl H1 locs1 ls hP hS1 hl
theorem g_putN {k kd idx N : Nat} {Rc host : String} {T : u_T} (j : Nat) {x : Int32} {ty : FieldType} (C : CX X cc own nL fr lo) (E : EX Z (xs X)) (hc : vwCl[kd]? = some (Rc, T, N)) (hin : ∀ w ∈ u_ws Rc T N, w ∈ BIG) (hj : j < N) (hlink : Cond.fieldLinkNest own idx (T j).1 (T j).2.1 (T j).2.2.1 host ∈ NWL)
    (ty0 : Nat → FieldType) (hty : ∀ k, k < N → parseFieldDescriptor (T k).2.2.1 = some (ty0 k)) (hnm : ∀ a, a < N → ∀ b, b < N → a ≠ b → (T a).2.1 ≠ (T b).2.1) (hfin : (T j).2.2.2 = false) (hd : parseFieldDescriptor (T j).2.2.1 = some ty) (hnr : narrow ty (.int x) = .int x) (hfit : fits ty (.int x) = true) (hfs : ∀ (b : Nat) (r : Nat → Int32), (fvals b r k kd).set j (.int x) = fvals b (upd r j x) k kd) (hlen : ∀ (b : Nat) (r : Nat → Int32), j < (fvals b r k kd).length)
    (hk : AtO Z k kd) (d : decode cc pc = .ok (.putfield idx, 3)) (hn : pc + 3 = n) (kk : ∀ M1 : Mem, M1 = mset M k j x → GS Z X n lv rest M1) : GS Z X pc lv (.int x :: .ref (zb Z + k) :: rest) M := by
  subst hn
  refine fun H locs ls hW hS hl => va_putN (ws := wl Z M) C.1 C.2.1 C.2.2.2.2.1 hin ty0 hty hnm C.2.2.2.1 E.1 hW wl_D hS k (wl_obj hk) hc j hj (va_Nw.use rfl (E.2.1 _ hlink)) (fun _ h => h) hfin hd hnr hfit (hlen _ _) d (fun H1 locs1 hP hD hS1 => ?_)
  rw [hfs, ← cellE_obj hk, wl_set] at hP
  exact kk _ rfl H1 locs1 ls hP hS1 hl
/-! contracts -/
def CtI (Z : ZT) (l : Launch) (y : MethodName) (bytes : ByteArray) (mL : Nat) (ret : Option FieldType) (rf rl : Nat) (av : List Value) (M : Mem) (post : Int32 → Mem → Prop) : Prop :=
  Met l y (Cond.code y bytes mL ret :: BIG) { frames := rf, cells := 0, slots := 0, locals := rl } (va_Pc av (fun U => EX Z U ∧ Wd Z M U.heap)) (va_Qi post (fun M1 t => Wd Z M1 t.heap) (AZ Z)) 0 0 (AZ Z)
def CtV (Z : ZT) (l : Launch) (y : MethodName) (bytes : ByteArray) (mL : Nat) (ret : Option FieldType) (rf rl : Nat) (av : List Value) (M : Mem) (post : Mem → Prop) : Prop :=
  Met l y (Cond.code y bytes mL ret :: BIG) { frames := rf, cells := 0, slots := 0, locals := rl } (va_Pc av (fun U => EX Z U ∧ Wd Z M U.heap)) (va_Qv post (fun M1 t => Wd Z M1 t.heap) (AZ Z)) 0 0 (AZ Z)
theorem ctI {l : Launch} {y : MethodName} {mL : Nat} {ret : Option FieldType} {rf rl : Nat} {av : List Value} {post : Int32 → Mem → Prop} (ho : own = y.cls) (hy : plainName y.cls = true) (hlen : (lg_sl av).length ≤ mL)
    (body : ∀ X : XT, CX X cc own mL rf rl → EX Z (xs X) → (xt X).sig.returnType = ret → xQ X = MQ (xb X) (va_Qi post (fun M1 t => Wd Z M1 t.heap) (AZ Z)) (xa X) (xs X) 0 0 (AZ Z) → GS Z X 0 (lv_args 0 av) [] M) : CtI Z l y cc mL ret rf rl av M post := by
  subst ho
  refine Met.ofW (cc := cc) (maxL := mL) (ret := ret) hy rfl ?_
  intro p e s m args below meth c s₁ B hml hv
  obtain ⟨rfl, hE, hW⟩ := hv
  have hts := atoms_spec (ws := Cond.code y cc mL ret :: BIG) B.pre
  have hl := lv_entry av (n := mL) hlen
  rw [lg_entry_eq]
  exact body (p, l, e, _, s, m, av.toArray, below, meth, c, _, mL) ⟨B.exec, B.bytes, hml, findClass_of_methodNamed B.named, fun w hw => hts w (List.mem_cons_of_mem _ hw), B.notSynchronized, rfl, rfl, rfl⟩ hE B.returns rfl s.heap [] _ hW va_S.rf hl
theorem ctV {l : Launch} {y : MethodName} {mL : Nat} {ret : Option FieldType} {rf rl : Nat} {av : List Value} {post : Mem → Prop} (ho : own = y.cls) (hy : plainName y.cls = true) (hlen : (lg_sl av).length ≤ mL)
    (body : ∀ X : XT, CX X cc own mL rf rl → EX Z (xs X) → (xt X).sig.returnType = ret → xQ X = MQ (xb X) (va_Qv post (fun M1 t => Wd Z M1 t.heap) (AZ Z)) (xa X) (xs X) 0 0 (AZ Z) → GS Z X 0 (lv_args 0 av) [] M) : CtV Z l y cc mL ret rf rl av M post := by
  subst ho
  refine Met.ofW (cc := cc) (maxL := mL) (ret := ret) hy rfl ?_
  intro p e s m args below meth c s₁ B hml hv
  obtain ⟨rfl, hE, hW⟩ := hv
  have hts := atoms_spec (ws := Cond.code y cc mL ret :: BIG) B.pre
  have hl := lv_entry av (n := mL) hlen
  rw [lg_entry_eq]
  exact body (p, l, e, _, s, m, av.toArray, below, meth, c, _, mL) ⟨B.exec, B.bytes, hml, findClass_of_methodNamed B.named, fun w hw => hts w (List.mem_cons_of_mem _ hw), B.notSynchronized, rfl, rfl, rfl⟩ hE B.returns rfl s.heap [] _ hW va_S.rf hl
theorem g_iret {v : Int32} {post : Int32 → Mem → Prop} (C : CX X cc own nL fr lo) (hr : (xt X).sig.returnType = some .int) (hQ : xQ X = MQ (xb X) (va_Qi post (fun M1 t => Wd Z M1 t.heap) (AZ Z)) (xa X) (xs X) 0 0 (AZ Z)) (d : decode cc pc = .ok (.ireturn, 1)) (h : post v M) : GS Z X pc lv [.int v] M := by
  intro H locs ls hW hS hl
  rw [hQ]
  exact W.iret C.1 C.2.1 hr (fun t ht hWm => ⟨⟨v, M, rfl, h, by show Wd Z M t.heap; rw [ht]; exact hW⟩, hS.F ht⟩) hS.2.2 d C.2.2.2.2.2.1
theorem g_zret {v : Int32} {post : Int32 → Mem → Prop} {ty : FieldType} (C : CX X cc own nL fr lo) (hr : (xt X).sig.returnType = some ty) (hQ : xQ X = MQ (xb X) (va_Qi post (fun M1 t => Wd Z M1 t.heap) (AZ Z)) (xa X) (xs X) 0 0 (AZ Z)) (d : decode cc pc = .ok (.ireturn, 1)) (hnr : narrow ty (.int v) = .int v) (h : post v M) : GS Z X pc lv [.int v] M := by
  intro H locs ls hW hS hl
  rw [hQ]
  exact W.zret C.1 C.2.1 hr hnr (fun t ht hWm => ⟨⟨v, M, rfl, h, by show Wd Z M t.heap; rw [ht]; exact hW⟩, hS.F ht⟩) hS.2.2 d C.2.2.2.2.2.1
theorem g_vret {post : Mem → Prop} (C : CX X cc own nL fr lo) (hr : (xt X).sig.returnType = none) (hQ : xQ X = MQ (xb X) (va_Qv post (fun M1 t => Wd Z M1 t.heap) (AZ Z)) (xa X) (xs X) 0 0 (AZ Z)) (d : decode cc pc = .ok (.return_, 1)) (h : post M) : GS Z X pc lv [] M := by
  intro H locs ls hW hS hl
  rw [hQ]
  exact W.vret C.1 C.2.1 hr (fun t ht hWm => ⟨⟨M, rfl, h, by show Wd Z M t.heap; rw [ht]; exact hW⟩, hS.F ht⟩) hS.2.2 d C.2.2.2.2.2.1
/-! calls -/
def YI (y : MethodName) (bytes : ByteArray) (mL : Nat) (ret : Option FieldType) (k : Nat) : Prop :=
  Cond.instanceMethod y ∈ BIG ∧ Cond.selects y.cls y y ∈ BIG ∧ Cond.initialized y.cls ∈ BIG ∧ Cond.code y bytes mL ret ∈ BIG ∧ y.cls ≠ "java/lang/invoke/MethodHandle" ∧ y.cls ≠ "java/lang/invoke/VarHandle" ∧ (parseMethodDescriptor y.desc).map (fun d => d.parameters.length) = some k
def YS (y : MethodName) (bytes : ByteArray) (mL : Nat) (ret : Option FieldType) (k : Nat) : Prop :=
  Cond.static y ∈ BIG ∧ Cond.initialized y.cls ∈ BIG ∧ Cond.code y bytes mL ret ∈ BIG ∧ y.cls ≠ "java/lang/invoke/MethodHandle" ∧ y.cls ≠ "java/lang/invoke/VarHandle" ∧ (parseMethodDescriptor y.desc).map (fun d => d.parameters.length) = some k
theorem blindI {av : List Value} : FrameBlind (va_Pc av (fun U => EX Z U ∧ Wd Z M U.heap)) := fun _ _ g mk q => ⟨q.1, q.2.1.blind g mk _, q.2.2⟩
variable {y : MethodName} {bytes : ByteArray} {mL rf rl idx a kd : Nat} {ret : Option FieldType} {As : List Value} {host : String}
theorem goodV {j : Nat} (hl0 : Cond.methodLink own idx y ∈ BIG) (hY : YI y bytes mL ret j) : GoodIn BIG (wsV own idx y.cls y (Cond.code y bytes mL ret :: BIG)) := by
  intro w hw
  rcases List.mem_append.mp hw with h | h
  · simp only [List.mem_cons, List.not_mem_nil, or_false] at h
    rcases h with h | h | h | h
    · rw [h]; exact ⟨hl0, big_good hl0⟩
    · rw [h]; exact ⟨hY.1, big_good hY.1⟩
    · rw [h]; exact ⟨hY.2.1, big_good hY.2.1⟩
    · rw [h]; exact ⟨hY.2.2.1, big_good hY.2.2.1⟩
  · exact big_in hY.2.2.2.1 w h
theorem goodS {j : Nat} (hl0 : Cond.methodLink own idx y ∈ BIG) (hY : YS y bytes mL ret j) : GoodIn BIG (va_wsS own idx y (Cond.code y bytes mL ret :: BIG)) := by
  intro w hw
  rcases List.mem_append.mp hw with h | h
  · simp only [List.mem_cons, List.not_mem_nil, or_false] at h
    rcases h with h | h | h
    · rw [h]; exact ⟨hl0, big_good hl0⟩
    · rw [h]; exact ⟨hY.1, big_good hY.1⟩
    · rw [h]; exact ⟨hY.2.1, big_good hY.2.1⟩
  · exact big_in hY.2.2.1 w h

theorem g_callVi {post : Int32 → Mem → Prop} (C : CX X cc own nL fr lo) (E : EX Z (xs X)) (hM : CtI Z (xl X) y bytes mL ret rf rl (.ref (zb Z + a) :: As) M post) (hY : YI y bytes mL ret As.length) (hl0 : Cond.methodLink own idx y ∈ BIG) {T : u_T} {N : Nat} (hc : vwCl[kd]? = some (y.cls, T, N)) (ha : AtO Z a kd) (hR : rf + 1 ≤ fr ∧ 8 + (mL + 11) + rl ≤ lo) (hrest : (rest.map fun v => v.category).sum ≤ 8) (d : decode cc pc = .ok (.invokevirtual idx, 3)) (hn : pc + 3 = n) (hst : st = As.reverse ++ .ref (zb Z + a) :: rest) (k : ∀ (r : Int32) (M1 : Mem), post r M1 → GS Z X n lv (.int r :: rest) M1) : GS Z X pc lv st M := by
  subst hn
  subst hst
  intro H locs ls hW hS hl
  have hr : va_Run (xp X) (xl X) (xe X) (xR X) (xs X) (xm X) (xa X) (xb X) (xt X) (xc X) H locs 0 0 0 0 (F0 (xm X) pc ls (As.reverse ++ .ref (zb Z + a) :: rest)) rest (va_Qi post (fun M1 t => Wd Z M1 t.heap) (AZ Z) (.ref (zb Z + a) :: As).toArray) (AZ Z) :=
    va_runV (As := As) (rest := rest) C.fix hM (cwV (C := y.cls) As.length C.2.2.2.2.1 (goodV hl0 hY) rfl rfl rfl ⟨rfl, hY.2.2.2.2.1, hY.2.2.2.2.2.1, hY.2.2.2.2.2.2⟩ ⟨by rw [C.2.2.2.2.2.2.2.1]; exact hR.1, by rw [C.2.2.2.2.2.2.2.2]; exact hR.2⟩) ⟨blindI, va_recv (ws := wl Z M) E.1 hW hc (wl_obj ha), fun U hU hWm => ⟨rfl, E.step hS hU hWm, by rw [hU]; exact hW⟩⟩ rfl rfl (by show ls.size = nL; rw [hl.1, C.2.2.2.2.2.2.1]) rfl (lv_room hrest) d ⟨Nat.zero_le _, Nat.zero_le _⟩
  exact va_calli (H0 := (xs X).heap) (A0 := AZ Z) hr hS (fun _ _ h => h) (fun _ h => h) (fun r u t H1 locs1 ht hvm hp hB hz hk hS1 => k r u hp H1 locs1 ls (by rw [← ht]; exact hB) hS1 hl)
theorem g_callVv {post : Mem → Prop} (C : CX X cc own nL fr lo) (E : EX Z (xs X)) (hM : CtV Z (xl X) y bytes mL ret rf rl (.ref (zb Z + a) :: As) M post) (hY : YI y bytes mL ret As.length) (hl0 : Cond.methodLink own idx y ∈ BIG) {T : u_T} {N : Nat} (hc : vwCl[kd]? = some (y.cls, T, N)) (ha : AtO Z a kd) (hR : rf + 1 ≤ fr ∧ 8 + (mL + 11) + rl ≤ lo) (hrest : (rest.map fun v => v.category).sum ≤ 8) (d : decode cc pc = .ok (.invokevirtual idx, 3)) (hn : pc + 3 = n) (hst : st = As.reverse ++ .ref (zb Z + a) :: rest) (k : ∀ M1 : Mem, post M1 → GS Z X n lv rest M1) : GS Z X pc lv st M := by
  subst hn
  subst hst
  intro H locs ls hW hS hl
  have hr : va_Run (xp X) (xl X) (xe X) (xR X) (xs X) (xm X) (xa X) (xb X) (xt X) (xc X) H locs 0 0 0 0 (F0 (xm X) pc ls (As.reverse ++ .ref (zb Z + a) :: rest)) rest (va_Qv post (fun M1 t => Wd Z M1 t.heap) (AZ Z) (.ref (zb Z + a) :: As).toArray) (AZ Z) :=
    va_runV (As := As) (rest := rest) C.fix hM (cwV (C := y.cls) As.length C.2.2.2.2.1 (goodV hl0 hY) rfl rfl rfl ⟨rfl, hY.2.2.2.2.1, hY.2.2.2.2.2.1, hY.2.2.2.2.2.2⟩ ⟨by rw [C.2.2.2.2.2.2.2.1]; exact hR.1, by rw [C.2.2.2.2.2.2.2.2]; exact hR.2⟩) ⟨blindI, va_recv (ws := wl Z M) E.1 hW hc (wl_obj ha), fun U hU hWm => ⟨rfl, E.step hS hU hWm, by rw [hU]; exact hW⟩⟩ rfl rfl (by show ls.size = nL; rw [hl.1, C.2.2.2.2.2.2.1]) rfl (lv_room hrest) d ⟨Nat.zero_le _, Nat.zero_le _⟩
  exact va_callv (H0 := (xs X).heap) (A0 := AZ Z) hr hS (fun _ _ h => h) (fun _ h => h) (fun u t H1 locs1 ht hvm hp hB hz hk hS1 => k u hp H1 locs1 ls (by rw [← ht]; exact hB) hS1 hl)
theorem g_callNi {post : Int32 → Mem → Prop} (C : CX X cc own nL fr lo) (E : EX Z (xs X)) (hM : CtI Z (xl X) y bytes mL ret rf rl (.ref (zb Z + a) :: As) M post) (hY : YI y bytes mL ret As.length) (hl0 : Cond.methodLinkNest own idx y host ∈ NWL) {T : u_T} {N : Nat} (hc : vwCl[kd]? = some (y.cls, T, N)) (ha : AtO Z a kd) (hR : rf + 1 ≤ fr ∧ 8 + (mL + 11) + rl ≤ lo) (hrest : (rest.map fun v => v.category).sum ≤ 8) (d : decode cc pc = .ok (.invokevirtual idx, 3)) (hn : pc + 3 = n) (hst : st = As.reverse ++ .ref (zb Z + a) :: rest) (k : ∀ (r : Int32) (M1 : Mem), post r M1 → GS Z X n lv (.int r :: rest) M1) : GS Z X pc lv st M := by
  subst hn
  subst hst
  intro H locs ls hW hS hl
  have hr : va_Run (xp X) (xl X) (xe X) (xR X) (xs X) (xm X) (xa X) (xb X) (xt X) (xc X) H locs 0 0 0 0 (F0 (xm X) pc ls (As.reverse ++ .ref (zb Z + a) :: rest)) rest (va_Qi post (fun M1 t => Wd Z M1 t.heap) (AZ Z) (.ref (zb Z + a) :: As).toArray) (AZ Z) :=
    va_runVN (As := As) (rest := rest) C.fix hM ⟨va_cnB As.length C.2.2.2.2.1 (big_in hY.2.2.2.1) rfl rfl rfl (E.2.1 _ hl0) (C.word hY.2.2.1) ⟨hY.2.2.2.2.1, hY.2.2.2.2.2.1, hY.2.2.2.2.2.2⟩ ⟨by rw [C.2.2.2.2.2.2.2.1]; exact hR.1, by rw [C.2.2.2.2.2.2.2.2]; exact hR.2⟩, C.word hY.1, C.word hY.2.1⟩ ⟨blindI, va_recv (ws := wl Z M) E.1 hW hc (wl_obj ha), fun U hU hWm => ⟨rfl, E.step hS hU hWm, by rw [hU]; exact hW⟩⟩ rfl rfl (by show ls.size = nL; rw [hl.1, C.2.2.2.2.2.2.1]) rfl (lv_room hrest) d ⟨Nat.zero_le _, Nat.zero_le _⟩
  exact va_calli (H0 := (xs X).heap) (A0 := AZ Z) hr hS (fun _ _ h => h) (fun _ h => h) (fun r u t H1 locs1 ht hvm hp hB hz hk hS1 => k r u hp H1 locs1 ls (by rw [← ht]; exact hB) hS1 hl)
theorem g_callNv {post : Mem → Prop} (C : CX X cc own nL fr lo) (E : EX Z (xs X)) (hM : CtV Z (xl X) y bytes mL ret rf rl (.ref (zb Z + a) :: As) M post) (hY : YI y bytes mL ret As.length) (hl0 : Cond.methodLinkNest own idx y host ∈ NWL) {T : u_T} {N : Nat} (hc : vwCl[kd]? = some (y.cls, T, N)) (ha : AtO Z a kd) (hR : rf + 1 ≤ fr ∧ 8 + (mL + 11) + rl ≤ lo) (hrest : (rest.map fun v => v.category).sum ≤ 8) (d : decode cc pc = .ok (.invokevirtual idx, 3)) (hn : pc + 3 = n) (hst : st = As.reverse ++ .ref (zb Z + a) :: rest) (k : ∀ M1 : Mem, post M1 → GS Z X n lv rest M1) : GS Z X pc lv st M := by
  subst hn
  subst hst
  intro H locs ls hW hS hl
  have hr : va_Run (xp X) (xl X) (xe X) (xR X) (xs X) (xm X) (xa X) (xb X) (xt X) (xc X) H locs 0 0 0 0 (F0 (xm X) pc ls (As.reverse ++ .ref (zb Z + a) :: rest)) rest (va_Qv post (fun M1 t => Wd Z M1 t.heap) (AZ Z) (.ref (zb Z + a) :: As).toArray) (AZ Z) :=
    va_runVN (As := As) (rest := rest) C.fix hM ⟨va_cnB As.length C.2.2.2.2.1 (big_in hY.2.2.2.1) rfl rfl rfl (E.2.1 _ hl0) (C.word hY.2.2.1) ⟨hY.2.2.2.2.1, hY.2.2.2.2.2.1, hY.2.2.2.2.2.2⟩ ⟨by rw [C.2.2.2.2.2.2.2.1]; exact hR.1, by rw [C.2.2.2.2.2.2.2.2]; exact hR.2⟩, C.word hY.1, C.word hY.2.1⟩ ⟨blindI, va_recv (ws := wl Z M) E.1 hW hc (wl_obj ha), fun U hU hWm => ⟨rfl, E.step hS hU hWm, by rw [hU]; exact hW⟩⟩ rfl rfl (by show ls.size = nL; rw [hl.1, C.2.2.2.2.2.2.1]) rfl (lv_room hrest) d ⟨Nat.zero_le _, Nat.zero_le _⟩
  exact va_callv (H0 := (xs X).heap) (A0 := AZ Z) hr hS (fun _ _ h => h) (fun _ h => h) (fun u t H1 locs1 ht hvm hp hB hz hk hS1 => k u hp H1 locs1 ls (by rw [← ht]; exact hB) hS1 hl)
theorem g_callSi {post : Int32 → Mem → Prop} (C : CX X cc own nL fr lo) (E : EX Z (xs X)) (hM : CtI Z (xl X) y bytes mL ret rf rl As M post) (hY : YS y bytes mL ret As.length) (hl0 : Cond.methodLink own idx y ∈ BIG) (hR : rf + 1 ≤ fr ∧ 8 + (mL + 11) + rl ≤ lo) (hrest : (rest.map fun v => v.category).sum ≤ 8) (d : decode cc pc = .ok (.invokestatic idx, 3)) (hn : pc + 3 = n) (hst : st = As.reverse ++ rest) (k : ∀ (r : Int32) (M1 : Mem), post r M1 → GS Z X n lv (.int r :: rest) M1) : GS Z X pc lv st M := by
  subst hn
  subst hst
  intro H locs ls hW hS hl
  have hr : va_Run (xp X) (xl X) (xe X) (xR X) (xs X) (xm X) (xa X) (xb X) (xt X) (xc X) H locs 0 0 0 0 (F0 (xm X) pc ls (As.reverse ++ rest)) rest (va_Qi post (fun M1 t => Wd Z M1 t.heap) (AZ Z) As.toArray) (AZ Z) :=
    va_runS (As := As) (rest := rest) C.fix hM (va_cwS As.length C.2.2.2.2.1 (goodS hl0 hY) rfl rfl rfl ⟨hY.2.2.2.1, hY.2.2.2.2.1, hY.2.2.2.2.2⟩ ⟨by rw [C.2.2.2.2.2.2.2.1]; exact hR.1, by rw [C.2.2.2.2.2.2.2.2]; exact hR.2⟩) ⟨blindI, fun U hU hWm => ⟨rfl, E.step hS hU hWm, by rw [hU]; exact hW⟩⟩ rfl rfl (by show ls.size = nL; rw [hl.1, C.2.2.2.2.2.2.1]) rfl (lv_room hrest) d ⟨Nat.zero_le _, Nat.zero_le _⟩
  exact va_calli (H0 := (xs X).heap) (A0 := AZ Z) hr hS (fun _ _ h => h) (fun _ h => h) (fun r u t H1 locs1 ht hvm hp hB hz hk hS1 => k r u hp H1 locs1 ls (by rw [← ht]; exact hB) hS1 hl)
theorem g_callSv {post : Mem → Prop} (C : CX X cc own nL fr lo) (E : EX Z (xs X)) (hM : CtV Z (xl X) y bytes mL ret rf rl As M post) (hY : YS y bytes mL ret As.length) (hl0 : Cond.methodLink own idx y ∈ BIG) (hR : rf + 1 ≤ fr ∧ 8 + (mL + 11) + rl ≤ lo) (hrest : (rest.map fun v => v.category).sum ≤ 8) (d : decode cc pc = .ok (.invokestatic idx, 3)) (hn : pc + 3 = n) (hst : st = As.reverse ++ rest) (k : ∀ M1 : Mem, post M1 → GS Z X n lv rest M1) : GS Z X pc lv st M := by
  subst hn
  subst hst
  intro H locs ls hW hS hl
  have hr : va_Run (xp X) (xl X) (xe X) (xR X) (xs X) (xm X) (xa X) (xb X) (xt X) (xc X) H locs 0 0 0 0 (F0 (xm X) pc ls (As.reverse ++ rest)) rest (va_Qv post (fun M1 t => Wd Z M1 t.heap) (AZ Z) As.toArray) (AZ Z) :=
    va_runS (As := As) (rest := rest) C.fix hM (va_cwS As.length C.2.2.2.2.1 (goodS hl0 hY) rfl rfl rfl ⟨hY.2.2.2.1, hY.2.2.2.2.1, hY.2.2.2.2.2⟩ ⟨by rw [C.2.2.2.2.2.2.2.1]; exact hR.1, by rw [C.2.2.2.2.2.2.2.2]; exact hR.2⟩) ⟨blindI, fun U hU hWm => ⟨rfl, E.step hS hU hWm, by rw [hU]; exact hW⟩⟩ rfl rfl (by show ls.size = nL; rw [hl.1, C.2.2.2.2.2.2.1]) rfl (lv_room hrest) d ⟨Nat.zero_le _, Nat.zero_le _⟩
  exact va_callv (H0 := (xs X).heap) (A0 := AZ Z) hr hS (fun _ _ h => h) (fun _ h => h) (fun u t H1 locs1 ht hvm hp hB hz hk hS1 => k u hp H1 locs1 ls (by rw [← ht]; exact hB) hS1 hl)
theorem g_mmax {idx : Nat} {x y : Int32} (C : CX X cc own nL fr lo) (h1 : Cond.methodLink own idx Lib.Math.max.name ∈ BIG) (h2 : Cond.static Lib.Math.max.name ∈ BIG) (h3 : Cond.initialized "java/lang/Math" ∈ BIG) (h4 : Cond.code Lib.Math.max.name Lib.Math.max.code 2 (some .int) ∈ BIG) (hf : 1 ≤ fr) (hlo : (rest.map fun v => v.category).sum + 13 ≤ lo) (d : decode cc pc = .ok (.invokestatic idx, 3)) (hn : pc + 3 = n) (k : GS Z X n lv (.int (imax x y) :: rest) M) : GS Z X pc lv (.int y :: .int x :: rest) M := by
  subst hn
  exact fun H locs ls hW hS hl => va_mmax C.1 C.2.1 (by rw [C.2.2.1, hl.1, C.2.2.2.2.2.2.1]) C.2.2.2.1 (C.word h1) (C.word h2) (C.word h3) (C.word h4) (by rw [C.2.2.2.2.2.2.2.1]; exact hf) (by rw [C.2.2.2.2.2.2.2.2]; exact hlo) (Nat.zero_le _) (Nat.zero_le _) d (k H locs ls hW hS hl)
theorem g_mmin {idx : Nat} {x y : Int32} (C : CX X cc own nL fr lo) (h1 : Cond.methodLink own idx Lib.Math.min.name ∈ BIG) (h2 : Cond.static Lib.Math.min.name ∈ BIG) (h3 : Cond.initialized "java/lang/Math" ∈ BIG) (h4 : Cond.code Lib.Math.min.name Lib.Math.min.code 2 (some .int) ∈ BIG) (hf : 1 ≤ fr) (hlo : (rest.map fun v => v.category).sum + 13 ≤ lo) (d : decode cc pc = .ok (.invokestatic idx, 3)) (hn : pc + 3 = n) (k : GS Z X n lv (.int (imin x y) :: rest) M) : GS Z X pc lv (.int y :: .int x :: rest) M := by
  subst hn
  exact fun H locs ls hW hS hl => va_mmin C.1 C.2.1 (by rw [C.2.2.1, hl.1, C.2.2.2.2.2.2.1]) C.2.2.2.1 (C.word h1) (C.word h2) (C.word h3) (C.word h4) (by rw [C.2.2.2.2.2.2.2.1]; exact hf) (by rw [C.2.2.2.2.2.2.2.2]; exact hlo) (Nat.zero_le _) (Nat.zero_le _) d (k H locs ls hW hS hl)
end Rows
end
section
theorem tbl_out {x : Int32} {lo hi : Int} (h : ∀ k : Int, lo ≤ k → k ≤ hi → ¬ x = Int32.ofInt k) : x.toInt < lo ∨ hi < x.toInt := by
  by_cases h1 : x.toInt < lo
  · exact Or.inl h1
  · by_cases h2 : hi < x.toInt
    · exact Or.inr h2
    · exact absurd (Int32.ofInt_toInt x).symm (h x.toInt (by omega) (by omega))
def IsX (Z : ZT) : Prop := zl Z = layX ∧ zn Z = 164
def IsM (Z : ZT) : Prop := zl Z = layM ∧ zn Z = 16
theorem ox_0 {Z : ZT} (hZ : IsX Z) : AtO Z 0 8 := ⟨by rw [hZ.1]; rfl, by rw [hZ.2]; decide, by decide⟩
theorem ox_1 {Z : ZT} (hZ : IsX Z) : AtO Z 1 5 := ⟨by rw [hZ.1]; rfl, by rw [hZ.2]; decide, by decide⟩
theorem ox_2 {Z : ZT} (hZ : IsX Z) : AtA Z 2 200 := ⟨by rw [hZ.1]; rfl, by rw [hZ.2]; decide, by decide⟩
theorem ox_3 {Z : ZT} (hZ : IsX Z) : AtA Z 3 5 := ⟨by rw [hZ.1]; rfl, by rw [hZ.2]; decide, by decide⟩
theorem ox_4 {Z : ZT} (hZ : IsX Z) : AtO Z 4 4 := ⟨by rw [hZ.1]; rfl, by rw [hZ.2]; decide, by decide⟩
theorem ox_5 {Z : ZT} (hZ : IsX Z) : AtA Z 5 7 := ⟨by rw [hZ.1]; rfl, by rw [hZ.2]; decide, by decide⟩
theorem ox_6 {Z : ZT} (hZ : IsX Z) : AtA Z 6 7 := ⟨by rw [hZ.1]; rfl, by rw [hZ.2]; decide, by decide⟩
theorem ox_7 {Z : ZT} (hZ : IsX Z) : AtA Z 7 7 := ⟨by rw [hZ.1]; rfl, by rw [hZ.2]; decide, by decide⟩
theorem ox_8 {Z : ZT} (hZ : IsX Z) : AtA Z 8 7 := ⟨by rw [hZ.1]; rfl, by rw [hZ.2]; decide, by decide⟩
theorem ox_9 {Z : ZT} (hZ : IsX Z) : AtA Z 9 7 := ⟨by rw [hZ.1]; rfl, by rw [hZ.2]; decide, by decide⟩
theorem ox_10 {Z : ZT} (hZ : IsX Z) : AtA Z 10 7 := ⟨by rw [hZ.1]; rfl, by rw [hZ.2]; decide, by decide⟩
theorem ox_11 {Z : ZT} (hZ : IsX Z) : AtO Z 11 4 := ⟨by rw [hZ.1]; rfl, by rw [hZ.2]; decide, by decide⟩
theorem ox_12 {Z : ZT} (hZ : IsX Z) : AtA Z 12 7 := ⟨by rw [hZ.1]; rfl, by rw [hZ.2]; decide, by decide⟩
theorem ox_13 {Z : ZT} (hZ : IsX Z) : AtA Z 13 7 := ⟨by rw [hZ.1]; rfl, by rw [hZ.2]; decide, by decide⟩
theorem ox_14 {Z : ZT} (hZ : IsX Z) : AtA Z 14 7 := ⟨by rw [hZ.1]; rfl, by rw [hZ.2]; decide, by decide⟩
theorem ox_15 {Z : ZT} (hZ : IsX Z) : AtA Z 15 7 := ⟨by rw [hZ.1]; rfl, by rw [hZ.2]; decide, by decide⟩
theorem ox_16 {Z : ZT} (hZ : IsX Z) : AtA Z 16 7 := ⟨by rw [hZ.1]; rfl, by rw [hZ.2]; decide, by decide⟩
theorem ox_17 {Z : ZT} (hZ : IsX Z) : AtA Z 17 7 := ⟨by rw [hZ.1]; rfl, by rw [hZ.2]; decide, by decide⟩
theorem ox_18 {Z : ZT} (hZ : IsX Z) : AtO Z 18 2 := ⟨by rw [hZ.1]; rfl, by rw [hZ.2]; decide, by decide⟩
theorem ox_19 {Z : ZT} (hZ : IsX Z) : AtA Z 19 7 := ⟨by rw [hZ.1]; rfl, by rw [hZ.2]; decide, by decide⟩
theorem ox_20 {Z : ZT} (hZ : IsX Z) : AtA Z 20 7 := ⟨by rw [hZ.1]; rfl, by rw [hZ.2]; decide, by decide⟩
theorem ox_21 {Z : ZT} (hZ : IsX Z) : AtA Z 21 7 := ⟨by rw [hZ.1]; rfl, by rw [hZ.2]; decide, by decide⟩
theorem ox_22 {Z : ZT} (hZ : IsX Z) : AtA Z 22 7 := ⟨by rw [hZ.1]; rfl, by rw [hZ.2]; decide, by decide⟩
theorem ox_23 {Z : ZT} (hZ : IsX Z) : AtA Z 23 7 := ⟨by rw [hZ.1]; rfl, by rw [hZ.2]; decide, by decide⟩
theorem ox_24 {Z : ZT} (hZ : IsX Z) : AtA Z 24 7 := ⟨by rw [hZ.1]; rfl, by rw [hZ.2]; decide, by decide⟩
theorem ox_25 {Z : ZT} (hZ : IsX Z) : AtA Z 25 7 := ⟨by rw [hZ.1]; rfl, by rw [hZ.2]; decide, by decide⟩
theorem ox_26 {Z : ZT} (hZ : IsX Z) : AtO Z 26 2 := ⟨by rw [hZ.1]; rfl, by rw [hZ.2]; decide, by decide⟩
theorem ox_27 {Z : ZT} (hZ : IsX Z) : AtA Z 27 7 := ⟨by rw [hZ.1]; rfl, by rw [hZ.2]; decide, by decide⟩
theorem ox_28 {Z : ZT} (hZ : IsX Z) : AtA Z 28 7 := ⟨by rw [hZ.1]; rfl, by rw [hZ.2]; decide, by decide⟩
theorem ox_29 {Z : ZT} (hZ : IsX Z) : AtA Z 29 7 := ⟨by rw [hZ.1]; rfl, by rw [hZ.2]; decide, by decide⟩
theorem ox_30 {Z : ZT} (hZ : IsX Z) : AtA Z 30 7 := ⟨by rw [hZ.1]; rfl, by rw [hZ.2]; decide, by decide⟩
theorem ox_31 {Z : ZT} (hZ : IsX Z) : AtA Z 31 7 := ⟨by rw [hZ.1]; rfl, by rw [hZ.2]; decide, by decide⟩
theorem ox_32 {Z : ZT} (hZ : IsX Z) : AtA Z 32 7 := ⟨by rw [hZ.1]; rfl, by rw [hZ.2]; decide, by decide⟩
theorem ox_33 {Z : ZT} (hZ : IsX Z) : AtA Z 33 7 := ⟨by rw [hZ.1]; rfl, by rw [hZ.2]; decide, by decide⟩
theorem ox_34 {Z : ZT} (hZ : IsX Z) : AtO Z 34 3 := ⟨by rw [hZ.1]; rfl, by rw [hZ.2]; decide, by decide⟩
theorem ox_35 {Z : ZT} (hZ : IsX Z) : AtA Z 35 7 := ⟨by rw [hZ.1]; rfl, by rw [hZ.2]; decide, by decide⟩
theorem ox_36 {Z : ZT} (hZ : IsX Z) : AtA Z 36 7 := ⟨by rw [hZ.1]; rfl, by rw [hZ.2]; decide, by decide⟩
theorem ox_37 {Z : ZT} (hZ : IsX Z) : AtA Z 37 7 := ⟨by rw [hZ.1]; rfl, by rw [hZ.2]; decide, by decide⟩
theorem ox_38 {Z : ZT} (hZ : IsX Z) : AtA Z 38 7 := ⟨by rw [hZ.1]; rfl, by rw [hZ.2]; decide, by decide⟩
theorem ox_39 {Z : ZT} (hZ : IsX Z) : AtA Z 39 7 := ⟨by rw [hZ.1]; rfl, by rw [hZ.2]; decide, by decide⟩
theorem ox_40 {Z : ZT} (hZ : IsX Z) : AtO Z 40 6 := ⟨by rw [hZ.1]; rfl, by rw [hZ.2]; decide, by decide⟩
theorem ox_41 {Z : ZT} (hZ : IsX Z) : AtR Z 41 8 := ⟨by rw [hZ.1]; rfl, by rw [hZ.2]; decide, by decide⟩
theorem ox_42 {Z : ZT} (hZ : IsX Z) : AtO Z 42 2 := ⟨by rw [hZ.1]; rfl, by rw [hZ.2]; decide, by decide⟩
theorem ox_43 {Z : ZT} (hZ : IsX Z) : AtA Z 43 7 := ⟨by rw [hZ.1]; rfl, by rw [hZ.2]; decide, by decide⟩
theorem ox_44 {Z : ZT} (hZ : IsX Z) : AtA Z 44 7 := ⟨by rw [hZ.1]; rfl, by rw [hZ.2]; decide, by decide⟩
theorem ox_45 {Z : ZT} (hZ : IsX Z) : AtA Z 45 7 := ⟨by rw [hZ.1]; rfl, by rw [hZ.2]; decide, by decide⟩
theorem ox_46 {Z : ZT} (hZ : IsX Z) : AtA Z 46 7 := ⟨by rw [hZ.1]; rfl, by rw [hZ.2]; decide, by decide⟩
theorem ox_47 {Z : ZT} (hZ : IsX Z) : AtA Z 47 7 := ⟨by rw [hZ.1]; rfl, by rw [hZ.2]; decide, by decide⟩
theorem ox_48 {Z : ZT} (hZ : IsX Z) : AtA Z 48 7 := ⟨by rw [hZ.1]; rfl, by rw [hZ.2]; decide, by decide⟩
theorem ox_49 {Z : ZT} (hZ : IsX Z) : AtA Z 49 7 := ⟨by rw [hZ.1]; rfl, by rw [hZ.2]; decide, by decide⟩
theorem ox_50 {Z : ZT} (hZ : IsX Z) : AtO Z 50 2 := ⟨by rw [hZ.1]; rfl, by rw [hZ.2]; decide, by decide⟩
theorem ox_51 {Z : ZT} (hZ : IsX Z) : AtA Z 51 7 := ⟨by rw [hZ.1]; rfl, by rw [hZ.2]; decide, by decide⟩
theorem ox_52 {Z : ZT} (hZ : IsX Z) : AtA Z 52 7 := ⟨by rw [hZ.1]; rfl, by rw [hZ.2]; decide, by decide⟩
theorem ox_53 {Z : ZT} (hZ : IsX Z) : AtA Z 53 7 := ⟨by rw [hZ.1]; rfl, by rw [hZ.2]; decide, by decide⟩
theorem ox_54 {Z : ZT} (hZ : IsX Z) : AtA Z 54 7 := ⟨by rw [hZ.1]; rfl, by rw [hZ.2]; decide, by decide⟩
theorem ox_55 {Z : ZT} (hZ : IsX Z) : AtA Z 55 7 := ⟨by rw [hZ.1]; rfl, by rw [hZ.2]; decide, by decide⟩
theorem ox_56 {Z : ZT} (hZ : IsX Z) : AtA Z 56 7 := ⟨by rw [hZ.1]; rfl, by rw [hZ.2]; decide, by decide⟩
theorem ox_57 {Z : ZT} (hZ : IsX Z) : AtA Z 57 7 := ⟨by rw [hZ.1]; rfl, by rw [hZ.2]; decide, by decide⟩
theorem ox_58 {Z : ZT} (hZ : IsX Z) : AtO Z 58 2 := ⟨by rw [hZ.1]; rfl, by rw [hZ.2]; decide, by decide⟩
theorem ox_59 {Z : ZT} (hZ : IsX Z) : AtA Z 59 7 := ⟨by rw [hZ.1]; rfl, by rw [hZ.2]; decide, by decide⟩
theorem ox_60 {Z : ZT} (hZ : IsX Z) : AtA Z 60 7 := ⟨by rw [hZ.1]; rfl, by rw [hZ.2]; decide, by decide⟩
theorem ox_61 {Z : ZT} (hZ : IsX Z) : AtA Z 61 7 := ⟨by rw [hZ.1]; rfl, by rw [hZ.2]; decide, by decide⟩
theorem ox_62 {Z : ZT} (hZ : IsX Z) : AtA Z 62 7 := ⟨by rw [hZ.1]; rfl, by rw [hZ.2]; decide, by decide⟩
theorem ox_63 {Z : ZT} (hZ : IsX Z) : AtA Z 63 7 := ⟨by rw [hZ.1]; rfl, by rw [hZ.2]; decide, by decide⟩
theorem ox_64 {Z : ZT} (hZ : IsX Z) : AtA Z 64 7 := ⟨by rw [hZ.1]; rfl, by rw [hZ.2]; decide, by decide⟩
theorem ox_65 {Z : ZT} (hZ : IsX Z) : AtA Z 65 7 := ⟨by rw [hZ.1]; rfl, by rw [hZ.2]; decide, by decide⟩
theorem ox_66 {Z : ZT} (hZ : IsX Z) : AtO Z 66 2 := ⟨by rw [hZ.1]; rfl, by rw [hZ.2]; decide, by decide⟩
theorem ox_67 {Z : ZT} (hZ : IsX Z) : AtA Z 67 7 := ⟨by rw [hZ.1]; rfl, by rw [hZ.2]; decide, by decide⟩
theorem ox_68 {Z : ZT} (hZ : IsX Z) : AtA Z 68 7 := ⟨by rw [hZ.1]; rfl, by rw [hZ.2]; decide, by decide⟩
theorem ox_69 {Z : ZT} (hZ : IsX Z) : AtA Z 69 7 := ⟨by rw [hZ.1]; rfl, by rw [hZ.2]; decide, by decide⟩
theorem ox_70 {Z : ZT} (hZ : IsX Z) : AtA Z 70 7 := ⟨by rw [hZ.1]; rfl, by rw [hZ.2]; decide, by decide⟩
theorem ox_71 {Z : ZT} (hZ : IsX Z) : AtA Z 71 7 := ⟨by rw [hZ.1]; rfl, by rw [hZ.2]; decide, by decide⟩
theorem ox_72 {Z : ZT} (hZ : IsX Z) : AtA Z 72 7 := ⟨by rw [hZ.1]; rfl, by rw [hZ.2]; decide, by decide⟩
theorem ox_73 {Z : ZT} (hZ : IsX Z) : AtA Z 73 7 := ⟨by rw [hZ.1]; rfl, by rw [hZ.2]; decide, by decide⟩
theorem ox_74 {Z : ZT} (hZ : IsX Z) : AtO Z 74 2 := ⟨by rw [hZ.1]; rfl, by rw [hZ.2]; decide, by decide⟩
theorem ox_75 {Z : ZT} (hZ : IsX Z) : AtA Z 75 7 := ⟨by rw [hZ.1]; rfl, by rw [hZ.2]; decide, by decide⟩
theorem ox_76 {Z : ZT} (hZ : IsX Z) : AtA Z 76 7 := ⟨by rw [hZ.1]; rfl, by rw [hZ.2]; decide, by decide⟩
theorem ox_77 {Z : ZT} (hZ : IsX Z) : AtA Z 77 7 := ⟨by rw [hZ.1]; rfl, by rw [hZ.2]; decide, by decide⟩
theorem ox_78 {Z : ZT} (hZ : IsX Z) : AtA Z 78 7 := ⟨by rw [hZ.1]; rfl, by rw [hZ.2]; decide, by decide⟩
theorem ox_79 {Z : ZT} (hZ : IsX Z) : AtA Z 79 7 := ⟨by rw [hZ.1]; rfl, by rw [hZ.2]; decide, by decide⟩
theorem ox_80 {Z : ZT} (hZ : IsX Z) : AtA Z 80 7 := ⟨by rw [hZ.1]; rfl, by rw [hZ.2]; decide, by decide⟩
theorem ox_81 {Z : ZT} (hZ : IsX Z) : AtA Z 81 7 := ⟨by rw [hZ.1]; rfl, by rw [hZ.2]; decide, by decide⟩
theorem ox_82 {Z : ZT} (hZ : IsX Z) : AtO Z 82 2 := ⟨by rw [hZ.1]; rfl, by rw [hZ.2]; decide, by decide⟩
theorem ox_83 {Z : ZT} (hZ : IsX Z) : AtA Z 83 7 := ⟨by rw [hZ.1]; rfl, by rw [hZ.2]; decide, by decide⟩
theorem ox_84 {Z : ZT} (hZ : IsX Z) : AtA Z 84 7 := ⟨by rw [hZ.1]; rfl, by rw [hZ.2]; decide, by decide⟩
theorem ox_85 {Z : ZT} (hZ : IsX Z) : AtA Z 85 7 := ⟨by rw [hZ.1]; rfl, by rw [hZ.2]; decide, by decide⟩
theorem ox_86 {Z : ZT} (hZ : IsX Z) : AtA Z 86 7 := ⟨by rw [hZ.1]; rfl, by rw [hZ.2]; decide, by decide⟩
theorem ox_87 {Z : ZT} (hZ : IsX Z) : AtA Z 87 7 := ⟨by rw [hZ.1]; rfl, by rw [hZ.2]; decide, by decide⟩
theorem ox_88 {Z : ZT} (hZ : IsX Z) : AtA Z 88 7 := ⟨by rw [hZ.1]; rfl, by rw [hZ.2]; decide, by decide⟩
theorem ox_89 {Z : ZT} (hZ : IsX Z) : AtA Z 89 7 := ⟨by rw [hZ.1]; rfl, by rw [hZ.2]; decide, by decide⟩
theorem ox_90 {Z : ZT} (hZ : IsX Z) : AtO Z 90 2 := ⟨by rw [hZ.1]; rfl, by rw [hZ.2]; decide, by decide⟩
theorem ox_91 {Z : ZT} (hZ : IsX Z) : AtA Z 91 7 := ⟨by rw [hZ.1]; rfl, by rw [hZ.2]; decide, by decide⟩
theorem ox_92 {Z : ZT} (hZ : IsX Z) : AtA Z 92 7 := ⟨by rw [hZ.1]; rfl, by rw [hZ.2]; decide, by decide⟩
theorem ox_93 {Z : ZT} (hZ : IsX Z) : AtA Z 93 7 := ⟨by rw [hZ.1]; rfl, by rw [hZ.2]; decide, by decide⟩
theorem ox_94 {Z : ZT} (hZ : IsX Z) : AtA Z 94 7 := ⟨by rw [hZ.1]; rfl, by rw [hZ.2]; decide, by decide⟩
theorem ox_95 {Z : ZT} (hZ : IsX Z) : AtA Z 95 7 := ⟨by rw [hZ.1]; rfl, by rw [hZ.2]; decide, by decide⟩
theorem ox_96 {Z : ZT} (hZ : IsX Z) : AtA Z 96 7 := ⟨by rw [hZ.1]; rfl, by rw [hZ.2]; decide, by decide⟩
theorem ox_97 {Z : ZT} (hZ : IsX Z) : AtA Z 97 7 := ⟨by rw [hZ.1]; rfl, by rw [hZ.2]; decide, by decide⟩
theorem ox_98 {Z : ZT} (hZ : IsX Z) : AtO Z 98 2 := ⟨by rw [hZ.1]; rfl, by rw [hZ.2]; decide, by decide⟩
theorem ox_99 {Z : ZT} (hZ : IsX Z) : AtA Z 99 7 := ⟨by rw [hZ.1]; rfl, by rw [hZ.2]; decide, by decide⟩
theorem ox_100 {Z : ZT} (hZ : IsX Z) : AtA Z 100 7 := ⟨by rw [hZ.1]; rfl, by rw [hZ.2]; decide, by decide⟩
theorem ox_101 {Z : ZT} (hZ : IsX Z) : AtA Z 101 7 := ⟨by rw [hZ.1]; rfl, by rw [hZ.2]; decide, by decide⟩
theorem ox_102 {Z : ZT} (hZ : IsX Z) : AtA Z 102 7 := ⟨by rw [hZ.1]; rfl, by rw [hZ.2]; decide, by decide⟩
theorem ox_103 {Z : ZT} (hZ : IsX Z) : AtA Z 103 7 := ⟨by rw [hZ.1]; rfl, by rw [hZ.2]; decide, by decide⟩
theorem ox_104 {Z : ZT} (hZ : IsX Z) : AtA Z 104 7 := ⟨by rw [hZ.1]; rfl, by rw [hZ.2]; decide, by decide⟩
theorem ox_105 {Z : ZT} (hZ : IsX Z) : AtA Z 105 7 := ⟨by rw [hZ.1]; rfl, by rw [hZ.2]; decide, by decide⟩
theorem ox_106 {Z : ZT} (hZ : IsX Z) : AtO Z 106 6 := ⟨by rw [hZ.1]; rfl, by rw [hZ.2]; decide, by decide⟩
theorem ox_107 {Z : ZT} (hZ : IsX Z) : AtR Z 107 2 := ⟨by rw [hZ.1]; rfl, by rw [hZ.2]; decide, by decide⟩
theorem ox_108 {Z : ZT} (hZ : IsX Z) : AtO Z 108 2 := ⟨by rw [hZ.1]; rfl, by rw [hZ.2]; decide, by decide⟩
theorem ox_109 {Z : ZT} (hZ : IsX Z) : AtA Z 109 7 := ⟨by rw [hZ.1]; rfl, by rw [hZ.2]; decide, by decide⟩
theorem ox_110 {Z : ZT} (hZ : IsX Z) : AtA Z 110 7 := ⟨by rw [hZ.1]; rfl, by rw [hZ.2]; decide, by decide⟩
theorem ox_111 {Z : ZT} (hZ : IsX Z) : AtA Z 111 7 := ⟨by rw [hZ.1]; rfl, by rw [hZ.2]; decide, by decide⟩
theorem ox_112 {Z : ZT} (hZ : IsX Z) : AtA Z 112 7 := ⟨by rw [hZ.1]; rfl, by rw [hZ.2]; decide, by decide⟩
theorem ox_113 {Z : ZT} (hZ : IsX Z) : AtA Z 113 7 := ⟨by rw [hZ.1]; rfl, by rw [hZ.2]; decide, by decide⟩
theorem ox_114 {Z : ZT} (hZ : IsX Z) : AtA Z 114 7 := ⟨by rw [hZ.1]; rfl, by rw [hZ.2]; decide, by decide⟩
theorem ox_115 {Z : ZT} (hZ : IsX Z) : AtA Z 115 7 := ⟨by rw [hZ.1]; rfl, by rw [hZ.2]; decide, by decide⟩
theorem ox_116 {Z : ZT} (hZ : IsX Z) : AtO Z 116 2 := ⟨by rw [hZ.1]; rfl, by rw [hZ.2]; decide, by decide⟩
theorem ox_117 {Z : ZT} (hZ : IsX Z) : AtA Z 117 7 := ⟨by rw [hZ.1]; rfl, by rw [hZ.2]; decide, by decide⟩
theorem ox_118 {Z : ZT} (hZ : IsX Z) : AtA Z 118 7 := ⟨by rw [hZ.1]; rfl, by rw [hZ.2]; decide, by decide⟩
theorem ox_119 {Z : ZT} (hZ : IsX Z) : AtA Z 119 7 := ⟨by rw [hZ.1]; rfl, by rw [hZ.2]; decide, by decide⟩
theorem ox_120 {Z : ZT} (hZ : IsX Z) : AtA Z 120 7 := ⟨by rw [hZ.1]; rfl, by rw [hZ.2]; decide, by decide⟩
theorem ox_121 {Z : ZT} (hZ : IsX Z) : AtA Z 121 7 := ⟨by rw [hZ.1]; rfl, by rw [hZ.2]; decide, by decide⟩
theorem ox_122 {Z : ZT} (hZ : IsX Z) : AtA Z 122 7 := ⟨by rw [hZ.1]; rfl, by rw [hZ.2]; decide, by decide⟩
theorem ox_123 {Z : ZT} (hZ : IsX Z) : AtA Z 123 7 := ⟨by rw [hZ.1]; rfl, by rw [hZ.2]; decide, by decide⟩
theorem ox_124 {Z : ZT} (hZ : IsX Z) : AtO Z 124 1 := ⟨by rw [hZ.1]; rfl, by rw [hZ.2]; decide, by decide⟩
theorem ox_125 {Z : ZT} (hZ : IsX Z) : AtA Z 125 7 := ⟨by rw [hZ.1]; rfl, by rw [hZ.2]; decide, by decide⟩
theorem ox_126 {Z : ZT} (hZ : IsX Z) : AtA Z 126 7 := ⟨by rw [hZ.1]; rfl, by rw [hZ.2]; decide, by decide⟩
theorem ox_127 {Z : ZT} (hZ : IsX Z) : AtA Z 127 7 := ⟨by rw [hZ.1]; rfl, by rw [hZ.2]; decide, by decide⟩
theorem ox_128 {Z : ZT} (hZ : IsX Z) : AtO Z 128 2 := ⟨by rw [hZ.1]; rfl, by rw [hZ.2]; decide, by decide⟩
theorem ox_129 {Z : ZT} (hZ : IsX Z) : AtA Z 129 7 := ⟨by rw [hZ.1]; rfl, by rw [hZ.2]; decide, by decide⟩
theorem ox_130 {Z : ZT} (hZ : IsX Z) : AtA Z 130 7 := ⟨by rw [hZ.1]; rfl, by rw [hZ.2]; decide, by decide⟩
theorem ox_131 {Z : ZT} (hZ : IsX Z) : AtA Z 131 7 := ⟨by rw [hZ.1]; rfl, by rw [hZ.2]; decide, by decide⟩
theorem ox_132 {Z : ZT} (hZ : IsX Z) : AtA Z 132 7 := ⟨by rw [hZ.1]; rfl, by rw [hZ.2]; decide, by decide⟩
theorem ox_133 {Z : ZT} (hZ : IsX Z) : AtA Z 133 7 := ⟨by rw [hZ.1]; rfl, by rw [hZ.2]; decide, by decide⟩
theorem ox_134 {Z : ZT} (hZ : IsX Z) : AtA Z 134 7 := ⟨by rw [hZ.1]; rfl, by rw [hZ.2]; decide, by decide⟩
theorem ox_135 {Z : ZT} (hZ : IsX Z) : AtA Z 135 7 := ⟨by rw [hZ.1]; rfl, by rw [hZ.2]; decide, by decide⟩
theorem ox_136 {Z : ZT} (hZ : IsX Z) : AtO Z 136 3 := ⟨by rw [hZ.1]; rfl, by rw [hZ.2]; decide, by decide⟩
theorem ox_137 {Z : ZT} (hZ : IsX Z) : AtA Z 137 7 := ⟨by rw [hZ.1]; rfl, by rw [hZ.2]; decide, by decide⟩
theorem ox_138 {Z : ZT} (hZ : IsX Z) : AtA Z 138 7 := ⟨by rw [hZ.1]; rfl, by rw [hZ.2]; decide, by decide⟩
theorem ox_139 {Z : ZT} (hZ : IsX Z) : AtA Z 139 7 := ⟨by rw [hZ.1]; rfl, by rw [hZ.2]; decide, by decide⟩
theorem ox_140 {Z : ZT} (hZ : IsX Z) : AtA Z 140 7 := ⟨by rw [hZ.1]; rfl, by rw [hZ.2]; decide, by decide⟩
theorem ox_141 {Z : ZT} (hZ : IsX Z) : AtA Z 141 7 := ⟨by rw [hZ.1]; rfl, by rw [hZ.2]; decide, by decide⟩
theorem ox_142 {Z : ZT} (hZ : IsX Z) : AtO Z 142 7 := ⟨by rw [hZ.1]; rfl, by rw [hZ.2]; decide, by decide⟩
theorem ox_143 {Z : ZT} (hZ : IsX Z) : AtA Z 143 7 := ⟨by rw [hZ.1]; rfl, by rw [hZ.2]; decide, by decide⟩
theorem ox_144 {Z : ZT} (hZ : IsX Z) : AtA Z 144 7 := ⟨by rw [hZ.1]; rfl, by rw [hZ.2]; decide, by decide⟩
theorem ox_145 {Z : ZT} (hZ : IsX Z) : AtA Z 145 7 := ⟨by rw [hZ.1]; rfl, by rw [hZ.2]; decide, by decide⟩
theorem ox_146 {Z : ZT} (hZ : IsX Z) : AtA Z 146 7 := ⟨by rw [hZ.1]; rfl, by rw [hZ.2]; decide, by decide⟩
theorem ox_147 {Z : ZT} (hZ : IsX Z) : AtA Z 147 7 := ⟨by rw [hZ.1]; rfl, by rw [hZ.2]; decide, by decide⟩
theorem ox_148 {Z : ZT} (hZ : IsX Z) : AtO Z 148 0 := ⟨by rw [hZ.1]; rfl, by rw [hZ.2]; decide, by decide⟩
theorem ox_149 {Z : ZT} (hZ : IsX Z) : AtA Z 149 7 := ⟨by rw [hZ.1]; rfl, by rw [hZ.2]; decide, by decide⟩
theorem ox_150 {Z : ZT} (hZ : IsX Z) : AtO Z 150 2 := ⟨by rw [hZ.1]; rfl, by rw [hZ.2]; decide, by decide⟩
theorem ox_151 {Z : ZT} (hZ : IsX Z) : AtA Z 151 7 := ⟨by rw [hZ.1]; rfl, by rw [hZ.2]; decide, by decide⟩
theorem ox_152 {Z : ZT} (hZ : IsX Z) : AtA Z 152 7 := ⟨by rw [hZ.1]; rfl, by rw [hZ.2]; decide, by decide⟩
theorem ox_153 {Z : ZT} (hZ : IsX Z) : AtA Z 153 7 := ⟨by rw [hZ.1]; rfl, by rw [hZ.2]; decide, by decide⟩
theorem ox_154 {Z : ZT} (hZ : IsX Z) : AtA Z 154 7 := ⟨by rw [hZ.1]; rfl, by rw [hZ.2]; decide, by decide⟩
theorem ox_155 {Z : ZT} (hZ : IsX Z) : AtA Z 155 7 := ⟨by rw [hZ.1]; rfl, by rw [hZ.2]; decide, by decide⟩
theorem ox_156 {Z : ZT} (hZ : IsX Z) : AtA Z 156 7 := ⟨by rw [hZ.1]; rfl, by rw [hZ.2]; decide, by decide⟩
theorem ox_157 {Z : ZT} (hZ : IsX Z) : AtA Z 157 7 := ⟨by rw [hZ.1]; rfl, by rw [hZ.2]; decide, by decide⟩
theorem ox_158 {Z : ZT} (hZ : IsX Z) : AtO Z 158 3 := ⟨by rw [hZ.1]; rfl, by rw [hZ.2]; decide, by decide⟩
theorem ox_159 {Z : ZT} (hZ : IsX Z) : AtA Z 159 7 := ⟨by rw [hZ.1]; rfl, by rw [hZ.2]; decide, by decide⟩
theorem ox_160 {Z : ZT} (hZ : IsX Z) : AtA Z 160 7 := ⟨by rw [hZ.1]; rfl, by rw [hZ.2]; decide, by decide⟩
theorem ox_161 {Z : ZT} (hZ : IsX Z) : AtA Z 161 7 := ⟨by rw [hZ.1]; rfl, by rw [hZ.2]; decide, by decide⟩
theorem ox_162 {Z : ZT} (hZ : IsX Z) : AtA Z 162 7 := ⟨by rw [hZ.1]; rfl, by rw [hZ.2]; decide, by decide⟩
theorem ox_163 {Z : ZT} (hZ : IsX Z) : AtA Z 163 7 := ⟨by rw [hZ.1]; rfl, by rw [hZ.2]; decide, by decide⟩
theorem om_0 {Z : ZT} (hZ : IsM Z) : AtO Z 0 9 := ⟨by rw [hZ.1]; rfl, by rw [hZ.2]; decide, by decide⟩
theorem om_1 {Z : ZT} (hZ : IsM Z) : AtA Z 1 612 := ⟨by rw [hZ.1]; rfl, by rw [hZ.2]; decide, by decide⟩
theorem om_2 {Z : ZT} (hZ : IsM Z) : AtA Z 2 7 := ⟨by rw [hZ.1]; rfl, by rw [hZ.2]; decide, by decide⟩
theorem om_3 {Z : ZT} (hZ : IsM Z) : AtA Z 3 7 := ⟨by rw [hZ.1]; rfl, by rw [hZ.2]; decide, by decide⟩
theorem om_4 {Z : ZT} (hZ : IsM Z) : AtA Z 4 7 := ⟨by rw [hZ.1]; rfl, by rw [hZ.2]; decide, by decide⟩
theorem om_5 {Z : ZT} (hZ : IsM Z) : AtA Z 5 7 := ⟨by rw [hZ.1]; rfl, by rw [hZ.2]; decide, by decide⟩
theorem om_6 {Z : ZT} (hZ : IsM Z) : AtA Z 6 7 := ⟨by rw [hZ.1]; rfl, by rw [hZ.2]; decide, by decide⟩
theorem om_7 {Z : ZT} (hZ : IsM Z) : AtA Z 7 7 := ⟨by rw [hZ.1]; rfl, by rw [hZ.2]; decide, by decide⟩
theorem om_8 {Z : ZT} (hZ : IsM Z) : AtA Z 8 200 := ⟨by rw [hZ.1]; rfl, by rw [hZ.2]; decide, by decide⟩
theorem om_9 {Z : ZT} (hZ : IsM Z) : AtA Z 9 35 := ⟨by rw [hZ.1]; rfl, by rw [hZ.2]; decide, by decide⟩
theorem om_10 {Z : ZT} (hZ : IsM Z) : AtA Z 10 7 := ⟨by rw [hZ.1]; rfl, by rw [hZ.2]; decide, by decide⟩
theorem om_11 {Z : ZT} (hZ : IsM Z) : AtA Z 11 7 := ⟨by rw [hZ.1]; rfl, by rw [hZ.2]; decide, by decide⟩
theorem om_12 {Z : ZT} (hZ : IsM Z) : AtA Z 12 8 := ⟨by rw [hZ.1]; rfl, by rw [hZ.2]; decide, by decide⟩
theorem om_13 {Z : ZT} (hZ : IsM Z) : AtA Z 13 7 := ⟨by rw [hZ.1]; rfl, by rw [hZ.2]; decide, by decide⟩
theorem om_14 {Z : ZT} (hZ : IsM Z) : AtA Z 14 8 := ⟨by rw [hZ.1]; rfl, by rw [hZ.2]; decide, by decide⟩
theorem om_15 {Z : ZT} (hZ : IsM Z) : AtA Z 15 7 := ⟨by rw [hZ.1]; rfl, by rw [hZ.2]; decide, by decide⟩
def Hh (a : Nat) : Prop := layX a = 2 ∧ a + 7 < 164 ∧ layX (a + 1) = 107 ∧ layX (a + 2) = 107 ∧ layX (a + 3) = 107 ∧ layX (a + 4) = 107 ∧ layX (a + 5) = 107 ∧ layX (a + 6) = 107 ∧ layX (a + 7) = 107
theorem Hh.o {Z : ZT} {a : Nat} (hZ : IsX Z) (h : Hh a) : AtO Z a 2 := ⟨by rw [hZ.1]; exact h.1, by rw [hZ.2]; have := h.2.1; omega, by decide⟩
theorem Hh.f1 {Z : ZT} {a : Nat} (hZ : IsX Z) (h : Hh a) : AtA Z (a + 1) 7 := ⟨by rw [hZ.1]; exact h.2.2.1, by rw [hZ.2]; have := h.2.1; omega, by decide⟩
theorem Hh.f2 {Z : ZT} {a : Nat} (hZ : IsX Z) (h : Hh a) : AtA Z (a + 2) 7 := ⟨by rw [hZ.1]; exact h.2.2.2.1, by rw [hZ.2]; have := h.2.1; omega, by decide⟩
theorem Hh.f3 {Z : ZT} {a : Nat} (hZ : IsX Z) (h : Hh a) : AtA Z (a + 3) 7 := ⟨by rw [hZ.1]; exact h.2.2.2.2.1, by rw [hZ.2]; have := h.2.1; omega, by decide⟩
theorem Hh.f4 {Z : ZT} {a : Nat} (hZ : IsX Z) (h : Hh a) : AtA Z (a + 4) 7 := ⟨by rw [hZ.1]; exact h.2.2.2.2.2.1, by rw [hZ.2]; have := h.2.1; omega, by decide⟩
theorem Hh.f5 {Z : ZT} {a : Nat} (hZ : IsX Z) (h : Hh a) : AtA Z (a + 5) 7 := ⟨by rw [hZ.1]; exact h.2.2.2.2.2.2.1, by rw [hZ.2]; have := h.2.1; omega, by decide⟩
theorem Hh.f6 {Z : ZT} {a : Nat} (hZ : IsX Z) (h : Hh a) : AtA Z (a + 6) 7 := ⟨by rw [hZ.1]; exact h.2.2.2.2.2.2.2.1, by rw [hZ.2]; have := h.2.1; omega, by decide⟩
theorem Hh.f7 {Z : ZT} {a : Nat} (hZ : IsX Z) (h : Hh a) : AtA Z (a + 7) 7 := ⟨by rw [hZ.1]; exact h.2.2.2.2.2.2.2.2, by rw [hZ.2]; have := h.2.1; omega, by decide⟩
def Ho (a : Nat) : Prop := layX a = 3 ∧ a + 5 < 164 ∧ layX (a + 1) = 107 ∧ layX (a + 2) = 107 ∧ layX (a + 3) = 107 ∧ layX (a + 4) = 107 ∧ layX (a + 5) = 107
theorem Ho.o {Z : ZT} {a : Nat} (hZ : IsX Z) (h : Ho a) : AtO Z a 3 := ⟨by rw [hZ.1]; exact h.1, by rw [hZ.2]; have := h.2.1; omega, by decide⟩
theorem Ho.f1 {Z : ZT} {a : Nat} (hZ : IsX Z) (h : Ho a) : AtA Z (a + 1) 7 := ⟨by rw [hZ.1]; exact h.2.2.1, by rw [hZ.2]; have := h.2.1; omega, by decide⟩
theorem Ho.f2 {Z : ZT} {a : Nat} (hZ : IsX Z) (h : Ho a) : AtA Z (a + 2) 7 := ⟨by rw [hZ.1]; exact h.2.2.2.1, by rw [hZ.2]; have := h.2.1; omega, by decide⟩
theorem Ho.f3 {Z : ZT} {a : Nat} (hZ : IsX Z) (h : Ho a) : AtA Z (a + 3) 7 := ⟨by rw [hZ.1]; exact h.2.2.2.2.1, by rw [hZ.2]; have := h.2.1; omega, by decide⟩
theorem Ho.f4 {Z : ZT} {a : Nat} (hZ : IsX Z) (h : Ho a) : AtA Z (a + 4) 7 := ⟨by rw [hZ.1]; exact h.2.2.2.2.2.1, by rw [hZ.2]; have := h.2.1; omega, by decide⟩
theorem Ho.f5 {Z : ZT} {a : Nat} (hZ : IsX Z) (h : Ho a) : AtA Z (a + 5) 7 := ⟨by rw [hZ.1]; exact h.2.2.2.2.2.2, by rw [hZ.2]; have := h.2.1; omega, by decide⟩
def Hp (a : Nat) : Prop := layX a = 4 ∧ a + 6 < 164 ∧ layX (a + 1) = 107 ∧ layX (a + 2) = 107 ∧ layX (a + 3) = 107 ∧ layX (a + 4) = 107 ∧ layX (a + 5) = 107 ∧ layX (a + 6) = 107
theorem Hp.o {Z : ZT} {a : Nat} (hZ : IsX Z) (h : Hp a) : AtO Z a 4 := ⟨by rw [hZ.1]; exact h.1, by rw [hZ.2]; have := h.2.1; omega, by decide⟩
theorem Hp.f1 {Z : ZT} {a : Nat} (hZ : IsX Z) (h : Hp a) : AtA Z (a + 1) 7 := ⟨by rw [hZ.1]; exact h.2.2.1, by rw [hZ.2]; have := h.2.1; omega, by decide⟩
theorem Hp.f2 {Z : ZT} {a : Nat} (hZ : IsX Z) (h : Hp a) : AtA Z (a + 2) 7 := ⟨by rw [hZ.1]; exact h.2.2.2.1, by rw [hZ.2]; have := h.2.1; omega, by decide⟩
theorem Hp.f3 {Z : ZT} {a : Nat} (hZ : IsX Z) (h : Hp a) : AtA Z (a + 3) 7 := ⟨by rw [hZ.1]; exact h.2.2.2.2.1, by rw [hZ.2]; have := h.2.1; omega, by decide⟩
theorem Hp.f4 {Z : ZT} {a : Nat} (hZ : IsX Z) (h : Hp a) : AtA Z (a + 4) 7 := ⟨by rw [hZ.1]; exact h.2.2.2.2.2.1, by rw [hZ.2]; have := h.2.1; omega, by decide⟩
theorem Hp.f5 {Z : ZT} {a : Nat} (hZ : IsX Z) (h : Hp a) : AtA Z (a + 5) 7 := ⟨by rw [hZ.1]; exact h.2.2.2.2.2.2.1, by rw [hZ.2]; have := h.2.1; omega, by decide⟩
theorem Hp.f6 {Z : ZT} {a : Nat} (hZ : IsX Z) (h : Hp a) : AtA Z (a + 6) 7 := ⟨by rw [hZ.1]; exact h.2.2.2.2.2.2.2, by rw [hZ.2]; have := h.2.1; omega, by decide⟩
theorem Hh.lt {a : Nat} (h : Hh a) : a < 2 ^ 31 := by have := h.2.1; omega
def H5 (a : Nat) : Prop := layX a = 105 ∧ a < 164
theorem H5.o {Z : ZT} {a : Nat} (hZ : IsX Z) (h : H5 a) : AtA Z a 5 := ⟨by rw [hZ.1]; exact h.1, by rw [hZ.2]; exact h.2, by decide⟩
def Hf (a n : Nat) : Prop := layX a = 6 ∧ a + 1 < 164 ∧ layX (a + 1) = 2000 + n ∧ n < 1000
theorem Hf.o {Z : ZT} {a n : Nat} (hZ : IsX Z) (h : Hf a n) : AtO Z a 6 := ⟨by rw [hZ.1]; exact h.1, by rw [hZ.2]; have := h.2.1; omega, by decide⟩
theorem Hf.f1 {Z : ZT} {a n : Nat} (hZ : IsX Z) (h : Hf a n) : AtR Z (a + 1) n := ⟨by rw [hZ.1]; exact h.2.2.1, by rw [hZ.2]; exact h.2.1, h.2.2.2⟩
theorem wd_1 : Cond.initialized RX8 ∈ BIG := big_t 1 (by decide +kernel) rfl
theorem wd_2 : Cond.initialized RX5 ∈ BIG := big_t 2 (by decide +kernel) rfl
theorem wd_3 : Cond.initialized RX4 ∈ BIG := big_t 3 (by decide +kernel) rfl
theorem wd_4 : Cond.initialized RX2 ∈ BIG := big_t 4 (by decide +kernel) rfl
theorem wd_5 : Cond.initialized RX3 ∈ BIG := big_t 5 (by decide +kernel) rfl
theorem wd_6 : Cond.initialized RX6 ∈ BIG := big_t 6 (by decide +kernel) rfl
theorem wd_8 : Cond.initialized RX1 ∈ BIG := big_t 8 (by decide +kernel) rfl
theorem wd_9 : Cond.initialized RX7 ∈ BIG := big_t 9 (by decide +kernel) rfl
theorem wd_10 : Cond.initialized RX0 ∈ BIG := big_t 10 (by decide +kernel) rfl
theorem wd_15 : Cond.initialized RX9 ∈ BIG := big_t 15 (by decide +kernel) rfl
theorem wd_372 : Cond.instanceMethod yX5_append ∈ BIG := big_t 372 (by decide +kernel) rfl
theorem wd_373 : Cond.code yX5_append cX5_append 2 (some .boolean) ∈ BIG := big_t 373 (by decide +kernel) rfl
theorem wd_374 : Cond.methodLink RX8 94 yX8_layScript ∈ BIG := big_t 374 (by decide +kernel) rfl
theorem wd_376 : Cond.instanceMethod yX8_layScript ∈ BIG := big_t 376 (by decide +kernel) rfl
theorem wd_377 : Cond.code yX8_layScript cX8_layScript 1 (some .boolean) ∈ BIG := big_t 377 (by decide +kernel) rfl
theorem wd_380 : Cond.instanceMethod yX5_readInto ∈ BIG := big_t 380 (by decide +kernel) rfl
theorem wd_381 : Cond.code yX5_readInto cX5_readInto 5 (some .int) ∈ BIG := big_t 381 (by decide +kernel) rfl
theorem wd_384 : Cond.instanceMethod yX4_clear ∈ BIG := big_t 384 (by decide +kernel) rfl
theorem wd_385 : Cond.code yX4_clear cX4_clear 2 none ∈ BIG := big_t 385 (by decide +kernel) rfl
theorem wd_386 : Cond.methodLink RX5 27 yX5_readItem ∈ BIG := big_t 386 (by decide +kernel) rfl
theorem wd_388 : Cond.instanceMethod yX5_readItem ∈ BIG := big_t 388 (by decide +kernel) rfl
theorem wd_389 : Cond.code yX5_readItem cX5_readItem 4 (some .int) ∈ BIG := big_t 389 (by decide +kernel) rfl
theorem wd_390 : Cond.methodLink RX5 31 yX5_letterAt ∈ BIG := big_t 390 (by decide +kernel) rfl
theorem wd_392 : Cond.instanceMethod yX5_letterAt ∈ BIG := big_t 392 (by decide +kernel) rfl
theorem wd_393 : Cond.code yX5_letterAt cX5_letterAt 2 (some .int) ∈ BIG := big_t 393 (by decide +kernel) rfl
theorem wd_398 : Cond.methodLink RX5 41 yX5_readNumbers ∈ BIG := big_t 398 (by decide +kernel) rfl
theorem wd_400 : Cond.instanceMethod yX5_readNumbers ∈ BIG := big_t 400 (by decide +kernel) rfl
theorem wd_401 : Cond.code yX5_readNumbers cX5_readNumbers 9 (some .int) ∈ BIG := big_t 401 (by decide +kernel) rfl
theorem wd_402 : Cond.methodLink RX5 59 Lib.Math.min.name ∈ BIG := big_t 402 (by decide +kernel) rfl
theorem wd_405 : Cond.methodLink RX5 65 yX5_isFigure ∈ BIG := big_t 405 (by decide +kernel) rfl
theorem wd_407 : Cond.instanceMethod yX5_isFigure ∈ BIG := big_t 407 (by decide +kernel) rfl
theorem wd_408 : Cond.code yX5_isFigure cX5_isFigure 2 (some .boolean) ∈ BIG := big_t 408 (by decide +kernel) rfl
theorem wd_411 : Cond.instanceMethod yX4_addGuest ∈ BIG := big_t 411 (by decide +kernel) rfl
theorem wd_412 : Cond.code yX4_addGuest cX4_addGuest 2 (some .boolean) ∈ BIG := big_t 412 (by decide +kernel) rfl
theorem wd_419 : Cond.instanceMethod yX4_addRoom ∈ BIG := big_t 419 (by decide +kernel) rfl
theorem wd_420 : Cond.code yX4_addRoom cX4_addRoom 2 (some .boolean) ∈ BIG := big_t 420 (by decide +kernel) rfl
theorem wd_423 : Cond.instanceMethod yX4_copyFrom ∈ BIG := big_t 423 (by decide +kernel) rfl
theorem wd_424 : Cond.code yX4_copyFrom cX4_copyFrom 3 none ∈ BIG := big_t 424 (by decide +kernel) rfl
theorem wd_427 : Cond.instanceMethod yX2_open ∈ BIG := big_t 427 (by decide +kernel) rfl
theorem wd_428 : Cond.code yX2_open cX2_open 2 none ∈ BIG := big_t 428 (by decide +kernel) rfl
theorem wd_431 : Cond.instanceMethod yX6_clear ∈ BIG := big_t 431 (by decide +kernel) rfl
theorem wd_432 : Cond.code yX6_clear cX6_clear 1 none ∈ BIG := big_t 432 (by decide +kernel) rfl
theorem wd_435 : Cond.instanceMethod yX7_clear ∈ BIG := big_t 435 (by decide +kernel) rfl
theorem wd_436 : Cond.code yX7_clear cX7_clear 1 none ∈ BIG := big_t 436 (by decide +kernel) rfl
theorem wd_439 : Cond.instanceMethod yX1_goStale ∈ BIG := big_t 439 (by decide +kernel) rfl
theorem wd_440 : Cond.code yX1_goStale cX1_goStale 1 none ∈ BIG := big_t 440 (by decide +kernel) rfl
theorem wd_443 : Cond.instanceMethod yX5_clear ∈ BIG := big_t 443 (by decide +kernel) rfl
theorem wd_444 : Cond.code yX5_clear cX5_clear 1 none ∈ BIG := big_t 444 (by decide +kernel) rfl
theorem wd_502 : Cond.instanceMethod yX4_has ∈ BIG := big_t 502 (by decide +kernel) rfl
theorem wd_503 : Cond.code yX4_has cX4_has 2 (some .boolean) ∈ BIG := big_t 503 (by decide +kernel) rfl
theorem wd_512 : Cond.methodLink RX8 148 yX8_beginAct ∈ BIG := big_t 512 (by decide +kernel) rfl
theorem wd_514 : Cond.instanceMethod yX8_beginAct ∈ BIG := big_t 514 (by decide +kernel) rfl
theorem wd_515 : Cond.code yX8_beginAct cX8_beginAct 1 none ∈ BIG := big_t 515 (by decide +kernel) rfl
theorem wd_518 : Cond.instanceMethod yX6_put ∈ BIG := big_t 518 (by decide +kernel) rfl
theorem wd_519 : Cond.code yX6_put cX6_put 3 none ∈ BIG := big_t 519 (by decide +kernel) rfl
theorem wd_520 : Cond.methodLink RX6 28 yX6_isFull ∈ BIG := big_t 520 (by decide +kernel) rfl
theorem wd_522 : Cond.instanceMethod yX6_isFull ∈ BIG := big_t 522 (by decide +kernel) rfl
theorem wd_523 : Cond.code yX6_isFull cX6_isFull 1 (some .boolean) ∈ BIG := big_t 523 (by decide +kernel) rfl
theorem wd_524 : Cond.methodLink RX6 32 yX6_dropOldest ∈ BIG := big_t 524 (by decide +kernel) rfl
theorem wd_526 : Cond.instanceMethod yX6_dropOldest ∈ BIG := big_t 526 (by decide +kernel) rfl
theorem wd_527 : Cond.code yX6_dropOldest cX6_dropOldest 3 none ∈ BIG := big_t 527 (by decide +kernel) rfl
theorem wd_530 : Cond.instanceMethod yX2_copyFrom ∈ BIG := big_t 530 (by decide +kernel) rfl
theorem wd_531 : Cond.code yX2_copyFrom cX2_copyFrom 3 none ∈ BIG := big_t 531 (by decide +kernel) rfl
theorem wd_534 : Cond.instanceMethod yX2_oneHour ∈ BIG := big_t 534 (by decide +kernel) rfl
theorem wd_535 : Cond.code yX2_oneHour cX2_oneHour 2 none ∈ BIG := big_t 535 (by decide +kernel) rfl
theorem wd_536 : Cond.methodLink RX2 64 yX2_comes ∈ BIG := big_t 536 (by decide +kernel) rfl
theorem wd_538 : Cond.instanceMethod yX2_comes ∈ BIG := big_t 538 (by decide +kernel) rfl
theorem wd_539 : Cond.code yX2_comes cX2_comes 2 none ∈ BIG := big_t 539 (by decide +kernel) rfl
theorem wd_541 : Cond.methodLink RX2 80 yX2_brings ∈ BIG := big_t 541 (by decide +kernel) rfl
theorem wd_543 : Cond.instanceMethod yX2_brings ∈ BIG := big_t 543 (by decide +kernel) rfl
theorem wd_544 : Cond.code yX2_brings cX2_brings 3 (some .int) ∈ BIG := big_t 544 (by decide +kernel) rfl
theorem wd_545 : Cond.methodLink RX2 71 Lib.Math.max.name ∈ BIG := big_t 545 (by decide +kernel) rfl
theorem wd_546 : Cond.methodLink RX2 77 yX2_setFree ∈ BIG := big_t 546 (by decide +kernel) rfl
theorem wd_548 : Cond.instanceMethod yX2_setFree ∈ BIG := big_t 548 (by decide +kernel) rfl
theorem wd_549 : Cond.code yX2_setFree cX2_setFree 4 none ∈ BIG := big_t 549 (by decide +kernel) rfl
theorem wd_556 : Cond.instanceMethod yX2_isBooked ∈ BIG := big_t 556 (by decide +kernel) rfl
theorem wd_557 : Cond.code yX2_isBooked cX2_isBooked 2 (some .boolean) ∈ BIG := big_t 557 (by decide +kernel) rfl
theorem wd_560 : Cond.instanceMethod yX2_rebook ∈ BIG := big_t 560 (by decide +kernel) rfl
theorem wd_561 : Cond.code yX2_rebook cX2_rebook 3 none ∈ BIG := big_t 561 (by decide +kernel) rfl
theorem wd_562 : Cond.methodLink RX2 52 yX2_isBooked ∈ BIG := big_t 562 (by decide +kernel) rfl
theorem wd_569 : Cond.instanceMethod yX2_callOff ∈ BIG := big_t 569 (by decide +kernel) rfl
theorem wd_570 : Cond.code yX2_callOff cX2_callOff 2 none ∈ BIG := big_t 570 (by decide +kernel) rfl
theorem wd_573 : Cond.instanceMethod yX2_howMany ∈ BIG := big_t 573 (by decide +kernel) rfl
theorem wd_574 : Cond.code yX2_howMany cX2_howMany 4 (some .int) ∈ BIG := big_t 574 (by decide +kernel) rfl
theorem wd_581 : Cond.instanceMethod yX2_swapRooms ∈ BIG := big_t 581 (by decide +kernel) rfl
theorem wd_582 : Cond.code yX2_swapRooms cX2_swapRooms 4 none ∈ BIG := big_t 582 (by decide +kernel) rfl
theorem wd_589 : Cond.instanceMethod yX6_takeInto ∈ BIG := big_t 589 (by decide +kernel) rfl
theorem wd_590 : Cond.code yX6_takeInto cX6_takeInto 3 (some .boolean) ∈ BIG := big_t 590 (by decide +kernel) rfl
theorem wd_597 : Cond.instanceMethod yX3_look ∈ BIG := big_t 597 (by decide +kernel) rfl
theorem wd_598 : Cond.code yX3_look cX3_look 2 none ∈ BIG := big_t 598 (by decide +kernel) rfl
theorem wd_599 : Cond.methodLink RX3 41 yX3_lineUp ∈ BIG := big_t 599 (by decide +kernel) rfl
theorem wd_601 : Cond.instanceMethod yX3_lineUp ∈ BIG := big_t 601 (by decide +kernel) rfl
theorem wd_602 : Cond.code yX3_lineUp cX3_lineUp 4 none ∈ BIG := big_t 602 (by decide +kernel) rfl
theorem wd_603 : Cond.methodLink RX3 45 yX3_reckon ∈ BIG := big_t 603 (by decide +kernel) rfl
theorem wd_605 : Cond.instanceMethod yX3_reckon ∈ BIG := big_t 605 (by decide +kernel) rfl
theorem wd_606 : Cond.code yX3_reckon cX3_reckon 4 none ∈ BIG := big_t 606 (by decide +kernel) rfl
theorem wd_607 : Cond.methodLink RX3 61 yX3_begin ∈ BIG := big_t 607 (by decide +kernel) rfl
theorem wd_609 : Cond.instanceMethod yX3_begin ∈ BIG := big_t 609 (by decide +kernel) rfl
theorem wd_610 : Cond.code yX3_begin cX3_begin 3 none ∈ BIG := big_t 610 (by decide +kernel) rfl
theorem wd_611 : Cond.constant RX3 77 (1000000) ∈ BIG := big_t 611 (by decide +kernel) rfl
theorem wd_612 : Cond.methodLink RX3 78 yX3_leaves ∈ BIG := big_t 612 (by decide +kernel) rfl
theorem wd_614 : Cond.instanceMethod yX3_leaves ∈ BIG := big_t 614 (by decide +kernel) rfl
theorem wd_615 : Cond.code yX3_leaves cX3_leaves 4 none ∈ BIG := big_t 615 (by decide +kernel) rfl
theorem wd_616 : Cond.methodLink RX3 82 Lib.Math.max.name ∈ BIG := big_t 616 (by decide +kernel) rfl
theorem wd_618 : Cond.methodLink RX3 68 yX3_meets ∈ BIG := big_t 618 (by decide +kernel) rfl
theorem wd_620 : Cond.instanceMethod yX3_meets ∈ BIG := big_t 620 (by decide +kernel) rfl
theorem wd_621 : Cond.code yX3_meets cX3_meets 7 none ∈ BIG := big_t 621 (by decide +kernel) rfl
theorem wd_623 : Cond.methodLink RX8 190 yX8_withinHorizon ∈ BIG := big_t 623 (by decide +kernel) rfl
theorem wd_624 : Cond.static yX8_withinHorizon ∈ BIG := big_t 624 (by decide +kernel) rfl
theorem wd_625 : Cond.code yX8_withinHorizon cX8_withinHorizon 1 (some .int) ∈ BIG := big_t 625 (by decide +kernel) rfl
theorem wd_632 : Cond.instanceMethod yX2_loadSoFar ∈ BIG := big_t 632 (by decide +kernel) rfl
theorem wd_633 : Cond.code yX2_loadSoFar cX2_loadSoFar 4 (some .int) ∈ BIG := big_t 633 (by decide +kernel) rfl
theorem wd_639 : Cond.methodLink RX8 202 Lib.Math.max.name ∈ BIG := big_t 639 (by decide +kernel) rfl
theorem wd_650 : Cond.instanceMethod yX1_refresh ∈ BIG := big_t 650 (by decide +kernel) rfl
theorem wd_651 : Cond.code yX1_refresh cX1_refresh 2 none ∈ BIG := big_t 651 (by decide +kernel) rfl
theorem wd_653 : Cond.methodLink RX1 68 yX1_begin ∈ BIG := big_t 653 (by decide +kernel) rfl
theorem wd_655 : Cond.instanceMethod yX1_begin ∈ BIG := big_t 655 (by decide +kernel) rfl
theorem wd_656 : Cond.code yX1_begin cX1_begin 2 none ∈ BIG := big_t 656 (by decide +kernel) rfl
theorem wd_657 : Cond.constant RX1 80 (1000000) ∈ BIG := big_t 657 (by decide +kernel) rfl
theorem wd_658 : Cond.methodLink RX1 90 Lib.Math.min.name ∈ BIG := big_t 658 (by decide +kernel) rfl
theorem wd_660 : Cond.methodLink RX1 77 yX1_search ∈ BIG := big_t 660 (by decide +kernel) rfl
theorem wd_662 : Cond.instanceMethod yX1_search ∈ BIG := big_t 662 (by decide +kernel) rfl
theorem wd_663 : Cond.code yX1_search cX1_search 4 none ∈ BIG := big_t 663 (by decide +kernel) rfl
theorem wd_665 : Cond.methodLink RX1 99 yX1_pickNext ∈ BIG := big_t 665 (by decide +kernel) rfl
theorem wd_667 : Cond.instanceMethod yX1_pickNext ∈ BIG := big_t 667 (by decide +kernel) rfl
theorem wd_668 : Cond.code yX1_pickNext cX1_pickNext 5 (some .boolean) ∈ BIG := big_t 668 (by decide +kernel) rfl
theorem wd_670 : Cond.methodLink RX1 106 yX1_writeDown ∈ BIG := big_t 670 (by decide +kernel) rfl
theorem wd_672 : Cond.instanceMethod yX1_writeDown ∈ BIG := big_t 672 (by decide +kernel) rfl
theorem wd_673 : Cond.code yX1_writeDown cX1_writeDown 2 none ∈ BIG := big_t 673 (by decide +kernel) rfl
theorem wd_676 : Cond.instanceMethod yX1_ownerFor ∈ BIG := big_t 676 (by decide +kernel) rfl
theorem wd_677 : Cond.code yX1_ownerFor cX1_ownerFor 2 (some .int) ∈ BIG := big_t 677 (by decide +kernel) rfl
theorem wd_689 : Cond.instanceMethod yX7_add ∈ BIG := big_t 689 (by decide +kernel) rfl
theorem wd_690 : Cond.code yX7_add cX7_add 3 (some .boolean) ∈ BIG := big_t 690 (by decide +kernel) rfl
theorem wd_701 : Cond.instanceMethod yX7_refresh ∈ BIG := big_t 701 (by decide +kernel) rfl
theorem wd_702 : Cond.code yX7_refresh cX7_refresh 3 none ∈ BIG := big_t 702 (by decide +kernel) rfl
theorem wd_703 : Cond.constant RX7 49 (1000000) ∈ BIG := big_t 703 (by decide +kernel) rfl
theorem wd_704 : Cond.methodLink RX7 50 yX7_comeInOrder ∈ BIG := big_t 704 (by decide +kernel) rfl
theorem wd_706 : Cond.instanceMethod yX7_comeInOrder ∈ BIG := big_t 706 (by decide +kernel) rfl
theorem wd_707 : Cond.code yX7_comeInOrder cX7_comeInOrder 6 none ∈ BIG := big_t 707 (by decide +kernel) rfl
theorem wd_709 : Cond.methodLink RX7 69 yX7_payOut ∈ BIG := big_t 709 (by decide +kernel) rfl
theorem wd_711 : Cond.instanceMethod yX7_payOut ∈ BIG := big_t 711 (by decide +kernel) rfl
theorem wd_712 : Cond.code yX7_payOut cX7_payOut 5 none ∈ BIG := big_t 712 (by decide +kernel) rfl
theorem wd_713 : Cond.methodLink RX7 53 yX7_isAsSeen ∈ BIG := big_t 713 (by decide +kernel) rfl
theorem wd_715 : Cond.instanceMethod yX7_isAsSeen ∈ BIG := big_t 715 (by decide +kernel) rfl
theorem wd_716 : Cond.code yX7_isAsSeen cX7_isAsSeen 2 (some .boolean) ∈ BIG := big_t 716 (by decide +kernel) rfl
theorem wd_717 : Cond.methodLink RX7 57 yX7_noteOrder ∈ BIG := big_t 717 (by decide +kernel) rfl
theorem wd_719 : Cond.instanceMethod yX7_noteOrder ∈ BIG := big_t 719 (by decide +kernel) rfl
theorem wd_720 : Cond.code yX7_noteOrder cX7_noteOrder 2 none ∈ BIG := big_t 720 (by decide +kernel) rfl
theorem wd_721 : Cond.methodLink RX7 60 yX7_nextOrder ∈ BIG := big_t 721 (by decide +kernel) rfl
theorem wd_723 : Cond.instanceMethod yX7_nextOrder ∈ BIG := big_t 723 (by decide +kernel) rfl
theorem wd_724 : Cond.code yX7_nextOrder cX7_nextOrder 5 (some .boolean) ∈ BIG := big_t 724 (by decide +kernel) rfl
theorem wd_725 : Cond.methodLink RX7 73 yX7_swap ∈ BIG := big_t 725 (by decide +kernel) rfl
theorem wd_727 : Cond.instanceMethod yX7_swap ∈ BIG := big_t 727 (by decide +kernel) rfl
theorem wd_728 : Cond.code yX7_swap cX7_swap 4 none ∈ BIG := big_t 728 (by decide +kernel) rfl
theorem wd_731 : Cond.instanceMethod yX7_firstOrderAt ∈ BIG := big_t 731 (by decide +kernel) rfl
theorem wd_732 : Cond.code yX7_firstOrderAt cX7_firstOrderAt 2 (some .int) ∈ BIG := big_t 732 (by decide +kernel) rfl
theorem wd_739 : Cond.instanceMethod yX0_weigh ∈ BIG := big_t 739 (by decide +kernel) rfl
theorem wd_740 : Cond.code yX0_weigh cX0_weigh 6 none ∈ BIG := big_t 740 (by decide +kernel) rfl
theorem wd_742 : Cond.methodLink RX0 57 yX0_weightOf ∈ BIG := big_t 742 (by decide +kernel) rfl
theorem wd_744 : Cond.instanceMethod yX0_weightOf ∈ BIG := big_t 744 (by decide +kernel) rfl
theorem wd_745 : Cond.code yX0_weightOf cX0_weightOf 5 (some .int) ∈ BIG := big_t 745 (by decide +kernel) rfl
theorem wd_746 : Cond.methodLink RX0 61 yX0_isFreeWithout ∈ BIG := big_t 746 (by decide +kernel) rfl
theorem wd_748 : Cond.instanceMethod yX0_isFreeWithout ∈ BIG := big_t 748 (by decide +kernel) rfl
theorem wd_749 : Cond.code yX0_isFreeWithout cX0_isFreeWithout 4 (some .boolean) ∈ BIG := big_t 749 (by decide +kernel) rfl
theorem wd_752 : Cond.methodLink RX0 65 yX0_lower ∈ BIG := big_t 752 (by decide +kernel) rfl
theorem wd_754 : Cond.instanceMethod yX0_lower ∈ BIG := big_t 754 (by decide +kernel) rfl
theorem wd_755 : Cond.code yX0_lower cX0_lower 5 none ∈ BIG := big_t 755 (by decide +kernel) rfl
theorem wd_760 : Cond.methodLink RX8 244 yX8_drawOf ∈ BIG := big_t 760 (by decide +kernel) rfl
theorem wd_761 : Cond.static yX8_drawOf ∈ BIG := big_t 761 (by decide +kernel) rfl
theorem wd_762 : Cond.code yX8_drawOf cX8_drawOf 4 (some .int) ∈ BIG := big_t 762 (by decide +kernel) rfl
theorem wd_763 : Cond.constantLong RX8 271 (7919) ∈ BIG := big_t 763 (by decide +kernel) rfl
theorem wd_764 : Cond.constantLong RX8 273 (6151) ∈ BIG := big_t 764 (by decide +kernel) rfl
theorem wd_765 : Cond.constantLong RX8 275 (65521) ∈ BIG := big_t 765 (by decide +kernel) rfl
theorem wd_768 : Cond.instanceMethod yX2_disturb ∈ BIG := big_t 768 (by decide +kernel) rfl
theorem wd_769 : Cond.code yX2_disturb cX2_disturb 5 none ∈ BIG := big_t 769 (by decide +kernel) rfl
theorem wd_770 : Cond.methodLink RX2 87 Lib.Math.min.name ∈ BIG := big_t 770 (by decide +kernel) rfl
theorem wd_771 : Cond.methodLink RX2 90 yX2_rebook ∈ BIG := big_t 771 (by decide +kernel) rfl
theorem wd_772 : Cond.methodLink RX2 94 yX2_callOff ∈ BIG := big_t 772 (by decide +kernel) rfl
theorem wd_773 : Cond.methodLink RX2 97 yX2_swapRooms ∈ BIG := big_t 773 (by decide +kernel) rfl
theorem wd_776 : Cond.instanceMethod yX2_allCoins ∈ BIG := big_t 776 (by decide +kernel) rfl
theorem wd_777 : Cond.code yX2_allCoins cX2_allCoins 3 (some .int) ∈ BIG := big_t 777 (by decide +kernel) rfl
theorem wd_793 : Cond.instanceMethod yX2_allWork ∈ BIG := big_t 793 (by decide +kernel) rfl
theorem wd_794 : Cond.code yX2_allWork cX2_allWork 3 (some .int) ∈ BIG := big_t 794 (by decide +kernel) rfl
theorem wd_801 : Cond.methodLink RX9 55 yX9_starts ∈ BIG := big_t 801 (by decide +kernel) rfl
theorem wd_803 : Cond.instanceMethod yX9_starts ∈ BIG := big_t 803 (by decide +kernel) rfl
theorem wd_804 : Cond.code yX9_starts cX9_starts 2 none ∈ BIG := big_t 804 (by decide +kernel) rfl
theorem wd_809 : Cond.methodLink RX9 62 yX9_addsRoom ∈ BIG := big_t 809 (by decide +kernel) rfl
theorem wd_811 : Cond.instanceMethod yX9_addsRoom ∈ BIG := big_t 811 (by decide +kernel) rfl
theorem wd_812 : Cond.code yX9_addsRoom cX9_addsRoom 2 none ∈ BIG := big_t 812 (by decide +kernel) rfl
theorem wd_813 : Cond.methodLink RX9 66 yX9_begins ∈ BIG := big_t 813 (by decide +kernel) rfl
theorem wd_815 : Cond.instanceMethod yX9_begins ∈ BIG := big_t 815 (by decide +kernel) rfl
theorem wd_816 : Cond.code yX9_begins cX9_begins 2 none ∈ BIG := big_t 816 (by decide +kernel) rfl
theorem wd_894 : Cond.constantLong RX9 92 (32) ∈ BIG := big_t 894 (by decide +kernel) rfl
theorem wd_895 : Cond.constantLong RX9 94 (126) ∈ BIG := big_t 895 (by decide +kernel) rfl
theorem wd_896 : Cond.methodLink RX9 73 yX9_in ∈ BIG := big_t 896 (by decide +kernel) rfl
theorem wd_897 : Cond.static yX9_in ∈ BIG := big_t 897 (by decide +kernel) rfl
theorem wd_898 : Cond.code yX9_in cX9_in 6 (some .boolean) ∈ BIG := big_t 898 (by decide +kernel) rfl
theorem wd_907 : Cond.methodLink RX9 127 yX9_faultOf ∈ BIG := big_t 907 (by decide +kernel) rfl
theorem wd_909 : Cond.instanceMethod yX9_faultOf ∈ BIG := big_t 909 (by decide +kernel) rfl
theorem wd_910 : Cond.code yX9_faultOf cX9_faultOf 2 (some .int) ∈ BIG := big_t 910 (by decide +kernel) rfl
theorem wd_911 : Cond.methodLink RX9 124 yX9_takesItem ∈ BIG := big_t 911 (by decide +kernel) rfl
theorem wd_913 : Cond.instanceMethod yX9_takesItem ∈ BIG := big_t 913 (by decide +kernel) rfl
theorem wd_914 : Cond.code yX9_takesItem cX9_takesItem 2 (some .boolean) ∈ BIG := big_t 914 (by decide +kernel) rfl
theorem wd_915 : Cond.methodLink RX9 105 yX9_letterAt ∈ BIG := big_t 915 (by decide +kernel) rfl
theorem wd_917 : Cond.instanceMethod yX9_letterAt ∈ BIG := big_t 917 (by decide +kernel) rfl
theorem wd_918 : Cond.code yX9_letterAt cX9_letterAt 2 (some .int) ∈ BIG := big_t 918 (by decide +kernel) rfl
theorem wd_919 : Cond.methodLink RX9 117 yX9_takesGuest ∈ BIG := big_t 919 (by decide +kernel) rfl
theorem wd_921 : Cond.instanceMethod yX9_takesGuest ∈ BIG := big_t 921 (by decide +kernel) rfl
theorem wd_922 : Cond.code yX9_takesGuest cX9_takesGuest 5 (some .boolean) ∈ BIG := big_t 922 (by decide +kernel) rfl
theorem wd_923 : Cond.methodLink RX9 113 yX9_takesNumber ∈ BIG := big_t 923 (by decide +kernel) rfl
theorem wd_925 : Cond.instanceMethod yX9_takesNumber ∈ BIG := big_t 925 (by decide +kernel) rfl
theorem wd_926 : Cond.code yX9_takesNumber cX9_takesNumber 5 (some .boolean) ∈ BIG := big_t 926 (by decide +kernel) rfl
theorem wd_927 : Cond.constantLong RX9 109 (48) ∈ BIG := big_t 927 (by decide +kernel) rfl
theorem wd_928 : Cond.constantLong RX9 111 (57) ∈ BIG := big_t 928 (by decide +kernel) rfl
theorem wd_929 : Cond.methodLink RX9 121 yX9_takesRoom ∈ BIG := big_t 929 (by decide +kernel) rfl
theorem wd_931 : Cond.instanceMethod yX9_takesRoom ∈ BIG := big_t 931 (by decide +kernel) rfl
theorem wd_932 : Cond.code yX9_takesRoom cX9_takesRoom 1 (some .boolean) ∈ BIG := big_t 932 (by decide +kernel) rfl
theorem wd_941 : Cond.methodLink RX9 131 yX9_isGuest ∈ BIG := big_t 941 (by decide +kernel) rfl
theorem wd_943 : Cond.instanceMethod yX9_isGuest ∈ BIG := big_t 943 (by decide +kernel) rfl
theorem wd_944 : Cond.code yX9_isGuest cX9_isGuest 2 (some .boolean) ∈ BIG := big_t 944 (by decide +kernel) rfl
theorem wd_949 : Cond.constantLong RX9 135 (6) ∈ BIG := big_t 949 (by decide +kernel) rfl
theorem wd_954 : Cond.constantLong RX9 158 (24) ∈ BIG := big_t 954 (by decide +kernel) rfl
theorem wd_955 : Cond.methodLink RX9 160 yX9_minds ∈ BIG := big_t 955 (by decide +kernel) rfl
theorem wd_957 : Cond.instanceMethod yX9_minds ∈ BIG := big_t 957 (by decide +kernel) rfl
theorem wd_958 : Cond.code yX9_minds cX9_minds 2 none ∈ BIG := big_t 958 (by decide +kernel) rfl
theorem wd_959 : Cond.methodLink RX9 155 yX9_copy ∈ BIG := big_t 959 (by decide +kernel) rfl
theorem wd_961 : Cond.instanceMethod yX9_copy ∈ BIG := big_t 961 (by decide +kernel) rfl
theorem wd_962 : Cond.code yX9_copy cX9_copy 4 none ∈ BIG := big_t 962 (by decide +kernel) rfl
theorem wd_963 : Cond.methodLink RX9 163 yX9_passes ∈ BIG := big_t 963 (by decide +kernel) rfl
theorem wd_965 : Cond.instanceMethod yX9_passes ∈ BIG := big_t 965 (by decide +kernel) rfl
theorem wd_966 : Cond.code yX9_passes cX9_passes 3 none ∈ BIG := big_t 966 (by decide +kernel) rfl
theorem wd_967 : Cond.methodLink RX9 149 yX9_comes ∈ BIG := big_t 967 (by decide +kernel) rfl
theorem wd_969 : Cond.instanceMethod yX9_comes ∈ BIG := big_t 969 (by decide +kernel) rfl
theorem wd_970 : Cond.code yX9_comes cX9_comes 4 none ∈ BIG := big_t 970 (by decide +kernel) rfl
theorem wd_971 : Cond.methodLink RX9 137 yX9_bringsIn ∈ BIG := big_t 971 (by decide +kernel) rfl
theorem wd_973 : Cond.instanceMethod yX9_bringsIn ∈ BIG := big_t 973 (by decide +kernel) rfl
theorem wd_974 : Cond.code yX9_bringsIn cX9_bringsIn 4 (some .int) ∈ BIG := big_t 974 (by decide +kernel) rfl
theorem wd_975 : Cond.methodLink RX9 152 yX9_freesThose ∈ BIG := big_t 975 (by decide +kernel) rfl
theorem wd_977 : Cond.instanceMethod yX9_freesThose ∈ BIG := big_t 977 (by decide +kernel) rfl
theorem wd_978 : Cond.code yX9_freesThose cX9_freesThose 3 none ∈ BIG := big_t 978 (by decide +kernel) rfl
theorem wd_979 : Cond.methodLink RX9 145 yX9_goesFree ∈ BIG := big_t 979 (by decide +kernel) rfl
theorem wd_981 : Cond.instanceMethod yX9_goesFree ∈ BIG := big_t 981 (by decide +kernel) rfl
theorem wd_982 : Cond.code yX9_goesFree cX9_goesFree 5 none ∈ BIG := big_t 982 (by decide +kernel) rfl
theorem wd_983 : Cond.methodLink RX9 141 yX9_has ∈ BIG := big_t 983 (by decide +kernel) rfl
theorem wd_984 : Cond.static yX9_has ∈ BIG := big_t 984 (by decide +kernel) rfl
theorem wd_985 : Cond.code yX9_has cX9_has 2 (some .boolean) ∈ BIG := big_t 985 (by decide +kernel) rfl
theorem wd_990 : Cond.constantLong RX9 166 (40) ∈ BIG := big_t 990 (by decide +kernel) rfl
theorem wd_991 : Cond.methodLink RX9 168 yX9_canBook ∈ BIG := big_t 991 (by decide +kernel) rfl
theorem wd_993 : Cond.instanceMethod yX9_canBook ∈ BIG := big_t 993 (by decide +kernel) rfl
theorem wd_994 : Cond.code yX9_canBook cX9_canBook 4 (some .boolean) ∈ BIG := big_t 994 (by decide +kernel) rfl
theorem wd_999 : Cond.methodLink RX9 171 yX9_manyHow ∈ BIG := big_t 999 (by decide +kernel) rfl
theorem wd_1001 : Cond.instanceMethod yX9_manyHow ∈ BIG := big_t 1001 (by decide +kernel) rfl
theorem wd_1002 : Cond.code yX9_manyHow cX9_manyHow 5 (some .int) ∈ BIG := big_t 1002 (by decide +kernel) rfl
theorem wd_1007 : Cond.methodLink RX9 174 yX9_canChange ∈ BIG := big_t 1007 (by decide +kernel) rfl
theorem wd_1009 : Cond.instanceMethod yX9_canChange ∈ BIG := big_t 1009 (by decide +kernel) rfl
theorem wd_1010 : Cond.code yX9_canChange cX9_canChange 4 (some .boolean) ∈ BIG := big_t 1010 (by decide +kernel) rfl
theorem wd_1011 : Cond.methodLink RX9 177 yX9_changes ∈ BIG := big_t 1011 (by decide +kernel) rfl
theorem wd_1013 : Cond.instanceMethod yX9_changes ∈ BIG := big_t 1013 (by decide +kernel) rfl
theorem wd_1014 : Cond.code yX9_changes cX9_changes 5 none ∈ BIG := big_t 1014 (by decide +kernel) rfl
theorem wd_1023 : Cond.methodLink RX9 181 yX9_tries ∈ BIG := big_t 1023 (by decide +kernel) rfl
theorem wd_1025 : Cond.instanceMethod yX9_tries ∈ BIG := big_t 1025 (by decide +kernel) rfl
theorem wd_1026 : Cond.code yX9_tries cX9_tries 1 none ∈ BIG := big_t 1026 (by decide +kernel) rfl
theorem wd_1031 : Cond.methodLink RX9 184 yX9_taskOf ∈ BIG := big_t 1031 (by decide +kernel) rfl
theorem wd_1033 : Cond.instanceMethod yX9_taskOf ∈ BIG := big_t 1033 (by decide +kernel) rfl
theorem wd_1034 : Cond.code yX9_taskOf cX9_taskOf 4 (some .int) ∈ BIG := big_t 1034 (by decide +kernel) rfl
theorem wd_1039 : Cond.constant RX9 187 (1000000) ∈ BIG := big_t 1039 (by decide +kernel) rfl
theorem wd_1044 : Cond.methodLink RX9 191 yX9_doneBy ∈ BIG := big_t 1044 (by decide +kernel) rfl
theorem wd_1046 : Cond.instanceMethod yX9_doneBy ∈ BIG := big_t 1046 (by decide +kernel) rfl
theorem wd_1047 : Cond.code yX9_doneBy cX9_doneBy 2 (some .int) ∈ BIG := big_t 1047 (by decide +kernel) rfl
theorem wd_1048 : Cond.methodLink RX9 188 yX9_isDone ∈ BIG := big_t 1048 (by decide +kernel) rfl
theorem wd_1050 : Cond.instanceMethod yX9_isDone ∈ BIG := big_t 1050 (by decide +kernel) rfl
theorem wd_1051 : Cond.code yX9_isDone cX9_isDone 4 (some .boolean) ∈ BIG := big_t 1051 (by decide +kernel) rfl
theorem wd_1056 : Cond.methodLink RX9 194 yX9_bestDeal ∈ BIG := big_t 1056 (by decide +kernel) rfl
theorem wd_1058 : Cond.instanceMethod yX9_bestDeal ∈ BIG := big_t 1058 (by decide +kernel) rfl
theorem wd_1059 : Cond.code yX9_bestDeal cX9_bestDeal 7 (some .int) ∈ BIG := big_t 1059 (by decide +kernel) rfl
theorem wd_1068 : Cond.constantLong RX9 197 (200) ∈ BIG := big_t 1068 (by decide +kernel) rfl
theorem wd_1077 : Cond.constantLong RX9 202 (-1) ∈ BIG := big_t 1077 (by decide +kernel) rfl
theorem wd_1078 : Cond.methodLink RX9 204 yX9_manyOrders ∈ BIG := big_t 1078 (by decide +kernel) rfl
theorem wd_1080 : Cond.instanceMethod yX9_manyOrders ∈ BIG := big_t 1080 (by decide +kernel) rfl
theorem wd_1081 : Cond.code yX9_manyOrders cX9_manyOrders 5 (some .int) ∈ BIG := big_t 1081 (by decide +kernel) rfl
theorem wd_1082 : Cond.methodLink RX9 199 yX9_areSo ∈ BIG := big_t 1082 (by decide +kernel) rfl
theorem wd_1084 : Cond.instanceMethod yX9_areSo ∈ BIG := big_t 1084 (by decide +kernel) rfl
theorem wd_1085 : Cond.code yX9_areSo cX9_areSo 3 (some .boolean) ∈ BIG := big_t 1085 (by decide +kernel) rfl
theorem wd_1090 : Cond.constantLong RX9 207 (10) ∈ BIG := big_t 1090 (by decide +kernel) rfl
theorem wd_1095 : Cond.constantLong RX9 209 (9999) ∈ BIG := big_t 1095 (by decide +kernel) rfl
theorem wd_1096 : Cond.constantLong RX9 211 (60) ∈ BIG := big_t 1096 (by decide +kernel) rfl
theorem wd_1097 : Cond.constantLong RX9 213 (7919) ∈ BIG := big_t 1097 (by decide +kernel) rfl
theorem wd_1098 : Cond.constantLong RX9 215 (6151) ∈ BIG := big_t 1098 (by decide +kernel) rfl
theorem wd_1099 : Cond.constantLong RX9 217 (65521) ∈ BIG := big_t 1099 (by decide +kernel) rfl
theorem wd_1100 : Cond.methodLink RX9 219 yX9_doesBy ∈ BIG := big_t 1100 (by decide +kernel) rfl
theorem wd_1102 : Cond.instanceMethod yX9_doesBy ∈ BIG := big_t 1102 (by decide +kernel) rfl
theorem wd_1103 : Cond.code yX9_doesBy cX9_doesBy 5 none ∈ BIG := big_t 1103 (by decide +kernel) rfl
theorem wd_1104 : Cond.methodLink RX9 222 yX9_coinsOf ∈ BIG := big_t 1104 (by decide +kernel) rfl
theorem wd_1106 : Cond.instanceMethod yX9_coinsOf ∈ BIG := big_t 1106 (by decide +kernel) rfl
theorem wd_1107 : Cond.code yX9_coinsOf cX9_coinsOf 4 (some .int) ∈ BIG := big_t 1107 (by decide +kernel) rfl
theorem wd_1120 : Cond.methodLink RX9 225 yX9_allToDo ∈ BIG := big_t 1120 (by decide +kernel) rfl
theorem wd_1122 : Cond.instanceMethod yX9_allToDo ∈ BIG := big_t 1122 (by decide +kernel) rfl
theorem wd_1123 : Cond.code yX9_allToDo cX9_allToDo 3 (some .int) ∈ BIG := big_t 1123 (by decide +kernel) rfl
theorem wn_370 : Cond.methodLinkNest RX8 90 yX5_append "NextBellboy" ∈ NWL := nw_t 370 (by decide +kernel) rfl
theorem wn_378 : Cond.methodLinkNest RX8 104 yX5_readInto "NextBellboy" ∈ NWL := nw_t 378 (by decide +kernel) rfl
theorem wn_382 : Cond.methodLinkNest RX5 22 yX4_clear "NextBellboy" ∈ NWL := nw_t 382 (by decide +kernel) rfl
theorem wn_409 : Cond.methodLinkNest RX5 45 yX4_addGuest "NextBellboy" ∈ NWL := nw_t 409 (by decide +kernel) rfl
theorem wn_417 : Cond.methodLinkNest RX5 55 yX4_addRoom "NextBellboy" ∈ NWL := nw_t 417 (by decide +kernel) rfl
theorem wn_421 : Cond.methodLinkNest RX8 266 yX4_copyFrom "NextBellboy" ∈ NWL := nw_t 421 (by decide +kernel) rfl
theorem wn_425 : Cond.methodLinkNest RX8 268 yX2_open "NextBellboy" ∈ NWL := nw_t 425 (by decide +kernel) rfl
theorem wn_429 : Cond.methodLinkNest RX8 259 yX6_clear "NextBellboy" ∈ NWL := nw_t 429 (by decide +kernel) rfl
theorem wn_433 : Cond.methodLinkNest RX8 225 yX7_clear "NextBellboy" ∈ NWL := nw_t 433 (by decide +kernel) rfl
theorem wn_437 : Cond.methodLinkNest RX8 179 yX1_goStale "NextBellboy" ∈ NWL := nw_t 437 (by decide +kernel) rfl
theorem wn_441 : Cond.methodLinkNest RX8 98 yX5_clear "NextBellboy" ∈ NWL := nw_t 441 (by decide +kernel) rfl
theorem wn_500 : Cond.methodLinkNest RX8 111 yX4_has "NextBellboy" ∈ NWL := nw_t 500 (by decide +kernel) rfl
theorem wn_516 : Cond.methodLinkNest RX8 256 yX6_put "NextBellboy" ∈ NWL := nw_t 516 (by decide +kernel) rfl
theorem wn_528 : Cond.methodLinkNest RX6 35 yX2_copyFrom "NextBellboy" ∈ NWL := nw_t 528 (by decide +kernel) rfl
theorem wn_532 : Cond.methodLinkNest RX8 151 yX2_oneHour "NextBellboy" ∈ NWL := nw_t 532 (by decide +kernel) rfl
theorem wn_540 : Cond.methodLinkNest RX2 48 yX4_has "NextBellboy" ∈ NWL := nw_t 540 (by decide +kernel) rfl
theorem wn_554 : Cond.methodLinkNest RX8 157 yX2_isBooked "NextBellboy" ∈ NWL := nw_t 554 (by decide +kernel) rfl
theorem wn_558 : Cond.methodLinkNest RX8 160 yX2_rebook "NextBellboy" ∈ NWL := nw_t 558 (by decide +kernel) rfl
theorem wn_567 : Cond.methodLinkNest RX8 164 yX2_callOff "NextBellboy" ∈ NWL := nw_t 567 (by decide +kernel) rfl
theorem wn_571 : Cond.methodLinkNest RX8 168 yX2_howMany "NextBellboy" ∈ NWL := nw_t 571 (by decide +kernel) rfl
theorem wn_579 : Cond.methodLinkNest RX8 172 yX2_swapRooms "NextBellboy" ∈ NWL := nw_t 579 (by decide +kernel) rfl
theorem wn_587 : Cond.methodLinkNest RX8 175 yX6_takeInto "NextBellboy" ∈ NWL := nw_t 587 (by decide +kernel) rfl
theorem wn_595 : Cond.methodLinkNest RX8 183 yX3_look "NextBellboy" ∈ NWL := nw_t 595 (by decide +kernel) rfl
theorem wn_617 : Cond.methodLinkNest RX3 64 yX4_has "NextBellboy" ∈ NWL := nw_t 617 (by decide +kernel) rfl
theorem wn_622 : Cond.methodLinkNest RX3 88 yX2_brings "NextBellboy" ∈ NWL := nw_t 622 (by decide +kernel) rfl
theorem wn_630 : Cond.methodLinkNest RX8 193 yX2_loadSoFar "NextBellboy" ∈ NWL := nw_t 630 (by decide +kernel) rfl
theorem wn_638 : Cond.methodLinkNest RX8 199 yX2_copyFrom "NextBellboy" ∈ NWL := nw_t 638 (by decide +kernel) rfl
theorem wn_648 : Cond.methodLinkNest RX8 211 yX1_refresh "NextBellboy" ∈ NWL := nw_t 648 (by decide +kernel) rfl
theorem wn_652 : Cond.methodLinkNest RX1 64 yX2_copyFrom "NextBellboy" ∈ NWL := nw_t 652 (by decide +kernel) rfl
theorem wn_659 : Cond.methodLinkNest RX1 71 yX3_look "NextBellboy" ∈ NWL := nw_t 659 (by decide +kernel) rfl
theorem wn_664 : Cond.methodLinkNest RX1 96 yX3_lineUp "NextBellboy" ∈ NWL := nw_t 664 (by decide +kernel) rfl
theorem wn_669 : Cond.methodLinkNest RX1 103 yX3_reckon "NextBellboy" ∈ NWL := nw_t 669 (by decide +kernel) rfl
theorem wn_674 : Cond.methodLinkNest RX8 217 yX1_ownerFor "NextBellboy" ∈ NWL := nw_t 674 (by decide +kernel) rfl
theorem wn_678 : Cond.methodLinkNest RX1 58 yX4_has "NextBellboy" ∈ NWL := nw_t 678 (by decide +kernel) rfl
theorem wn_687 : Cond.methodLinkNest RX8 220 yX7_add "NextBellboy" ∈ NWL := nw_t 687 (by decide +kernel) rfl
theorem wn_699 : Cond.methodLinkNest RX8 226 yX7_refresh "NextBellboy" ∈ NWL := nw_t 699 (by decide +kernel) rfl
theorem wn_708 : Cond.methodLinkNest RX7 42 yX4_has "NextBellboy" ∈ NWL := nw_t 708 (by decide +kernel) rfl
theorem wn_729 : Cond.methodLinkNest RX8 231 yX7_firstOrderAt "NextBellboy" ∈ NWL := nw_t 729 (by decide +kernel) rfl
theorem wn_737 : Cond.methodLinkNest RX8 234 yX0_weigh "NextBellboy" ∈ NWL := nw_t 737 (by decide +kernel) rfl
theorem wn_741 : Cond.methodLinkNest RX0 53 yX2_copyFrom "NextBellboy" ∈ NWL := nw_t 741 (by decide +kernel) rfl
theorem wn_750 : Cond.methodLinkNest RX0 68 yX3_look "NextBellboy" ∈ NWL := nw_t 750 (by decide +kernel) rfl
theorem wn_751 : Cond.methodLinkNest RX0 71 yX4_has "NextBellboy" ∈ NWL := nw_t 751 (by decide +kernel) rfl
theorem wn_766 : Cond.methodLinkNest RX8 247 yX2_disturb "NextBellboy" ∈ NWL := nw_t 766 (by decide +kernel) rfl
theorem wn_774 : Cond.methodLinkNest RX8 250 yX2_allCoins "NextBellboy" ∈ NWL := nw_t 774 (by decide +kernel) rfl
theorem wn_782 : Cond.methodLinkNest RX8 253 yX6_isFull "NextBellboy" ∈ NWL := nw_t 782 (by decide +kernel) rfl
theorem wn_791 : Cond.methodLinkNest RX8 263 yX2_allWork "NextBellboy" ∈ NWL := nw_t 791 (by decide +kernel) rfl
theorem ws_394 : Cond.fieldLink RX5 35 RX5 (tnm 0) "[I" ∈ BIG := big_t 394 (by decide +kernel) rfl
theorem ws_396 : Cond.fieldLink RX5 38 RX5 (tnm 1) "[I" ∈ BIG := big_t 396 (by decide +kernel) rfl
theorem ws_413 : Cond.fieldLink RX5 49 RX5 (tnm 2) "[I" ∈ BIG := big_t 413 (by decide +kernel) rfl
theorem ws_415 : Cond.fieldLink RX5 52 RX5 (tnm 3) "[I" ∈ BIG := big_t 415 (by decide +kernel) rfl
theorem wq_193 : Cond.static Lib.Math.max.name ∈ BIG := big_t 193 (by decide +kernel) rfl
theorem wq_7 : Cond.initialized "java/lang/Math" ∈ BIG := big_t 7 (by decide +kernel) rfl
theorem wq_194 : Cond.code Lib.Math.max.name Lib.Math.max.code 2 (some .int) ∈ BIG := big_t 194 (by decide +kernel) rfl
theorem wq_403 : Cond.static Lib.Math.min.name ∈ BIG := big_t 403 (by decide +kernel) rfl
theorem wq_404 : Cond.code Lib.Math.min.name Lib.Math.min.code 2 (some .int) ∈ BIG := big_t 404 (by decide +kernel) rfl
theorem yi_X0_isFreeWithout : YI yX0_isFreeWithout cX0_isFreeWithout 4 (some .boolean) 2 := ⟨wd_748, big_p (y := yX0_isFreeWithout) (n := 7) (List.mem_of_getElem? (i := 56) (by decide +kernel)), wd_10, wd_749, by decide, by decide, by decide +kernel⟩
theorem yi_X0_lower : YI yX0_lower cX0_lower 5 none 0 := ⟨wd_754, big_p (y := yX0_lower) (n := 7) (List.mem_of_getElem? (i := 57) (by decide +kernel)), wd_10, wd_755, by decide, by decide, by decide +kernel⟩
theorem yi_X0_weigh : YI yX0_weigh cX0_weigh 6 none 3 := ⟨wd_739, big_p (y := yX0_weigh) (n := 7) (List.mem_of_getElem? (i := 54) (by decide +kernel)), wd_10, wd_740, by decide, by decide, by decide +kernel⟩
theorem yi_X0_weightOf : YI yX0_weightOf cX0_weightOf 5 (some .int) 2 := ⟨wd_744, big_p (y := yX0_weightOf) (n := 7) (List.mem_of_getElem? (i := 55) (by decide +kernel)), wd_10, wd_745, by decide, by decide, by decide +kernel⟩
theorem yi_X1_begin : YI yX1_begin cX1_begin 2 none 0 := ⟨wd_655, big_p (y := yX1_begin) (n := 11) (List.mem_of_getElem? (i := 40) (by decide +kernel)), wd_8, wd_656, by decide, by decide, by decide +kernel⟩
theorem yi_X1_goStale : YI yX1_goStale cX1_goStale 1 none 0 := ⟨wd_439, big_p (y := yX1_goStale) (n := 11) (List.mem_of_getElem? (i := 14) (by decide +kernel)), wd_8, wd_440, by decide, by decide, by decide +kernel⟩
theorem yi_X1_ownerFor : YI yX1_ownerFor cX1_ownerFor 2 (some .int) 1 := ⟨wd_676, big_p (y := yX1_ownerFor) (n := 11) (List.mem_of_getElem? (i := 44) (by decide +kernel)), wd_8, wd_677, by decide, by decide, by decide +kernel⟩
theorem yi_X1_pickNext : YI yX1_pickNext cX1_pickNext 5 (some .boolean) 2 := ⟨wd_667, big_p (y := yX1_pickNext) (n := 11) (List.mem_of_getElem? (i := 42) (by decide +kernel)), wd_8, wd_668, by decide, by decide, by decide +kernel⟩
theorem yi_X1_refresh : YI yX1_refresh cX1_refresh 2 none 1 := ⟨wd_650, big_p (y := yX1_refresh) (n := 11) (List.mem_of_getElem? (i := 39) (by decide +kernel)), wd_8, wd_651, by decide, by decide, by decide +kernel⟩
theorem yi_X1_search : YI yX1_search cX1_search 4 none 1 := ⟨wd_662, big_p (y := yX1_search) (n := 11) (List.mem_of_getElem? (i := 41) (by decide +kernel)), wd_8, wd_663, by decide, by decide, by decide +kernel⟩
theorem yi_X1_writeDown : YI yX1_writeDown cX1_writeDown 2 none 0 := ⟨wd_672, big_p (y := yX1_writeDown) (n := 11) (List.mem_of_getElem? (i := 43) (by decide +kernel)), wd_8, wd_673, by decide, by decide, by decide +kernel⟩
theorem yi_X2_allCoins : YI yX2_allCoins cX2_allCoins 3 (some .int) 0 := ⟨wd_776, big_p (y := yX2_allCoins) (n := 10) (List.mem_of_getElem? (i := 59) (by decide +kernel)), wd_4, wd_777, by decide, by decide, by decide +kernel⟩
theorem yi_X2_allWork : YI yX2_allWork cX2_allWork 3 (some .int) 0 := ⟨wd_793, big_p (y := yX2_allWork) (n := 10) (List.mem_of_getElem? (i := 60) (by decide +kernel)), wd_4, wd_794, by decide, by decide, by decide +kernel⟩
theorem yi_X2_brings : YI yX2_brings cX2_brings 3 (some .int) 1 := ⟨wd_543, big_p (y := yX2_brings) (n := 10) (List.mem_of_getElem? (i := 24) (by decide +kernel)), wd_4, wd_544, by decide, by decide, by decide +kernel⟩
theorem yi_X2_callOff : YI yX2_callOff cX2_callOff 2 none 1 := ⟨wd_569, big_p (y := yX2_callOff) (n := 10) (List.mem_of_getElem? (i := 28) (by decide +kernel)), wd_4, wd_570, by decide, by decide, by decide +kernel⟩
theorem yi_X2_comes : YI yX2_comes cX2_comes 2 none 1 := ⟨wd_538, big_p (y := yX2_comes) (n := 10) (List.mem_of_getElem? (i := 23) (by decide +kernel)), wd_4, wd_539, by decide, by decide, by decide +kernel⟩
theorem yi_X2_copyFrom : YI yX2_copyFrom cX2_copyFrom 3 none 1 := ⟨wd_530, big_p (y := yX2_copyFrom) (n := 10) (List.mem_of_getElem? (i := 21) (by decide +kernel)), wd_4, wd_531, by decide, by decide, by decide +kernel⟩
theorem yi_X2_disturb : YI yX2_disturb cX2_disturb 5 none 1 := ⟨wd_768, big_p (y := yX2_disturb) (n := 10) (List.mem_of_getElem? (i := 58) (by decide +kernel)), wd_4, wd_769, by decide, by decide, by decide +kernel⟩
theorem yi_X2_howMany : YI yX2_howMany cX2_howMany 4 (some .int) 1 := ⟨wd_573, big_p (y := yX2_howMany) (n := 10) (List.mem_of_getElem? (i := 29) (by decide +kernel)), wd_4, wd_574, by decide, by decide, by decide +kernel⟩
theorem yi_X2_isBooked : YI yX2_isBooked cX2_isBooked 2 (some .boolean) 1 := ⟨wd_556, big_p (y := yX2_isBooked) (n := 10) (List.mem_of_getElem? (i := 26) (by decide +kernel)), wd_4, wd_557, by decide, by decide, by decide +kernel⟩
theorem yi_X2_loadSoFar : YI yX2_loadSoFar cX2_loadSoFar 4 (some .int) 1 := ⟨wd_632, big_p (y := yX2_loadSoFar) (n := 10) (List.mem_of_getElem? (i := 38) (by decide +kernel)), wd_4, wd_633, by decide, by decide, by decide +kernel⟩
theorem yi_X2_oneHour : YI yX2_oneHour cX2_oneHour 2 none 0 := ⟨wd_534, big_p (y := yX2_oneHour) (n := 10) (List.mem_of_getElem? (i := 22) (by decide +kernel)), wd_4, wd_535, by decide, by decide, by decide +kernel⟩
theorem yi_X2_open : YI yX2_open cX2_open 2 none 0 := ⟨wd_427, big_p (y := yX2_open) (n := 10) (List.mem_of_getElem? (i := 11) (by decide +kernel)), wd_4, wd_428, by decide, by decide, by decide +kernel⟩
theorem yi_X2_rebook : YI yX2_rebook cX2_rebook 3 none 2 := ⟨wd_560, big_p (y := yX2_rebook) (n := 10) (List.mem_of_getElem? (i := 27) (by decide +kernel)), wd_4, wd_561, by decide, by decide, by decide +kernel⟩
theorem yi_X2_setFree : YI yX2_setFree cX2_setFree 4 none 1 := ⟨wd_548, big_p (y := yX2_setFree) (n := 10) (List.mem_of_getElem? (i := 25) (by decide +kernel)), wd_4, wd_549, by decide, by decide, by decide +kernel⟩
theorem yi_X2_swapRooms : YI yX2_swapRooms cX2_swapRooms 4 none 2 := ⟨wd_581, big_p (y := yX2_swapRooms) (n := 10) (List.mem_of_getElem? (i := 30) (by decide +kernel)), wd_4, wd_582, by decide, by decide, by decide +kernel⟩
theorem yi_X3_begin : YI yX3_begin cX3_begin 3 none 1 := ⟨wd_609, big_p (y := yX3_begin) (n := 9) (List.mem_of_getElem? (i := 35) (by decide +kernel)), wd_5, wd_610, by decide, by decide, by decide +kernel⟩
theorem yi_X3_leaves : YI yX3_leaves cX3_leaves 4 none 2 := ⟨wd_614, big_p (y := yX3_leaves) (n := 9) (List.mem_of_getElem? (i := 36) (by decide +kernel)), wd_5, wd_615, by decide, by decide, by decide +kernel⟩
theorem yi_X3_lineUp : YI yX3_lineUp cX3_lineUp 4 none 1 := ⟨wd_601, big_p (y := yX3_lineUp) (n := 9) (List.mem_of_getElem? (i := 33) (by decide +kernel)), wd_5, wd_602, by decide, by decide, by decide +kernel⟩
theorem yi_X3_look : YI yX3_look cX3_look 2 none 1 := ⟨wd_597, big_p (y := yX3_look) (n := 9) (List.mem_of_getElem? (i := 32) (by decide +kernel)), wd_5, wd_598, by decide, by decide, by decide +kernel⟩
theorem yi_X3_meets : YI yX3_meets cX3_meets 7 none 2 := ⟨wd_620, big_p (y := yX3_meets) (n := 9) (List.mem_of_getElem? (i := 37) (by decide +kernel)), wd_5, wd_621, by decide, by decide, by decide +kernel⟩
theorem yi_X3_reckon : YI yX3_reckon cX3_reckon 4 none 1 := ⟨wd_605, big_p (y := yX3_reckon) (n := 9) (List.mem_of_getElem? (i := 34) (by decide +kernel)), wd_5, wd_606, by decide, by decide, by decide +kernel⟩
theorem yi_X4_addGuest : YI yX4_addGuest cX4_addGuest 2 (some .boolean) 1 := ⟨wd_411, big_p (y := yX4_addGuest) (n := 8) (List.mem_of_getElem? (i := 8) (by decide +kernel)), wd_3, wd_412, by decide, by decide, by decide +kernel⟩
theorem yi_X4_addRoom : YI yX4_addRoom cX4_addRoom 2 (some .boolean) 1 := ⟨wd_419, big_p (y := yX4_addRoom) (n := 8) (List.mem_of_getElem? (i := 9) (by decide +kernel)), wd_3, wd_420, by decide, by decide, by decide +kernel⟩
theorem yi_X4_clear : YI yX4_clear cX4_clear 2 none 0 := ⟨wd_384, big_p (y := yX4_clear) (n := 8) (List.mem_of_getElem? (i := 3) (by decide +kernel)), wd_3, wd_385, by decide, by decide, by decide +kernel⟩
theorem yi_X4_copyFrom : YI yX4_copyFrom cX4_copyFrom 3 none 1 := ⟨wd_423, big_p (y := yX4_copyFrom) (n := 8) (List.mem_of_getElem? (i := 10) (by decide +kernel)), wd_3, wd_424, by decide, by decide, by decide +kernel⟩
theorem yi_X4_has : YI yX4_has cX4_has 2 (some .boolean) 1 := ⟨wd_502, big_p (y := yX4_has) (n := 8) (List.mem_of_getElem? (i := 16) (by decide +kernel)), wd_3, wd_503, by decide, by decide, by decide +kernel⟩
theorem yi_X5_append : YI yX5_append cX5_append 2 (some .boolean) 1 := ⟨wd_372, big_p (y := yX5_append) (n := 3) (List.mem_of_getElem? (i := 0) (by decide +kernel)), wd_2, wd_373, by decide, by decide, by decide +kernel⟩
theorem yi_X5_clear : YI yX5_clear cX5_clear 1 none 0 := ⟨wd_443, big_p (y := yX5_clear) (n := 3) (List.mem_of_getElem? (i := 15) (by decide +kernel)), wd_2, wd_444, by decide, by decide, by decide +kernel⟩
theorem yi_X5_isFigure : YI yX5_isFigure cX5_isFigure 2 (some .boolean) 1 := ⟨wd_407, big_p (y := yX5_isFigure) (n := 3) (List.mem_of_getElem? (i := 7) (by decide +kernel)), wd_2, wd_408, by decide, by decide, by decide +kernel⟩
theorem yi_X5_letterAt : YI yX5_letterAt cX5_letterAt 2 (some .int) 1 := ⟨wd_392, big_p (y := yX5_letterAt) (n := 3) (List.mem_of_getElem? (i := 5) (by decide +kernel)), wd_2, wd_393, by decide, by decide, by decide +kernel⟩
theorem yi_X5_readInto : YI yX5_readInto cX5_readInto 5 (some .int) 1 := ⟨wd_380, big_p (y := yX5_readInto) (n := 3) (List.mem_of_getElem? (i := 2) (by decide +kernel)), wd_2, wd_381, by decide, by decide, by decide +kernel⟩
theorem yi_X5_readItem : YI yX5_readItem cX5_readItem 4 (some .int) 2 := ⟨wd_388, big_p (y := yX5_readItem) (n := 3) (List.mem_of_getElem? (i := 4) (by decide +kernel)), wd_2, wd_389, by decide, by decide, by decide +kernel⟩
theorem yi_X5_readNumbers : YI yX5_readNumbers cX5_readNumbers 9 (some .int) 3 := ⟨wd_400, big_p (y := yX5_readNumbers) (n := 3) (List.mem_of_getElem? (i := 6) (by decide +kernel)), wd_2, wd_401, by decide, by decide, by decide +kernel⟩
theorem yi_X6_clear : YI yX6_clear cX6_clear 1 none 0 := ⟨wd_431, big_p (y := yX6_clear) (n := 2) (List.mem_of_getElem? (i := 12) (by decide +kernel)), wd_6, wd_432, by decide, by decide, by decide +kernel⟩
theorem yi_X6_dropOldest : YI yX6_dropOldest cX6_dropOldest 3 none 0 := ⟨wd_526, big_p (y := yX6_dropOldest) (n := 2) (List.mem_of_getElem? (i := 20) (by decide +kernel)), wd_6, wd_527, by decide, by decide, by decide +kernel⟩
theorem yi_X6_isFull : YI yX6_isFull cX6_isFull 1 (some .boolean) 0 := ⟨wd_522, big_p (y := yX6_isFull) (n := 2) (List.mem_of_getElem? (i := 19) (by decide +kernel)), wd_6, wd_523, by decide, by decide, by decide +kernel⟩
theorem yi_X6_put : YI yX6_put cX6_put 3 none 1 := ⟨wd_518, big_p (y := yX6_put) (n := 2) (List.mem_of_getElem? (i := 18) (by decide +kernel)), wd_6, wd_519, by decide, by decide, by decide +kernel⟩
theorem yi_X6_takeInto : YI yX6_takeInto cX6_takeInto 3 (some .boolean) 1 := ⟨wd_589, big_p (y := yX6_takeInto) (n := 2) (List.mem_of_getElem? (i := 31) (by decide +kernel)), wd_6, wd_590, by decide, by decide, by decide +kernel⟩
theorem yi_X7_add : YI yX7_add cX7_add 3 (some .boolean) 2 := ⟨wd_689, big_p (y := yX7_add) (n := 9) (List.mem_of_getElem? (i := 45) (by decide +kernel)), wd_9, wd_690, by decide, by decide, by decide +kernel⟩
theorem yi_X7_clear : YI yX7_clear cX7_clear 1 none 0 := ⟨wd_435, big_p (y := yX7_clear) (n := 9) (List.mem_of_getElem? (i := 13) (by decide +kernel)), wd_9, wd_436, by decide, by decide, by decide +kernel⟩
theorem yi_X7_comeInOrder : YI yX7_comeInOrder cX7_comeInOrder 6 none 0 := ⟨wd_706, big_p (y := yX7_comeInOrder) (n := 9) (List.mem_of_getElem? (i := 47) (by decide +kernel)), wd_9, wd_707, by decide, by decide, by decide +kernel⟩
theorem yi_X7_firstOrderAt : YI yX7_firstOrderAt cX7_firstOrderAt 2 (some .int) 1 := ⟨wd_731, big_p (y := yX7_firstOrderAt) (n := 9) (List.mem_of_getElem? (i := 53) (by decide +kernel)), wd_9, wd_732, by decide, by decide, by decide +kernel⟩
theorem yi_X7_isAsSeen : YI yX7_isAsSeen cX7_isAsSeen 2 (some .boolean) 0 := ⟨wd_715, big_p (y := yX7_isAsSeen) (n := 9) (List.mem_of_getElem? (i := 49) (by decide +kernel)), wd_9, wd_716, by decide, by decide, by decide +kernel⟩
theorem yi_X7_nextOrder : YI yX7_nextOrder cX7_nextOrder 5 (some .boolean) 0 := ⟨wd_723, big_p (y := yX7_nextOrder) (n := 9) (List.mem_of_getElem? (i := 51) (by decide +kernel)), wd_9, wd_724, by decide, by decide, by decide +kernel⟩
theorem yi_X7_noteOrder : YI yX7_noteOrder cX7_noteOrder 2 none 0 := ⟨wd_719, big_p (y := yX7_noteOrder) (n := 9) (List.mem_of_getElem? (i := 50) (by decide +kernel)), wd_9, wd_720, by decide, by decide, by decide +kernel⟩
theorem yi_X7_payOut : YI yX7_payOut cX7_payOut 5 none 3 := ⟨wd_711, big_p (y := yX7_payOut) (n := 9) (List.mem_of_getElem? (i := 48) (by decide +kernel)), wd_9, wd_712, by decide, by decide, by decide +kernel⟩
theorem yi_X7_refresh : YI yX7_refresh cX7_refresh 3 none 0 := ⟨wd_701, big_p (y := yX7_refresh) (n := 9) (List.mem_of_getElem? (i := 46) (by decide +kernel)), wd_9, wd_702, by decide, by decide, by decide +kernel⟩
theorem yi_X7_swap : YI yX7_swap cX7_swap 4 none 2 := ⟨wd_727, big_p (y := yX7_swap) (n := 9) (List.mem_of_getElem? (i := 52) (by decide +kernel)), wd_9, wd_728, by decide, by decide, by decide +kernel⟩
theorem yi_X8_beginAct : YI yX8_beginAct cX8_beginAct 1 none 0 := ⟨wd_514, big_p (y := yX8_beginAct) (n := 11) (List.mem_of_getElem? (i := 17) (by decide +kernel)), wd_1, wd_515, by decide, by decide, by decide +kernel⟩
theorem yi_X8_layScript : YI yX8_layScript cX8_layScript 1 (some .boolean) 0 := ⟨wd_376, big_p (y := yX8_layScript) (n := 11) (List.mem_of_getElem? (i := 1) (by decide +kernel)), wd_1, wd_377, by decide, by decide, by decide +kernel⟩
theorem yi_X9_addsRoom : YI yX9_addsRoom cX9_addsRoom 2 none 1 := ⟨wd_811, big_p (y := yX9_addsRoom) (n := 24) (List.mem_of_getElem? (i := 63) (by decide +kernel)), wd_15, wd_812, by decide, by decide, by decide +kernel⟩
theorem yi_X9_allToDo : YI yX9_allToDo cX9_allToDo 3 (some .int) 0 := ⟨wd_1122, big_p (y := yX9_allToDo) (n := 24) (List.mem_of_getElem? (i := 92) (by decide +kernel)), wd_15, wd_1123, by decide, by decide, by decide +kernel⟩
theorem yi_X9_areSo : YI yX9_areSo cX9_areSo 3 (some .boolean) 0 := ⟨wd_1084, big_p (y := yX9_areSo) (n := 24) (List.mem_of_getElem? (i := 89) (by decide +kernel)), wd_15, wd_1085, by decide, by decide, by decide +kernel⟩
theorem yi_X9_begins : YI yX9_begins cX9_begins 2 none 0 := ⟨wd_815, big_p (y := yX9_begins) (n := 24) (List.mem_of_getElem? (i := 64) (by decide +kernel)), wd_15, wd_816, by decide, by decide, by decide +kernel⟩
theorem yi_X9_bestDeal : YI yX9_bestDeal cX9_bestDeal 7 (some .int) 0 := ⟨wd_1058, big_p (y := yX9_bestDeal) (n := 24) (List.mem_of_getElem? (i := 87) (by decide +kernel)), wd_15, wd_1059, by decide, by decide, by decide +kernel⟩
theorem yi_X9_bringsIn : YI yX9_bringsIn cX9_bringsIn 4 (some .int) 2 := ⟨wd_973, big_p (y := yX9_bringsIn) (n := 24) (List.mem_of_getElem? (i := 76) (by decide +kernel)), wd_15, wd_974, by decide, by decide, by decide +kernel⟩
theorem yi_X9_canBook : YI yX9_canBook cX9_canBook 4 (some .boolean) 3 := ⟨wd_993, big_p (y := yX9_canBook) (n := 24) (List.mem_of_getElem? (i := 79) (by decide +kernel)), wd_15, wd_994, by decide, by decide, by decide +kernel⟩
theorem yi_X9_canChange : YI yX9_canChange cX9_canChange 4 (some .boolean) 3 := ⟨wd_1009, big_p (y := yX9_canChange) (n := 24) (List.mem_of_getElem? (i := 81) (by decide +kernel)), wd_15, wd_1010, by decide, by decide, by decide +kernel⟩
theorem yi_X9_changes : YI yX9_changes cX9_changes 5 none 3 := ⟨wd_1013, big_p (y := yX9_changes) (n := 24) (List.mem_of_getElem? (i := 82) (by decide +kernel)), wd_15, wd_1014, by decide, by decide, by decide +kernel⟩
theorem yi_X9_coinsOf : YI yX9_coinsOf cX9_coinsOf 4 (some .int) 1 := ⟨wd_1106, big_p (y := yX9_coinsOf) (n := 24) (List.mem_of_getElem? (i := 91) (by decide +kernel)), wd_15, wd_1107, by decide, by decide, by decide +kernel⟩
theorem yi_X9_comes : YI yX9_comes cX9_comes 4 none 2 := ⟨wd_969, big_p (y := yX9_comes) (n := 24) (List.mem_of_getElem? (i := 75) (by decide +kernel)), wd_15, wd_970, by decide, by decide, by decide +kernel⟩
theorem yi_X9_copy : YI yX9_copy cX9_copy 4 none 2 := ⟨wd_961, big_p (y := yX9_copy) (n := 24) (List.mem_of_getElem? (i := 73) (by decide +kernel)), wd_15, wd_962, by decide, by decide, by decide +kernel⟩
theorem yi_X9_doesBy : YI yX9_doesBy cX9_doesBy 5 none 1 := ⟨wd_1102, big_p (y := yX9_doesBy) (n := 24) (List.mem_of_getElem? (i := 90) (by decide +kernel)), wd_15, wd_1103, by decide, by decide, by decide +kernel⟩
theorem yi_X9_doneBy : YI yX9_doneBy cX9_doneBy 2 (some .int) 0 := ⟨wd_1046, big_p (y := yX9_doneBy) (n := 24) (List.mem_of_getElem? (i := 85) (by decide +kernel)), wd_15, wd_1047, by decide, by decide, by decide +kernel⟩
theorem yi_X9_faultOf : YI yX9_faultOf cX9_faultOf 2 (some .int) 0 := ⟨wd_909, big_p (y := yX9_faultOf) (n := 24) (List.mem_of_getElem? (i := 65) (by decide +kernel)), wd_15, wd_910, by decide, by decide, by decide +kernel⟩
theorem yi_X9_freesThose : YI yX9_freesThose cX9_freesThose 3 none 1 := ⟨wd_977, big_p (y := yX9_freesThose) (n := 24) (List.mem_of_getElem? (i := 77) (by decide +kernel)), wd_15, wd_978, by decide, by decide, by decide +kernel⟩
theorem yi_X9_goesFree : YI yX9_goesFree cX9_goesFree 5 none 2 := ⟨wd_981, big_p (y := yX9_goesFree) (n := 24) (List.mem_of_getElem? (i := 78) (by decide +kernel)), wd_15, wd_982, by decide, by decide, by decide +kernel⟩
theorem yi_X9_isDone : YI yX9_isDone cX9_isDone 4 (some .boolean) 1 := ⟨wd_1050, big_p (y := yX9_isDone) (n := 24) (List.mem_of_getElem? (i := 86) (by decide +kernel)), wd_15, wd_1051, by decide, by decide, by decide +kernel⟩
theorem yi_X9_isGuest : YI yX9_isGuest cX9_isGuest 2 (some .boolean) 1 := ⟨wd_943, big_p (y := yX9_isGuest) (n := 24) (List.mem_of_getElem? (i := 71) (by decide +kernel)), wd_15, wd_944, by decide, by decide, by decide +kernel⟩
theorem yi_X9_letterAt : YI yX9_letterAt cX9_letterAt 2 (some .int) 1 := ⟨wd_917, big_p (y := yX9_letterAt) (n := 24) (List.mem_of_getElem? (i := 67) (by decide +kernel)), wd_15, wd_918, by decide, by decide, by decide +kernel⟩
theorem yi_X9_manyHow : YI yX9_manyHow cX9_manyHow 5 (some .int) 2 := ⟨wd_1001, big_p (y := yX9_manyHow) (n := 24) (List.mem_of_getElem? (i := 80) (by decide +kernel)), wd_15, wd_1002, by decide, by decide, by decide +kernel⟩
theorem yi_X9_manyOrders : YI yX9_manyOrders cX9_manyOrders 5 (some .int) 0 := ⟨wd_1080, big_p (y := yX9_manyOrders) (n := 24) (List.mem_of_getElem? (i := 88) (by decide +kernel)), wd_15, wd_1081, by decide, by decide, by decide +kernel⟩
theorem yi_X9_minds : YI yX9_minds cX9_minds 2 none 0 := ⟨wd_957, big_p (y := yX9_minds) (n := 24) (List.mem_of_getElem? (i := 72) (by decide +kernel)), wd_15, wd_958, by decide, by decide, by decide +kernel⟩
theorem yi_X9_passes : YI yX9_passes cX9_passes 3 none 1 := ⟨wd_965, big_p (y := yX9_passes) (n := 24) (List.mem_of_getElem? (i := 74) (by decide +kernel)), wd_15, wd_966, by decide, by decide, by decide +kernel⟩
theorem yi_X9_starts : YI yX9_starts cX9_starts 2 none 0 := ⟨wd_803, big_p (y := yX9_starts) (n := 24) (List.mem_of_getElem? (i := 61) (by decide +kernel)), wd_15, wd_804, by decide, by decide, by decide +kernel⟩
theorem yi_X9_takesGuest : YI yX9_takesGuest cX9_takesGuest 5 (some .boolean) 0 := ⟨wd_921, big_p (y := yX9_takesGuest) (n := 24) (List.mem_of_getElem? (i := 68) (by decide +kernel)), wd_15, wd_922, by decide, by decide, by decide +kernel⟩
theorem yi_X9_takesItem : YI yX9_takesItem cX9_takesItem 2 (some .boolean) 0 := ⟨wd_913, big_p (y := yX9_takesItem) (n := 24) (List.mem_of_getElem? (i := 66) (by decide +kernel)), wd_15, wd_914, by decide, by decide, by decide +kernel⟩
theorem yi_X9_takesNumber : YI yX9_takesNumber cX9_takesNumber 5 (some .boolean) 3 := ⟨wd_925, big_p (y := yX9_takesNumber) (n := 24) (List.mem_of_getElem? (i := 69) (by decide +kernel)), wd_15, wd_926, by decide, by decide, by decide +kernel⟩
theorem yi_X9_takesRoom : YI yX9_takesRoom cX9_takesRoom 1 (some .boolean) 0 := ⟨wd_931, big_p (y := yX9_takesRoom) (n := 24) (List.mem_of_getElem? (i := 70) (by decide +kernel)), wd_15, wd_932, by decide, by decide, by decide +kernel⟩
theorem yi_X9_taskOf : YI yX9_taskOf cX9_taskOf 4 (some .int) 1 := ⟨wd_1033, big_p (y := yX9_taskOf) (n := 24) (List.mem_of_getElem? (i := 84) (by decide +kernel)), wd_15, wd_1034, by decide, by decide, by decide +kernel⟩
theorem yi_X9_tries : YI yX9_tries cX9_tries 1 none 0 := ⟨wd_1025, big_p (y := yX9_tries) (n := 24) (List.mem_of_getElem? (i := 83) (by decide +kernel)), wd_15, wd_1026, by decide, by decide, by decide +kernel⟩
theorem ys_X8_drawOf : YS yX8_drawOf cX8_drawOf 4 (some .int) 2 := ⟨wd_761, wd_1, wd_762, by decide, by decide, by decide +kernel⟩
theorem ys_X8_withinHorizon : YS yX8_withinHorizon cX8_withinHorizon 1 (some .int) 1 := ⟨wd_624, wd_1, wd_625, by decide, by decide, by decide +kernel⟩
theorem ys_X9_has : YS yX9_has cX9_has 2 (some .boolean) 2 := ⟨wd_984, wd_15, wd_985, by decide, by decide, by decide +kernel⟩
theorem ys_X9_in : YS yX9_in cX9_in 6 (some .boolean) 3 := ⟨wd_897, wd_15, wd_898, by decide, by decide, by decide +kernel⟩
theorem inB0 : ∀ w ∈ u_ws RX0 TX0 7, w ∈ BIG := by
  intro w hw
  obtain ⟨k, hk, rfl⟩ := List.mem_map.mp hw
  have hk := List.mem_range.mp hk
  rcases (show k = 0 ∨ k = 1 ∨ k = 2 ∨ k = 3 ∨ k = 4 ∨ k = 5 ∨ k = 6 by omega) with rfl | rfl | rfl | rfl | rfl | rfl | rfl
  · exact big_t 306 (by decide +kernel) rfl
  · exact big_t 308 (by decide +kernel) rfl
  · exact big_t 310 (by decide +kernel) rfl
  · exact big_t 312 (by decide +kernel) rfl
  · exact big_t 314 (by decide +kernel) rfl
  · exact big_t 316 (by decide +kernel) rfl
  · exact big_t 318 (by decide +kernel) rfl
theorem inB1 : ∀ w ∈ u_ws RX1 TX1 11, w ∈ BIG := by
  intro w hw
  obtain ⟨k, hk, rfl⟩ := List.mem_map.mp hw
  have hk := List.mem_range.mp hk
  rcases (show k = 0 ∨ k = 1 ∨ k = 2 ∨ k = 3 ∨ k = 4 ∨ k = 5 ∨ k = 6 ∨ k = 7 ∨ k = 8 ∨ k = 9 ∨ k = 10 by omega) with rfl | rfl | rfl | rfl | rfl | rfl | rfl | rfl | rfl | rfl | rfl
  · exact big_t 228 (by decide +kernel) rfl
  · exact big_t 230 (by decide +kernel) rfl
  · exact big_t 232 (by decide +kernel) rfl
  · exact big_t 234 (by decide +kernel) rfl
  · exact big_t 236 (by decide +kernel) rfl
  · exact big_t 238 (by decide +kernel) rfl
  · exact big_t 240 (by decide +kernel) rfl
  · exact big_t 242 (by decide +kernel) rfl
  · exact big_t 244 (by decide +kernel) rfl
  · exact big_t 246 (by decide +kernel) rfl
  · exact big_t 248 (by decide +kernel) rfl
theorem inB2 : ∀ w ∈ u_ws RX2 TX2 10, w ∈ BIG := by
  intro w hw
  obtain ⟨k, hk, rfl⟩ := List.mem_map.mp hw
  have hk := List.mem_range.mp hk
  rcases (show k = 0 ∨ k = 1 ∨ k = 2 ∨ k = 3 ∨ k = 4 ∨ k = 5 ∨ k = 6 ∨ k = 7 ∨ k = 8 ∨ k = 9 by omega) with rfl | rfl | rfl | rfl | rfl | rfl | rfl | rfl | rfl | rfl
  · exact big_t 126 (by decide +kernel) rfl
  · exact big_t 128 (by decide +kernel) rfl
  · exact big_t 130 (by decide +kernel) rfl
  · exact big_t 132 (by decide +kernel) rfl
  · exact big_t 134 (by decide +kernel) rfl
  · exact big_t 136 (by decide +kernel) rfl
  · exact big_t 138 (by decide +kernel) rfl
  · exact big_t 140 (by decide +kernel) rfl
  · exact big_t 142 (by decide +kernel) rfl
  · exact big_t 144 (by decide +kernel) rfl
theorem inB3 : ∀ w ∈ u_ws RX3 TX3 9, w ∈ BIG := by
  intro w hw
  obtain ⟨k, hk, rfl⟩ := List.mem_map.mp hw
  have hk := List.mem_range.mp hk
  rcases (show k = 0 ∨ k = 1 ∨ k = 2 ∨ k = 3 ∨ k = 4 ∨ k = 5 ∨ k = 6 ∨ k = 7 ∨ k = 8 by omega) with rfl | rfl | rfl | rfl | rfl | rfl | rfl | rfl | rfl
  · exact big_t 167 (by decide +kernel) rfl
  · exact big_t 169 (by decide +kernel) rfl
  · exact big_t 171 (by decide +kernel) rfl
  · exact big_t 173 (by decide +kernel) rfl
  · exact big_t 175 (by decide +kernel) rfl
  · exact big_t 177 (by decide +kernel) rfl
  · exact big_t 179 (by decide +kernel) rfl
  · exact big_t 181 (by decide +kernel) rfl
  · exact big_t 183 (by decide +kernel) rfl
theorem inB4 : ∀ w ∈ u_ws RX4 TX4 8, w ∈ BIG := by
  intro w hw
  obtain ⟨k, hk, rfl⟩ := List.mem_map.mp hw
  have hk := List.mem_range.mp hk
  rcases (show k = 0 ∨ k = 1 ∨ k = 2 ∨ k = 3 ∨ k = 4 ∨ k = 5 ∨ k = 6 ∨ k = 7 by omega) with rfl | rfl | rfl | rfl | rfl | rfl | rfl | rfl
  · exact big_t 76 (by decide +kernel) rfl
  · exact big_t 78 (by decide +kernel) rfl
  · exact big_t 80 (by decide +kernel) rfl
  · exact big_t 82 (by decide +kernel) rfl
  · exact big_t 84 (by decide +kernel) rfl
  · exact big_t 86 (by decide +kernel) rfl
  · exact big_t 88 (by decide +kernel) rfl
  · exact big_t 90 (by decide +kernel) rfl
theorem inB5 : ∀ w ∈ u_ws RX5 TX5 3, w ∈ BIG := by
  intro w hw
  obtain ⟨k, hk, rfl⟩ := List.mem_map.mp hw
  have hk := List.mem_range.mp hk
  rcases (show k = 0 ∨ k = 1 ∨ k = 2 by omega) with rfl | rfl | rfl
  · exact big_t 34 (by decide +kernel) rfl
  · exact big_t 36 (by decide +kernel) rfl
  · exact big_t 38 (by decide +kernel) rfl
theorem inB6 : ∀ w ∈ u_ws RX6 TX6 2, w ∈ BIG := by
  intro w hw
  obtain ⟨k, hk, rfl⟩ := List.mem_map.mp hw
  have hk := List.mem_range.mp hk
  rcases (show k = 0 ∨ k = 1 by omega) with rfl | rfl
  · exact big_t 201 (by decide +kernel) rfl
  · exact big_t 203 (by decide +kernel) rfl
theorem inB7 : ∀ w ∈ u_ws RX7 TX7 9, w ∈ BIG := by
  intro w hw
  obtain ⟨k, hk, rfl⟩ := List.mem_map.mp hw
  have hk := List.mem_range.mp hk
  rcases (show k = 0 ∨ k = 1 ∨ k = 2 ∨ k = 3 ∨ k = 4 ∨ k = 5 ∨ k = 6 ∨ k = 7 ∨ k = 8 by omega) with rfl | rfl | rfl | rfl | rfl | rfl | rfl | rfl | rfl
  · exact big_t 268 (by decide +kernel) rfl
  · exact big_t 270 (by decide +kernel) rfl
  · exact big_t 272 (by decide +kernel) rfl
  · exact big_t 274 (by decide +kernel) rfl
  · exact big_t 276 (by decide +kernel) rfl
  · exact big_t 278 (by decide +kernel) rfl
  · exact big_t 280 (by decide +kernel) rfl
  · exact big_t 282 (by decide +kernel) rfl
  · exact big_t 284 (by decide +kernel) rfl
theorem inB8 : ∀ w ∈ u_ws RX8 TX8 11, w ∈ BIG := by
  intro w hw
  obtain ⟨k, hk, rfl⟩ := List.mem_map.mp hw
  have hk := List.mem_range.mp hk
  rcases (show k = 0 ∨ k = 1 ∨ k = 2 ∨ k = 3 ∨ k = 4 ∨ k = 5 ∨ k = 6 ∨ k = 7 ∨ k = 8 ∨ k = 9 ∨ k = 10 by omega) with rfl | rfl | rfl | rfl | rfl | rfl | rfl | rfl | rfl | rfl | rfl
  · exact big_t 456 (by decide +kernel) rfl
  · exact big_t 458 (by decide +kernel) rfl
  · exact big_t 460 (by decide +kernel) rfl
  · exact big_t 462 (by decide +kernel) rfl
  · exact big_t 464 (by decide +kernel) rfl
  · exact big_t 466 (by decide +kernel) rfl
  · exact big_t 468 (by decide +kernel) rfl
  · exact big_t 470 (by decide +kernel) rfl
  · exact big_t 472 (by decide +kernel) rfl
  · exact big_t 474 (by decide +kernel) rfl
  · exact big_t 476 (by decide +kernel) rfl
theorem inB9 : ∀ w ∈ u_ws RX9 TX9 24, w ∈ BIG := by
  intro w hw
  obtain ⟨k, hk, rfl⟩ := List.mem_map.mp hw
  have hk := List.mem_range.mp hk
  rcases (show k = 0 ∨ k = 1 ∨ k = 2 ∨ k = 3 ∨ k = 4 ∨ k = 5 ∨ k = 6 ∨ k = 7 ∨ k = 8 ∨ k = 9 ∨ k = 10 ∨ k = 11 ∨ k = 12 ∨ k = 13 ∨ k = 14 ∨ k = 15 ∨ k = 16 ∨ k = 17 ∨ k = 18 ∨ k = 19 ∨ k = 20 ∨ k = 21 ∨ k = 22 ∨ k = 23 by omega) with rfl | rfl | rfl | rfl | rfl | rfl | rfl | rfl | rfl | rfl | rfl | rfl | rfl | rfl | rfl | rfl | rfl | rfl | rfl | rfl | rfl | rfl | rfl | rfl
  · exact big_t 841 (by decide +kernel) rfl
  · exact big_t 843 (by decide +kernel) rfl
  · exact big_t 845 (by decide +kernel) rfl
  · exact big_t 847 (by decide +kernel) rfl
  · exact big_t 849 (by decide +kernel) rfl
  · exact big_t 851 (by decide +kernel) rfl
  · exact big_t 853 (by decide +kernel) rfl
  · exact big_t 855 (by decide +kernel) rfl
  · exact big_t 857 (by decide +kernel) rfl
  · exact big_t 859 (by decide +kernel) rfl
  · exact big_t 861 (by decide +kernel) rfl
  · exact big_t 863 (by decide +kernel) rfl
  · exact big_t 865 (by decide +kernel) rfl
  · exact big_t 867 (by decide +kernel) rfl
  · exact big_t 869 (by decide +kernel) rfl
  · exact big_t 871 (by decide +kernel) rfl
  · exact big_t 873 (by decide +kernel) rfl
  · exact big_t 875 (by decide +kernel) rfl
  · exact big_t 877 (by decide +kernel) rfl
  · exact big_t 879 (by decide +kernel) rfl
  · exact big_t 881 (by decide +kernel) rfl
  · exact big_t 883 (by decide +kernel) rfl
  · exact big_t 885 (by decide +kernel) rfl
  · exact big_t 887 (by decide +kernel) rfl
theorem wd_445 : Cond.fieldLink RX8 10 (TX8 0).1 (TX8 0).2.1 (TX8 0).2.2.1 ∈ BIG := big_t 445 (by decide +kernel) rfl
theorem gf_X8_10 {Z : ZT} {X : XT} {cc : ByteArray} {nL fr lo pc n : Nat} {lv : List (Nat × Value)} {rest : List Value} {M : Mem} {k : Nat} (C : CX X cc RX8 nL fr lo) (E : EX Z (xs X)) (hk : AtO Z k 8) (d : decode cc pc = .ok (.getfield 10, 3)) (hn : pc + 3 = n) (kk : GS Z X n lv (.ref (zb Z + 1) :: rest) M) : GS Z X pc lv (.ref (zb Z + k) :: rest) M := g_get 0 C E rfl inB8 (by decide) wd_445 hk rfl d hn kk
theorem wd_446 : Cond.fieldLink RX8 19 (TX8 1).1 (TX8 1).2.1 (TX8 1).2.2.1 ∈ BIG := big_t 446 (by decide +kernel) rfl
theorem gf_X8_19 {Z : ZT} {X : XT} {cc : ByteArray} {nL fr lo pc n : Nat} {lv : List (Nat × Value)} {rest : List Value} {M : Mem} {k : Nat} (C : CX X cc RX8 nL fr lo) (E : EX Z (xs X)) (hk : AtO Z k 8) (d : decode cc pc = .ok (.getfield 19, 3)) (hn : pc + 3 = n) (kk : GS Z X n lv (.ref (zb Z + 4) :: rest) M) : GS Z X pc lv (.ref (zb Z + k) :: rest) M := g_get 1 C E rfl inB8 (by decide) wd_446 hk rfl d hn kk
theorem wd_447 : Cond.fieldLink RX8 23 (TX8 2).1 (TX8 2).2.1 (TX8 2).2.2.1 ∈ BIG := big_t 447 (by decide +kernel) rfl
theorem gf_X8_23 {Z : ZT} {X : XT} {cc : ByteArray} {nL fr lo pc n : Nat} {lv : List (Nat × Value)} {rest : List Value} {M : Mem} {k : Nat} (C : CX X cc RX8 nL fr lo) (E : EX Z (xs X)) (hk : AtO Z k 8) (d : decode cc pc = .ok (.getfield 23, 3)) (hn : pc + 3 = n) (kk : GS Z X n lv (.ref (zb Z + 11) :: rest) M) : GS Z X pc lv (.ref (zb Z + k) :: rest) M := g_get 2 C E rfl inB8 (by decide) wd_447 hk rfl d hn kk
theorem wd_448 : Cond.fieldLink RX8 31 (TX8 3).1 (TX8 3).2.1 (TX8 3).2.2.1 ∈ BIG := big_t 448 (by decide +kernel) rfl
theorem gf_X8_31 {Z : ZT} {X : XT} {cc : ByteArray} {nL fr lo pc n : Nat} {lv : List (Nat × Value)} {rest : List Value} {M : Mem} {k : Nat} (C : CX X cc RX8 nL fr lo) (E : EX Z (xs X)) (hk : AtO Z k 8) (d : decode cc pc = .ok (.getfield 31, 3)) (hn : pc + 3 = n) (kk : GS Z X n lv (.ref (zb Z + 18) :: rest) M) : GS Z X pc lv (.ref (zb Z + k) :: rest) M := g_get 3 C E rfl inB8 (by decide) wd_448 hk rfl d hn kk
theorem wd_449 : Cond.fieldLink RX8 35 (TX8 4).1 (TX8 4).2.1 (TX8 4).2.2.1 ∈ BIG := big_t 449 (by decide +kernel) rfl
theorem gf_X8_35 {Z : ZT} {X : XT} {cc : ByteArray} {nL fr lo pc n : Nat} {lv : List (Nat × Value)} {rest : List Value} {M : Mem} {k : Nat} (C : CX X cc RX8 nL fr lo) (E : EX Z (xs X)) (hk : AtO Z k 8) (d : decode cc pc = .ok (.getfield 35, 3)) (hn : pc + 3 = n) (kk : GS Z X n lv (.ref (zb Z + 26) :: rest) M) : GS Z X pc lv (.ref (zb Z + k) :: rest) M := g_get 4 C E rfl inB8 (by decide) wd_449 hk rfl d hn kk
theorem wd_450 : Cond.fieldLink RX8 41 (TX8 5).1 (TX8 5).2.1 (TX8 5).2.2.1 ∈ BIG := big_t 450 (by decide +kernel) rfl
theorem gf_X8_41 {Z : ZT} {X : XT} {cc : ByteArray} {nL fr lo pc n : Nat} {lv : List (Nat × Value)} {rest : List Value} {M : Mem} {k : Nat} (C : CX X cc RX8 nL fr lo) (E : EX Z (xs X)) (hk : AtO Z k 8) (d : decode cc pc = .ok (.getfield 41, 3)) (hn : pc + 3 = n) (kk : GS Z X n lv (.ref (zb Z + 34) :: rest) M) : GS Z X pc lv (.ref (zb Z + k) :: rest) M := g_get 5 C E rfl inB8 (by decide) wd_450 hk rfl d hn kk
theorem wd_451 : Cond.fieldLink RX8 50 (TX8 6).1 (TX8 6).2.1 (TX8 6).2.2.1 ∈ BIG := big_t 451 (by decide +kernel) rfl
theorem gf_X8_50 {Z : ZT} {X : XT} {cc : ByteArray} {nL fr lo pc n : Nat} {lv : List (Nat × Value)} {rest : List Value} {M : Mem} {k : Nat} (C : CX X cc RX8 nL fr lo) (E : EX Z (xs X)) (hk : AtO Z k 8) (d : decode cc pc = .ok (.getfield 50, 3)) (hn : pc + 3 = n) (kk : GS Z X n lv (.ref (zb Z + 40) :: rest) M) : GS Z X pc lv (.ref (zb Z + k) :: rest) M := g_get 6 C E rfl inB8 (by decide) wd_451 hk rfl d hn kk
theorem wd_452 : Cond.fieldLink RX8 54 (TX8 7).1 (TX8 7).2.1 (TX8 7).2.2.1 ∈ BIG := big_t 452 (by decide +kernel) rfl
theorem gf_X8_54 {Z : ZT} {X : XT} {cc : ByteArray} {nL fr lo pc n : Nat} {lv : List (Nat × Value)} {rest : List Value} {M : Mem} {k : Nat} (C : CX X cc RX8 nL fr lo) (E : EX Z (xs X)) (hk : AtO Z k 8) (d : decode cc pc = .ok (.getfield 54, 3)) (hn : pc + 3 = n) (kk : GS Z X n lv (.ref (zb Z + 106) :: rest) M) : GS Z X pc lv (.ref (zb Z + k) :: rest) M := g_get 7 C E rfl inB8 (by decide) wd_452 hk rfl d hn kk
theorem wd_453 : Cond.fieldLink RX8 60 (TX8 8).1 (TX8 8).2.1 (TX8 8).2.2.1 ∈ BIG := big_t 453 (by decide +kernel) rfl
theorem gf_X8_60 {Z : ZT} {X : XT} {cc : ByteArray} {nL fr lo pc n : Nat} {lv : List (Nat × Value)} {rest : List Value} {M : Mem} {k : Nat} (C : CX X cc RX8 nL fr lo) (E : EX Z (xs X)) (hk : AtO Z k 8) (d : decode cc pc = .ok (.getfield 60, 3)) (hn : pc + 3 = n) (kk : GS Z X n lv (.ref (zb Z + 124) :: rest) M) : GS Z X pc lv (.ref (zb Z + k) :: rest) M := g_get 8 C E rfl inB8 (by decide) wd_453 hk rfl d hn kk
theorem wd_454 : Cond.fieldLink RX8 67 (TX8 9).1 (TX8 9).2.1 (TX8 9).2.2.1 ∈ BIG := big_t 454 (by decide +kernel) rfl
theorem gf_X8_67 {Z : ZT} {X : XT} {cc : ByteArray} {nL fr lo pc n : Nat} {lv : List (Nat × Value)} {rest : List Value} {M : Mem} {k : Nat} (C : CX X cc RX8 nL fr lo) (E : EX Z (xs X)) (hk : AtO Z k 8) (d : decode cc pc = .ok (.getfield 67, 3)) (hn : pc + 3 = n) (kk : GS Z X n lv (.ref (zb Z + 142) :: rest) M) : GS Z X pc lv (.ref (zb Z + k) :: rest) M := g_get 9 C E rfl inB8 (by decide) wd_454 hk rfl d hn kk
theorem wd_455 : Cond.fieldLink RX8 74 (TX8 10).1 (TX8 10).2.1 (TX8 10).2.2.1 ∈ BIG := big_t 455 (by decide +kernel) rfl
theorem gf_X8_74 {Z : ZT} {X : XT} {cc : ByteArray} {nL fr lo pc n : Nat} {lv : List (Nat × Value)} {rest : List Value} {M : Mem} {k : Nat} (C : CX X cc RX8 nL fr lo) (E : EX Z (xs X)) (hk : AtO Z k 8) (d : decode cc pc = .ok (.getfield 74, 3)) (hn : pc + 3 = n) (kk : GS Z X n lv (.ref (zb Z + 148) :: rest) M) : GS Z X pc lv (.ref (zb Z + k) :: rest) M := g_get 10 C E rfl inB8 (by decide) wd_455 hk rfl d hn kk
theorem wn_33 : Cond.fieldLinkNest RX8 101 (TX5 2).1 (TX5 2).2.1 (TX5 2).2.2.1 "NextBellboy" ∈ NWL := nw_t 33 (by decide +kernel) rfl
theorem gf_X8_101 {Z : ZT} {X : XT} {cc : ByteArray} {nL fr lo pc n : Nat} {lv : List (Nat × Value)} {rest : List Value} {M : Mem} {k : Nat} (C : CX X cc RX8 nL fr lo) (E : EX Z (xs X)) (hk : AtO Z k 5) (d : decode cc pc = .ok (.getfield 101, 3)) (hn : pc + 3 = n) (kk : GS Z X n lv (.int (M k 2) :: rest) M) : GS Z X pc lv (.ref (zb Z + k) :: rest) M := g_getN 2 C E rfl inB5 (by decide) wn_33 hk rfl d hn kk
theorem wn_71 : Cond.fieldLinkNest RX8 108 (TX4 6).1 (TX4 6).2.1 (TX4 6).2.2.1 "NextBellboy" ∈ NWL := nw_t 71 (by decide +kernel) rfl
theorem gf_X8_108 {Z : ZT} {X : XT} {cc : ByteArray} {nL fr lo pc n : Nat} {lv : List (Nat × Value)} {rest : List Value} {M : Mem} {k : Nat} (C : CX X cc RX8 nL fr lo) (E : EX Z (xs X)) (hk : AtO Z k 4) (d : decode cc pc = .ok (.getfield 108, 3)) (hn : pc + 3 = n) (kk : GS Z X n lv (.int (M k 6) :: rest) M) : GS Z X pc lv (.ref (zb Z + k) :: rest) M := g_getN 6 C E rfl inB4 (by decide) wn_71 hk rfl d hn kk
theorem wn_49 : Cond.fieldLinkNest RX8 114 (TX4 0).1 (TX4 0).2.1 (TX4 0).2.2.1 "NextBellboy" ∈ NWL := nw_t 49 (by decide +kernel) rfl
theorem gf_X8_114 {Z : ZT} {X : XT} {cc : ByteArray} {nL fr lo pc n : Nat} {lv : List (Nat × Value)} {rest : List Value} {M : Mem} {k : Nat} (q : Nat) (C : CX X cc RX8 nL fr lo) (E : EX Z (xs X)) (hk : AtO Z k 4) (hq : k + 1 = q) (d : decode cc pc = .ok (.getfield 114, 3)) (hn : pc + 3 = n) (kk : GS Z X n lv (.ref (zb Z + q) :: rest) M) : GS Z X pc lv (.ref (zb Z + k) :: rest) M := by
  subst hq
  exact g_getN 0 C E rfl inB4 (by decide) wn_49 hk rfl d hn kk
theorem wn_56 : Cond.fieldLinkNest RX8 118 (TX4 2).1 (TX4 2).2.1 (TX4 2).2.2.1 "NextBellboy" ∈ NWL := nw_t 56 (by decide +kernel) rfl
theorem gf_X8_118 {Z : ZT} {X : XT} {cc : ByteArray} {nL fr lo pc n : Nat} {lv : List (Nat × Value)} {rest : List Value} {M : Mem} {k : Nat} (q : Nat) (C : CX X cc RX8 nL fr lo) (E : EX Z (xs X)) (hk : AtO Z k 4) (hq : k + 3 = q) (d : decode cc pc = .ok (.getfield 118, 3)) (hn : pc + 3 = n) (kk : GS Z X n lv (.ref (zb Z + q) :: rest) M) : GS Z X pc lv (.ref (zb Z + k) :: rest) M := by
  subst hq
  exact g_getN 2 C E rfl inB4 (by decide) wn_56 hk rfl d hn kk
theorem wn_59 : Cond.fieldLinkNest RX8 121 (TX4 3).1 (TX4 3).2.1 (TX4 3).2.2.1 "NextBellboy" ∈ NWL := nw_t 59 (by decide +kernel) rfl
theorem gf_X8_121 {Z : ZT} {X : XT} {cc : ByteArray} {nL fr lo pc n : Nat} {lv : List (Nat × Value)} {rest : List Value} {M : Mem} {k : Nat} (q : Nat) (C : CX X cc RX8 nL fr lo) (E : EX Z (xs X)) (hk : AtO Z k 4) (hq : k + 4 = q) (d : decode cc pc = .ok (.getfield 121, 3)) (hn : pc + 3 = n) (kk : GS Z X n lv (.ref (zb Z + q) :: rest) M) : GS Z X pc lv (.ref (zb Z + k) :: rest) M := by
  subst hq
  exact g_getN 3 C E rfl inB4 (by decide) wn_59 hk rfl d hn kk
theorem wn_64 : Cond.fieldLinkNest RX8 124 (TX4 4).1 (TX4 4).2.1 (TX4 4).2.2.1 "NextBellboy" ∈ NWL := nw_t 64 (by decide +kernel) rfl
theorem gf_X8_124 {Z : ZT} {X : XT} {cc : ByteArray} {nL fr lo pc n : Nat} {lv : List (Nat × Value)} {rest : List Value} {M : Mem} {k : Nat} (q : Nat) (C : CX X cc RX8 nL fr lo) (E : EX Z (xs X)) (hk : AtO Z k 4) (hq : k + 5 = q) (d : decode cc pc = .ok (.getfield 124, 3)) (hn : pc + 3 = n) (kk : GS Z X n lv (.ref (zb Z + q) :: rest) M) : GS Z X pc lv (.ref (zb Z + k) :: rest) M := by
  subst hq
  exact g_getN 4 C E rfl inB4 (by decide) wn_64 hk rfl d hn kk
theorem wn_104 : Cond.fieldLinkNest RX8 127 (TX2 1).1 (TX2 1).2.1 (TX2 1).2.2.1 "NextBellboy" ∈ NWL := nw_t 104 (by decide +kernel) rfl
theorem gf_X8_127 {Z : ZT} {X : XT} {cc : ByteArray} {nL fr lo pc n : Nat} {lv : List (Nat × Value)} {rest : List Value} {M : Mem} {k : Nat} (q : Nat) (C : CX X cc RX8 nL fr lo) (E : EX Z (xs X)) (hk : AtO Z k 2) (hq : k + 1 = q) (d : decode cc pc = .ok (.getfield 127, 3)) (hn : pc + 3 = n) (kk : GS Z X n lv (.ref (zb Z + q) :: rest) M) : GS Z X pc lv (.ref (zb Z + k) :: rest) M := by
  subst hq
  exact g_getN 1 C E rfl inB2 (by decide) wn_104 hk rfl d hn kk
theorem wn_107 : Cond.fieldLinkNest RX8 130 (TX2 2).1 (TX2 2).2.1 (TX2 2).2.2.1 "NextBellboy" ∈ NWL := nw_t 107 (by decide +kernel) rfl
theorem gf_X8_130 {Z : ZT} {X : XT} {cc : ByteArray} {nL fr lo pc n : Nat} {lv : List (Nat × Value)} {rest : List Value} {M : Mem} {k : Nat} (q : Nat) (C : CX X cc RX8 nL fr lo) (E : EX Z (xs X)) (hk : AtO Z k 2) (hq : k + 2 = q) (d : decode cc pc = .ok (.getfield 130, 3)) (hn : pc + 3 = n) (kk : GS Z X n lv (.ref (zb Z + q) :: rest) M) : GS Z X pc lv (.ref (zb Z + k) :: rest) M := by
  subst hq
  exact g_getN 2 C E rfl inB2 (by decide) wn_107 hk rfl d hn kk
theorem wn_110 : Cond.fieldLinkNest RX8 133 (TX2 3).1 (TX2 3).2.1 (TX2 3).2.2.1 "NextBellboy" ∈ NWL := nw_t 110 (by decide +kernel) rfl
theorem gf_X8_133 {Z : ZT} {X : XT} {cc : ByteArray} {nL fr lo pc n : Nat} {lv : List (Nat × Value)} {rest : List Value} {M : Mem} {k : Nat} (q : Nat) (C : CX X cc RX8 nL fr lo) (E : EX Z (xs X)) (hk : AtO Z k 2) (hq : k + 3 = q) (d : decode cc pc = .ok (.getfield 133, 3)) (hn : pc + 3 = n) (kk : GS Z X n lv (.ref (zb Z + q) :: rest) M) : GS Z X pc lv (.ref (zb Z + k) :: rest) M := by
  subst hq
  exact g_getN 3 C E rfl inB2 (by decide) wn_110 hk rfl d hn kk
theorem wn_113 : Cond.fieldLinkNest RX8 136 (TX2 4).1 (TX2 4).2.1 (TX2 4).2.2.1 "NextBellboy" ∈ NWL := nw_t 113 (by decide +kernel) rfl
theorem gf_X8_136 {Z : ZT} {X : XT} {cc : ByteArray} {nL fr lo pc n : Nat} {lv : List (Nat × Value)} {rest : List Value} {M : Mem} {k : Nat} (q : Nat) (C : CX X cc RX8 nL fr lo) (E : EX Z (xs X)) (hk : AtO Z k 2) (hq : k + 4 = q) (d : decode cc pc = .ok (.getfield 136, 3)) (hn : pc + 3 = n) (kk : GS Z X n lv (.ref (zb Z + q) :: rest) M) : GS Z X pc lv (.ref (zb Z + k) :: rest) M := by
  subst hq
  exact g_getN 4 C E rfl inB2 (by decide) wn_113 hk rfl d hn kk
theorem wn_115 : Cond.fieldLinkNest RX8 139 (TX2 5).1 (TX2 5).2.1 (TX2 5).2.2.1 "NextBellboy" ∈ NWL := nw_t 115 (by decide +kernel) rfl
theorem gf_X8_139 {Z : ZT} {X : XT} {cc : ByteArray} {nL fr lo pc n : Nat} {lv : List (Nat × Value)} {rest : List Value} {M : Mem} {k : Nat} (q : Nat) (C : CX X cc RX8 nL fr lo) (E : EX Z (xs X)) (hk : AtO Z k 2) (hq : k + 5 = q) (d : decode cc pc = .ok (.getfield 139, 3)) (hn : pc + 3 = n) (kk : GS Z X n lv (.ref (zb Z + q) :: rest) M) : GS Z X pc lv (.ref (zb Z + k) :: rest) M := by
  subst hq
  exact g_getN 5 C E rfl inB2 (by decide) wn_115 hk rfl d hn kk
theorem wn_117 : Cond.fieldLinkNest RX8 142 (TX2 6).1 (TX2 6).2.1 (TX2 6).2.2.1 "NextBellboy" ∈ NWL := nw_t 117 (by decide +kernel) rfl
theorem gf_X8_142 {Z : ZT} {X : XT} {cc : ByteArray} {nL fr lo pc n : Nat} {lv : List (Nat × Value)} {rest : List Value} {M : Mem} {k : Nat} (q : Nat) (C : CX X cc RX8 nL fr lo) (E : EX Z (xs X)) (hk : AtO Z k 2) (hq : k + 6 = q) (d : decode cc pc = .ok (.getfield 142, 3)) (hn : pc + 3 = n) (kk : GS Z X n lv (.ref (zb Z + q) :: rest) M) : GS Z X pc lv (.ref (zb Z + k) :: rest) M := by
  subst hq
  exact g_getN 6 C E rfl inB2 (by decide) wn_117 hk rfl d hn kk
theorem wn_119 : Cond.fieldLinkNest RX8 145 (TX2 7).1 (TX2 7).2.1 (TX2 7).2.2.1 "NextBellboy" ∈ NWL := nw_t 119 (by decide +kernel) rfl
theorem gf_X8_145 {Z : ZT} {X : XT} {cc : ByteArray} {nL fr lo pc n : Nat} {lv : List (Nat × Value)} {rest : List Value} {M : Mem} {k : Nat} (q : Nat) (C : CX X cc RX8 nL fr lo) (E : EX Z (xs X)) (hk : AtO Z k 2) (hq : k + 7 = q) (d : decode cc pc = .ok (.getfield 145, 3)) (hn : pc + 3 = n) (kk : GS Z X n lv (.ref (zb Z + q) :: rest) M) : GS Z X pc lv (.ref (zb Z + k) :: rest) M := by
  subst hq
  exact g_getN 7 C E rfl inB2 (by decide) wn_119 hk rfl d hn kk
theorem wn_125 : Cond.fieldLinkNest RX8 154 (TX2 9).1 (TX2 9).2.1 (TX2 9).2.2.1 "NextBellboy" ∈ NWL := nw_t 125 (by decide +kernel) rfl
theorem gf_X8_154 {Z : ZT} {X : XT} {cc : ByteArray} {nL fr lo pc n : Nat} {lv : List (Nat × Value)} {rest : List Value} {M : Mem} {k : Nat} (C : CX X cc RX8 nL fr lo) (E : EX Z (xs X)) (hk : AtO Z k 2) (d : decode cc pc = .ok (.getfield 154, 3)) (hn : pc + 3 = n) (kk : GS Z X n lv (.int (M k 9) :: rest) M) : GS Z X pc lv (.ref (zb Z + k) :: rest) M := g_getN 9 C E rfl inB2 (by decide) wn_125 hk rfl d hn kk
theorem wn_200 : Cond.fieldLinkNest RX8 182 (TX6 1).1 (TX6 1).2.1 (TX6 1).2.2.1 "NextBellboy" ∈ NWL := nw_t 200 (by decide +kernel) rfl
theorem gf_X8_182 {Z : ZT} {X : XT} {cc : ByteArray} {nL fr lo pc n : Nat} {lv : List (Nat × Value)} {rest : List Value} {M : Mem} {k : Nat} (C : CX X cc RX8 nL fr lo) (E : EX Z (xs X)) (hk : AtO Z k 6) (d : decode cc pc = .ok (.getfield 182, 3)) (hn : pc + 3 = n) (kk : GS Z X n lv (.int (M k 1) :: rest) M) : GS Z X pc lv (.ref (zb Z + k) :: rest) M := g_getN 1 C E rfl inB6 (by decide) wn_200 hk rfl d hn kk
theorem wn_159 : Cond.fieldLinkNest RX8 187 (TX3 4).1 (TX3 4).2.1 (TX3 4).2.2.1 "NextBellboy" ∈ NWL := nw_t 159 (by decide +kernel) rfl
theorem gf_X8_187 {Z : ZT} {X : XT} {cc : ByteArray} {nL fr lo pc n : Nat} {lv : List (Nat × Value)} {rest : List Value} {M : Mem} {k : Nat} (q : Nat) (C : CX X cc RX8 nL fr lo) (E : EX Z (xs X)) (hk : AtO Z k 3) (hq : k + 4 = q) (d : decode cc pc = .ok (.getfield 187, 3)) (hn : pc + 3 = n) (kk : GS Z X n lv (.ref (zb Z + q) :: rest) M) : GS Z X pc lv (.ref (zb Z + k) :: rest) M := by
  subst hq
  exact g_getN 4 C E rfl inB3 (by decide) wn_159 hk rfl d hn kk
theorem wn_161 : Cond.fieldLinkNest RX8 196 (TX3 5).1 (TX3 5).2.1 (TX3 5).2.2.1 "NextBellboy" ∈ NWL := nw_t 161 (by decide +kernel) rfl
theorem gf_X8_196 {Z : ZT} {X : XT} {cc : ByteArray} {nL fr lo pc n : Nat} {lv : List (Nat × Value)} {rest : List Value} {M : Mem} {k : Nat} (q : Nat) (C : CX X cc RX8 nL fr lo) (E : EX Z (xs X)) (hk : AtO Z k 3) (hq : k + 5 = q) (d : decode cc pc = .ok (.getfield 196, 3)) (hn : pc + 3 = n) (kk : GS Z X n lv (.ref (zb Z + q) :: rest) M) : GS Z X pc lv (.ref (zb Z + k) :: rest) M := by
  subst hq
  exact g_getN 5 C E rfl inB3 (by decide) wn_161 hk rfl d hn kk
theorem wn_166 : Cond.fieldLinkNest RX8 208 (TX3 8).1 (TX3 8).2.1 (TX3 8).2.2.1 "NextBellboy" ∈ NWL := nw_t 166 (by decide +kernel) rfl
theorem gf_X8_208 {Z : ZT} {X : XT} {cc : ByteArray} {nL fr lo pc n : Nat} {lv : List (Nat × Value)} {rest : List Value} {M : Mem} {k : Nat} (C : CX X cc RX8 nL fr lo) (E : EX Z (xs X)) (hk : AtO Z k 3) (d : decode cc pc = .ok (.getfield 208, 3)) (hn : pc + 3 = n) (kk : GS Z X n lv (.int (M k 8) :: rest) M) : GS Z X pc lv (.ref (zb Z + k) :: rest) M := g_getN 8 C E rfl inB3 (by decide) wn_166 hk rfl d hn kk
theorem wn_226 : Cond.fieldLinkNest RX8 214 (TX1 9).1 (TX1 9).2.1 (TX1 9).2.2.1 "NextBellboy" ∈ NWL := nw_t 226 (by decide +kernel) rfl
theorem gf_X8_214 {Z : ZT} {X : XT} {cc : ByteArray} {nL fr lo pc n : Nat} {lv : List (Nat × Value)} {rest : List Value} {M : Mem} {k : Nat} (C : CX X cc RX8 nL fr lo) (E : EX Z (xs X)) (hk : AtO Z k 1) (d : decode cc pc = .ok (.getfield 214, 3)) (hn : pc + 3 = n) (kk : GS Z X n lv (.int (M k 9) :: rest) M) : GS Z X pc lv (.ref (zb Z + k) :: rest) M := g_getN 9 C E rfl inB1 (by decide) wn_226 hk rfl d hn kk
theorem wn_264 : Cond.fieldLinkNest RX8 224 (TX7 6).1 (TX7 6).2.1 (TX7 6).2.2.1 "NextBellboy" ∈ NWL := nw_t 264 (by decide +kernel) rfl
theorem gf_X8_224 {Z : ZT} {X : XT} {cc : ByteArray} {nL fr lo pc n : Nat} {lv : List (Nat × Value)} {rest : List Value} {M : Mem} {k : Nat} (C : CX X cc RX8 nL fr lo) (E : EX Z (xs X)) (hk : AtO Z k 7) (d : decode cc pc = .ok (.getfield 224, 3)) (hn : pc + 3 = n) (kk : GS Z X n lv (.int (M k 6) :: rest) M) : GS Z X pc lv (.ref (zb Z + k) :: rest) M := g_getN 6 C E rfl inB7 (by decide) wn_264 hk rfl d hn kk
theorem wn_266 : Cond.fieldLinkNest RX8 228 (TX7 7).1 (TX7 7).2.1 (TX7 7).2.2.1 "NextBellboy" ∈ NWL := nw_t 266 (by decide +kernel) rfl
theorem gf_X8_228 {Z : ZT} {X : XT} {cc : ByteArray} {nL fr lo pc n : Nat} {lv : List (Nat × Value)} {rest : List Value} {M : Mem} {k : Nat} (C : CX X cc RX8 nL fr lo) (E : EX Z (xs X)) (hk : AtO Z k 7) (d : decode cc pc = .ok (.getfield 228, 3)) (hn : pc + 3 = n) (kk : GS Z X n lv (.int (M k 7) :: rest) M) : GS Z X pc lv (.ref (zb Z + k) :: rest) M := g_getN 7 C E rfl inB7 (by decide) wn_266 hk rfl d hn kk
theorem wn_303 : Cond.fieldLinkNest RX8 238 (TX0 5).1 (TX0 5).2.1 (TX0 5).2.2.1 "NextBellboy" ∈ NWL := nw_t 303 (by decide +kernel) rfl
theorem gf_X8_238 {Z : ZT} {X : XT} {cc : ByteArray} {nL fr lo pc n : Nat} {lv : List (Nat × Value)} {rest : List Value} {M : Mem} {k : Nat} (C : CX X cc RX8 nL fr lo) (E : EX Z (xs X)) (hk : AtO Z k 0) (d : decode cc pc = .ok (.getfield 238, 3)) (hn : pc + 3 = n) (kk : GS Z X n lv (.int (M k 5) :: rest) M) : GS Z X pc lv (.ref (zb Z + k) :: rest) M := g_getN 5 C E rfl inB0 (by decide) wn_303 hk rfl d hn kk
theorem wn_305 : Cond.fieldLinkNest RX8 241 (TX0 6).1 (TX0 6).2.1 (TX0 6).2.2.1 "NextBellboy" ∈ NWL := nw_t 305 (by decide +kernel) rfl
theorem gf_X8_241 {Z : ZT} {X : XT} {cc : ByteArray} {nL fr lo pc n : Nat} {lv : List (Nat × Value)} {rest : List Value} {M : Mem} {k : Nat} (C : CX X cc RX8 nL fr lo) (E : EX Z (xs X)) (hk : AtO Z k 0) (d : decode cc pc = .ok (.getfield 241, 3)) (hn : pc + 3 = n) (kk : GS Z X n lv (.int (M k 6) :: rest) M) : GS Z X pc lv (.ref (zb Z + k) :: rest) M := g_getN 6 C E rfl inB0 (by decide) wn_305 hk rfl d hn kk
theorem wn_122 : Cond.fieldLinkNest RX8 260 (TX2 8).1 (TX2 8).2.1 (TX2 8).2.2.1 "NextBellboy" ∈ NWL := nw_t 122 (by decide +kernel) rfl
theorem gf_X8_260 {Z : ZT} {X : XT} {cc : ByteArray} {nL fr lo pc n : Nat} {lv : List (Nat × Value)} {rest : List Value} {M : Mem} {k : Nat} (C : CX X cc RX8 nL fr lo) (E : EX Z (xs X)) (hk : AtO Z k 2) (d : decode cc pc = .ok (.getfield 260, 3)) (hn : pc + 3 = n) (kk : GS Z X n lv (.int (M k 8) :: rest) M) : GS Z X pc lv (.ref (zb Z + k) :: rest) M := g_getN 8 C E rfl inB2 (by decide) wn_122 hk rfl d hn kk
theorem wd_300 : Cond.fieldLink RX0 9 (TX0 3).1 (TX0 3).2.1 (TX0 3).2.2.1 ∈ BIG := big_t 300 (by decide +kernel) rfl
theorem gf_X0_9 {Z : ZT} {X : XT} {cc : ByteArray} {nL fr lo pc n : Nat} {lv : List (Nat × Value)} {rest : List Value} {M : Mem} {k : Nat} (q : Nat) (C : CX X cc RX0 nL fr lo) (E : EX Z (xs X)) (hk : AtO Z k 0) (hq : k + 1 = q) (d : decode cc pc = .ok (.getfield 9, 3)) (hn : pc + 3 = n) (kk : GS Z X n lv (.ref (zb Z + q) :: rest) M) : GS Z X pc lv (.ref (zb Z + k) :: rest) M := by
  subst hq
  exact g_get 3 C E rfl inB0 (by decide) wd_300 hk rfl d hn kk
theorem wd_301 : Cond.fieldLink RX0 15 (TX0 4).1 (TX0 4).2.1 (TX0 4).2.2.1 ∈ BIG := big_t 301 (by decide +kernel) rfl
theorem gf_X0_15 {Z : ZT} {X : XT} {cc : ByteArray} {nL fr lo pc n : Nat} {lv : List (Nat × Value)} {rest : List Value} {M : Mem} {k : Nat} (C : CX X cc RX0 nL fr lo) (E : EX Z (xs X)) (hk : AtO Z k 0) (d : decode cc pc = .ok (.getfield 15, 3)) (hn : pc + 3 = n) (kk : GS Z X n lv (.int (M k 4) :: rest) M) : GS Z X pc lv (.ref (zb Z + k) :: rest) M := g_get 4 C E rfl inB0 (by decide) wd_301 hk rfl d hn kk
theorem wd_302 : Cond.fieldLink RX0 19 (TX0 5).1 (TX0 5).2.1 (TX0 5).2.2.1 ∈ BIG := big_t 302 (by decide +kernel) rfl
theorem gf_X0_19 {Z : ZT} {X : XT} {cc : ByteArray} {nL fr lo pc n : Nat} {lv : List (Nat × Value)} {rest : List Value} {M : Mem} {k : Nat} (C : CX X cc RX0 nL fr lo) (E : EX Z (xs X)) (hk : AtO Z k 0) (d : decode cc pc = .ok (.getfield 19, 3)) (hn : pc + 3 = n) (kk : GS Z X n lv (.int (M k 5) :: rest) M) : GS Z X pc lv (.ref (zb Z + k) :: rest) M := g_get 5 C E rfl inB0 (by decide) wd_302 hk rfl d hn kk
theorem wd_304 : Cond.fieldLink RX0 22 (TX0 6).1 (TX0 6).2.1 (TX0 6).2.2.1 ∈ BIG := big_t 304 (by decide +kernel) rfl
theorem gf_X0_22 {Z : ZT} {X : XT} {cc : ByteArray} {nL fr lo pc n : Nat} {lv : List (Nat × Value)} {rest : List Value} {M : Mem} {k : Nat} (C : CX X cc RX0 nL fr lo) (E : EX Z (xs X)) (hk : AtO Z k 0) (d : decode cc pc = .ok (.getfield 22, 3)) (hn : pc + 3 = n) (kk : GS Z X n lv (.int (M k 6) :: rest) M) : GS Z X pc lv (.ref (zb Z + k) :: rest) M := g_get 6 C E rfl inB0 (by decide) wd_304 hk rfl d hn kk
theorem wd_297 : Cond.fieldLink RX0 25 (TX0 0).1 (TX0 0).2.1 (TX0 0).2.2.1 ∈ BIG := big_t 297 (by decide +kernel) rfl
theorem gf_X0_25 {Z : ZT} {X : XT} {cc : ByteArray} {nL fr lo pc n : Nat} {lv : List (Nat × Value)} {rest : List Value} {M : Mem} {k : Nat} (C : CX X cc RX0 nL fr lo) (E : EX Z (xs X)) (hk : AtO Z k 0) (d : decode cc pc = .ok (.getfield 25, 3)) (hn : pc + 3 = n) (kk : GS Z X n lv (.ref (zb Z + 4) :: rest) M) : GS Z X pc lv (.ref (zb Z + k) :: rest) M := g_get 0 C E rfl inB0 (by decide) wd_297 hk rfl d hn kk
theorem wd_298 : Cond.fieldLink RX0 34 (TX0 1).1 (TX0 1).2.1 (TX0 1).2.2.1 ∈ BIG := big_t 298 (by decide +kernel) rfl
theorem gf_X0_34 {Z : ZT} {X : XT} {cc : ByteArray} {nL fr lo pc n : Nat} {lv : List (Nat × Value)} {rest : List Value} {M : Mem} {k : Nat} (q : Nat) (C : CX X cc RX0 nL fr lo) (E : EX Z (xs X)) (hk : AtO Z k 0) (hq : k + 2 = q) (d : decode cc pc = .ok (.getfield 34, 3)) (hn : pc + 3 = n) (kk : GS Z X n lv (.ref (zb Z + q) :: rest) M) : GS Z X pc lv (.ref (zb Z + k) :: rest) M := by
  subst hq
  exact g_get 1 C E rfl inB0 (by decide) wd_298 hk rfl d hn kk
theorem wd_299 : Cond.fieldLink RX0 41 (TX0 2).1 (TX0 2).2.1 (TX0 2).2.2.1 ∈ BIG := big_t 299 (by decide +kernel) rfl
theorem gf_X0_41 {Z : ZT} {X : XT} {cc : ByteArray} {nL fr lo pc n : Nat} {lv : List (Nat × Value)} {rest : List Value} {M : Mem} {k : Nat} (q : Nat) (C : CX X cc RX0 nL fr lo) (E : EX Z (xs X)) (hk : AtO Z k 0) (hq : k + 10 = q) (d : decode cc pc = .ok (.getfield 41, 3)) (hn : pc + 3 = n) (kk : GS Z X n lv (.ref (zb Z + q) :: rest) M) : GS Z X pc lv (.ref (zb Z + k) :: rest) M := by
  subst hq
  exact g_get 2 C E rfl inB0 (by decide) wd_299 hk rfl d hn kk
theorem wn_69 : Cond.fieldLinkNest RX0 45 (TX4 6).1 (TX4 6).2.1 (TX4 6).2.2.1 "NextBellboy" ∈ NWL := nw_t 69 (by decide +kernel) rfl
theorem gf_X0_45 {Z : ZT} {X : XT} {cc : ByteArray} {nL fr lo pc n : Nat} {lv : List (Nat × Value)} {rest : List Value} {M : Mem} {k : Nat} (C : CX X cc RX0 nL fr lo) (E : EX Z (xs X)) (hk : AtO Z k 4) (d : decode cc pc = .ok (.getfield 45, 3)) (hn : pc + 3 = n) (kk : GS Z X n lv (.int (M k 6) :: rest) M) : GS Z X pc lv (.ref (zb Z + k) :: rest) M := g_getN 6 C E rfl inB4 (by decide) wn_69 hk rfl d hn kk
theorem wn_101 : Cond.fieldLinkNest RX0 50 (TX2 1).1 (TX2 1).2.1 (TX2 1).2.2.1 "NextBellboy" ∈ NWL := nw_t 101 (by decide +kernel) rfl
theorem gf_X0_50 {Z : ZT} {X : XT} {cc : ByteArray} {nL fr lo pc n : Nat} {lv : List (Nat × Value)} {rest : List Value} {M : Mem} {k : Nat} (q : Nat) (C : CX X cc RX0 nL fr lo) (E : EX Z (xs X)) (hk : AtO Z k 2) (hq : k + 1 = q) (d : decode cc pc = .ok (.getfield 50, 3)) (hn : pc + 3 = n) (kk : GS Z X n lv (.ref (zb Z + q) :: rest) M) : GS Z X pc lv (.ref (zb Z + k) :: rest) M := by
  subst hq
  exact g_getN 1 C E rfl inB2 (by decide) wn_101 hk rfl d hn kk
theorem wn_158 : Cond.fieldLinkNest RX0 75 (TX3 4).1 (TX3 4).2.1 (TX3 4).2.2.1 "NextBellboy" ∈ NWL := nw_t 158 (by decide +kernel) rfl
theorem gf_X0_75 {Z : ZT} {X : XT} {cc : ByteArray} {nL fr lo pc n : Nat} {lv : List (Nat × Value)} {rest : List Value} {M : Mem} {k : Nat} (q : Nat) (C : CX X cc RX0 nL fr lo) (E : EX Z (xs X)) (hk : AtO Z k 3) (hq : k + 4 = q) (d : decode cc pc = .ok (.getfield 75, 3)) (hn : pc + 3 = n) (kk : GS Z X n lv (.ref (zb Z + q) :: rest) M) : GS Z X pc lv (.ref (zb Z + k) :: rest) M := by
  subst hq
  exact g_getN 4 C E rfl inB3 (by decide) wn_158 hk rfl d hn kk
theorem wd_219 : Cond.fieldLink RX1 9 (TX1 3).1 (TX1 3).2.1 (TX1 3).2.2.1 ∈ BIG := big_t 219 (by decide +kernel) rfl
theorem gf_X1_9 {Z : ZT} {X : XT} {cc : ByteArray} {nL fr lo pc n : Nat} {lv : List (Nat × Value)} {rest : List Value} {M : Mem} {k : Nat} (q : Nat) (C : CX X cc RX1 nL fr lo) (E : EX Z (xs X)) (hk : AtO Z k 1) (hq : k + 1 = q) (d : decode cc pc = .ok (.getfield 9, 3)) (hn : pc + 3 = n) (kk : GS Z X n lv (.ref (zb Z + q) :: rest) M) : GS Z X pc lv (.ref (zb Z + k) :: rest) M := by
  subst hq
  exact g_get 3 C E rfl inB1 (by decide) wd_219 hk rfl d hn kk
theorem wd_220 : Cond.fieldLink RX1 15 (TX1 4).1 (TX1 4).2.1 (TX1 4).2.2.1 ∈ BIG := big_t 220 (by decide +kernel) rfl
theorem gf_X1_15 {Z : ZT} {X : XT} {cc : ByteArray} {nL fr lo pc n : Nat} {lv : List (Nat × Value)} {rest : List Value} {M : Mem} {k : Nat} (q : Nat) (C : CX X cc RX1 nL fr lo) (E : EX Z (xs X)) (hk : AtO Z k 1) (hq : k + 2 = q) (d : decode cc pc = .ok (.getfield 15, 3)) (hn : pc + 3 = n) (kk : GS Z X n lv (.ref (zb Z + q) :: rest) M) : GS Z X pc lv (.ref (zb Z + k) :: rest) M := by
  subst hq
  exact g_get 4 C E rfl inB1 (by decide) wd_220 hk rfl d hn kk
theorem wd_221 : Cond.fieldLink RX1 18 (TX1 5).1 (TX1 5).2.1 (TX1 5).2.2.1 ∈ BIG := big_t 221 (by decide +kernel) rfl
theorem gf_X1_18 {Z : ZT} {X : XT} {cc : ByteArray} {nL fr lo pc n : Nat} {lv : List (Nat × Value)} {rest : List Value} {M : Mem} {k : Nat} (q : Nat) (C : CX X cc RX1 nL fr lo) (E : EX Z (xs X)) (hk : AtO Z k 1) (hq : k + 3 = q) (d : decode cc pc = .ok (.getfield 18, 3)) (hn : pc + 3 = n) (kk : GS Z X n lv (.ref (zb Z + q) :: rest) M) : GS Z X pc lv (.ref (zb Z + k) :: rest) M := by
  subst hq
  exact g_get 5 C E rfl inB1 (by decide) wd_221 hk rfl d hn kk
theorem wd_222 : Cond.fieldLink RX1 21 (TX1 6).1 (TX1 6).2.1 (TX1 6).2.2.1 ∈ BIG := big_t 222 (by decide +kernel) rfl
theorem gf_X1_21 {Z : ZT} {X : XT} {cc : ByteArray} {nL fr lo pc n : Nat} {lv : List (Nat × Value)} {rest : List Value} {M : Mem} {k : Nat} (C : CX X cc RX1 nL fr lo) (E : EX Z (xs X)) (hk : AtO Z k 1) (d : decode cc pc = .ok (.getfield 21, 3)) (hn : pc + 3 = n) (kk : GS Z X n lv (.int (M k 6) :: rest) M) : GS Z X pc lv (.ref (zb Z + k) :: rest) M := g_get 6 C E rfl inB1 (by decide) wd_222 hk rfl d hn kk
theorem wd_223 : Cond.fieldLink RX1 25 (TX1 7).1 (TX1 7).2.1 (TX1 7).2.2.1 ∈ BIG := big_t 223 (by decide +kernel) rfl
theorem gf_X1_25 {Z : ZT} {X : XT} {cc : ByteArray} {nL fr lo pc n : Nat} {lv : List (Nat × Value)} {rest : List Value} {M : Mem} {k : Nat} (C : CX X cc RX1 nL fr lo) (E : EX Z (xs X)) (hk : AtO Z k 1) (d : decode cc pc = .ok (.getfield 25, 3)) (hn : pc + 3 = n) (kk : GS Z X n lv (.int (M k 7) :: rest) M) : GS Z X pc lv (.ref (zb Z + k) :: rest) M := g_get 7 C E rfl inB1 (by decide) wd_223 hk rfl d hn kk
theorem wd_224 : Cond.fieldLink RX1 28 (TX1 8).1 (TX1 8).2.1 (TX1 8).2.2.1 ∈ BIG := big_t 224 (by decide +kernel) rfl
theorem gf_X1_28 {Z : ZT} {X : XT} {cc : ByteArray} {nL fr lo pc n : Nat} {lv : List (Nat × Value)} {rest : List Value} {M : Mem} {k : Nat} (C : CX X cc RX1 nL fr lo) (E : EX Z (xs X)) (hk : AtO Z k 1) (d : decode cc pc = .ok (.getfield 28, 3)) (hn : pc + 3 = n) (kk : GS Z X n lv (.int (M k 8) :: rest) M) : GS Z X pc lv (.ref (zb Z + k) :: rest) M := g_get 8 C E rfl inB1 (by decide) wd_224 hk rfl d hn kk
theorem wd_225 : Cond.fieldLink RX1 31 (TX1 9).1 (TX1 9).2.1 (TX1 9).2.2.1 ∈ BIG := big_t 225 (by decide +kernel) rfl
theorem gf_X1_31 {Z : ZT} {X : XT} {cc : ByteArray} {nL fr lo pc n : Nat} {lv : List (Nat × Value)} {rest : List Value} {M : Mem} {k : Nat} (C : CX X cc RX1 nL fr lo) (E : EX Z (xs X)) (hk : AtO Z k 1) (d : decode cc pc = .ok (.getfield 31, 3)) (hn : pc + 3 = n) (kk : GS Z X n lv (.int (M k 9) :: rest) M) : GS Z X pc lv (.ref (zb Z + k) :: rest) M := g_get 9 C E rfl inB1 (by decide) wd_225 hk rfl d hn kk
theorem wd_227 : Cond.fieldLink RX1 34 (TX1 10).1 (TX1 10).2.1 (TX1 10).2.2.1 ∈ BIG := big_t 227 (by decide +kernel) rfl
theorem gf_X1_34 {Z : ZT} {X : XT} {cc : ByteArray} {nL fr lo pc n : Nat} {lv : List (Nat × Value)} {rest : List Value} {M : Mem} {k : Nat} (C : CX X cc RX1 nL fr lo) (E : EX Z (xs X)) (hk : AtO Z k 1) (d : decode cc pc = .ok (.getfield 34, 3)) (hn : pc + 3 = n) (kk : GS Z X n lv (.int (M k 10) :: rest) M) : GS Z X pc lv (.ref (zb Z + k) :: rest) M := g_get 10 C E rfl inB1 (by decide) wd_227 hk rfl d hn kk
theorem wd_216 : Cond.fieldLink RX1 38 (TX1 0).1 (TX1 0).2.1 (TX1 0).2.2.1 ∈ BIG := big_t 216 (by decide +kernel) rfl
theorem gf_X1_38 {Z : ZT} {X : XT} {cc : ByteArray} {nL fr lo pc n : Nat} {lv : List (Nat × Value)} {rest : List Value} {M : Mem} {k : Nat} (C : CX X cc RX1 nL fr lo) (E : EX Z (xs X)) (hk : AtO Z k 1) (d : decode cc pc = .ok (.getfield 38, 3)) (hn : pc + 3 = n) (kk : GS Z X n lv (.ref (zb Z + 4) :: rest) M) : GS Z X pc lv (.ref (zb Z + k) :: rest) M := g_get 0 C E rfl inB1 (by decide) wd_216 hk rfl d hn kk
theorem wd_217 : Cond.fieldLink RX1 47 (TX1 1).1 (TX1 1).2.1 (TX1 1).2.2.1 ∈ BIG := big_t 217 (by decide +kernel) rfl
theorem gf_X1_47 {Z : ZT} {X : XT} {cc : ByteArray} {nL fr lo pc n : Nat} {lv : List (Nat × Value)} {rest : List Value} {M : Mem} {k : Nat} (q : Nat) (C : CX X cc RX1 nL fr lo) (E : EX Z (xs X)) (hk : AtO Z k 1) (hq : k + 4 = q) (d : decode cc pc = .ok (.getfield 47, 3)) (hn : pc + 3 = n) (kk : GS Z X n lv (.ref (zb Z + q) :: rest) M) : GS Z X pc lv (.ref (zb Z + k) :: rest) M := by
  subst hq
  exact g_get 1 C E rfl inB1 (by decide) wd_217 hk rfl d hn kk
theorem wd_218 : Cond.fieldLink RX1 54 (TX1 2).1 (TX1 2).2.1 (TX1 2).2.2.1 ∈ BIG := big_t 218 (by decide +kernel) rfl
theorem gf_X1_54 {Z : ZT} {X : XT} {cc : ByteArray} {nL fr lo pc n : Nat} {lv : List (Nat × Value)} {rest : List Value} {M : Mem} {k : Nat} (q : Nat) (C : CX X cc RX1 nL fr lo) (E : EX Z (xs X)) (hk : AtO Z k 1) (hq : k + 12 = q) (d : decode cc pc = .ok (.getfield 54, 3)) (hn : pc + 3 = n) (kk : GS Z X n lv (.ref (zb Z + q) :: rest) M) : GS Z X pc lv (.ref (zb Z + k) :: rest) M := by
  subst hq
  exact g_get 2 C E rfl inB1 (by decide) wd_218 hk rfl d hn kk
theorem wn_165 : Cond.fieldLinkNest RX1 74 (TX3 8).1 (TX3 8).2.1 (TX3 8).2.2.1 "NextBellboy" ∈ NWL := nw_t 165 (by decide +kernel) rfl
theorem gf_X1_74 {Z : ZT} {X : XT} {cc : ByteArray} {nL fr lo pc n : Nat} {lv : List (Nat × Value)} {rest : List Value} {M : Mem} {k : Nat} (C : CX X cc RX1 nL fr lo) (E : EX Z (xs X)) (hk : AtO Z k 3) (d : decode cc pc = .ok (.getfield 74, 3)) (hn : pc + 3 = n) (kk : GS Z X n lv (.int (M k 8) :: rest) M) : GS Z X pc lv (.ref (zb Z + k) :: rest) M := g_getN 8 C E rfl inB3 (by decide) wn_165 hk rfl d hn kk
theorem wn_72 : Cond.fieldLinkNest RX1 81 (TX4 6).1 (TX4 6).2.1 (TX4 6).2.2.1 "NextBellboy" ∈ NWL := nw_t 72 (by decide +kernel) rfl
theorem gf_X1_81 {Z : ZT} {X : XT} {cc : ByteArray} {nL fr lo pc n : Nat} {lv : List (Nat × Value)} {rest : List Value} {M : Mem} {k : Nat} (C : CX X cc RX1 nL fr lo) (E : EX Z (xs X)) (hk : AtO Z k 4) (d : decode cc pc = .ok (.getfield 81, 3)) (hn : pc + 3 = n) (kk : GS Z X n lv (.int (M k 6) :: rest) M) : GS Z X pc lv (.ref (zb Z + k) :: rest) M := g_getN 6 C E rfl inB4 (by decide) wn_72 hk rfl d hn kk
theorem wn_103 : Cond.fieldLinkNest RX1 84 (TX2 1).1 (TX2 1).2.1 (TX2 1).2.2.1 "NextBellboy" ∈ NWL := nw_t 103 (by decide +kernel) rfl
theorem gf_X1_84 {Z : ZT} {X : XT} {cc : ByteArray} {nL fr lo pc n : Nat} {lv : List (Nat × Value)} {rest : List Value} {M : Mem} {k : Nat} (q : Nat) (C : CX X cc RX1 nL fr lo) (E : EX Z (xs X)) (hk : AtO Z k 2) (hq : k + 1 = q) (d : decode cc pc = .ok (.getfield 84, 3)) (hn : pc + 3 = n) (kk : GS Z X n lv (.ref (zb Z + q) :: rest) M) : GS Z X pc lv (.ref (zb Z + k) :: rest) M := by
  subst hq
  exact g_getN 1 C E rfl inB2 (by decide) wn_103 hk rfl d hn kk
theorem wn_109 : Cond.fieldLinkNest RX1 87 (TX2 3).1 (TX2 3).2.1 (TX2 3).2.2.1 "NextBellboy" ∈ NWL := nw_t 109 (by decide +kernel) rfl
theorem gf_X1_87 {Z : ZT} {X : XT} {cc : ByteArray} {nL fr lo pc n : Nat} {lv : List (Nat × Value)} {rest : List Value} {M : Mem} {k : Nat} (q : Nat) (C : CX X cc RX1 nL fr lo) (E : EX Z (xs X)) (hk : AtO Z k 2) (hq : k + 3 = q) (d : decode cc pc = .ok (.getfield 87, 3)) (hn : pc + 3 = n) (kk : GS Z X n lv (.ref (zb Z + q) :: rest) M) : GS Z X pc lv (.ref (zb Z + k) :: rest) M := by
  subst hq
  exact g_getN 3 C E rfl inB2 (by decide) wn_109 hk rfl d hn kk
theorem wd_100 : Cond.fieldLink RX2 9 (TX2 1).1 (TX2 1).2.1 (TX2 1).2.2.1 ∈ BIG := big_t 100 (by decide +kernel) rfl
theorem gf_X2_9 {Z : ZT} {X : XT} {cc : ByteArray} {nL fr lo pc n : Nat} {lv : List (Nat × Value)} {rest : List Value} {M : Mem} {k : Nat} (q : Nat) (C : CX X cc RX2 nL fr lo) (E : EX Z (xs X)) (hk : AtO Z k 2) (hq : k + 1 = q) (d : decode cc pc = .ok (.getfield 9, 3)) (hn : pc + 3 = n) (kk : GS Z X n lv (.ref (zb Z + q) :: rest) M) : GS Z X pc lv (.ref (zb Z + k) :: rest) M := by
  subst hq
  exact g_get 1 C E rfl inB2 (by decide) wd_100 hk rfl d hn kk
theorem wd_105 : Cond.fieldLink RX2 15 (TX2 2).1 (TX2 2).2.1 (TX2 2).2.2.1 ∈ BIG := big_t 105 (by decide +kernel) rfl
theorem gf_X2_15 {Z : ZT} {X : XT} {cc : ByteArray} {nL fr lo pc n : Nat} {lv : List (Nat × Value)} {rest : List Value} {M : Mem} {k : Nat} (q : Nat) (C : CX X cc RX2 nL fr lo) (E : EX Z (xs X)) (hk : AtO Z k 2) (hq : k + 2 = q) (d : decode cc pc = .ok (.getfield 15, 3)) (hn : pc + 3 = n) (kk : GS Z X n lv (.ref (zb Z + q) :: rest) M) : GS Z X pc lv (.ref (zb Z + k) :: rest) M := by
  subst hq
  exact g_get 2 C E rfl inB2 (by decide) wd_105 hk rfl d hn kk
theorem wd_108 : Cond.fieldLink RX2 18 (TX2 3).1 (TX2 3).2.1 (TX2 3).2.2.1 ∈ BIG := big_t 108 (by decide +kernel) rfl
theorem gf_X2_18 {Z : ZT} {X : XT} {cc : ByteArray} {nL fr lo pc n : Nat} {lv : List (Nat × Value)} {rest : List Value} {M : Mem} {k : Nat} (q : Nat) (C : CX X cc RX2 nL fr lo) (E : EX Z (xs X)) (hk : AtO Z k 2) (hq : k + 3 = q) (d : decode cc pc = .ok (.getfield 18, 3)) (hn : pc + 3 = n) (kk : GS Z X n lv (.ref (zb Z + q) :: rest) M) : GS Z X pc lv (.ref (zb Z + k) :: rest) M := by
  subst hq
  exact g_get 3 C E rfl inB2 (by decide) wd_108 hk rfl d hn kk
theorem wd_111 : Cond.fieldLink RX2 21 (TX2 4).1 (TX2 4).2.1 (TX2 4).2.2.1 ∈ BIG := big_t 111 (by decide +kernel) rfl
theorem gf_X2_21 {Z : ZT} {X : XT} {cc : ByteArray} {nL fr lo pc n : Nat} {lv : List (Nat × Value)} {rest : List Value} {M : Mem} {k : Nat} (q : Nat) (C : CX X cc RX2 nL fr lo) (E : EX Z (xs X)) (hk : AtO Z k 2) (hq : k + 4 = q) (d : decode cc pc = .ok (.getfield 21, 3)) (hn : pc + 3 = n) (kk : GS Z X n lv (.ref (zb Z + q) :: rest) M) : GS Z X pc lv (.ref (zb Z + k) :: rest) M := by
  subst hq
  exact g_get 4 C E rfl inB2 (by decide) wd_111 hk rfl d hn kk
theorem wd_114 : Cond.fieldLink RX2 24 (TX2 5).1 (TX2 5).2.1 (TX2 5).2.2.1 ∈ BIG := big_t 114 (by decide +kernel) rfl
theorem gf_X2_24 {Z : ZT} {X : XT} {cc : ByteArray} {nL fr lo pc n : Nat} {lv : List (Nat × Value)} {rest : List Value} {M : Mem} {k : Nat} (q : Nat) (C : CX X cc RX2 nL fr lo) (E : EX Z (xs X)) (hk : AtO Z k 2) (hq : k + 5 = q) (d : decode cc pc = .ok (.getfield 24, 3)) (hn : pc + 3 = n) (kk : GS Z X n lv (.ref (zb Z + q) :: rest) M) : GS Z X pc lv (.ref (zb Z + k) :: rest) M := by
  subst hq
  exact g_get 5 C E rfl inB2 (by decide) wd_114 hk rfl d hn kk
theorem wd_116 : Cond.fieldLink RX2 27 (TX2 6).1 (TX2 6).2.1 (TX2 6).2.2.1 ∈ BIG := big_t 116 (by decide +kernel) rfl
theorem gf_X2_27 {Z : ZT} {X : XT} {cc : ByteArray} {nL fr lo pc n : Nat} {lv : List (Nat × Value)} {rest : List Value} {M : Mem} {k : Nat} (q : Nat) (C : CX X cc RX2 nL fr lo) (E : EX Z (xs X)) (hk : AtO Z k 2) (hq : k + 6 = q) (d : decode cc pc = .ok (.getfield 27, 3)) (hn : pc + 3 = n) (kk : GS Z X n lv (.ref (zb Z + q) :: rest) M) : GS Z X pc lv (.ref (zb Z + k) :: rest) M := by
  subst hq
  exact g_get 6 C E rfl inB2 (by decide) wd_116 hk rfl d hn kk
theorem wd_118 : Cond.fieldLink RX2 30 (TX2 7).1 (TX2 7).2.1 (TX2 7).2.2.1 ∈ BIG := big_t 118 (by decide +kernel) rfl
theorem gf_X2_30 {Z : ZT} {X : XT} {cc : ByteArray} {nL fr lo pc n : Nat} {lv : List (Nat × Value)} {rest : List Value} {M : Mem} {k : Nat} (q : Nat) (C : CX X cc RX2 nL fr lo) (E : EX Z (xs X)) (hk : AtO Z k 2) (hq : k + 7 = q) (d : decode cc pc = .ok (.getfield 30, 3)) (hn : pc + 3 = n) (kk : GS Z X n lv (.ref (zb Z + q) :: rest) M) : GS Z X pc lv (.ref (zb Z + k) :: rest) M := by
  subst hq
  exact g_get 7 C E rfl inB2 (by decide) wd_118 hk rfl d hn kk
theorem wd_120 : Cond.fieldLink RX2 33 (TX2 8).1 (TX2 8).2.1 (TX2 8).2.2.1 ∈ BIG := big_t 120 (by decide +kernel) rfl
theorem gf_X2_33 {Z : ZT} {X : XT} {cc : ByteArray} {nL fr lo pc n : Nat} {lv : List (Nat × Value)} {rest : List Value} {M : Mem} {k : Nat} (C : CX X cc RX2 nL fr lo) (E : EX Z (xs X)) (hk : AtO Z k 2) (d : decode cc pc = .ok (.getfield 33, 3)) (hn : pc + 3 = n) (kk : GS Z X n lv (.int (M k 8) :: rest) M) : GS Z X pc lv (.ref (zb Z + k) :: rest) M := g_get 8 C E rfl inB2 (by decide) wd_120 hk rfl d hn kk
theorem wd_123 : Cond.fieldLink RX2 37 (TX2 9).1 (TX2 9).2.1 (TX2 9).2.2.1 ∈ BIG := big_t 123 (by decide +kernel) rfl
theorem gf_X2_37 {Z : ZT} {X : XT} {cc : ByteArray} {nL fr lo pc n : Nat} {lv : List (Nat × Value)} {rest : List Value} {M : Mem} {k : Nat} (C : CX X cc RX2 nL fr lo) (E : EX Z (xs X)) (hk : AtO Z k 2) (d : decode cc pc = .ok (.getfield 37, 3)) (hn : pc + 3 = n) (kk : GS Z X n lv (.int (M k 9) :: rest) M) : GS Z X pc lv (.ref (zb Z + k) :: rest) M := g_get 9 C E rfl inB2 (by decide) wd_123 hk rfl d hn kk
theorem wd_99 : Cond.fieldLink RX2 40 (TX2 0).1 (TX2 0).2.1 (TX2 0).2.2.1 ∈ BIG := big_t 99 (by decide +kernel) rfl
theorem gf_X2_40 {Z : ZT} {X : XT} {cc : ByteArray} {nL fr lo pc n : Nat} {lv : List (Nat × Value)} {rest : List Value} {M : Mem} {k : Nat} (C : CX X cc RX2 nL fr lo) (E : EX Z (xs X)) (hk : AtO Z k 2) (d : decode cc pc = .ok (.getfield 40, 3)) (hn : pc + 3 = n) (kk : GS Z X n lv (.ref (zb Z + 4) :: rest) M) : GS Z X pc lv (.ref (zb Z + k) :: rest) M := g_get 0 C E rfl inB2 (by decide) wd_99 hk rfl d hn kk
theorem wn_54 : Cond.fieldLinkNest RX2 44 (TX4 1).1 (TX4 1).2.1 (TX4 1).2.2.1 "NextBellboy" ∈ NWL := nw_t 54 (by decide +kernel) rfl
theorem gf_X2_44 {Z : ZT} {X : XT} {cc : ByteArray} {nL fr lo pc n : Nat} {lv : List (Nat × Value)} {rest : List Value} {M : Mem} {k : Nat} (q : Nat) (C : CX X cc RX2 nL fr lo) (E : EX Z (xs X)) (hk : AtO Z k 4) (hq : k + 2 = q) (d : decode cc pc = .ok (.getfield 44, 3)) (hn : pc + 3 = n) (kk : GS Z X n lv (.ref (zb Z + q) :: rest) M) : GS Z X pc lv (.ref (zb Z + k) :: rest) M := by
  subst hq
  exact g_getN 1 C E rfl inB4 (by decide) wn_54 hk rfl d hn kk
theorem wn_67 : Cond.fieldLinkNest RX2 47 (TX4 5).1 (TX4 5).2.1 (TX4 5).2.2.1 "NextBellboy" ∈ NWL := nw_t 67 (by decide +kernel) rfl
theorem gf_X2_47 {Z : ZT} {X : XT} {cc : ByteArray} {nL fr lo pc n : Nat} {lv : List (Nat × Value)} {rest : List Value} {M : Mem} {k : Nat} (q : Nat) (C : CX X cc RX2 nL fr lo) (E : EX Z (xs X)) (hk : AtO Z k 4) (hq : k + 6 = q) (d : decode cc pc = .ok (.getfield 47, 3)) (hn : pc + 3 = n) (kk : GS Z X n lv (.ref (zb Z + q) :: rest) M) : GS Z X pc lv (.ref (zb Z + k) :: rest) M := by
  subst hq
  exact g_getN 5 C E rfl inB4 (by decide) wn_67 hk rfl d hn kk
theorem wn_57 : Cond.fieldLinkNest RX2 55 (TX4 2).1 (TX4 2).2.1 (TX4 2).2.2.1 "NextBellboy" ∈ NWL := nw_t 57 (by decide +kernel) rfl
theorem gf_X2_55 {Z : ZT} {X : XT} {cc : ByteArray} {nL fr lo pc n : Nat} {lv : List (Nat × Value)} {rest : List Value} {M : Mem} {k : Nat} (q : Nat) (C : CX X cc RX2 nL fr lo) (E : EX Z (xs X)) (hk : AtO Z k 4) (hq : k + 3 = q) (d : decode cc pc = .ok (.getfield 55, 3)) (hn : pc + 3 = n) (kk : GS Z X n lv (.ref (zb Z + q) :: rest) M) : GS Z X pc lv (.ref (zb Z + k) :: rest) M := by
  subst hq
  exact g_getN 2 C E rfl inB4 (by decide) wn_57 hk rfl d hn kk
theorem wn_51 : Cond.fieldLinkNest RX2 58 (TX4 0).1 (TX4 0).2.1 (TX4 0).2.2.1 "NextBellboy" ∈ NWL := nw_t 51 (by decide +kernel) rfl
theorem gf_X2_58 {Z : ZT} {X : XT} {cc : ByteArray} {nL fr lo pc n : Nat} {lv : List (Nat × Value)} {rest : List Value} {M : Mem} {k : Nat} (q : Nat) (C : CX X cc RX2 nL fr lo) (E : EX Z (xs X)) (hk : AtO Z k 4) (hq : k + 1 = q) (d : decode cc pc = .ok (.getfield 58, 3)) (hn : pc + 3 = n) (kk : GS Z X n lv (.ref (zb Z + q) :: rest) M) : GS Z X pc lv (.ref (zb Z + k) :: rest) M := by
  subst hq
  exact g_getN 0 C E rfl inB4 (by decide) wn_51 hk rfl d hn kk
theorem wn_74 : Cond.fieldLinkNest RX2 61 (TX4 6).1 (TX4 6).2.1 (TX4 6).2.2.1 "NextBellboy" ∈ NWL := nw_t 74 (by decide +kernel) rfl
theorem gf_X2_61 {Z : ZT} {X : XT} {cc : ByteArray} {nL fr lo pc n : Nat} {lv : List (Nat × Value)} {rest : List Value} {M : Mem} {k : Nat} (C : CX X cc RX2 nL fr lo) (E : EX Z (xs X)) (hk : AtO Z k 4) (d : decode cc pc = .ok (.getfield 61, 3)) (hn : pc + 3 = n) (kk : GS Z X n lv (.int (M k 6) :: rest) M) : GS Z X pc lv (.ref (zb Z + k) :: rest) M := g_getN 6 C E rfl inB4 (by decide) wn_74 hk rfl d hn kk
theorem wn_65 : Cond.fieldLinkNest RX2 68 (TX4 4).1 (TX4 4).2.1 (TX4 4).2.2.1 "NextBellboy" ∈ NWL := nw_t 65 (by decide +kernel) rfl
theorem gf_X2_68 {Z : ZT} {X : XT} {cc : ByteArray} {nL fr lo pc n : Nat} {lv : List (Nat × Value)} {rest : List Value} {M : Mem} {k : Nat} (q : Nat) (C : CX X cc RX2 nL fr lo) (E : EX Z (xs X)) (hk : AtO Z k 4) (hq : k + 5 = q) (d : decode cc pc = .ok (.getfield 68, 3)) (hn : pc + 3 = n) (kk : GS Z X n lv (.ref (zb Z + q) :: rest) M) : GS Z X pc lv (.ref (zb Z + k) :: rest) M := by
  subst hq
  exact g_getN 4 C E rfl inB4 (by decide) wn_65 hk rfl d hn kk
theorem wn_61 : Cond.fieldLinkNest RX2 84 (TX4 3).1 (TX4 3).2.1 (TX4 3).2.2.1 "NextBellboy" ∈ NWL := nw_t 61 (by decide +kernel) rfl
theorem gf_X2_84 {Z : ZT} {X : XT} {cc : ByteArray} {nL fr lo pc n : Nat} {lv : List (Nat × Value)} {rest : List Value} {M : Mem} {k : Nat} (q : Nat) (C : CX X cc RX2 nL fr lo) (E : EX Z (xs X)) (hk : AtO Z k 4) (hq : k + 4 = q) (d : decode cc pc = .ok (.getfield 84, 3)) (hn : pc + 3 = n) (kk : GS Z X n lv (.ref (zb Z + q) :: rest) M) : GS Z X pc lv (.ref (zb Z + k) :: rest) M := by
  subst hq
  exact g_getN 3 C E rfl inB4 (by decide) wn_61 hk rfl d hn kk
theorem wd_154 : Cond.fieldLink RX3 9 (TX3 1).1 (TX3 1).2.1 (TX3 1).2.2.1 ∈ BIG := big_t 154 (by decide +kernel) rfl
theorem gf_X3_9 {Z : ZT} {X : XT} {cc : ByteArray} {nL fr lo pc n : Nat} {lv : List (Nat × Value)} {rest : List Value} {M : Mem} {k : Nat} (q : Nat) (C : CX X cc RX3 nL fr lo) (E : EX Z (xs X)) (hk : AtO Z k 3) (hq : k + 1 = q) (d : decode cc pc = .ok (.getfield 9, 3)) (hn : pc + 3 = n) (kk : GS Z X n lv (.ref (zb Z + q) :: rest) M) : GS Z X pc lv (.ref (zb Z + k) :: rest) M := by
  subst hq
  exact g_get 1 C E rfl inB3 (by decide) wd_154 hk rfl d hn kk
theorem wd_155 : Cond.fieldLink RX3 15 (TX3 2).1 (TX3 2).2.1 (TX3 2).2.2.1 ∈ BIG := big_t 155 (by decide +kernel) rfl
theorem gf_X3_15 {Z : ZT} {X : XT} {cc : ByteArray} {nL fr lo pc n : Nat} {lv : List (Nat × Value)} {rest : List Value} {M : Mem} {k : Nat} (q : Nat) (C : CX X cc RX3 nL fr lo) (E : EX Z (xs X)) (hk : AtO Z k 3) (hq : k + 2 = q) (d : decode cc pc = .ok (.getfield 15, 3)) (hn : pc + 3 = n) (kk : GS Z X n lv (.ref (zb Z + q) :: rest) M) : GS Z X pc lv (.ref (zb Z + k) :: rest) M := by
  subst hq
  exact g_get 2 C E rfl inB3 (by decide) wd_155 hk rfl d hn kk
theorem wd_156 : Cond.fieldLink RX3 18 (TX3 3).1 (TX3 3).2.1 (TX3 3).2.2.1 ∈ BIG := big_t 156 (by decide +kernel) rfl
theorem gf_X3_18 {Z : ZT} {X : XT} {cc : ByteArray} {nL fr lo pc n : Nat} {lv : List (Nat × Value)} {rest : List Value} {M : Mem} {k : Nat} (q : Nat) (C : CX X cc RX3 nL fr lo) (E : EX Z (xs X)) (hk : AtO Z k 3) (hq : k + 3 = q) (d : decode cc pc = .ok (.getfield 18, 3)) (hn : pc + 3 = n) (kk : GS Z X n lv (.ref (zb Z + q) :: rest) M) : GS Z X pc lv (.ref (zb Z + k) :: rest) M := by
  subst hq
  exact g_get 3 C E rfl inB3 (by decide) wd_156 hk rfl d hn kk
theorem wd_157 : Cond.fieldLink RX3 21 (TX3 4).1 (TX3 4).2.1 (TX3 4).2.2.1 ∈ BIG := big_t 157 (by decide +kernel) rfl
theorem gf_X3_21 {Z : ZT} {X : XT} {cc : ByteArray} {nL fr lo pc n : Nat} {lv : List (Nat × Value)} {rest : List Value} {M : Mem} {k : Nat} (q : Nat) (C : CX X cc RX3 nL fr lo) (E : EX Z (xs X)) (hk : AtO Z k 3) (hq : k + 4 = q) (d : decode cc pc = .ok (.getfield 21, 3)) (hn : pc + 3 = n) (kk : GS Z X n lv (.ref (zb Z + q) :: rest) M) : GS Z X pc lv (.ref (zb Z + k) :: rest) M := by
  subst hq
  exact g_get 4 C E rfl inB3 (by decide) wd_157 hk rfl d hn kk
theorem wd_160 : Cond.fieldLink RX3 24 (TX3 5).1 (TX3 5).2.1 (TX3 5).2.2.1 ∈ BIG := big_t 160 (by decide +kernel) rfl
theorem gf_X3_24 {Z : ZT} {X : XT} {cc : ByteArray} {nL fr lo pc n : Nat} {lv : List (Nat × Value)} {rest : List Value} {M : Mem} {k : Nat} (q : Nat) (C : CX X cc RX3 nL fr lo) (E : EX Z (xs X)) (hk : AtO Z k 3) (hq : k + 5 = q) (d : decode cc pc = .ok (.getfield 24, 3)) (hn : pc + 3 = n) (kk : GS Z X n lv (.ref (zb Z + q) :: rest) M) : GS Z X pc lv (.ref (zb Z + k) :: rest) M := by
  subst hq
  exact g_get 5 C E rfl inB3 (by decide) wd_160 hk rfl d hn kk
theorem wd_162 : Cond.fieldLink RX3 27 (TX3 6).1 (TX3 6).2.1 (TX3 6).2.2.1 ∈ BIG := big_t 162 (by decide +kernel) rfl
theorem gf_X3_27 {Z : ZT} {X : XT} {cc : ByteArray} {nL fr lo pc n : Nat} {lv : List (Nat × Value)} {rest : List Value} {M : Mem} {k : Nat} (C : CX X cc RX3 nL fr lo) (E : EX Z (xs X)) (hk : AtO Z k 3) (d : decode cc pc = .ok (.getfield 27, 3)) (hn : pc + 3 = n) (kk : GS Z X n lv (.int (M k 6) :: rest) M) : GS Z X pc lv (.ref (zb Z + k) :: rest) M := g_get 6 C E rfl inB3 (by decide) wd_162 hk rfl d hn kk
theorem wd_163 : Cond.fieldLink RX3 31 (TX3 7).1 (TX3 7).2.1 (TX3 7).2.2.1 ∈ BIG := big_t 163 (by decide +kernel) rfl
theorem gf_X3_31 {Z : ZT} {X : XT} {cc : ByteArray} {nL fr lo pc n : Nat} {lv : List (Nat × Value)} {rest : List Value} {M : Mem} {k : Nat} (C : CX X cc RX3 nL fr lo) (E : EX Z (xs X)) (hk : AtO Z k 3) (d : decode cc pc = .ok (.getfield 31, 3)) (hn : pc + 3 = n) (kk : GS Z X n lv (.int (M k 7) :: rest) M) : GS Z X pc lv (.ref (zb Z + k) :: rest) M := g_get 7 C E rfl inB3 (by decide) wd_163 hk rfl d hn kk
theorem wd_164 : Cond.fieldLink RX3 34 (TX3 8).1 (TX3 8).2.1 (TX3 8).2.2.1 ∈ BIG := big_t 164 (by decide +kernel) rfl
theorem gf_X3_34 {Z : ZT} {X : XT} {cc : ByteArray} {nL fr lo pc n : Nat} {lv : List (Nat × Value)} {rest : List Value} {M : Mem} {k : Nat} (C : CX X cc RX3 nL fr lo) (E : EX Z (xs X)) (hk : AtO Z k 3) (d : decode cc pc = .ok (.getfield 34, 3)) (hn : pc + 3 = n) (kk : GS Z X n lv (.int (M k 8) :: rest) M) : GS Z X pc lv (.ref (zb Z + k) :: rest) M := g_get 8 C E rfl inB3 (by decide) wd_164 hk rfl d hn kk
theorem wd_153 : Cond.fieldLink RX3 37 (TX3 0).1 (TX3 0).2.1 (TX3 0).2.2.1 ∈ BIG := big_t 153 (by decide +kernel) rfl
theorem gf_X3_37 {Z : ZT} {X : XT} {cc : ByteArray} {nL fr lo pc n : Nat} {lv : List (Nat × Value)} {rest : List Value} {M : Mem} {k : Nat} (C : CX X cc RX3 nL fr lo) (E : EX Z (xs X)) (hk : AtO Z k 3) (d : decode cc pc = .ok (.getfield 37, 3)) (hn : pc + 3 = n) (kk : GS Z X n lv (.ref (zb Z + 4) :: rest) M) : GS Z X pc lv (.ref (zb Z + k) :: rest) M := g_get 0 C E rfl inB3 (by decide) wd_153 hk rfl d hn kk
theorem wn_70 : Cond.fieldLinkNest RX3 48 (TX4 6).1 (TX4 6).2.1 (TX4 6).2.2.1 "NextBellboy" ∈ NWL := nw_t 70 (by decide +kernel) rfl
theorem gf_X3_48 {Z : ZT} {X : XT} {cc : ByteArray} {nL fr lo pc n : Nat} {lv : List (Nat × Value)} {rest : List Value} {M : Mem} {k : Nat} (C : CX X cc RX3 nL fr lo) (E : EX Z (xs X)) (hk : AtO Z k 4) (d : decode cc pc = .ok (.getfield 48, 3)) (hn : pc + 3 = n) (kk : GS Z X n lv (.int (M k 6) :: rest) M) : GS Z X pc lv (.ref (zb Z + k) :: rest) M := g_getN 6 C E rfl inB4 (by decide) wn_70 hk rfl d hn kk
theorem wn_102 : Cond.fieldLinkNest RX3 53 (TX2 1).1 (TX2 1).2.1 (TX2 1).2.2.1 "NextBellboy" ∈ NWL := nw_t 102 (by decide +kernel) rfl
theorem gf_X3_53 {Z : ZT} {X : XT} {cc : ByteArray} {nL fr lo pc n : Nat} {lv : List (Nat × Value)} {rest : List Value} {M : Mem} {k : Nat} (q : Nat) (C : CX X cc RX3 nL fr lo) (E : EX Z (xs X)) (hk : AtO Z k 2) (hq : k + 1 = q) (d : decode cc pc = .ok (.getfield 53, 3)) (hn : pc + 3 = n) (kk : GS Z X n lv (.ref (zb Z + q) :: rest) M) : GS Z X pc lv (.ref (zb Z + k) :: rest) M := by
  subst hq
  exact g_getN 1 C E rfl inB2 (by decide) wn_102 hk rfl d hn kk
theorem wn_106 : Cond.fieldLinkNest RX3 58 (TX2 2).1 (TX2 2).2.1 (TX2 2).2.2.1 "NextBellboy" ∈ NWL := nw_t 106 (by decide +kernel) rfl
theorem gf_X3_58 {Z : ZT} {X : XT} {cc : ByteArray} {nL fr lo pc n : Nat} {lv : List (Nat × Value)} {rest : List Value} {M : Mem} {k : Nat} (q : Nat) (C : CX X cc RX3 nL fr lo) (E : EX Z (xs X)) (hk : AtO Z k 2) (hq : k + 2 = q) (d : decode cc pc = .ok (.getfield 58, 3)) (hn : pc + 3 = n) (kk : GS Z X n lv (.ref (zb Z + q) :: rest) M) : GS Z X pc lv (.ref (zb Z + k) :: rest) M := by
  subst hq
  exact g_getN 2 C E rfl inB2 (by decide) wn_106 hk rfl d hn kk
theorem wn_121 : Cond.fieldLinkNest RX3 72 (TX2 8).1 (TX2 8).2.1 (TX2 8).2.2.1 "NextBellboy" ∈ NWL := nw_t 121 (by decide +kernel) rfl
theorem gf_X3_72 {Z : ZT} {X : XT} {cc : ByteArray} {nL fr lo pc n : Nat} {lv : List (Nat × Value)} {rest : List Value} {M : Mem} {k : Nat} (C : CX X cc RX3 nL fr lo) (E : EX Z (xs X)) (hk : AtO Z k 2) (d : decode cc pc = .ok (.getfield 72, 3)) (hn : pc + 3 = n) (kk : GS Z X n lv (.int (M k 8) :: rest) M) : GS Z X pc lv (.ref (zb Z + k) :: rest) M := g_getN 8 C E rfl inB2 (by decide) wn_121 hk rfl d hn kk
theorem wn_112 : Cond.fieldLinkNest RX3 73 (TX2 4).1 (TX2 4).2.1 (TX2 4).2.2.1 "NextBellboy" ∈ NWL := nw_t 112 (by decide +kernel) rfl
theorem gf_X3_73 {Z : ZT} {X : XT} {cc : ByteArray} {nL fr lo pc n : Nat} {lv : List (Nat × Value)} {rest : List Value} {M : Mem} {k : Nat} (q : Nat) (C : CX X cc RX3 nL fr lo) (E : EX Z (xs X)) (hk : AtO Z k 2) (hq : k + 4 = q) (d : decode cc pc = .ok (.getfield 73, 3)) (hn : pc + 3 = n) (kk : GS Z X n lv (.ref (zb Z + q) :: rest) M) : GS Z X pc lv (.ref (zb Z + k) :: rest) M := by
  subst hq
  exact g_getN 4 C E rfl inB2 (by decide) wn_112 hk rfl d hn kk
theorem wn_124 : Cond.fieldLinkNest RX3 74 (TX2 9).1 (TX2 9).2.1 (TX2 9).2.2.1 "NextBellboy" ∈ NWL := nw_t 124 (by decide +kernel) rfl
theorem gf_X3_74 {Z : ZT} {X : XT} {cc : ByteArray} {nL fr lo pc n : Nat} {lv : List (Nat × Value)} {rest : List Value} {M : Mem} {k : Nat} (C : CX X cc RX3 nL fr lo) (E : EX Z (xs X)) (hk : AtO Z k 2) (d : decode cc pc = .ok (.getfield 74, 3)) (hn : pc + 3 = n) (kk : GS Z X n lv (.int (M k 9) :: rest) M) : GS Z X pc lv (.ref (zb Z + k) :: rest) M := g_getN 9 C E rfl inB2 (by decide) wn_124 hk rfl d hn kk
theorem wn_63 : Cond.fieldLinkNest RX3 92 (TX4 4).1 (TX4 4).2.1 (TX4 4).2.2.1 "NextBellboy" ∈ NWL := nw_t 63 (by decide +kernel) rfl
theorem gf_X3_92 {Z : ZT} {X : XT} {cc : ByteArray} {nL fr lo pc n : Nat} {lv : List (Nat × Value)} {rest : List Value} {M : Mem} {k : Nat} (q : Nat) (C : CX X cc RX3 nL fr lo) (E : EX Z (xs X)) (hk : AtO Z k 4) (hq : k + 5 = q) (d : decode cc pc = .ok (.getfield 92, 3)) (hn : pc + 3 = n) (kk : GS Z X n lv (.ref (zb Z + q) :: rest) M) : GS Z X pc lv (.ref (zb Z + k) :: rest) M := by
  subst hq
  exact g_getN 4 C E rfl inB4 (by decide) wn_63 hk rfl d hn kk
theorem wn_50 : Cond.fieldLinkNest RX3 95 (TX4 0).1 (TX4 0).2.1 (TX4 0).2.2.1 "NextBellboy" ∈ NWL := nw_t 50 (by decide +kernel) rfl
theorem gf_X3_95 {Z : ZT} {X : XT} {cc : ByteArray} {nL fr lo pc n : Nat} {lv : List (Nat × Value)} {rest : List Value} {M : Mem} {k : Nat} (q : Nat) (C : CX X cc RX3 nL fr lo) (E : EX Z (xs X)) (hk : AtO Z k 4) (hq : k + 1 = q) (d : decode cc pc = .ok (.getfield 95, 3)) (hn : pc + 3 = n) (kk : GS Z X n lv (.ref (zb Z + q) :: rest) M) : GS Z X pc lv (.ref (zb Z + k) :: rest) M := by
  subst hq
  exact g_getN 0 C E rfl inB4 (by decide) wn_50 hk rfl d hn kk
theorem wd_48 : Cond.fieldLink RX4 9 (TX4 0).1 (TX4 0).2.1 (TX4 0).2.2.1 ∈ BIG := big_t 48 (by decide +kernel) rfl
theorem gf_X4_9 {Z : ZT} {X : XT} {cc : ByteArray} {nL fr lo pc n : Nat} {lv : List (Nat × Value)} {rest : List Value} {M : Mem} {k : Nat} (q : Nat) (C : CX X cc RX4 nL fr lo) (E : EX Z (xs X)) (hk : AtO Z k 4) (hq : k + 1 = q) (d : decode cc pc = .ok (.getfield 9, 3)) (hn : pc + 3 = n) (kk : GS Z X n lv (.ref (zb Z + q) :: rest) M) : GS Z X pc lv (.ref (zb Z + k) :: rest) M := by
  subst hq
  exact g_get 0 C E rfl inB4 (by decide) wd_48 hk rfl d hn kk
theorem wd_53 : Cond.fieldLink RX4 15 (TX4 1).1 (TX4 1).2.1 (TX4 1).2.2.1 ∈ BIG := big_t 53 (by decide +kernel) rfl
theorem gf_X4_15 {Z : ZT} {X : XT} {cc : ByteArray} {nL fr lo pc n : Nat} {lv : List (Nat × Value)} {rest : List Value} {M : Mem} {k : Nat} (q : Nat) (C : CX X cc RX4 nL fr lo) (E : EX Z (xs X)) (hk : AtO Z k 4) (hq : k + 2 = q) (d : decode cc pc = .ok (.getfield 15, 3)) (hn : pc + 3 = n) (kk : GS Z X n lv (.ref (zb Z + q) :: rest) M) : GS Z X pc lv (.ref (zb Z + k) :: rest) M := by
  subst hq
  exact g_get 1 C E rfl inB4 (by decide) wd_53 hk rfl d hn kk
theorem wd_55 : Cond.fieldLink RX4 18 (TX4 2).1 (TX4 2).2.1 (TX4 2).2.2.1 ∈ BIG := big_t 55 (by decide +kernel) rfl
theorem gf_X4_18 {Z : ZT} {X : XT} {cc : ByteArray} {nL fr lo pc n : Nat} {lv : List (Nat × Value)} {rest : List Value} {M : Mem} {k : Nat} (q : Nat) (C : CX X cc RX4 nL fr lo) (E : EX Z (xs X)) (hk : AtO Z k 4) (hq : k + 3 = q) (d : decode cc pc = .ok (.getfield 18, 3)) (hn : pc + 3 = n) (kk : GS Z X n lv (.ref (zb Z + q) :: rest) M) : GS Z X pc lv (.ref (zb Z + k) :: rest) M := by
  subst hq
  exact g_get 2 C E rfl inB4 (by decide) wd_55 hk rfl d hn kk
theorem wd_58 : Cond.fieldLink RX4 21 (TX4 3).1 (TX4 3).2.1 (TX4 3).2.2.1 ∈ BIG := big_t 58 (by decide +kernel) rfl
theorem gf_X4_21 {Z : ZT} {X : XT} {cc : ByteArray} {nL fr lo pc n : Nat} {lv : List (Nat × Value)} {rest : List Value} {M : Mem} {k : Nat} (q : Nat) (C : CX X cc RX4 nL fr lo) (E : EX Z (xs X)) (hk : AtO Z k 4) (hq : k + 4 = q) (d : decode cc pc = .ok (.getfield 21, 3)) (hn : pc + 3 = n) (kk : GS Z X n lv (.ref (zb Z + q) :: rest) M) : GS Z X pc lv (.ref (zb Z + k) :: rest) M := by
  subst hq
  exact g_get 3 C E rfl inB4 (by decide) wd_58 hk rfl d hn kk
theorem wd_62 : Cond.fieldLink RX4 24 (TX4 4).1 (TX4 4).2.1 (TX4 4).2.2.1 ∈ BIG := big_t 62 (by decide +kernel) rfl
theorem gf_X4_24 {Z : ZT} {X : XT} {cc : ByteArray} {nL fr lo pc n : Nat} {lv : List (Nat × Value)} {rest : List Value} {M : Mem} {k : Nat} (q : Nat) (C : CX X cc RX4 nL fr lo) (E : EX Z (xs X)) (hk : AtO Z k 4) (hq : k + 5 = q) (d : decode cc pc = .ok (.getfield 24, 3)) (hn : pc + 3 = n) (kk : GS Z X n lv (.ref (zb Z + q) :: rest) M) : GS Z X pc lv (.ref (zb Z + k) :: rest) M := by
  subst hq
  exact g_get 4 C E rfl inB4 (by decide) wd_62 hk rfl d hn kk
theorem wd_66 : Cond.fieldLink RX4 27 (TX4 5).1 (TX4 5).2.1 (TX4 5).2.2.1 ∈ BIG := big_t 66 (by decide +kernel) rfl
theorem gf_X4_27 {Z : ZT} {X : XT} {cc : ByteArray} {nL fr lo pc n : Nat} {lv : List (Nat × Value)} {rest : List Value} {M : Mem} {k : Nat} (q : Nat) (C : CX X cc RX4 nL fr lo) (E : EX Z (xs X)) (hk : AtO Z k 4) (hq : k + 6 = q) (d : decode cc pc = .ok (.getfield 27, 3)) (hn : pc + 3 = n) (kk : GS Z X n lv (.ref (zb Z + q) :: rest) M) : GS Z X pc lv (.ref (zb Z + k) :: rest) M := by
  subst hq
  exact g_get 5 C E rfl inB4 (by decide) wd_66 hk rfl d hn kk
theorem wd_68 : Cond.fieldLink RX4 30 (TX4 6).1 (TX4 6).2.1 (TX4 6).2.2.1 ∈ BIG := big_t 68 (by decide +kernel) rfl
theorem gf_X4_30 {Z : ZT} {X : XT} {cc : ByteArray} {nL fr lo pc n : Nat} {lv : List (Nat × Value)} {rest : List Value} {M : Mem} {k : Nat} (C : CX X cc RX4 nL fr lo) (E : EX Z (xs X)) (hk : AtO Z k 4) (d : decode cc pc = .ok (.getfield 30, 3)) (hn : pc + 3 = n) (kk : GS Z X n lv (.int (M k 6) :: rest) M) : GS Z X pc lv (.ref (zb Z + k) :: rest) M := g_get 6 C E rfl inB4 (by decide) wd_68 hk rfl d hn kk
theorem wd_75 : Cond.fieldLink RX4 34 (TX4 7).1 (TX4 7).2.1 (TX4 7).2.2.1 ∈ BIG := big_t 75 (by decide +kernel) rfl
theorem gf_X4_34 {Z : ZT} {X : XT} {cc : ByteArray} {nL fr lo pc n : Nat} {lv : List (Nat × Value)} {rest : List Value} {M : Mem} {k : Nat} (C : CX X cc RX4 nL fr lo) (E : EX Z (xs X)) (hk : AtO Z k 4) (d : decode cc pc = .ok (.getfield 34, 3)) (hn : pc + 3 = n) (kk : GS Z X n lv (.int (M k 7) :: rest) M) : GS Z X pc lv (.ref (zb Z + k) :: rest) M := g_get 7 C E rfl inB4 (by decide) wd_75 hk rfl d hn kk
theorem wd_30 : Cond.fieldLink RX5 9 (TX5 0).1 (TX5 0).2.1 (TX5 0).2.2.1 ∈ BIG := big_t 30 (by decide +kernel) rfl
theorem gf_X5_9 {Z : ZT} {X : XT} {cc : ByteArray} {nL fr lo pc n : Nat} {lv : List (Nat × Value)} {rest : List Value} {M : Mem} {k : Nat} (q : Nat) (C : CX X cc RX5 nL fr lo) (E : EX Z (xs X)) (hk : AtO Z k 5) (hq : k + 1 = q) (d : decode cc pc = .ok (.getfield 9, 3)) (hn : pc + 3 = n) (kk : GS Z X n lv (.ref (zb Z + q) :: rest) M) : GS Z X pc lv (.ref (zb Z + k) :: rest) M := by
  subst hq
  exact g_get 0 C E rfl inB5 (by decide) wd_30 hk rfl d hn kk
theorem wd_31 : Cond.fieldLink RX5 15 (TX5 1).1 (TX5 1).2.1 (TX5 1).2.2.1 ∈ BIG := big_t 31 (by decide +kernel) rfl
theorem gf_X5_15 {Z : ZT} {X : XT} {cc : ByteArray} {nL fr lo pc n : Nat} {lv : List (Nat × Value)} {rest : List Value} {M : Mem} {k : Nat} (q : Nat) (C : CX X cc RX5 nL fr lo) (E : EX Z (xs X)) (hk : AtO Z k 5) (hq : k + 2 = q) (d : decode cc pc = .ok (.getfield 15, 3)) (hn : pc + 3 = n) (kk : GS Z X n lv (.ref (zb Z + q) :: rest) M) : GS Z X pc lv (.ref (zb Z + k) :: rest) M := by
  subst hq
  exact g_get 1 C E rfl inB5 (by decide) wd_31 hk rfl d hn kk
theorem wd_32 : Cond.fieldLink RX5 18 (TX5 2).1 (TX5 2).2.1 (TX5 2).2.2.1 ∈ BIG := big_t 32 (by decide +kernel) rfl
theorem gf_X5_18 {Z : ZT} {X : XT} {cc : ByteArray} {nL fr lo pc n : Nat} {lv : List (Nat × Value)} {rest : List Value} {M : Mem} {k : Nat} (C : CX X cc RX5 nL fr lo) (E : EX Z (xs X)) (hk : AtO Z k 5) (d : decode cc pc = .ok (.getfield 18, 3)) (hn : pc + 3 = n) (kk : GS Z X n lv (.int (M k 2) :: rest) M) : GS Z X pc lv (.ref (zb Z + k) :: rest) M := g_get 2 C E rfl inB5 (by decide) wd_32 hk rfl d hn kk
theorem wd_199 : Cond.fieldLink RX6 7 (TX6 1).1 (TX6 1).2.1 (TX6 1).2.2.1 ∈ BIG := big_t 199 (by decide +kernel) rfl
theorem gf_X6_7 {Z : ZT} {X : XT} {cc : ByteArray} {nL fr lo pc n : Nat} {lv : List (Nat × Value)} {rest : List Value} {M : Mem} {k : Nat} (C : CX X cc RX6 nL fr lo) (E : EX Z (xs X)) (hk : AtO Z k 6) (d : decode cc pc = .ok (.getfield 7, 3)) (hn : pc + 3 = n) (kk : GS Z X n lv (.int (M k 1) :: rest) M) : GS Z X pc lv (.ref (zb Z + k) :: rest) M := g_get 1 C E rfl inB6 (by decide) wd_199 hk rfl d hn kk
theorem wd_198 : Cond.fieldLink RX6 21 (TX6 0).1 (TX6 0).2.1 (TX6 0).2.2.1 ∈ BIG := big_t 198 (by decide +kernel) rfl
theorem gf_X6_21 {Z : ZT} {X : XT} {cc : ByteArray} {nL fr lo pc n : Nat} {lv : List (Nat × Value)} {rest : List Value} {M : Mem} {k : Nat} (q : Nat) (C : CX X cc RX6 nL fr lo) (E : EX Z (xs X)) (hk : AtO Z k 6) (hq : k + 1 = q) (d : decode cc pc = .ok (.getfield 21, 3)) (hn : pc + 3 = n) (kk : GS Z X n lv (.ref (zb Z + q) :: rest) M) : GS Z X pc lv (.ref (zb Z + k) :: rest) M := by
  subst hq
  exact g_get 0 C E rfl inB6 (by decide) wd_198 hk rfl d hn kk
theorem wd_258 : Cond.fieldLink RX7 9 (TX7 1).1 (TX7 1).2.1 (TX7 1).2.2.1 ∈ BIG := big_t 258 (by decide +kernel) rfl
theorem gf_X7_9 {Z : ZT} {X : XT} {cc : ByteArray} {nL fr lo pc n : Nat} {lv : List (Nat × Value)} {rest : List Value} {M : Mem} {k : Nat} (q : Nat) (C : CX X cc RX7 nL fr lo) (E : EX Z (xs X)) (hk : AtO Z k 7) (hq : k + 1 = q) (d : decode cc pc = .ok (.getfield 9, 3)) (hn : pc + 3 = n) (kk : GS Z X n lv (.ref (zb Z + q) :: rest) M) : GS Z X pc lv (.ref (zb Z + k) :: rest) M := by
  subst hq
  exact g_get 1 C E rfl inB7 (by decide) wd_258 hk rfl d hn kk
theorem wd_259 : Cond.fieldLink RX7 15 (TX7 2).1 (TX7 2).2.1 (TX7 2).2.2.1 ∈ BIG := big_t 259 (by decide +kernel) rfl
theorem gf_X7_15 {Z : ZT} {X : XT} {cc : ByteArray} {nL fr lo pc n : Nat} {lv : List (Nat × Value)} {rest : List Value} {M : Mem} {k : Nat} (q : Nat) (C : CX X cc RX7 nL fr lo) (E : EX Z (xs X)) (hk : AtO Z k 7) (hq : k + 2 = q) (d : decode cc pc = .ok (.getfield 15, 3)) (hn : pc + 3 = n) (kk : GS Z X n lv (.ref (zb Z + q) :: rest) M) : GS Z X pc lv (.ref (zb Z + k) :: rest) M := by
  subst hq
  exact g_get 2 C E rfl inB7 (by decide) wd_259 hk rfl d hn kk
theorem wd_260 : Cond.fieldLink RX7 18 (TX7 3).1 (TX7 3).2.1 (TX7 3).2.2.1 ∈ BIG := big_t 260 (by decide +kernel) rfl
theorem gf_X7_18 {Z : ZT} {X : XT} {cc : ByteArray} {nL fr lo pc n : Nat} {lv : List (Nat × Value)} {rest : List Value} {M : Mem} {k : Nat} (q : Nat) (C : CX X cc RX7 nL fr lo) (E : EX Z (xs X)) (hk : AtO Z k 7) (hq : k + 3 = q) (d : decode cc pc = .ok (.getfield 18, 3)) (hn : pc + 3 = n) (kk : GS Z X n lv (.ref (zb Z + q) :: rest) M) : GS Z X pc lv (.ref (zb Z + k) :: rest) M := by
  subst hq
  exact g_get 3 C E rfl inB7 (by decide) wd_260 hk rfl d hn kk
theorem wd_261 : Cond.fieldLink RX7 21 (TX7 4).1 (TX7 4).2.1 (TX7 4).2.2.1 ∈ BIG := big_t 261 (by decide +kernel) rfl
theorem gf_X7_21 {Z : ZT} {X : XT} {cc : ByteArray} {nL fr lo pc n : Nat} {lv : List (Nat × Value)} {rest : List Value} {M : Mem} {k : Nat} (q : Nat) (C : CX X cc RX7 nL fr lo) (E : EX Z (xs X)) (hk : AtO Z k 7) (hq : k + 4 = q) (d : decode cc pc = .ok (.getfield 21, 3)) (hn : pc + 3 = n) (kk : GS Z X n lv (.ref (zb Z + q) :: rest) M) : GS Z X pc lv (.ref (zb Z + k) :: rest) M := by
  subst hq
  exact g_get 4 C E rfl inB7 (by decide) wd_261 hk rfl d hn kk
theorem wd_262 : Cond.fieldLink RX7 24 (TX7 5).1 (TX7 5).2.1 (TX7 5).2.2.1 ∈ BIG := big_t 262 (by decide +kernel) rfl
theorem gf_X7_24 {Z : ZT} {X : XT} {cc : ByteArray} {nL fr lo pc n : Nat} {lv : List (Nat × Value)} {rest : List Value} {M : Mem} {k : Nat} (q : Nat) (C : CX X cc RX7 nL fr lo) (E : EX Z (xs X)) (hk : AtO Z k 7) (hq : k + 5 = q) (d : decode cc pc = .ok (.getfield 24, 3)) (hn : pc + 3 = n) (kk : GS Z X n lv (.ref (zb Z + q) :: rest) M) : GS Z X pc lv (.ref (zb Z + k) :: rest) M := by
  subst hq
  exact g_get 5 C E rfl inB7 (by decide) wd_262 hk rfl d hn kk
theorem wd_263 : Cond.fieldLink RX7 27 (TX7 6).1 (TX7 6).2.1 (TX7 6).2.2.1 ∈ BIG := big_t 263 (by decide +kernel) rfl
theorem gf_X7_27 {Z : ZT} {X : XT} {cc : ByteArray} {nL fr lo pc n : Nat} {lv : List (Nat × Value)} {rest : List Value} {M : Mem} {k : Nat} (C : CX X cc RX7 nL fr lo) (E : EX Z (xs X)) (hk : AtO Z k 7) (d : decode cc pc = .ok (.getfield 27, 3)) (hn : pc + 3 = n) (kk : GS Z X n lv (.int (M k 6) :: rest) M) : GS Z X pc lv (.ref (zb Z + k) :: rest) M := g_get 6 C E rfl inB7 (by decide) wd_263 hk rfl d hn kk
theorem wd_265 : Cond.fieldLink RX7 31 (TX7 7).1 (TX7 7).2.1 (TX7 7).2.2.1 ∈ BIG := big_t 265 (by decide +kernel) rfl
theorem gf_X7_31 {Z : ZT} {X : XT} {cc : ByteArray} {nL fr lo pc n : Nat} {lv : List (Nat × Value)} {rest : List Value} {M : Mem} {k : Nat} (C : CX X cc RX7 nL fr lo) (E : EX Z (xs X)) (hk : AtO Z k 7) (d : decode cc pc = .ok (.getfield 31, 3)) (hn : pc + 3 = n) (kk : GS Z X n lv (.int (M k 7) :: rest) M) : GS Z X pc lv (.ref (zb Z + k) :: rest) M := g_get 7 C E rfl inB7 (by decide) wd_265 hk rfl d hn kk
theorem wd_267 : Cond.fieldLink RX7 34 (TX7 8).1 (TX7 8).2.1 (TX7 8).2.2.1 ∈ BIG := big_t 267 (by decide +kernel) rfl
theorem gf_X7_34 {Z : ZT} {X : XT} {cc : ByteArray} {nL fr lo pc n : Nat} {lv : List (Nat × Value)} {rest : List Value} {M : Mem} {k : Nat} (C : CX X cc RX7 nL fr lo) (E : EX Z (xs X)) (hk : AtO Z k 7) (d : decode cc pc = .ok (.getfield 34, 3)) (hn : pc + 3 = n) (kk : GS Z X n lv (.int (M k 8) :: rest) M) : GS Z X pc lv (.ref (zb Z + k) :: rest) M := g_get 8 C E rfl inB7 (by decide) wd_267 hk rfl d hn kk
theorem wd_257 : Cond.fieldLink RX7 38 (TX7 0).1 (TX7 0).2.1 (TX7 0).2.2.1 ∈ BIG := big_t 257 (by decide +kernel) rfl
theorem gf_X7_38 {Z : ZT} {X : XT} {cc : ByteArray} {nL fr lo pc n : Nat} {lv : List (Nat × Value)} {rest : List Value} {M : Mem} {k : Nat} (C : CX X cc RX7 nL fr lo) (E : EX Z (xs X)) (hk : AtO Z k 7) (d : decode cc pc = .ok (.getfield 38, 3)) (hn : pc + 3 = n) (kk : GS Z X n lv (.ref (zb Z + 4) :: rest) M) : GS Z X pc lv (.ref (zb Z + k) :: rest) M := g_get 0 C E rfl inB7 (by decide) wd_257 hk rfl d hn kk
theorem wn_73 : Cond.fieldLinkNest RX7 48 (TX4 6).1 (TX4 6).2.1 (TX4 6).2.2.1 "NextBellboy" ∈ NWL := nw_t 73 (by decide +kernel) rfl
theorem gf_X7_48 {Z : ZT} {X : XT} {cc : ByteArray} {nL fr lo pc n : Nat} {lv : List (Nat × Value)} {rest : List Value} {M : Mem} {k : Nat} (C : CX X cc RX7 nL fr lo) (E : EX Z (xs X)) (hk : AtO Z k 4) (d : decode cc pc = .ok (.getfield 48, 3)) (hn : pc + 3 = n) (kk : GS Z X n lv (.int (M k 6) :: rest) M) : GS Z X pc lv (.ref (zb Z + k) :: rest) M := g_getN 6 C E rfl inB4 (by decide) wn_73 hk rfl d hn kk
theorem wn_60 : Cond.fieldLinkNest RX7 63 (TX4 3).1 (TX4 3).2.1 (TX4 3).2.2.1 "NextBellboy" ∈ NWL := nw_t 60 (by decide +kernel) rfl
theorem gf_X7_63 {Z : ZT} {X : XT} {cc : ByteArray} {nL fr lo pc n : Nat} {lv : List (Nat × Value)} {rest : List Value} {M : Mem} {k : Nat} (q : Nat) (C : CX X cc RX7 nL fr lo) (E : EX Z (xs X)) (hk : AtO Z k 4) (hq : k + 4 = q) (d : decode cc pc = .ok (.getfield 63, 3)) (hn : pc + 3 = n) (kk : GS Z X n lv (.ref (zb Z + q) :: rest) M) : GS Z X pc lv (.ref (zb Z + k) :: rest) M := by
  subst hq
  exact g_getN 3 C E rfl inB4 (by decide) wn_60 hk rfl d hn kk
theorem wn_52 : Cond.fieldLinkNest RX7 66 (TX4 0).1 (TX4 0).2.1 (TX4 0).2.2.1 "NextBellboy" ∈ NWL := nw_t 52 (by decide +kernel) rfl
theorem gf_X7_66 {Z : ZT} {X : XT} {cc : ByteArray} {nL fr lo pc n : Nat} {lv : List (Nat × Value)} {rest : List Value} {M : Mem} {k : Nat} (q : Nat) (C : CX X cc RX7 nL fr lo) (E : EX Z (xs X)) (hk : AtO Z k 4) (hq : k + 1 = q) (d : decode cc pc = .ok (.getfield 66, 3)) (hn : pc + 3 = n) (kk : GS Z X n lv (.ref (zb Z + q) :: rest) M) : GS Z X pc lv (.ref (zb Z + k) :: rest) M := by
  subst hq
  exact g_getN 0 C E rfl inB4 (by decide) wn_52 hk rfl d hn kk
theorem wd_817 : Cond.fieldLink RX9 7 (TX9 0).1 (TX9 0).2.1 (TX9 0).2.2.1 ∈ BIG := big_t 817 (by decide +kernel) rfl
theorem gf_X9_7 {Z : ZT} {X : XT} {cc : ByteArray} {nL fr lo pc n : Nat} {lv : List (Nat × Value)} {rest : List Value} {M : Mem} {k : Nat} (q : Nat) (C : CX X cc RX9 nL fr lo) (E : EX Z (xs X)) (hk : AtO Z k 9) (hq : k + 1 = q) (d : decode cc pc = .ok (.getfield 7, 3)) (hn : pc + 3 = n) (kk : GS Z X n lv (.ref (zb Z + q) :: rest) M) : GS Z X pc lv (.ref (zb Z + k) :: rest) M := by
  subst hq
  exact g_get 0 C E rfl inB9 (by decide) wd_817 hk rfl d hn kk
theorem wd_821 : Cond.fieldLink RX9 13 (TX9 4).1 (TX9 4).2.1 (TX9 4).2.2.1 ∈ BIG := big_t 821 (by decide +kernel) rfl
theorem gf_X9_13 {Z : ZT} {X : XT} {cc : ByteArray} {nL fr lo pc n : Nat} {lv : List (Nat × Value)} {rest : List Value} {M : Mem} {k : Nat} (q : Nat) (C : CX X cc RX9 nL fr lo) (E : EX Z (xs X)) (hk : AtO Z k 9) (hq : k + 2 = q) (d : decode cc pc = .ok (.getfield 13, 3)) (hn : pc + 3 = n) (kk : GS Z X n lv (.ref (zb Z + q) :: rest) M) : GS Z X pc lv (.ref (zb Z + k) :: rest) M := by
  subst hq
  exact g_get 4 C E rfl inB9 (by decide) wd_821 hk rfl d hn kk
theorem wd_822 : Cond.fieldLink RX9 16 (TX9 5).1 (TX9 5).2.1 (TX9 5).2.2.1 ∈ BIG := big_t 822 (by decide +kernel) rfl
theorem gf_X9_16 {Z : ZT} {X : XT} {cc : ByteArray} {nL fr lo pc n : Nat} {lv : List (Nat × Value)} {rest : List Value} {M : Mem} {k : Nat} (q : Nat) (C : CX X cc RX9 nL fr lo) (E : EX Z (xs X)) (hk : AtO Z k 9) (hq : k + 3 = q) (d : decode cc pc = .ok (.getfield 16, 3)) (hn : pc + 3 = n) (kk : GS Z X n lv (.ref (zb Z + q) :: rest) M) : GS Z X pc lv (.ref (zb Z + k) :: rest) M := by
  subst hq
  exact g_get 5 C E rfl inB9 (by decide) wd_822 hk rfl d hn kk
theorem wd_823 : Cond.fieldLink RX9 19 (TX9 6).1 (TX9 6).2.1 (TX9 6).2.2.1 ∈ BIG := big_t 823 (by decide +kernel) rfl
theorem gf_X9_19 {Z : ZT} {X : XT} {cc : ByteArray} {nL fr lo pc n : Nat} {lv : List (Nat × Value)} {rest : List Value} {M : Mem} {k : Nat} (q : Nat) (C : CX X cc RX9 nL fr lo) (E : EX Z (xs X)) (hk : AtO Z k 9) (hq : k + 4 = q) (d : decode cc pc = .ok (.getfield 19, 3)) (hn : pc + 3 = n) (kk : GS Z X n lv (.ref (zb Z + q) :: rest) M) : GS Z X pc lv (.ref (zb Z + k) :: rest) M := by
  subst hq
  exact g_get 6 C E rfl inB9 (by decide) wd_823 hk rfl d hn kk
theorem wd_824 : Cond.fieldLink RX9 22 (TX9 7).1 (TX9 7).2.1 (TX9 7).2.2.1 ∈ BIG := big_t 824 (by decide +kernel) rfl
theorem gf_X9_22 {Z : ZT} {X : XT} {cc : ByteArray} {nL fr lo pc n : Nat} {lv : List (Nat × Value)} {rest : List Value} {M : Mem} {k : Nat} (q : Nat) (C : CX X cc RX9 nL fr lo) (E : EX Z (xs X)) (hk : AtO Z k 9) (hq : k + 5 = q) (d : decode cc pc = .ok (.getfield 22, 3)) (hn : pc + 3 = n) (kk : GS Z X n lv (.ref (zb Z + q) :: rest) M) : GS Z X pc lv (.ref (zb Z + k) :: rest) M := by
  subst hq
  exact g_get 7 C E rfl inB9 (by decide) wd_824 hk rfl d hn kk
theorem wd_826 : Cond.fieldLink RX9 25 (TX9 9).1 (TX9 9).2.1 (TX9 9).2.2.1 ∈ BIG := big_t 826 (by decide +kernel) rfl
theorem gf_X9_25 {Z : ZT} {X : XT} {cc : ByteArray} {nL fr lo pc n : Nat} {lv : List (Nat × Value)} {rest : List Value} {M : Mem} {k : Nat} (q : Nat) (C : CX X cc RX9 nL fr lo) (E : EX Z (xs X)) (hk : AtO Z k 9) (hq : k + 6 = q) (d : decode cc pc = .ok (.getfield 25, 3)) (hn : pc + 3 = n) (kk : GS Z X n lv (.ref (zb Z + q) :: rest) M) : GS Z X pc lv (.ref (zb Z + k) :: rest) M := by
  subst hq
  exact g_get 9 C E rfl inB9 (by decide) wd_826 hk rfl d hn kk
theorem wd_827 : Cond.fieldLink RX9 28 (TX9 10).1 (TX9 10).2.1 (TX9 10).2.2.1 ∈ BIG := big_t 827 (by decide +kernel) rfl
theorem gf_X9_28 {Z : ZT} {X : XT} {cc : ByteArray} {nL fr lo pc n : Nat} {lv : List (Nat × Value)} {rest : List Value} {M : Mem} {k : Nat} (q : Nat) (C : CX X cc RX9 nL fr lo) (E : EX Z (xs X)) (hk : AtO Z k 9) (hq : k + 7 = q) (d : decode cc pc = .ok (.getfield 28, 3)) (hn : pc + 3 = n) (kk : GS Z X n lv (.ref (zb Z + q) :: rest) M) : GS Z X pc lv (.ref (zb Z + k) :: rest) M := by
  subst hq
  exact g_get 10 C E rfl inB9 (by decide) wd_827 hk rfl d hn kk
theorem wd_828 : Cond.fieldLink RX9 31 (TX9 11).1 (TX9 11).2.1 (TX9 11).2.2.1 ∈ BIG := big_t 828 (by decide +kernel) rfl
theorem gf_X9_31 {Z : ZT} {X : XT} {cc : ByteArray} {nL fr lo pc n : Nat} {lv : List (Nat × Value)} {rest : List Value} {M : Mem} {k : Nat} (q : Nat) (C : CX X cc RX9 nL fr lo) (E : EX Z (xs X)) (hk : AtO Z k 9) (hq : k + 8 = q) (d : decode cc pc = .ok (.getfield 31, 3)) (hn : pc + 3 = n) (kk : GS Z X n lv (.ref (zb Z + q) :: rest) M) : GS Z X pc lv (.ref (zb Z + k) :: rest) M := by
  subst hq
  exact g_get 11 C E rfl inB9 (by decide) wd_828 hk rfl d hn kk
theorem wd_833 : Cond.fieldLink RX9 34 (TX9 16).1 (TX9 16).2.1 (TX9 16).2.2.1 ∈ BIG := big_t 833 (by decide +kernel) rfl
theorem gf_X9_34 {Z : ZT} {X : XT} {cc : ByteArray} {nL fr lo pc n : Nat} {lv : List (Nat × Value)} {rest : List Value} {M : Mem} {k : Nat} (q : Nat) (C : CX X cc RX9 nL fr lo) (E : EX Z (xs X)) (hk : AtO Z k 9) (hq : k + 9 = q) (d : decode cc pc = .ok (.getfield 34, 3)) (hn : pc + 3 = n) (kk : GS Z X n lv (.ref (zb Z + q) :: rest) M) : GS Z X pc lv (.ref (zb Z + k) :: rest) M := by
  subst hq
  exact g_get 16 C E rfl inB9 (by decide) wd_833 hk rfl d hn kk
theorem wd_835 : Cond.fieldLink RX9 37 (TX9 18).1 (TX9 18).2.1 (TX9 18).2.2.1 ∈ BIG := big_t 835 (by decide +kernel) rfl
theorem gf_X9_37 {Z : ZT} {X : XT} {cc : ByteArray} {nL fr lo pc n : Nat} {lv : List (Nat × Value)} {rest : List Value} {M : Mem} {k : Nat} (q : Nat) (C : CX X cc RX9 nL fr lo) (E : EX Z (xs X)) (hk : AtO Z k 9) (hq : k + 10 = q) (d : decode cc pc = .ok (.getfield 37, 3)) (hn : pc + 3 = n) (kk : GS Z X n lv (.ref (zb Z + q) :: rest) M) : GS Z X pc lv (.ref (zb Z + k) :: rest) M := by
  subst hq
  exact g_get 18 C E rfl inB9 (by decide) wd_835 hk rfl d hn kk
theorem wd_836 : Cond.fieldLink RX9 40 (TX9 19).1 (TX9 19).2.1 (TX9 19).2.2.1 ∈ BIG := big_t 836 (by decide +kernel) rfl
theorem gf_X9_40 {Z : ZT} {X : XT} {cc : ByteArray} {nL fr lo pc n : Nat} {lv : List (Nat × Value)} {rest : List Value} {M : Mem} {k : Nat} (q : Nat) (C : CX X cc RX9 nL fr lo) (E : EX Z (xs X)) (hk : AtO Z k 9) (hq : k + 11 = q) (d : decode cc pc = .ok (.getfield 40, 3)) (hn : pc + 3 = n) (kk : GS Z X n lv (.ref (zb Z + q) :: rest) M) : GS Z X pc lv (.ref (zb Z + k) :: rest) M := by
  subst hq
  exact g_get 19 C E rfl inB9 (by decide) wd_836 hk rfl d hn kk
theorem wd_837 : Cond.fieldLink RX9 43 (TX9 20).1 (TX9 20).2.1 (TX9 20).2.2.1 ∈ BIG := big_t 837 (by decide +kernel) rfl
theorem gf_X9_43 {Z : ZT} {X : XT} {cc : ByteArray} {nL fr lo pc n : Nat} {lv : List (Nat × Value)} {rest : List Value} {M : Mem} {k : Nat} (q : Nat) (C : CX X cc RX9 nL fr lo) (E : EX Z (xs X)) (hk : AtO Z k 9) (hq : k + 12 = q) (d : decode cc pc = .ok (.getfield 43, 3)) (hn : pc + 3 = n) (kk : GS Z X n lv (.ref (zb Z + q) :: rest) M) : GS Z X pc lv (.ref (zb Z + k) :: rest) M := by
  subst hq
  exact g_get 20 C E rfl inB9 (by decide) wd_837 hk rfl d hn kk
theorem wd_838 : Cond.fieldLink RX9 46 (TX9 21).1 (TX9 21).2.1 (TX9 21).2.2.1 ∈ BIG := big_t 838 (by decide +kernel) rfl
theorem gf_X9_46 {Z : ZT} {X : XT} {cc : ByteArray} {nL fr lo pc n : Nat} {lv : List (Nat × Value)} {rest : List Value} {M : Mem} {k : Nat} (q : Nat) (C : CX X cc RX9 nL fr lo) (E : EX Z (xs X)) (hk : AtO Z k 9) (hq : k + 13 = q) (d : decode cc pc = .ok (.getfield 46, 3)) (hn : pc + 3 = n) (kk : GS Z X n lv (.ref (zb Z + q) :: rest) M) : GS Z X pc lv (.ref (zb Z + k) :: rest) M := by
  subst hq
  exact g_get 21 C E rfl inB9 (by decide) wd_838 hk rfl d hn kk
theorem wd_839 : Cond.fieldLink RX9 49 (TX9 22).1 (TX9 22).2.1 (TX9 22).2.2.1 ∈ BIG := big_t 839 (by decide +kernel) rfl
theorem gf_X9_49 {Z : ZT} {X : XT} {cc : ByteArray} {nL fr lo pc n : Nat} {lv : List (Nat × Value)} {rest : List Value} {M : Mem} {k : Nat} (q : Nat) (C : CX X cc RX9 nL fr lo) (E : EX Z (xs X)) (hk : AtO Z k 9) (hq : k + 14 = q) (d : decode cc pc = .ok (.getfield 49, 3)) (hn : pc + 3 = n) (kk : GS Z X n lv (.ref (zb Z + q) :: rest) M) : GS Z X pc lv (.ref (zb Z + k) :: rest) M := by
  subst hq
  exact g_get 22 C E rfl inB9 (by decide) wd_839 hk rfl d hn kk
theorem wd_840 : Cond.fieldLink RX9 52 (TX9 23).1 (TX9 23).2.1 (TX9 23).2.2.1 ∈ BIG := big_t 840 (by decide +kernel) rfl
theorem gf_X9_52 {Z : ZT} {X : XT} {cc : ByteArray} {nL fr lo pc n : Nat} {lv : List (Nat × Value)} {rest : List Value} {M : Mem} {k : Nat} (q : Nat) (C : CX X cc RX9 nL fr lo) (E : EX Z (xs X)) (hk : AtO Z k 9) (hq : k + 15 = q) (d : decode cc pc = .ok (.getfield 52, 3)) (hn : pc + 3 = n) (kk : GS Z X n lv (.ref (zb Z + q) :: rest) M) : GS Z X pc lv (.ref (zb Z + k) :: rest) M := by
  subst hq
  exact g_get 23 C E rfl inB9 (by decide) wd_840 hk rfl d hn kk
theorem wd_820 : Cond.fieldLink RX9 69 (TX9 3).1 (TX9 3).2.1 (TX9 3).2.2.1 ∈ BIG := big_t 820 (by decide +kernel) rfl
theorem gf_X9_69 {Z : ZT} {X : XT} {cc : ByteArray} {nL fr lo pc n : Nat} {lv : List (Nat × Value)} {rest : List Value} {M : Mem} {k : Nat} (C : CX X cc RX9 nL fr lo) (E : EX Z (xs X)) (hk : AtO Z k 9) (d : decode cc pc = .ok (.getfield 69, 3)) (hn : pc + 3 = n) (kk : GS Z X n lv (.int (M k 3) :: rest) M) : GS Z X pc lv (.ref (zb Z + k) :: rest) M := g_get 3 C E rfl inB9 (by decide) wd_820 hk rfl d hn kk
theorem wd_832 : Cond.fieldLink RX9 77 (TX9 15).1 (TX9 15).2.1 (TX9 15).2.2.1 ∈ BIG := big_t 832 (by decide +kernel) rfl
theorem gf_X9_77 {Z : ZT} {X : XT} {cc : ByteArray} {nL fr lo pc n : Nat} {lv : List (Nat × Value)} {rest : List Value} {M : Mem} {k : Nat} (C : CX X cc RX9 nL fr lo) (E : EX Z (xs X)) (hk : AtO Z k 9) (d : decode cc pc = .ok (.getfield 77, 3)) (hn : pc + 3 = n) (kk : GS Z X n lv (.int (M k 15) :: rest) M) : GS Z X pc lv (.ref (zb Z + k) :: rest) M := g_get 15 C E rfl inB9 (by decide) wd_832 hk rfl d hn kk
theorem wd_834 : Cond.fieldLink RX9 80 (TX9 17).1 (TX9 17).2.1 (TX9 17).2.2.1 ∈ BIG := big_t 834 (by decide +kernel) rfl
theorem gf_X9_80 {Z : ZT} {X : XT} {cc : ByteArray} {nL fr lo pc n : Nat} {lv : List (Nat × Value)} {rest : List Value} {M : Mem} {k : Nat} (C : CX X cc RX9 nL fr lo) (E : EX Z (xs X)) (hk : AtO Z k 9) (d : decode cc pc = .ok (.getfield 80, 3)) (hn : pc + 3 = n) (kk : GS Z X n lv (.int (M k 17) :: rest) M) : GS Z X pc lv (.ref (zb Z + k) :: rest) M := g_get 17 C E rfl inB9 (by decide) wd_834 hk rfl d hn kk
theorem wd_818 : Cond.fieldLink RX9 83 (TX9 1).1 (TX9 1).2.1 (TX9 1).2.2.1 ∈ BIG := big_t 818 (by decide +kernel) rfl
theorem gf_X9_83 {Z : ZT} {X : XT} {cc : ByteArray} {nL fr lo pc n : Nat} {lv : List (Nat × Value)} {rest : List Value} {M : Mem} {k : Nat} (C : CX X cc RX9 nL fr lo) (E : EX Z (xs X)) (hk : AtO Z k 9) (d : decode cc pc = .ok (.getfield 83, 3)) (hn : pc + 3 = n) (kk : GS Z X n lv (.int (M k 1) :: rest) M) : GS Z X pc lv (.ref (zb Z + k) :: rest) M := g_get 1 C E rfl inB9 (by decide) wd_818 hk rfl d hn kk
theorem wd_819 : Cond.fieldLink RX9 86 (TX9 2).1 (TX9 2).2.1 (TX9 2).2.2.1 ∈ BIG := big_t 819 (by decide +kernel) rfl
theorem gf_X9_86 {Z : ZT} {X : XT} {cc : ByteArray} {nL fr lo pc n : Nat} {lv : List (Nat × Value)} {rest : List Value} {M : Mem} {k : Nat} (C : CX X cc RX9 nL fr lo) (E : EX Z (xs X)) (hk : AtO Z k 9) (d : decode cc pc = .ok (.getfield 86, 3)) (hn : pc + 3 = n) (kk : GS Z X n lv (.int (M k 2) :: rest) M) : GS Z X pc lv (.ref (zb Z + k) :: rest) M := g_get 2 C E rfl inB9 (by decide) wd_819 hk rfl d hn kk
theorem wd_825 : Cond.fieldLink RX9 89 (TX9 8).1 (TX9 8).2.1 (TX9 8).2.2.1 ∈ BIG := big_t 825 (by decide +kernel) rfl
theorem gf_X9_89 {Z : ZT} {X : XT} {cc : ByteArray} {nL fr lo pc n : Nat} {lv : List (Nat × Value)} {rest : List Value} {M : Mem} {k : Nat} (C : CX X cc RX9 nL fr lo) (E : EX Z (xs X)) (hk : AtO Z k 9) (d : decode cc pc = .ok (.getfield 89, 3)) (hn : pc + 3 = n) (kk : GS Z X n lv (.int (M k 8) :: rest) M) : GS Z X pc lv (.ref (zb Z + k) :: rest) M := g_get 8 C E rfl inB9 (by decide) wd_825 hk rfl d hn kk
theorem wd_829 : Cond.fieldLink RX9 96 (TX9 12).1 (TX9 12).2.1 (TX9 12).2.2.1 ∈ BIG := big_t 829 (by decide +kernel) rfl
theorem gf_X9_96 {Z : ZT} {X : XT} {cc : ByteArray} {nL fr lo pc n : Nat} {lv : List (Nat × Value)} {rest : List Value} {M : Mem} {k : Nat} (C : CX X cc RX9 nL fr lo) (E : EX Z (xs X)) (hk : AtO Z k 9) (d : decode cc pc = .ok (.getfield 96, 3)) (hn : pc + 3 = n) (kk : GS Z X n lv (.int (M k 12) :: rest) M) : GS Z X pc lv (.ref (zb Z + k) :: rest) M := g_get 12 C E rfl inB9 (by decide) wd_829 hk rfl d hn kk
theorem wd_830 : Cond.fieldLink RX9 99 (TX9 13).1 (TX9 13).2.1 (TX9 13).2.2.1 ∈ BIG := big_t 830 (by decide +kernel) rfl
theorem gf_X9_99 {Z : ZT} {X : XT} {cc : ByteArray} {nL fr lo pc n : Nat} {lv : List (Nat × Value)} {rest : List Value} {M : Mem} {k : Nat} (C : CX X cc RX9 nL fr lo) (E : EX Z (xs X)) (hk : AtO Z k 9) (d : decode cc pc = .ok (.getfield 99, 3)) (hn : pc + 3 = n) (kk : GS Z X n lv (.int (M k 13) :: rest) M) : GS Z X pc lv (.ref (zb Z + k) :: rest) M := g_get 13 C E rfl inB9 (by decide) wd_830 hk rfl d hn kk
theorem wd_831 : Cond.fieldLink RX9 102 (TX9 14).1 (TX9 14).2.1 (TX9 14).2.2.1 ∈ BIG := big_t 831 (by decide +kernel) rfl
theorem gf_X9_102 {Z : ZT} {X : XT} {cc : ByteArray} {nL fr lo pc n : Nat} {lv : List (Nat × Value)} {rest : List Value} {M : Mem} {k : Nat} (C : CX X cc RX9 nL fr lo) (E : EX Z (xs X)) (hk : AtO Z k 9) (d : decode cc pc = .ok (.getfield 102, 3)) (hn : pc + 3 = n) (kk : GS Z X n lv (.int (M k 14) :: rest) M) : GS Z X pc lv (.ref (zb Z + k) :: rest) M := g_get 14 C E rfl inB9 (by decide) wd_831 hk rfl d hn kk
theorem gp_X0_15 {Z : ZT} {X : XT} {cc : ByteArray} {nL fr lo pc n : Nat} {lv : List (Nat × Value)} {rest : List Value} {M : Mem} {k : Nat} {x : Int32} (C : CX X cc RX0 nL fr lo) (E : EX Z (xs X)) (hk : AtO Z k 0) (d : decode cc pc = .ok (.putfield 15, 3)) (hn : pc + 3 = n) (kk : ∀ M1 : Mem, M1 = mset M k 4 x → GS Z X n lv rest M1) : GS Z X pc lv (.int x :: .ref (zb Z + k) :: rest) M :=
  g_put 4 (ty := .int) C E rfl inB0 (by decide) wd_301 tyX0 tyX0_ok nmX0 rfl rfl rfl rfl (fun _ _ => rfl) (fun _ _ => Nat.le_of_ble_eq_true rfl) hk d hn kk
theorem gp_X0_19 {Z : ZT} {X : XT} {cc : ByteArray} {nL fr lo pc n : Nat} {lv : List (Nat × Value)} {rest : List Value} {M : Mem} {k : Nat} {x : Int32} (C : CX X cc RX0 nL fr lo) (E : EX Z (xs X)) (hk : AtO Z k 0) (d : decode cc pc = .ok (.putfield 19, 3)) (hn : pc + 3 = n) (kk : ∀ M1 : Mem, M1 = mset M k 5 x → GS Z X n lv rest M1) : GS Z X pc lv (.int x :: .ref (zb Z + k) :: rest) M :=
  g_put 5 (ty := .int) C E rfl inB0 (by decide) wd_302 tyX0 tyX0_ok nmX0 rfl rfl rfl rfl (fun _ _ => rfl) (fun _ _ => Nat.le_of_ble_eq_true rfl) hk d hn kk
theorem gp_X0_22 {Z : ZT} {X : XT} {cc : ByteArray} {nL fr lo pc n : Nat} {lv : List (Nat × Value)} {rest : List Value} {M : Mem} {k : Nat} {x : Int32} (C : CX X cc RX0 nL fr lo) (E : EX Z (xs X)) (hk : AtO Z k 0) (d : decode cc pc = .ok (.putfield 22, 3)) (hn : pc + 3 = n) (kk : ∀ M1 : Mem, M1 = mset M k 6 x → GS Z X n lv rest M1) : GS Z X pc lv (.int x :: .ref (zb Z + k) :: rest) M :=
  g_put 6 (ty := .int) C E rfl inB0 (by decide) wd_304 tyX0 tyX0_ok nmX0 rfl rfl rfl rfl (fun _ _ => rfl) (fun _ _ => Nat.le_of_ble_eq_true rfl) hk d hn kk
theorem gp_X1_21 {Z : ZT} {X : XT} {cc : ByteArray} {nL fr lo pc n : Nat} {lv : List (Nat × Value)} {rest : List Value} {M : Mem} {k : Nat} {x : Int32} (C : CX X cc RX1 nL fr lo) (E : EX Z (xs X)) (hk : AtO Z k 1) (d : decode cc pc = .ok (.putfield 21, 3)) (hn : pc + 3 = n) (kk : ∀ M1 : Mem, M1 = mset M k 6 x → GS Z X n lv rest M1) : GS Z X pc lv (.int x :: .ref (zb Z + k) :: rest) M :=
  g_put 6 (ty := .int) C E rfl inB1 (by decide) wd_222 tyX1 tyX1_ok nmX1 rfl rfl rfl rfl (fun _ _ => rfl) (fun _ _ => Nat.le_of_ble_eq_true rfl) hk d hn kk
theorem gp_X1_25 {Z : ZT} {X : XT} {cc : ByteArray} {nL fr lo pc n : Nat} {lv : List (Nat × Value)} {rest : List Value} {M : Mem} {k : Nat} {x : Int32} (C : CX X cc RX1 nL fr lo) (E : EX Z (xs X)) (hk : AtO Z k 1) (d : decode cc pc = .ok (.putfield 25, 3)) (hn : pc + 3 = n) (kk : ∀ M1 : Mem, M1 = mset M k 7 x → GS Z X n lv rest M1) : GS Z X pc lv (.int x :: .ref (zb Z + k) :: rest) M :=
  g_put 7 (ty := .int) C E rfl inB1 (by decide) wd_223 tyX1 tyX1_ok nmX1 rfl rfl rfl rfl (fun _ _ => rfl) (fun _ _ => Nat.le_of_ble_eq_true rfl) hk d hn kk
theorem gp_X1_28 {Z : ZT} {X : XT} {cc : ByteArray} {nL fr lo pc n : Nat} {lv : List (Nat × Value)} {rest : List Value} {M : Mem} {k : Nat} {x : Int32} (C : CX X cc RX1 nL fr lo) (E : EX Z (xs X)) (hk : AtO Z k 1) (d : decode cc pc = .ok (.putfield 28, 3)) (hn : pc + 3 = n) (kk : ∀ M1 : Mem, M1 = mset M k 8 x → GS Z X n lv rest M1) : GS Z X pc lv (.int x :: .ref (zb Z + k) :: rest) M :=
  g_put 8 (ty := .int) C E rfl inB1 (by decide) wd_224 tyX1 tyX1_ok nmX1 rfl rfl rfl rfl (fun _ _ => rfl) (fun _ _ => Nat.le_of_ble_eq_true rfl) hk d hn kk
theorem gp_X1_31 {Z : ZT} {X : XT} {cc : ByteArray} {nL fr lo pc n : Nat} {lv : List (Nat × Value)} {rest : List Value} {M : Mem} {k : Nat} {x : Int32} (C : CX X cc RX1 nL fr lo) (E : EX Z (xs X)) (hk : AtO Z k 1) (d : decode cc pc = .ok (.putfield 31, 3)) (hn : pc + 3 = n) (kk : ∀ M1 : Mem, M1 = mset M k 9 x → GS Z X n lv rest M1) : GS Z X pc lv (.int x :: .ref (zb Z + k) :: rest) M :=
  g_put 9 (ty := .int) C E rfl inB1 (by decide) wd_225 tyX1 tyX1_ok nmX1 rfl rfl rfl rfl (fun _ _ => rfl) (fun _ _ => Nat.le_of_ble_eq_true rfl) hk d hn kk
theorem gp_X1_34 {Z : ZT} {X : XT} {cc : ByteArray} {nL fr lo pc n : Nat} {lv : List (Nat × Value)} {rest : List Value} {M : Mem} {k : Nat} {x : Int32} (C : CX X cc RX1 nL fr lo) (E : EX Z (xs X)) (hk : AtO Z k 1) (hz : narrow .boolean (.int x) = .int x) (hz2 : fits .boolean (.int x) = true) (d : decode cc pc = .ok (.putfield 34, 3)) (hn : pc + 3 = n) (kk : ∀ M1 : Mem, M1 = mset M k 10 x → GS Z X n lv rest M1) : GS Z X pc lv (.int x :: .ref (zb Z + k) :: rest) M :=
  g_put 10 (ty := .boolean) C E rfl inB1 (by decide) wd_227 tyX1 tyX1_ok nmX1 rfl rfl hz hz2 (fun _ _ => rfl) (fun _ _ => Nat.le_of_ble_eq_true rfl) hk d hn kk
theorem gp_X2_33 {Z : ZT} {X : XT} {cc : ByteArray} {nL fr lo pc n : Nat} {lv : List (Nat × Value)} {rest : List Value} {M : Mem} {k : Nat} {x : Int32} (C : CX X cc RX2 nL fr lo) (E : EX Z (xs X)) (hk : AtO Z k 2) (d : decode cc pc = .ok (.putfield 33, 3)) (hn : pc + 3 = n) (kk : ∀ M1 : Mem, M1 = mset M k 8 x → GS Z X n lv rest M1) : GS Z X pc lv (.int x :: .ref (zb Z + k) :: rest) M :=
  g_put 8 (ty := .int) C E rfl inB2 (by decide) wd_120 tyX2 tyX2_ok nmX2 rfl rfl rfl rfl (fun _ _ => rfl) (fun _ _ => Nat.le_of_ble_eq_true rfl) hk d hn kk
theorem gp_X2_37 {Z : ZT} {X : XT} {cc : ByteArray} {nL fr lo pc n : Nat} {lv : List (Nat × Value)} {rest : List Value} {M : Mem} {k : Nat} {x : Int32} (C : CX X cc RX2 nL fr lo) (E : EX Z (xs X)) (hk : AtO Z k 2) (d : decode cc pc = .ok (.putfield 37, 3)) (hn : pc + 3 = n) (kk : ∀ M1 : Mem, M1 = mset M k 9 x → GS Z X n lv rest M1) : GS Z X pc lv (.int x :: .ref (zb Z + k) :: rest) M :=
  g_put 9 (ty := .int) C E rfl inB2 (by decide) wd_123 tyX2 tyX2_ok nmX2 rfl rfl rfl rfl (fun _ _ => rfl) (fun _ _ => Nat.le_of_ble_eq_true rfl) hk d hn kk
theorem gp_X3_27 {Z : ZT} {X : XT} {cc : ByteArray} {nL fr lo pc n : Nat} {lv : List (Nat × Value)} {rest : List Value} {M : Mem} {k : Nat} {x : Int32} (C : CX X cc RX3 nL fr lo) (E : EX Z (xs X)) (hk : AtO Z k 3) (d : decode cc pc = .ok (.putfield 27, 3)) (hn : pc + 3 = n) (kk : ∀ M1 : Mem, M1 = mset M k 6 x → GS Z X n lv rest M1) : GS Z X pc lv (.int x :: .ref (zb Z + k) :: rest) M :=
  g_put 6 (ty := .int) C E rfl inB3 (by decide) wd_162 tyX3 tyX3_ok nmX3 rfl rfl rfl rfl (fun _ _ => rfl) (fun _ _ => Nat.le_of_ble_eq_true rfl) hk d hn kk
theorem gp_X3_31 {Z : ZT} {X : XT} {cc : ByteArray} {nL fr lo pc n : Nat} {lv : List (Nat × Value)} {rest : List Value} {M : Mem} {k : Nat} {x : Int32} (C : CX X cc RX3 nL fr lo) (E : EX Z (xs X)) (hk : AtO Z k 3) (d : decode cc pc = .ok (.putfield 31, 3)) (hn : pc + 3 = n) (kk : ∀ M1 : Mem, M1 = mset M k 7 x → GS Z X n lv rest M1) : GS Z X pc lv (.int x :: .ref (zb Z + k) :: rest) M :=
  g_put 7 (ty := .int) C E rfl inB3 (by decide) wd_163 tyX3 tyX3_ok nmX3 rfl rfl rfl rfl (fun _ _ => rfl) (fun _ _ => Nat.le_of_ble_eq_true rfl) hk d hn kk
theorem gp_X3_34 {Z : ZT} {X : XT} {cc : ByteArray} {nL fr lo pc n : Nat} {lv : List (Nat × Value)} {rest : List Value} {M : Mem} {k : Nat} {x : Int32} (C : CX X cc RX3 nL fr lo) (E : EX Z (xs X)) (hk : AtO Z k 3) (d : decode cc pc = .ok (.putfield 34, 3)) (hn : pc + 3 = n) (kk : ∀ M1 : Mem, M1 = mset M k 8 x → GS Z X n lv rest M1) : GS Z X pc lv (.int x :: .ref (zb Z + k) :: rest) M :=
  g_put 8 (ty := .int) C E rfl inB3 (by decide) wd_164 tyX3 tyX3_ok nmX3 rfl rfl rfl rfl (fun _ _ => rfl) (fun _ _ => Nat.le_of_ble_eq_true rfl) hk d hn kk
theorem gp_X4_30 {Z : ZT} {X : XT} {cc : ByteArray} {nL fr lo pc n : Nat} {lv : List (Nat × Value)} {rest : List Value} {M : Mem} {k : Nat} {x : Int32} (C : CX X cc RX4 nL fr lo) (E : EX Z (xs X)) (hk : AtO Z k 4) (d : decode cc pc = .ok (.putfield 30, 3)) (hn : pc + 3 = n) (kk : ∀ M1 : Mem, M1 = mset M k 6 x → GS Z X n lv rest M1) : GS Z X pc lv (.int x :: .ref (zb Z + k) :: rest) M :=
  g_put 6 (ty := .int) C E rfl inB4 (by decide) wd_68 tyX4 tyX4_ok nmX4 rfl rfl rfl rfl (fun _ _ => rfl) (fun _ _ => Nat.le_of_ble_eq_true rfl) hk d hn kk
theorem gp_X4_34 {Z : ZT} {X : XT} {cc : ByteArray} {nL fr lo pc n : Nat} {lv : List (Nat × Value)} {rest : List Value} {M : Mem} {k : Nat} {x : Int32} (C : CX X cc RX4 nL fr lo) (E : EX Z (xs X)) (hk : AtO Z k 4) (d : decode cc pc = .ok (.putfield 34, 3)) (hn : pc + 3 = n) (kk : ∀ M1 : Mem, M1 = mset M k 7 x → GS Z X n lv rest M1) : GS Z X pc lv (.int x :: .ref (zb Z + k) :: rest) M :=
  g_put 7 (ty := .int) C E rfl inB4 (by decide) wd_75 tyX4 tyX4_ok nmX4 rfl rfl rfl rfl (fun _ _ => rfl) (fun _ _ => Nat.le_of_ble_eq_true rfl) hk d hn kk
theorem gp_X5_18 {Z : ZT} {X : XT} {cc : ByteArray} {nL fr lo pc n : Nat} {lv : List (Nat × Value)} {rest : List Value} {M : Mem} {k : Nat} {x : Int32} (C : CX X cc RX5 nL fr lo) (E : EX Z (xs X)) (hk : AtO Z k 5) (d : decode cc pc = .ok (.putfield 18, 3)) (hn : pc + 3 = n) (kk : ∀ M1 : Mem, M1 = mset M k 2 x → GS Z X n lv rest M1) : GS Z X pc lv (.int x :: .ref (zb Z + k) :: rest) M :=
  g_put 2 (ty := .int) C E rfl inB5 (by decide) wd_32 tyX5 tyX5_ok nmX5 rfl rfl rfl rfl (fun _ _ => rfl) (fun _ _ => Nat.le_of_ble_eq_true rfl) hk d hn kk
theorem gp_X6_7 {Z : ZT} {X : XT} {cc : ByteArray} {nL fr lo pc n : Nat} {lv : List (Nat × Value)} {rest : List Value} {M : Mem} {k : Nat} {x : Int32} (C : CX X cc RX6 nL fr lo) (E : EX Z (xs X)) (hk : AtO Z k 6) (d : decode cc pc = .ok (.putfield 7, 3)) (hn : pc + 3 = n) (kk : ∀ M1 : Mem, M1 = mset M k 1 x → GS Z X n lv rest M1) : GS Z X pc lv (.int x :: .ref (zb Z + k) :: rest) M :=
  g_put 1 (ty := .int) C E rfl inB6 (by decide) wd_199 tyX6 tyX6_ok nmX6 rfl rfl rfl rfl (fun _ _ => rfl) (fun _ _ => Nat.le_of_ble_eq_true rfl) hk d hn kk
theorem gp_X7_27 {Z : ZT} {X : XT} {cc : ByteArray} {nL fr lo pc n : Nat} {lv : List (Nat × Value)} {rest : List Value} {M : Mem} {k : Nat} {x : Int32} (C : CX X cc RX7 nL fr lo) (E : EX Z (xs X)) (hk : AtO Z k 7) (d : decode cc pc = .ok (.putfield 27, 3)) (hn : pc + 3 = n) (kk : ∀ M1 : Mem, M1 = mset M k 6 x → GS Z X n lv rest M1) : GS Z X pc lv (.int x :: .ref (zb Z + k) :: rest) M :=
  g_put 6 (ty := .int) C E rfl inB7 (by decide) wd_263 tyX7 tyX7_ok nmX7 rfl rfl rfl rfl (fun _ _ => rfl) (fun _ _ => Nat.le_of_ble_eq_true rfl) hk d hn kk
theorem gp_X7_31 {Z : ZT} {X : XT} {cc : ByteArray} {nL fr lo pc n : Nat} {lv : List (Nat × Value)} {rest : List Value} {M : Mem} {k : Nat} {x : Int32} (C : CX X cc RX7 nL fr lo) (E : EX Z (xs X)) (hk : AtO Z k 7) (d : decode cc pc = .ok (.putfield 31, 3)) (hn : pc + 3 = n) (kk : ∀ M1 : Mem, M1 = mset M k 7 x → GS Z X n lv rest M1) : GS Z X pc lv (.int x :: .ref (zb Z + k) :: rest) M :=
  g_put 7 (ty := .int) C E rfl inB7 (by decide) wd_265 tyX7 tyX7_ok nmX7 rfl rfl rfl rfl (fun _ _ => rfl) (fun _ _ => Nat.le_of_ble_eq_true rfl) hk d hn kk
theorem gp_X7_34 {Z : ZT} {X : XT} {cc : ByteArray} {nL fr lo pc n : Nat} {lv : List (Nat × Value)} {rest : List Value} {M : Mem} {k : Nat} {x : Int32} (C : CX X cc RX7 nL fr lo) (E : EX Z (xs X)) (hk : AtO Z k 7) (hz : narrow .boolean (.int x) = .int x) (hz2 : fits .boolean (.int x) = true) (d : decode cc pc = .ok (.putfield 34, 3)) (hn : pc + 3 = n) (kk : ∀ M1 : Mem, M1 = mset M k 8 x → GS Z X n lv rest M1) : GS Z X pc lv (.int x :: .ref (zb Z + k) :: rest) M :=
  g_put 8 (ty := .boolean) C E rfl inB7 (by decide) wd_267 tyX7 tyX7_ok nmX7 rfl rfl hz hz2 (fun _ _ => rfl) (fun _ _ => Nat.le_of_ble_eq_true rfl) hk d hn kk
theorem gp_X9_69 {Z : ZT} {X : XT} {cc : ByteArray} {nL fr lo pc n : Nat} {lv : List (Nat × Value)} {rest : List Value} {M : Mem} {k : Nat} {x : Int32} (C : CX X cc RX9 nL fr lo) (E : EX Z (xs X)) (hk : AtO Z k 9) (d : decode cc pc = .ok (.putfield 69, 3)) (hn : pc + 3 = n) (kk : ∀ M1 : Mem, M1 = mset M k 3 x → GS Z X n lv rest M1) : GS Z X pc lv (.int x :: .ref (zb Z + k) :: rest) M :=
  g_put 3 (ty := .int) C E rfl inB9 (by decide) wd_820 tyX9 tyX9_ok nmX9 rfl rfl rfl rfl (fun _ _ => rfl) (fun _ _ => Nat.le_of_ble_eq_true rfl) hk d hn kk
theorem gp_X9_77 {Z : ZT} {X : XT} {cc : ByteArray} {nL fr lo pc n : Nat} {lv : List (Nat × Value)} {rest : List Value} {M : Mem} {k : Nat} {x : Int32} (C : CX X cc RX9 nL fr lo) (E : EX Z (xs X)) (hk : AtO Z k 9) (d : decode cc pc = .ok (.putfield 77, 3)) (hn : pc + 3 = n) (kk : ∀ M1 : Mem, M1 = mset M k 15 x → GS Z X n lv rest M1) : GS Z X pc lv (.int x :: .ref (zb Z + k) :: rest) M :=
  g_put 15 (ty := .int) C E rfl inB9 (by decide) wd_832 tyX9 tyX9_ok nmX9 rfl rfl rfl rfl (fun _ _ => rfl) (fun _ _ => Nat.le_of_ble_eq_true rfl) hk d hn kk
theorem gp_X9_80 {Z : ZT} {X : XT} {cc : ByteArray} {nL fr lo pc n : Nat} {lv : List (Nat × Value)} {rest : List Value} {M : Mem} {k : Nat} {x : Int32} (C : CX X cc RX9 nL fr lo) (E : EX Z (xs X)) (hk : AtO Z k 9) (d : decode cc pc = .ok (.putfield 80, 3)) (hn : pc + 3 = n) (kk : ∀ M1 : Mem, M1 = mset M k 17 x → GS Z X n lv rest M1) : GS Z X pc lv (.int x :: .ref (zb Z + k) :: rest) M :=
  g_put 17 (ty := .int) C E rfl inB9 (by decide) wd_834 tyX9 tyX9_ok nmX9 rfl rfl rfl rfl (fun _ _ => rfl) (fun _ _ => Nat.le_of_ble_eq_true rfl) hk d hn kk
theorem gp_X9_83 {Z : ZT} {X : XT} {cc : ByteArray} {nL fr lo pc n : Nat} {lv : List (Nat × Value)} {rest : List Value} {M : Mem} {k : Nat} {x : Int32} (C : CX X cc RX9 nL fr lo) (E : EX Z (xs X)) (hk : AtO Z k 9) (d : decode cc pc = .ok (.putfield 83, 3)) (hn : pc + 3 = n) (kk : ∀ M1 : Mem, M1 = mset M k 1 x → GS Z X n lv rest M1) : GS Z X pc lv (.int x :: .ref (zb Z + k) :: rest) M :=
  g_put 1 (ty := .int) C E rfl inB9 (by decide) wd_818 tyX9 tyX9_ok nmX9 rfl rfl rfl rfl (fun _ _ => rfl) (fun _ _ => Nat.le_of_ble_eq_true rfl) hk d hn kk
theorem gp_X9_86 {Z : ZT} {X : XT} {cc : ByteArray} {nL fr lo pc n : Nat} {lv : List (Nat × Value)} {rest : List Value} {M : Mem} {k : Nat} {x : Int32} (C : CX X cc RX9 nL fr lo) (E : EX Z (xs X)) (hk : AtO Z k 9) (d : decode cc pc = .ok (.putfield 86, 3)) (hn : pc + 3 = n) (kk : ∀ M1 : Mem, M1 = mset M k 2 x → GS Z X n lv rest M1) : GS Z X pc lv (.int x :: .ref (zb Z + k) :: rest) M :=
  g_put 2 (ty := .int) C E rfl inB9 (by decide) wd_819 tyX9 tyX9_ok nmX9 rfl rfl rfl rfl (fun _ _ => rfl) (fun _ _ => Nat.le_of_ble_eq_true rfl) hk d hn kk
theorem gp_X9_89 {Z : ZT} {X : XT} {cc : ByteArray} {nL fr lo pc n : Nat} {lv : List (Nat × Value)} {rest : List Value} {M : Mem} {k : Nat} {x : Int32} (C : CX X cc RX9 nL fr lo) (E : EX Z (xs X)) (hk : AtO Z k 9) (d : decode cc pc = .ok (.putfield 89, 3)) (hn : pc + 3 = n) (kk : ∀ M1 : Mem, M1 = mset M k 8 x → GS Z X n lv rest M1) : GS Z X pc lv (.int x :: .ref (zb Z + k) :: rest) M :=
  g_put 8 (ty := .int) C E rfl inB9 (by decide) wd_825 tyX9 tyX9_ok nmX9 rfl rfl rfl rfl (fun _ _ => rfl) (fun _ _ => Nat.le_of_ble_eq_true rfl) hk d hn kk
theorem gp_X9_96 {Z : ZT} {X : XT} {cc : ByteArray} {nL fr lo pc n : Nat} {lv : List (Nat × Value)} {rest : List Value} {M : Mem} {k : Nat} {x : Int32} (C : CX X cc RX9 nL fr lo) (E : EX Z (xs X)) (hk : AtO Z k 9) (d : decode cc pc = .ok (.putfield 96, 3)) (hn : pc + 3 = n) (kk : ∀ M1 : Mem, M1 = mset M k 12 x → GS Z X n lv rest M1) : GS Z X pc lv (.int x :: .ref (zb Z + k) :: rest) M :=
  g_put 12 (ty := .int) C E rfl inB9 (by decide) wd_829 tyX9 tyX9_ok nmX9 rfl rfl rfl rfl (fun _ _ => rfl) (fun _ _ => Nat.le_of_ble_eq_true rfl) hk d hn kk
theorem gp_X9_99 {Z : ZT} {X : XT} {cc : ByteArray} {nL fr lo pc n : Nat} {lv : List (Nat × Value)} {rest : List Value} {M : Mem} {k : Nat} {x : Int32} (C : CX X cc RX9 nL fr lo) (E : EX Z (xs X)) (hk : AtO Z k 9) (d : decode cc pc = .ok (.putfield 99, 3)) (hn : pc + 3 = n) (kk : ∀ M1 : Mem, M1 = mset M k 13 x → GS Z X n lv rest M1) : GS Z X pc lv (.int x :: .ref (zb Z + k) :: rest) M :=
  g_put 13 (ty := .int) C E rfl inB9 (by decide) wd_830 tyX9 tyX9_ok nmX9 rfl rfl rfl rfl (fun _ _ => rfl) (fun _ _ => Nat.le_of_ble_eq_true rfl) hk d hn kk
theorem gp_X9_102 {Z : ZT} {X : XT} {cc : ByteArray} {nL fr lo pc n : Nat} {lv : List (Nat × Value)} {rest : List Value} {M : Mem} {k : Nat} {x : Int32} (C : CX X cc RX9 nL fr lo) (E : EX Z (xs X)) (hk : AtO Z k 9) (d : decode cc pc = .ok (.putfield 102, 3)) (hn : pc + 3 = n) (kk : ∀ M1 : Mem, M1 = mset M k 14 x → GS Z X n lv rest M1) : GS Z X pc lv (.int x :: .ref (zb Z + k) :: rest) M :=
  g_put 14 (ty := .int) C E rfl inB9 (by decide) wd_831 tyX9 tyX9_ok nmX9 rfl rfl rfl rfl (fun _ _ => rfl) (fun _ _ => Nat.le_of_ble_eq_true rfl) hk d hn kk
end
section
def B_Plan_has_i (a : Nat) (p1 : Int32) (post : Int32 → Mem → Prop)  (M : Mem)  : Prop :=
  (((p1 < 0) → post (0 : Int32) M) ∧ ((¬ p1 < 0) → ((((M a 6) ≤ p1) → post (0 : Int32) M) ∧ ((¬ (M a 6) ≤ p1) → ((((7 : Int32) ≤ p1) → post (0 : Int32) M) ∧ ((¬ (7 : Int32) ≤ p1) → post (1 : Int32) M))))))
def P_Plan_has (M : Mem) (a : Nat) (p1 : Int32) (post : Int32 → Mem → Prop) : Prop := B_Plan_has_i a p1 post M
set_option maxHeartbeats 4000000 in
set_option maxRecDepth 100000 in
theorem c_Plan_has {Z : ZT} (hZ : IsX Z) (l : Launch) (a : Nat) (ha : Hp a) (p1 : Int32) (M : Mem) (post : Int32 → Mem → Prop) (h : P_Plan_has M a p1 post) : CtI Z l yX4_has cX4_has 2 (some .boolean) 0 0 [.ref (zb Z + a), .int p1] M post := by
  refine ctI (own := RX4) rfl (by decide) (Nat.le_of_ble_eq_true rfl) (fun X C E hr hQ => ?_)
  unfold P_Plan_has at h
  unfold B_Plan_has_i at h
  show GS Z X 0 [(0, .ref (zb Z + a)), (1, .int p1)] [] M
  refine g_iload_n (n := 1) (i := 1) C dX4_has_0 rfl 1 rfl rfl ?_
  refine g_if_lt (n := 4) (tgt := 22) C dX4_has_1 (by decide) rfl (fun c => ?_) (fun c => ?_)
  · replace h := h.1 c
    refine g_iconst (n := 23) (0 : Int32) C dX4_has_22 (by decide) rfl ?_
    exact g_zret C hr hQ dX4_has_23 rfl h
  · replace h := h.2 c
    refine g_iload_n (n := 5) (i := 1) C dX4_has_4 rfl 1 rfl rfl ?_
    refine g_aload_n (n := 6) (i := 0) C dX4_has_5 rfl 0 rfl rfl ?_
    refine gf_X4_30 (n := 9) C E (Hp.o hZ ha) dX4_has_6 rfl ?_
    refine g_icmp_ge (n := 12) (tgt := 22) C dX4_has_9 (by decide) rfl (fun c => ?_) (fun c => ?_)
    · replace h := h.1 c
      refine g_iconst (n := 23) (0 : Int32) C dX4_has_22 (by decide) rfl ?_
      exact g_zret C hr hQ dX4_has_23 rfl h
    · replace h := h.2 c
      refine g_iload_n (n := 13) (i := 1) C dX4_has_12 rfl 1 rfl rfl ?_
      refine g_bipush (n := 15) (7 : Int32) C dX4_has_13 (by decide) rfl ?_
      refine g_icmp_ge (n := 18) (tgt := 22) C dX4_has_15 (by decide) rfl (fun c => ?_) (fun c => ?_)
      · replace h := h.1 c
        refine g_iconst (n := 23) (0 : Int32) C dX4_has_22 (by decide) rfl ?_
        exact g_zret C hr hQ dX4_has_23 rfl h
      · replace h := h.2 c
        refine g_iconst (n := 19) (1 : Int32) C dX4_has_18 (by decide) rfl ?_
        refine g_goto (tgt := 23) C dX4_has_19 (by decide) ?_
        exact g_zret C hr hQ dX4_has_23 rfl h
def B_Plan_clear_i (a : Nat) (post : Mem → Prop) (R12 : Mem → Int32 → Prop) (M : Mem)  : Prop :=
  ∀ M1 : Mem, M1 = mset M a 6 (0 : Int32) → ∀ M2 : Mem, M2 = mset M1 a 7 (0 : Int32) → ∀ z3 : Int32, z3 = (0 : Int32) → (R12 M2 z3)
def B_Plan_clear_12 (a : Nat) (post : Mem → Prop) (R12 : Mem → Int32 → Prop) (M : Mem) (x12_1 : Int32) : Prop :=
  ((((7 : Int32) ≤ x12_1) → post M) ∧ ((¬ (7 : Int32) ≤ x12_1) → vp_in x12_1 7 ∧ (∀ M4 : Mem, M4 = mset M (a + 6) (x12_1).toNatClampNeg (0 : Int32) → ∀ z5 : Int32, z5 = x12_1 + (1 : Int32) → (R12 M4 z5))))
def P_Plan_clear (M : Mem) (a : Nat) (post : Mem → Prop) : Prop :=
  ∀ (R12 : Mem → Int32 → Prop), (∀ (M : Mem) (x12_1 : Int32), B_Plan_clear_12 a post R12 M x12_1 → R12 M x12_1) → B_Plan_clear_i a post R12 M
set_option maxHeartbeats 4000000 in
set_option maxRecDepth 100000 in
theorem c_Plan_clear {Z : ZT} (hZ : IsX Z) (l : Launch) (a : Nat) (ha : Hp a) (M : Mem) (post : Mem → Prop) (h : P_Plan_clear M a post) : CtV Z l yX4_clear cX4_clear 2 none 0 0 [.ref (zb Z + a)] M post := by
  refine ctV (own := RX4) rfl (by decide) (Nat.le_of_ble_eq_true rfl) (fun X C E hr hQ => ?_)
  have s12 : ∀ (M : Mem) (x12_1 : Int32), B_Plan_clear_12 a post (fun (M : Mem) (x12_1 : Int32) => GS Z X 12 [(0, .ref (zb Z + a)), (1, .int x12_1)] [] M) M x12_1 → GS Z X 12 [(0, .ref (zb Z + a)), (1, .int x12_1)] [] M := by
    intro M x12_1 h
    unfold B_Plan_clear_12 at h
    refine g_iload_n (n := 13) (i := 1) C dX4_clear_12 rfl 1 rfl rfl ?_
    refine g_bipush (n := 15) (7 : Int32) C dX4_clear_13 (by decide) rfl ?_
    refine g_icmp_ge (n := 18) (tgt := 31) C dX4_clear_15 (by decide) rfl (fun c => ?_) (fun c => ?_)
    · replace h := h.1 c
      exact g_vret C hr hQ dX4_clear_31 h
    · replace h := h.2 c
      refine g_aload_n (n := 19) (i := 0) C dX4_clear_18 rfl 0 rfl rfl ?_
      refine gf_X4_27 (n := 22) (a + 6) C E (Hp.o hZ ha) rfl dX4_clear_19 rfl ?_
      refine g_iload_n (n := 23) (i := 1) C dX4_clear_22 rfl 1 rfl rfl ?_
      refine g_iconst (n := 24) (0 : Int32) C dX4_clear_23 (by decide) rfl ?_
      refine g_iast (n := 25) C E (Hp.f6 hZ ha) h.1 dX4_clear_24 rfl (fun M4 eM4 => ?_)
      replace h := h.2 M4 eM4
      refine g_iinc (n := 28) (v := (1 : Int32)) C dX4_clear_25 1 rfl (by decide) (Nat.le_of_ble_eq_true rfl) rfl rfl (fun z5 ez5 => ?_)
      replace h := h z5 ez5
      refine g_goto (tgt := 12) C dX4_clear_28 (by decide) ?_
      exact g_sub [1, 0] rfl h
  replace h := h (fun (M : Mem) (x12_1 : Int32) => GS Z X 12 [(0, .ref (zb Z + a)), (1, .int x12_1)] [] M) s12
  unfold B_Plan_clear_i at h
  show GS Z X 0 [(0, .ref (zb Z + a))] [] M
  refine g_aload_n (n := 1) (i := 0) C dX4_clear_0 rfl 0 rfl rfl ?_
  refine g_iconst (n := 2) (0 : Int32) C dX4_clear_1 (by decide) rfl ?_
  refine gp_X4_30 (n := 5) C E (Hp.o hZ ha) dX4_clear_2 rfl (fun M1 eM1 => ?_)
  replace h := h M1 eM1
  refine g_aload_n (n := 6) (i := 0) C dX4_clear_5 rfl 0 rfl rfl ?_
  refine g_iconst (n := 7) (0 : Int32) C dX4_clear_6 (by decide) rfl ?_
  refine gp_X4_34 (n := 10) C E (Hp.o hZ ha) dX4_clear_7 rfl (fun M2 eM2 => ?_)
  replace h := h M2 eM2
  refine g_iconst (n := 11) (0 : Int32) C dX4_clear_10 (by decide) rfl ?_
  refine g_istore_n (n := 12) (i := 1) C dX4_clear_11 rfl (Nat.le_of_ble_eq_true rfl) rfl rfl (fun z3 ez3 => ?_)
  replace h := h z3 ez3
  exact g_sub [1, 0] rfl h
def B_Plan_addGuest_i (a : Nat) (p1 : Nat) (post : Int32 → Mem → Prop)  (M : Mem)  : Prop :=
  ((((7 : Int32) ≤ (M a 6)) → post (0 : Int32) M) ∧ ((¬ (7 : Int32) ≤ (M a 6)) → ((((5 : Int32) ≤ (5 : Int32)) → vp_in (0 : Int32) 5 ∧ (vp_in (M a 6) 7 ∧ (∀ M1 : Mem, M1 = mset M (a + 1) ((M a 6)).toNatClampNeg (M p1 ((0 : Int32)).toNatClampNeg) → vp_in (1 : Int32) 5 ∧ (vp_in (M1 a 6) 7 ∧ (∀ M2 : Mem, M2 = mset M1 (a + 2) ((M1 a 6)).toNatClampNeg (M1 p1 ((1 : Int32)).toNatClampNeg) → vp_in (2 : Int32) 5 ∧ (vp_in (M2 a 6) 7 ∧ (∀ M3 : Mem, M3 = mset M2 (a + 3) ((M2 a 6)).toNatClampNeg (M2 p1 ((2 : Int32)).toNatClampNeg) → vp_in (3 : Int32) 5 ∧ (vp_in (M3 a 6) 7 ∧ (∀ M4 : Mem, M4 = mset M3 (a + 4) ((M3 a 6)).toNatClampNeg (M3 p1 ((3 : Int32)).toNatClampNeg) → vp_in (4 : Int32) 5 ∧ (vp_in (M4 a 6) 7 ∧ (∀ M5 : Mem, M5 = mset M4 (a + 5) ((M4 a 6)).toNatClampNeg (M4 p1 ((4 : Int32)).toNatClampNeg) → ∀ M6 : Mem, M6 = mset M5 a 6 ((M5 a 6) + (1 : Int32)) → post (1 : Int32) M6))))))))))) ∧ ((¬ (5 : Int32) ≤ (5 : Int32)) → post (0 : Int32) M))))
def P_Plan_addGuest (M : Mem) (a : Nat) (p1 : Nat) (post : Int32 → Mem → Prop) : Prop := B_Plan_addGuest_i a p1 post M
set_option maxHeartbeats 4000000 in
set_option maxRecDepth 100000 in
theorem c_Plan_addGuest {Z : ZT} (hZ : IsX Z) (l : Launch) (a : Nat) (ha : Hp a) (p1 : Nat) (hp1 : H5 p1) (M : Mem) (post : Int32 → Mem → Prop) (h : P_Plan_addGuest M a p1 post) : CtI Z l yX4_addGuest cX4_addGuest 2 (some .boolean) 0 0 [.ref (zb Z + a), .ref (zb Z + p1)] M post := by
  refine ctI (own := RX4) rfl (by decide) (Nat.le_of_ble_eq_true rfl) (fun X C E hr hQ => ?_)
  unfold P_Plan_addGuest at h
  unfold B_Plan_addGuest_i at h
  show GS Z X 0 [(0, .ref (zb Z + a)), (1, .ref (zb Z + p1))] [] M
  refine g_aload_n (n := 1) (i := 0) C dX4_addGuest_0 rfl 0 rfl rfl ?_
  refine gf_X4_30 (n := 4) C E (Hp.o hZ ha) dX4_addGuest_1 rfl ?_
  refine g_bipush (n := 6) (7 : Int32) C dX4_addGuest_4 (by decide) rfl ?_
  refine g_icmp_ge (n := 9) (tgt := 15) C dX4_addGuest_6 (by decide) rfl (fun c => ?_) (fun c => ?_)
  · replace h := h.1 c
    refine g_iconst (n := 16) (0 : Int32) C dX4_addGuest_15 (by decide) rfl ?_
    exact g_zret C hr hQ dX4_addGuest_16 rfl h
  · replace h := h.2 c
    refine g_aload_n (n := 10) (i := 1) C dX4_addGuest_9 rfl 1 rfl rfl ?_
    refine g_alen (n := 11) (5 : Int32) C E (H5.o hZ hp1) (by decide) dX4_addGuest_10 rfl ?_
    refine g_iconst (n := 12) (5 : Int32) C dX4_addGuest_11 (by decide) rfl ?_
    refine g_icmp_ge (n := 15) (tgt := 17) C dX4_addGuest_12 (by decide) rfl (fun c => ?_) (fun c => ?_)
    · replace h := h.1 c
      refine g_aload_n (n := 18) (i := 0) C dX4_addGuest_17 rfl 0 rfl rfl ?_
      refine gf_X4_9 (n := 21) (a + 1) C E (Hp.o hZ ha) rfl dX4_addGuest_18 rfl ?_
      refine g_aload_n (n := 22) (i := 0) C dX4_addGuest_21 rfl 0 rfl rfl ?_
      refine gf_X4_30 (n := 25) C E (Hp.o hZ ha) dX4_addGuest_22 rfl ?_
      refine g_aload_n (n := 26) (i := 1) C dX4_addGuest_25 rfl 1 rfl rfl ?_
      refine g_iconst (n := 27) (0 : Int32) C dX4_addGuest_26 (by decide) rfl ?_
      refine g_iald (n := 28) C E (H5.o hZ hp1) h.1 dX4_addGuest_27 rfl ?_
      replace h := h.2
      refine g_iast (n := 29) C E (Hp.f1 hZ ha) h.1 dX4_addGuest_28 rfl (fun M1 eM1 => ?_)
      replace h := h.2 M1 eM1
      refine g_aload_n (n := 30) (i := 0) C dX4_addGuest_29 rfl 0 rfl rfl ?_
      refine gf_X4_15 (n := 33) (a + 2) C E (Hp.o hZ ha) rfl dX4_addGuest_30 rfl ?_
      refine g_aload_n (n := 34) (i := 0) C dX4_addGuest_33 rfl 0 rfl rfl ?_
      refine gf_X4_30 (n := 37) C E (Hp.o hZ ha) dX4_addGuest_34 rfl ?_
      refine g_aload_n (n := 38) (i := 1) C dX4_addGuest_37 rfl 1 rfl rfl ?_
      refine g_iconst (n := 39) (1 : Int32) C dX4_addGuest_38 (by decide) rfl ?_
      refine g_iald (n := 40) C E (H5.o hZ hp1) h.1 dX4_addGuest_39 rfl ?_
      replace h := h.2
      refine g_iast (n := 41) C E (Hp.f2 hZ ha) h.1 dX4_addGuest_40 rfl (fun M2 eM2 => ?_)
      replace h := h.2 M2 eM2
      refine g_aload_n (n := 42) (i := 0) C dX4_addGuest_41 rfl 0 rfl rfl ?_
      refine gf_X4_18 (n := 45) (a + 3) C E (Hp.o hZ ha) rfl dX4_addGuest_42 rfl ?_
      refine g_aload_n (n := 46) (i := 0) C dX4_addGuest_45 rfl 0 rfl rfl ?_
      refine gf_X4_30 (n := 49) C E (Hp.o hZ ha) dX4_addGuest_46 rfl ?_
      refine g_aload_n (n := 50) (i := 1) C dX4_addGuest_49 rfl 1 rfl rfl ?_
      refine g_iconst (n := 51) (2 : Int32) C dX4_addGuest_50 (by decide) rfl ?_
      refine g_iald (n := 52) C E (H5.o hZ hp1) h.1 dX4_addGuest_51 rfl ?_
      replace h := h.2
      refine g_iast (n := 53) C E (Hp.f3 hZ ha) h.1 dX4_addGuest_52 rfl (fun M3 eM3 => ?_)
      replace h := h.2 M3 eM3
      refine g_aload_n (n := 54) (i := 0) C dX4_addGuest_53 rfl 0 rfl rfl ?_
      refine gf_X4_21 (n := 57) (a + 4) C E (Hp.o hZ ha) rfl dX4_addGuest_54 rfl ?_
      refine g_aload_n (n := 58) (i := 0) C dX4_addGuest_57 rfl 0 rfl rfl ?_
      refine gf_X4_30 (n := 61) C E (Hp.o hZ ha) dX4_addGuest_58 rfl ?_
      refine g_aload_n (n := 62) (i := 1) C dX4_addGuest_61 rfl 1 rfl rfl ?_
      refine g_iconst (n := 63) (3 : Int32) C dX4_addGuest_62 (by decide) rfl ?_
      refine g_iald (n := 64) C E (H5.o hZ hp1) h.1 dX4_addGuest_63 rfl ?_
      replace h := h.2
      refine g_iast (n := 65) C E (Hp.f4 hZ ha) h.1 dX4_addGuest_64 rfl (fun M4 eM4 => ?_)
      replace h := h.2 M4 eM4
      refine g_aload_n (n := 66) (i := 0) C dX4_addGuest_65 rfl 0 rfl rfl ?_
      refine gf_X4_24 (n := 69) (a + 5) C E (Hp.o hZ ha) rfl dX4_addGuest_66 rfl ?_
      refine g_aload_n (n := 70) (i := 0) C dX4_addGuest_69 rfl 0 rfl rfl ?_
      refine gf_X4_30 (n := 73) C E (Hp.o hZ ha) dX4_addGuest_70 rfl ?_
      refine g_aload_n (n := 74) (i := 1) C dX4_addGuest_73 rfl 1 rfl rfl ?_
      refine g_iconst (n := 75) (4 : Int32) C dX4_addGuest_74 (by decide) rfl ?_
      refine g_iald (n := 76) C E (H5.o hZ hp1) h.1 dX4_addGuest_75 rfl ?_
      replace h := h.2
      refine g_iast (n := 77) C E (Hp.f5 hZ ha) h.1 dX4_addGuest_76 rfl (fun M5 eM5 => ?_)
      replace h := h.2 M5 eM5
      refine g_aload_n (n := 78) (i := 0) C dX4_addGuest_77 rfl 0 rfl rfl ?_
      refine g_dup (n := 79) C dX4_addGuest_78 rfl rfl ?_
      refine gf_X4_30 (n := 82) C E (Hp.o hZ ha) dX4_addGuest_79 rfl ?_
      refine g_iconst (n := 83) (1 : Int32) C dX4_addGuest_82 (by decide) rfl ?_
      refine g_iadd (n := 84) C dX4_addGuest_83 rfl ?_
      refine gp_X4_30 (n := 87) C E (Hp.o hZ ha) dX4_addGuest_84 rfl (fun M6 eM6 => ?_)
      replace h := h M6 eM6
      refine g_iconst (n := 88) (1 : Int32) C dX4_addGuest_87 (by decide) rfl ?_
      exact g_zret C hr hQ dX4_addGuest_88 rfl h
    · replace h := h.2 c
      refine g_iconst (n := 16) (0 : Int32) C dX4_addGuest_15 (by decide) rfl ?_
      exact g_zret C hr hQ dX4_addGuest_16 rfl h
def B_Plan_addRoom_i (a : Nat) (p1 : Int32) (post : Int32 → Mem → Prop)  (M : Mem)  : Prop :=
  ((((M a 7) < (7 : Int32)) → vp_in (M a 7) 7 ∧ (∀ M1 : Mem, M1 = mset M (a + 6) ((M a 7)).toNatClampNeg p1 → ∀ M2 : Mem, M2 = mset M1 a 7 ((M1 a 7) + (1 : Int32)) → post (1 : Int32) M2)) ∧ ((¬ (M a 7) < (7 : Int32)) → post (0 : Int32) M))
def P_Plan_addRoom (M : Mem) (a : Nat) (p1 : Int32) (post : Int32 → Mem → Prop) : Prop := B_Plan_addRoom_i a p1 post M
set_option maxHeartbeats 4000000 in
set_option maxRecDepth 100000 in
theorem c_Plan_addRoom {Z : ZT} (hZ : IsX Z) (l : Launch) (a : Nat) (ha : Hp a) (p1 : Int32) (M : Mem) (post : Int32 → Mem → Prop) (h : P_Plan_addRoom M a p1 post) : CtI Z l yX4_addRoom cX4_addRoom 2 (some .boolean) 0 0 [.ref (zb Z + a), .int p1] M post := by
  refine ctI (own := RX4) rfl (by decide) (Nat.le_of_ble_eq_true rfl) (fun X C E hr hQ => ?_)
  unfold P_Plan_addRoom at h
  unfold B_Plan_addRoom_i at h
  show GS Z X 0 [(0, .ref (zb Z + a)), (1, .int p1)] [] M
  refine g_aload_n (n := 1) (i := 0) C dX4_addRoom_0 rfl 0 rfl rfl ?_
  refine gf_X4_34 (n := 4) C E (Hp.o hZ ha) dX4_addRoom_1 rfl ?_
  refine g_bipush (n := 6) (7 : Int32) C dX4_addRoom_4 (by decide) rfl ?_
  refine g_icmp_lt (n := 9) (tgt := 11) C dX4_addRoom_6 (by decide) rfl (fun c => ?_) (fun c => ?_)
  · replace h := h.1 c
    refine g_aload_n (n := 12) (i := 0) C dX4_addRoom_11 rfl 0 rfl rfl ?_
    refine gf_X4_27 (n := 15) (a + 6) C E (Hp.o hZ ha) rfl dX4_addRoom_12 rfl ?_
    refine g_aload_n (n := 16) (i := 0) C dX4_addRoom_15 rfl 0 rfl rfl ?_
    refine gf_X4_34 (n := 19) C E (Hp.o hZ ha) dX4_addRoom_16 rfl ?_
    refine g_iload_n (n := 20) (i := 1) C dX4_addRoom_19 rfl 1 rfl rfl ?_
    refine g_iast (n := 21) C E (Hp.f6 hZ ha) h.1 dX4_addRoom_20 rfl (fun M1 eM1 => ?_)
    replace h := h.2 M1 eM1
    refine g_aload_n (n := 22) (i := 0) C dX4_addRoom_21 rfl 0 rfl rfl ?_
    refine g_dup (n := 23) C dX4_addRoom_22 rfl rfl ?_
    refine gf_X4_34 (n := 26) C E (Hp.o hZ ha) dX4_addRoom_23 rfl ?_
    refine g_iconst (n := 27) (1 : Int32) C dX4_addRoom_26 (by decide) rfl ?_
    refine g_iadd (n := 28) C dX4_addRoom_27 rfl ?_
    refine gp_X4_34 (n := 31) C E (Hp.o hZ ha) dX4_addRoom_28 rfl (fun M2 eM2 => ?_)
    replace h := h M2 eM2
    refine g_iconst (n := 32) (1 : Int32) C dX4_addRoom_31 (by decide) rfl ?_
    exact g_zret C hr hQ dX4_addRoom_32 rfl h
  · replace h := h.2 c
    refine g_iconst (n := 10) (0 : Int32) C dX4_addRoom_9 (by decide) rfl ?_
    exact g_zret C hr hQ dX4_addRoom_10 rfl h
def B_Plan_copyFrom_i (a : Nat) (p1 : Nat) (post : Mem → Prop) (R18 : Mem → Int32 → Prop) (M : Mem)  : Prop :=
  ∀ M1 : Mem, M1 = mset M a 6 (M p1 6) → ∀ M2 : Mem, M2 = mset M1 a 7 (M1 p1 7) → ∀ z3 : Int32, z3 = (0 : Int32) → (R18 M2 z3)
def B_Plan_copyFrom_18 (a : Nat) (p1 : Nat) (post : Mem → Prop) (R18 : Mem → Int32 → Prop) (M : Mem) (x18_2 : Int32) : Prop :=
  ((((7 : Int32) ≤ x18_2) → post M) ∧ ((¬ (7 : Int32) ≤ x18_2) → vp_in x18_2 7 ∧ (vp_in x18_2 7 ∧ (∀ M4 : Mem, M4 = mset M (a + 1) (x18_2).toNatClampNeg (M (p1 + 1) (x18_2).toNatClampNeg) → vp_in x18_2 7 ∧ (vp_in x18_2 7 ∧ (∀ M5 : Mem, M5 = mset M4 (a + 2) (x18_2).toNatClampNeg (M4 (p1 + 2) (x18_2).toNatClampNeg) → vp_in x18_2 7 ∧ (vp_in x18_2 7 ∧ (∀ M6 : Mem, M6 = mset M5 (a + 3) (x18_2).toNatClampNeg (M5 (p1 + 3) (x18_2).toNatClampNeg) → vp_in x18_2 7 ∧ (vp_in x18_2 7 ∧ (∀ M7 : Mem, M7 = mset M6 (a + 4) (x18_2).toNatClampNeg (M6 (p1 + 4) (x18_2).toNatClampNeg) → vp_in x18_2 7 ∧ (vp_in x18_2 7 ∧ (∀ M8 : Mem, M8 = mset M7 (a + 5) (x18_2).toNatClampNeg (M7 (p1 + 5) (x18_2).toNatClampNeg) → vp_in x18_2 7 ∧ (vp_in x18_2 7 ∧ (∀ M9 : Mem, M9 = mset M8 (a + 6) (x18_2).toNatClampNeg (M8 (p1 + 6) (x18_2).toNatClampNeg) → ∀ z10 : Int32, z10 = x18_2 + (1 : Int32) → (R18 M9 z10)))))))))))))))
def P_Plan_copyFrom (M : Mem) (a : Nat) (p1 : Nat) (post : Mem → Prop) : Prop :=
  ∀ (R18 : Mem → Int32 → Prop), (∀ (M : Mem) (x18_2 : Int32), B_Plan_copyFrom_18 a p1 post R18 M x18_2 → R18 M x18_2) → B_Plan_copyFrom_i a p1 post R18 M
set_option maxHeartbeats 4000000 in
set_option maxRecDepth 100000 in
theorem c_Plan_copyFrom {Z : ZT} (hZ : IsX Z) (l : Launch) (a : Nat) (ha : Hp a) (p1 : Nat) (hp1 : Hp p1) (M : Mem) (post : Mem → Prop) (h : P_Plan_copyFrom M a p1 post) : CtV Z l yX4_copyFrom cX4_copyFrom 3 none 0 0 [.ref (zb Z + a), .ref (zb Z + p1)] M post := by
  refine ctV (own := RX4) rfl (by decide) (Nat.le_of_ble_eq_true rfl) (fun X C E hr hQ => ?_)
  have s18 : ∀ (M : Mem) (x18_2 : Int32), B_Plan_copyFrom_18 a p1 post (fun (M : Mem) (x18_2 : Int32) => GS Z X 18 [(0, .ref (zb Z + a)), (1, .ref (zb Z + p1)), (2, .int x18_2)] [] M) M x18_2 → GS Z X 18 [(0, .ref (zb Z + a)), (1, .ref (zb Z + p1)), (2, .int x18_2)] [] M := by
    intro M x18_2 h
    unfold B_Plan_copyFrom_18 at h
    refine g_iload_n (n := 19) (i := 2) C dX4_copyFrom_18 rfl 2 rfl rfl ?_
    refine g_bipush (n := 21) (7 : Int32) C dX4_copyFrom_19 (by decide) rfl ?_
    refine g_icmp_ge (n := 24) (tgt := 102) C dX4_copyFrom_21 (by decide) rfl (fun c => ?_) (fun c => ?_)
    · replace h := h.1 c
      exact g_vret C hr hQ dX4_copyFrom_102 h
    · replace h := h.2 c
      refine g_aload_n (n := 25) (i := 0) C dX4_copyFrom_24 rfl 0 rfl rfl ?_
      refine gf_X4_9 (n := 28) (a + 1) C E (Hp.o hZ ha) rfl dX4_copyFrom_25 rfl ?_
      refine g_iload_n (n := 29) (i := 2) C dX4_copyFrom_28 rfl 2 rfl rfl ?_
      refine g_aload_n (n := 30) (i := 1) C dX4_copyFrom_29 rfl 1 rfl rfl ?_
      refine gf_X4_9 (n := 33) (p1 + 1) C E (Hp.o hZ hp1) rfl dX4_copyFrom_30 rfl ?_
      refine g_iload_n (n := 34) (i := 2) C dX4_copyFrom_33 rfl 2 rfl rfl ?_
      refine g_iald (n := 35) C E (Hp.f1 hZ hp1) h.1 dX4_copyFrom_34 rfl ?_
      replace h := h.2
      refine g_iast (n := 36) C E (Hp.f1 hZ ha) h.1 dX4_copyFrom_35 rfl (fun M4 eM4 => ?_)
      replace h := h.2 M4 eM4
      refine g_aload_n (n := 37) (i := 0) C dX4_copyFrom_36 rfl 0 rfl rfl ?_
      refine gf_X4_15 (n := 40) (a + 2) C E (Hp.o hZ ha) rfl dX4_copyFrom_37 rfl ?_
      refine g_iload_n (n := 41) (i := 2) C dX4_copyFrom_40 rfl 2 rfl rfl ?_
      refine g_aload_n (n := 42) (i := 1) C dX4_copyFrom_41 rfl 1 rfl rfl ?_
      refine gf_X4_15 (n := 45) (p1 + 2) C E (Hp.o hZ hp1) rfl dX4_copyFrom_42 rfl ?_
      refine g_iload_n (n := 46) (i := 2) C dX4_copyFrom_45 rfl 2 rfl rfl ?_
      refine g_iald (n := 47) C E (Hp.f2 hZ hp1) h.1 dX4_copyFrom_46 rfl ?_
      replace h := h.2
      refine g_iast (n := 48) C E (Hp.f2 hZ ha) h.1 dX4_copyFrom_47 rfl (fun M5 eM5 => ?_)
      replace h := h.2 M5 eM5
      refine g_aload_n (n := 49) (i := 0) C dX4_copyFrom_48 rfl 0 rfl rfl ?_
      refine gf_X4_18 (n := 52) (a + 3) C E (Hp.o hZ ha) rfl dX4_copyFrom_49 rfl ?_
      refine g_iload_n (n := 53) (i := 2) C dX4_copyFrom_52 rfl 2 rfl rfl ?_
      refine g_aload_n (n := 54) (i := 1) C dX4_copyFrom_53 rfl 1 rfl rfl ?_
      refine gf_X4_18 (n := 57) (p1 + 3) C E (Hp.o hZ hp1) rfl dX4_copyFrom_54 rfl ?_
      refine g_iload_n (n := 58) (i := 2) C dX4_copyFrom_57 rfl 2 rfl rfl ?_
      refine g_iald (n := 59) C E (Hp.f3 hZ hp1) h.1 dX4_copyFrom_58 rfl ?_
      replace h := h.2
      refine g_iast (n := 60) C E (Hp.f3 hZ ha) h.1 dX4_copyFrom_59 rfl (fun M6 eM6 => ?_)
      replace h := h.2 M6 eM6
      refine g_aload_n (n := 61) (i := 0) C dX4_copyFrom_60 rfl 0 rfl rfl ?_
      refine gf_X4_21 (n := 64) (a + 4) C E (Hp.o hZ ha) rfl dX4_copyFrom_61 rfl ?_
      refine g_iload_n (n := 65) (i := 2) C dX4_copyFrom_64 rfl 2 rfl rfl ?_
      refine g_aload_n (n := 66) (i := 1) C dX4_copyFrom_65 rfl 1 rfl rfl ?_
      refine gf_X4_21 (n := 69) (p1 + 4) C E (Hp.o hZ hp1) rfl dX4_copyFrom_66 rfl ?_
      refine g_iload_n (n := 70) (i := 2) C dX4_copyFrom_69 rfl 2 rfl rfl ?_
      refine g_iald (n := 71) C E (Hp.f4 hZ hp1) h.1 dX4_copyFrom_70 rfl ?_
      replace h := h.2
      refine g_iast (n := 72) C E (Hp.f4 hZ ha) h.1 dX4_copyFrom_71 rfl (fun M7 eM7 => ?_)
      replace h := h.2 M7 eM7
      refine g_aload_n (n := 73) (i := 0) C dX4_copyFrom_72 rfl 0 rfl rfl ?_
      refine gf_X4_24 (n := 76) (a + 5) C E (Hp.o hZ ha) rfl dX4_copyFrom_73 rfl ?_
      refine g_iload_n (n := 77) (i := 2) C dX4_copyFrom_76 rfl 2 rfl rfl ?_
      refine g_aload_n (n := 78) (i := 1) C dX4_copyFrom_77 rfl 1 rfl rfl ?_
      refine gf_X4_24 (n := 81) (p1 + 5) C E (Hp.o hZ hp1) rfl dX4_copyFrom_78 rfl ?_
      refine g_iload_n (n := 82) (i := 2) C dX4_copyFrom_81 rfl 2 rfl rfl ?_
      refine g_iald (n := 83) C E (Hp.f5 hZ hp1) h.1 dX4_copyFrom_82 rfl ?_
      replace h := h.2
      refine g_iast (n := 84) C E (Hp.f5 hZ ha) h.1 dX4_copyFrom_83 rfl (fun M8 eM8 => ?_)
      replace h := h.2 M8 eM8
      refine g_aload_n (n := 85) (i := 0) C dX4_copyFrom_84 rfl 0 rfl rfl ?_
      refine gf_X4_27 (n := 88) (a + 6) C E (Hp.o hZ ha) rfl dX4_copyFrom_85 rfl ?_
      refine g_iload_n (n := 89) (i := 2) C dX4_copyFrom_88 rfl 2 rfl rfl ?_
      refine g_aload_n (n := 90) (i := 1) C dX4_copyFrom_89 rfl 1 rfl rfl ?_
      refine gf_X4_27 (n := 93) (p1 + 6) C E (Hp.o hZ hp1) rfl dX4_copyFrom_90 rfl ?_
      refine g_iload_n (n := 94) (i := 2) C dX4_copyFrom_93 rfl 2 rfl rfl ?_
      refine g_iald (n := 95) C E (Hp.f6 hZ hp1) h.1 dX4_copyFrom_94 rfl ?_
      replace h := h.2
      refine g_iast (n := 96) C E (Hp.f6 hZ ha) h.1 dX4_copyFrom_95 rfl (fun M9 eM9 => ?_)
      replace h := h.2 M9 eM9
      refine g_iinc (n := 99) (v := (1 : Int32)) C dX4_copyFrom_96 2 rfl (by decide) (Nat.le_of_ble_eq_true rfl) rfl rfl (fun z10 ez10 => ?_)
      replace h := h z10 ez10
      refine g_goto (tgt := 18) C dX4_copyFrom_99 (by decide) ?_
      exact g_sub [1, 2, 0] rfl h
  replace h := h (fun (M : Mem) (x18_2 : Int32) => GS Z X 18 [(0, .ref (zb Z + a)), (1, .ref (zb Z + p1)), (2, .int x18_2)] [] M) s18
  unfold B_Plan_copyFrom_i at h
  show GS Z X 0 [(0, .ref (zb Z + a)), (1, .ref (zb Z + p1))] [] M
  refine g_aload_n (n := 1) (i := 0) C dX4_copyFrom_0 rfl 0 rfl rfl ?_
  refine g_aload_n (n := 2) (i := 1) C dX4_copyFrom_1 rfl 1 rfl rfl ?_
  refine gf_X4_30 (n := 5) C E (Hp.o hZ hp1) dX4_copyFrom_2 rfl ?_
  refine gp_X4_30 (n := 8) C E (Hp.o hZ ha) dX4_copyFrom_5 rfl (fun M1 eM1 => ?_)
  replace h := h M1 eM1
  refine g_aload_n (n := 9) (i := 0) C dX4_copyFrom_8 rfl 0 rfl rfl ?_
  refine g_aload_n (n := 10) (i := 1) C dX4_copyFrom_9 rfl 1 rfl rfl ?_
  refine gf_X4_34 (n := 13) C E (Hp.o hZ hp1) dX4_copyFrom_10 rfl ?_
  refine gp_X4_34 (n := 16) C E (Hp.o hZ ha) dX4_copyFrom_13 rfl (fun M2 eM2 => ?_)
  replace h := h M2 eM2
  refine g_iconst (n := 17) (0 : Int32) C dX4_copyFrom_16 (by decide) rfl ?_
  refine g_istore_n (n := 18) (i := 2) C dX4_copyFrom_17 rfl (Nat.le_of_ble_eq_true rfl) rfl rfl (fun z3 ez3 => ?_)
  replace h := h z3 ez3
  exact g_sub [1, 2, 0] rfl h
end
