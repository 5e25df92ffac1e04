section
-- ===== PART A: goes FIRST, ahead of the names: the tables' words, and 'selects' of the private methods out of them =====
/-- a private method of a class that the tables say can be made, by its rows of tables_1 -/
def lw_okq (q : MethodName × Nat) : Prop := (q.1.cls ≠ "java/lang/invoke/MethodHandle" ∧ q.1.cls ≠ "java/lang/invoke/VarHandle") ∧ Cond.instantiable q.1.cls q.2 ∈ tables_1 ∧ Cond.privateMethod q.1 ∈ tables_1 ∧ Cond.instanceMethod q.1 ∈ tables_1
theorem lw_p0 : lw_okq (⟨"ExpectRows$RowList", "addRow", "(IIIJZ)I"⟩, 2) := ⟨⟨by decide +kernel, by decide +kernel⟩, List.mem_of_getElem? (i := 33) (by decide +kernel), List.mem_of_getElem? (i := 201) (by decide +kernel), List.mem_of_getElem? (i := 202) (by decide +kernel)⟩
theorem lw_p1 : lw_okq (⟨"java/util/ArrayList", "add", "(Ljava/lang/Object;[Ljava/lang/Object;I)V"⟩, 3) := ⟨⟨by decide +kernel, by decide +kernel⟩, List.mem_of_getElem? (i := 39) (by decide +kernel), List.mem_of_getElem? (i := 246) (by decide +kernel), List.mem_of_getElem? (i := 247) (by decide +kernel)⟩
theorem lw_p2 : lw_okq (⟨"java/util/ArrayList", "grow", "()[Ljava/lang/Object;"⟩, 3) := ⟨⟨by decide +kernel, by decide +kernel⟩, List.mem_of_getElem? (i := 39) (by decide +kernel), List.mem_of_getElem? (i := 250) (by decide +kernel), List.mem_of_getElem? (i := 251) (by decide +kernel)⟩
theorem lw_p3 : lw_okq (⟨"java/util/ArrayList", "grow", "(I)[Ljava/lang/Object;"⟩, 3) := ⟨⟨by decide +kernel, by decide +kernel⟩, List.mem_of_getElem? (i := 39) (by decide +kernel), List.mem_of_getElem? (i := 254) (by decide +kernel), List.mem_of_getElem? (i := 255) (by decide +kernel)⟩
theorem lw_p4 : lw_okq (⟨"ExpectRows$Item", "mayComeAt", "(J)Z"⟩, 8) := ⟨⟨by decide +kernel, by decide +kernel⟩, List.mem_of_getElem? (i := 129) (by decide +kernel), List.mem_of_getElem? (i := 308) (by decide +kernel), List.mem_of_getElem? (i := 309) (by decide +kernel)⟩
theorem lw_p5 : lw_okq (⟨"ExpectRows$Item", "isNew", "()Z"⟩, 8) := ⟨⟨by decide +kernel, by decide +kernel⟩, List.mem_of_getElem? (i := 129) (by decide +kernel), List.mem_of_getElem? (i := 313) (by decide +kernel), List.mem_of_getElem? (i := 314) (by decide +kernel)⟩
theorem lw_p6 : lw_okq (⟨"ExpectRows$Item", "expectNothing", "()V"⟩, 8) := ⟨⟨by decide +kernel, by decide +kernel⟩, List.mem_of_getElem? (i := 129) (by decide +kernel), List.mem_of_getElem? (i := 317) (by decide +kernel), List.mem_of_getElem? (i := 318) (by decide +kernel)⟩
theorem lw_p7 : lw_okq (⟨"ExpectRows$Item", "daysUntil", "(J)I"⟩, 8) := ⟨⟨by decide +kernel, by decide +kernel⟩, List.mem_of_getElem? (i := 129) (by decide +kernel), List.mem_of_getElem? (i := 321) (by decide +kernel), List.mem_of_getElem? (i := 322) (by decide +kernel)⟩
theorem lw_p8 : lw_okq (⟨"ExpectRows$DeliveryList", "addDelivery", "(II)V"⟩, 3) := ⟨⟨by decide +kernel, by decide +kernel⟩, List.mem_of_getElem? (i := 112) (by decide +kernel), List.mem_of_getElem? (i := 326) (by decide +kernel), List.mem_of_getElem? (i := 327) (by decide +kernel)⟩
theorem lw_p9 : lw_okq (⟨"ExpectRows$Item", "beginAnew", "()V"⟩, 8) := ⟨⟨by decide +kernel, by decide +kernel⟩, List.mem_of_getElem? (i := 129) (by decide +kernel), List.mem_of_getElem? (i := 330) (by decide +kernel), List.mem_of_getElem? (i := 331) (by decide +kernel)⟩
theorem lw_p10 : lw_okq (⟨"ExpectRows$Item", "takeEvent", "(IJ)V"⟩, 8) := ⟨⟨by decide +kernel, by decide +kernel⟩, List.mem_of_getElem? (i := 129) (by decide +kernel), List.mem_of_getElem? (i := 334) (by decide +kernel), List.mem_of_getElem? (i := 335) (by decide +kernel)⟩
theorem lw_p11 : lw_okq (⟨"ExpectRows$RowList", "firstFor", "(III)LExpectRows$Row;"⟩, 2) := ⟨⟨by decide +kernel, by decide +kernel⟩, List.mem_of_getElem? (i := 33) (by decide +kernel), List.mem_of_getElem? (i := 338) (by decide +kernel), List.mem_of_getElem? (i := 339) (by decide +kernel)⟩
theorem lw_p12 : lw_okq (⟨"ExpectRows$Row", "isFor", "(III)Z"⟩, 7) := ⟨⟨by decide +kernel, by decide +kernel⟩, List.mem_of_getElem? (i := 209) (by decide +kernel), List.mem_of_getElem? (i := 356) (by decide +kernel), List.mem_of_getElem? (i := 357) (by decide +kernel)⟩
theorem lw_p13 : lw_okq (⟨"ExpectRows", "expectNext", "(LExpectRows$Item;LExpectRows$Row;IJ)I"⟩, 7) := ⟨⟨by decide +kernel, by decide +kernel⟩, List.mem_of_getElem? (i := 25) (by decide +kernel), List.mem_of_getElem? (i := 360) (by decide +kernel), List.mem_of_getElem? (i := 361) (by decide +kernel)⟩
theorem lw_p14 : lw_okq (⟨"ExpectRows$RowList", "noteFailed", "(LExpectRows$Row;)V"⟩, 2) := ⟨⟨by decide +kernel, by decide +kernel⟩, List.mem_of_getElem? (i := 33) (by decide +kernel), List.mem_of_getElem? (i := 364) (by decide +kernel), List.mem_of_getElem? (i := 365) (by decide +kernel)⟩
theorem lw_p15 : lw_okq (⟨"ExpectRows$HolidayList", "dueAfter", "(JJ)J"⟩, 2) := ⟨⟨by decide +kernel, by decide +kernel⟩, List.mem_of_getElem? (i := 72) (by decide +kernel), List.mem_of_getElem? (i := 368) (by decide +kernel), List.mem_of_getElem? (i := 369) (by decide +kernel)⟩
def lw_privs_1 : List (MethodName × Nat) := [(⟨"ExpectRows$RowList", "addRow", "(IIIJZ)I"⟩, 2), (⟨"java/util/ArrayList", "add", "(Ljava/lang/Object;[Ljava/lang/Object;I)V"⟩, 3), (⟨"java/util/ArrayList", "grow", "()[Ljava/lang/Object;"⟩, 3), (⟨"java/util/ArrayList", "grow", "(I)[Ljava/lang/Object;"⟩, 3), (⟨"ExpectRows$Item", "mayComeAt", "(J)Z"⟩, 8), (⟨"ExpectRows$Item", "isNew", "()Z"⟩, 8), (⟨"ExpectRows$Item", "expectNothing", "()V"⟩, 8), (⟨"ExpectRows$Item", "daysUntil", "(J)I"⟩, 8), (⟨"ExpectRows$DeliveryList", "addDelivery", "(II)V"⟩, 3), (⟨"ExpectRows$Item", "beginAnew", "()V"⟩, 8), (⟨"ExpectRows$Item", "takeEvent", "(IJ)V"⟩, 8), (⟨"ExpectRows$RowList", "firstFor", "(III)LExpectRows$Row;"⟩, 2), (⟨"ExpectRows$Row", "isFor", "(III)Z"⟩, 7), (⟨"ExpectRows", "expectNext", "(LExpectRows$Item;LExpectRows$Row;IJ)I"⟩, 7), (⟨"ExpectRows$RowList", "noteFailed", "(LExpectRows$Row;)V"⟩, 2), (⟨"ExpectRows$HolidayList", "dueAfter", "(JJ)J"⟩, 2)]
theorem lw_r1 : ∀ q ∈ lw_privs_1, lw_okq q := List.forall_mem_cons.mpr ⟨lw_p0, List.forall_mem_cons.mpr ⟨lw_p1, List.forall_mem_cons.mpr ⟨lw_p2, List.forall_mem_cons.mpr ⟨lw_p3, List.forall_mem_cons.mpr ⟨lw_p4, List.forall_mem_cons.mpr ⟨lw_p5, List.forall_mem_cons.mpr ⟨lw_p6, List.forall_mem_cons.mpr ⟨lw_p7, List.forall_mem_cons.mpr ⟨lw_p8, List.forall_mem_cons.mpr ⟨lw_p9, List.forall_mem_cons.mpr ⟨lw_p10, List.forall_mem_cons.mpr ⟨lw_p11, List.forall_mem_cons.mpr ⟨lw_p12, List.forall_mem_cons.mpr ⟨lw_p13, List.forall_mem_cons.mpr ⟨lw_p14, List.forall_mem_cons.mpr ⟨lw_p15, fun _ h => absurd h List.not_mem_nil⟩⟩⟩⟩⟩⟩⟩⟩⟩⟩⟩⟩⟩⟩⟩⟩
theorem lw_p16 : lw_okq (⟨"ExpectRows$Item", "expect", "(IIJ)V"⟩, 8) := ⟨⟨by decide +kernel, by decide +kernel⟩, List.mem_of_getElem? (i := 129) (by decide +kernel), List.mem_of_getElem? (i := 376) (by decide +kernel), List.mem_of_getElem? (i := 377) (by decide +kernel)⟩
theorem lw_p17 : lw_okq (⟨"ExpectRows$PlaceCounts", "addBegun", "(I)V"⟩, 2) := ⟨⟨by decide +kernel, by decide +kernel⟩, List.mem_of_getElem? (i := 98) (by decide +kernel), List.mem_of_getElem? (i := 380) (by decide +kernel), List.mem_of_getElem? (i := 381) (by decide +kernel)⟩
theorem lw_p18 : lw_okq (⟨"ExpectRows$AlarmList", "size", "()I"⟩, 1) := ⟨⟨by decide +kernel, by decide +kernel⟩, List.mem_of_getElem? (i := 86) (by decide +kernel), List.mem_of_getElem? (i := 390) (by decide +kernel), List.mem_of_getElem? (i := 391) (by decide +kernel)⟩
theorem lw_p19 : lw_okq (⟨"ExpectRows", "tellLate", "(ILExpectRows$Item;)V"⟩, 7) := ⟨⟨by decide +kernel, by decide +kernel⟩, List.mem_of_getElem? (i := 25) (by decide +kernel), List.mem_of_getElem? (i := 395) (by decide +kernel), List.mem_of_getElem? (i := 396) (by decide +kernel)⟩
theorem lw_p20 : lw_okq (⟨"ExpectRows$Item", "isExpected", "()Z"⟩, 8) := ⟨⟨by decide +kernel, by decide +kernel⟩, List.mem_of_getElem? (i := 129) (by decide +kernel), List.mem_of_getElem? (i := 399) (by decide +kernel), List.mem_of_getElem? (i := 400) (by decide +kernel)⟩
theorem lw_p21 : lw_okq (⟨"ExpectRows$PlaceCounts", "addLate", "(I)V"⟩, 2) := ⟨⟨by decide +kernel, by decide +kernel⟩, List.mem_of_getElem? (i := 98) (by decide +kernel), List.mem_of_getElem? (i := 403) (by decide +kernel), List.mem_of_getElem? (i := 404) (by decide +kernel)⟩
theorem lw_p22 : lw_okq (⟨"ExpectRows$AlarmList", "addAlarm", "(IILExpectRows$Item;)V"⟩, 1) := ⟨⟨by decide +kernel, by decide +kernel⟩, List.mem_of_getElem? (i := 86) (by decide +kernel), List.mem_of_getElem? (i := 407) (by decide +kernel), List.mem_of_getElem? (i := 408) (by decide +kernel)⟩
theorem lw_p23 : lw_okq (⟨"ExpectRows", "tellLost", "(ILExpectRows$Item;)V"⟩, 7) := ⟨⟨by decide +kernel, by decide +kernel⟩, List.mem_of_getElem? (i := 25) (by decide +kernel), List.mem_of_getElem? (i := 439) (by decide +kernel), List.mem_of_getElem? (i := 440) (by decide +kernel)⟩
theorem lw_p24 : lw_okq (⟨"ExpectRows$AlarmList", "partOf", "(II)I"⟩, 1) := ⟨⟨by decide +kernel, by decide +kernel⟩, List.mem_of_getElem? (i := 86) (by decide +kernel), List.mem_of_getElem? (i := 448) (by decide +kernel), List.mem_of_getElem? (i := 449) (by decide +kernel)⟩
theorem lw_p25 : lw_okq (⟨"ExpectRows$Item", "toldState", "()I"⟩, 8) := ⟨⟨by decide +kernel, by decide +kernel⟩, List.mem_of_getElem? (i := 129) (by decide +kernel), List.mem_of_getElem? (i := 457) (by decide +kernel), List.mem_of_getElem? (i := 458) (by decide +kernel)⟩
theorem lw_p26 : lw_okq (⟨"ExpectRows$HolidayList", "addDay", "(J)I"⟩, 2) := ⟨⟨by decide +kernel, by decide +kernel⟩, List.mem_of_getElem? (i := 72) (by decide +kernel), List.mem_of_getElem? (i := 466) (by decide +kernel), List.mem_of_getElem? (i := 467) (by decide +kernel)⟩
theorem lw_p27 : lw_okq (⟨"ExpectRows$HolidayList", "holds", "(J)Z"⟩, 2) := ⟨⟨by decide +kernel, by decide +kernel⟩, List.mem_of_getElem? (i := 72) (by decide +kernel), List.mem_of_getElem? (i := 470) (by decide +kernel), List.mem_of_getElem? (i := 471) (by decide +kernel)⟩
theorem lw_p28 : lw_okq (⟨"ExpectRows$DeliveryList", "countOf", "(I)I"⟩, 3) := ⟨⟨by decide +kernel, by decide +kernel⟩, List.mem_of_getElem? (i := 112) (by decide +kernel), List.mem_of_getElem? (i := 479) (by decide +kernel), List.mem_of_getElem? (i := 480) (by decide +kernel)⟩
theorem lw_p29 : lw_okq (⟨"ExpectRows$DeliveryList", "daysAtRank", "(II)I"⟩, 3) := ⟨⟨by decide +kernel, by decide +kernel⟩, List.mem_of_getElem? (i := 112) (by decide +kernel), List.mem_of_getElem? (i := 484) (by decide +kernel), List.mem_of_getElem? (i := 485) (by decide +kernel)⟩
theorem lw_p30 : lw_okq (⟨"ExpectRows$PlaceCounts", "clusterPlace", "(I)I"⟩, 2) := ⟨⟨by decide +kernel, by decide +kernel⟩, List.mem_of_getElem? (i := 98) (by decide +kernel), List.mem_of_getElem? (i := 496) (by decide +kernel), List.mem_of_getElem? (i := 497) (by decide +kernel)⟩
theorem lw_p31 : lw_okq (⟨"ExpectRows$PlaceCounts", "isCluster", "(I)Z"⟩, 2) := ⟨⟨by decide +kernel, by decide +kernel⟩, List.mem_of_getElem? (i := 98) (by decide +kernel), List.mem_of_getElem? (i := 500) (by decide +kernel), List.mem_of_getElem? (i := 501) (by decide +kernel)⟩
def lw_privs_2 : List (MethodName × Nat) := [(⟨"ExpectRows$Item", "expect", "(IIJ)V"⟩, 8), (⟨"ExpectRows$PlaceCounts", "addBegun", "(I)V"⟩, 2), (⟨"ExpectRows$AlarmList", "size", "()I"⟩, 1), (⟨"ExpectRows", "tellLate", "(ILExpectRows$Item;)V"⟩, 7), (⟨"ExpectRows$Item", "isExpected", "()Z"⟩, 8), (⟨"ExpectRows$PlaceCounts", "addLate", "(I)V"⟩, 2), (⟨"ExpectRows$AlarmList", "addAlarm", "(IILExpectRows$Item;)V"⟩, 1), (⟨"ExpectRows", "tellLost", "(ILExpectRows$Item;)V"⟩, 7), (⟨"ExpectRows$AlarmList", "partOf", "(II)I"⟩, 1), (⟨"ExpectRows$Item", "toldState", "()I"⟩, 8), (⟨"ExpectRows$HolidayList", "addDay", "(J)I"⟩, 2), (⟨"ExpectRows$HolidayList", "holds", "(J)Z"⟩, 2), (⟨"ExpectRows$DeliveryList", "countOf", "(I)I"⟩, 3), (⟨"ExpectRows$DeliveryList", "daysAtRank", "(II)I"⟩, 3), (⟨"ExpectRows$PlaceCounts", "clusterPlace", "(I)I"⟩, 2), (⟨"ExpectRows$PlaceCounts", "isCluster", "(I)Z"⟩, 2)]
theorem lw_r2 : ∀ q ∈ lw_privs_2, lw_okq q := List.forall_mem_cons.mpr ⟨lw_p16, List.forall_mem_cons.mpr ⟨lw_p17, List.forall_mem_cons.mpr ⟨lw_p18, List.forall_mem_cons.mpr ⟨lw_p19, List.forall_mem_cons.mpr ⟨lw_p20, List.forall_mem_cons.mpr ⟨lw_p21, List.forall_mem_cons.mpr ⟨lw_p22, List.forall_mem_cons.mpr ⟨lw_p23, List.forall_mem_cons.mpr ⟨lw_p24, List.forall_mem_cons.mpr ⟨lw_p25, List.forall_mem_cons.mpr ⟨lw_p26, List.forall_mem_cons.mpr ⟨lw_p27, List.forall_mem_cons.mpr ⟨lw_p28, List.forall_mem_cons.mpr ⟨lw_p29, List.forall_mem_cons.mpr ⟨lw_p30, List.forall_mem_cons.mpr ⟨lw_p31, fun _ h => absurd h List.not_mem_nil⟩⟩⟩⟩⟩⟩⟩⟩⟩⟩⟩⟩⟩⟩⟩⟩
theorem lw_p32 : lw_okq (⟨"ExpectRows$PlaceCounts", "lateAt", "(I)I"⟩, 2) := ⟨⟨by decide +kernel, by decide +kernel⟩, List.mem_of_getElem? (i := 98) (by decide +kernel), List.mem_of_getElem? (i := 504) (by decide +kernel), List.mem_of_getElem? (i := 505) (by decide +kernel)⟩
theorem lw_p33 : lw_okq (⟨"ExpectRows$PlaceCounts", "clustersBefore", "(I)I"⟩, 2) := ⟨⟨by decide +kernel, by decide +kernel⟩, List.mem_of_getElem? (i := 98) (by decide +kernel), List.mem_of_getElem? (i := 508) (by decide +kernel), List.mem_of_getElem? (i := 509) (by decide +kernel)⟩
theorem lw_p34 : lw_okq (⟨"ExpectRows$PlaceCounts", "comesBefore", "(II)Z"⟩, 2) := ⟨⟨by decide +kernel, by decide +kernel⟩, List.mem_of_getElem? (i := 98) (by decide +kernel), List.mem_of_getElem? (i := 512) (by decide +kernel), List.mem_of_getElem? (i := 513) (by decide +kernel)⟩
theorem lw_p35 : lw_okq (⟨"ExpectRows$PlaceCounts", "begunAt", "(I)I"⟩, 2) := ⟨⟨by decide +kernel, by decide +kernel⟩, List.mem_of_getElem? (i := 98) (by decide +kernel), List.mem_of_getElem? (i := 516) (by decide +kernel), List.mem_of_getElem? (i := 517) (by decide +kernel)⟩
theorem lw_p36 : lw_okq (⟨"ExpectRows$RowList", "failedRow", "(I)I"⟩, 2) := ⟨⟨by decide +kernel, by decide +kernel⟩, List.mem_of_getElem? (i := 33) (by decide +kernel), List.mem_of_getElem? (i := 526) (by decide +kernel), List.mem_of_getElem? (i := 527) (by decide +kernel)⟩
theorem lw_p37 : lw_okq (⟨"java/lang/Throwable", "fillInStackTrace", "(I)Ljava/lang/Throwable;"⟩, 6) := ⟨⟨by decide +kernel, by decide +kernel⟩, List.mem_of_getElem? (i := 575) (by decide +kernel), List.mem_of_getElem? (i := 573) (by decide +kernel), List.mem_of_getElem? (i := 574) (by decide +kernel)⟩
theorem lw_p38 : lw_okq (⟨"ExpectRowsModel", "isTime", "(IJ)Z"⟩, 26) := ⟨⟨by decide +kernel, by decide +kernel⟩, List.mem_of_getElem? (i := 608) (by decide +kernel), List.mem_of_getElem? (i := 716) (by decide +kernel), List.mem_of_getElem? (i := 717) (by decide +kernel)⟩
theorem lw_p39 : lw_okq (⟨"ExpectRowsModel", "end", "(I)V"⟩, 26) := ⟨⟨by decide +kernel, by decide +kernel⟩, List.mem_of_getElem? (i := 608) (by decide +kernel), List.mem_of_getElem? (i := 721) (by decide +kernel), List.mem_of_getElem? (i := 722) (by decide +kernel)⟩
theorem lw_p40 : lw_okq (⟨"ExpectRowsModel", "rowFor", "(III)I"⟩, 26) := ⟨⟨by decide +kernel, by decide +kernel⟩, List.mem_of_getElem? (i := 608) (by decide +kernel), List.mem_of_getElem? (i := 726) (by decide +kernel), List.mem_of_getElem? (i := 727) (by decide +kernel)⟩
theorem lw_p41 : lw_okq (⟨"ExpectRowsModel", "fails", "(I)V"⟩, 26) := ⟨⟨by decide +kernel, by decide +kernel⟩, List.mem_of_getElem? (i := 608) (by decide +kernel), List.mem_of_getElem? (i := 730) (by decide +kernel), List.mem_of_getElem? (i := 731) (by decide +kernel)⟩
theorem lw_p42 : lw_okq (⟨"ExpectRowsModel", "behind", "(JJ)J"⟩, 26) := ⟨⟨by decide +kernel, by decide +kernel⟩, List.mem_of_getElem? (i := 608) (by decide +kernel), List.mem_of_getElem? (i := 734) (by decide +kernel), List.mem_of_getElem? (i := 735) (by decide +kernel)⟩
theorem lw_p43 : lw_okq (⟨"ExpectRowsModel", "tell", "(II)V"⟩, 26) := ⟨⟨by decide +kernel, by decide +kernel⟩, List.mem_of_getElem? (i := 608) (by decide +kernel), List.mem_of_getElem? (i := 744) (by decide +kernel), List.mem_of_getElem? (i := 745) (by decide +kernel)⟩
theorem lw_p44 : lw_okq (⟨"ExpectRowsModel", "isBefore", "(II)Z"⟩, 26) := ⟨⟨by decide +kernel, by decide +kernel⟩, List.mem_of_getElem? (i := 608) (by decide +kernel), List.mem_of_getElem? (i := 781) (by decide +kernel), List.mem_of_getElem? (i := 782) (by decide +kernel)⟩
def lw_privs_3 : List (MethodName × Nat) := [(⟨"ExpectRows$PlaceCounts", "lateAt", "(I)I"⟩, 2), (⟨"ExpectRows$PlaceCounts", "clustersBefore", "(I)I"⟩, 2), (⟨"ExpectRows$PlaceCounts", "comesBefore", "(II)Z"⟩, 2), (⟨"ExpectRows$PlaceCounts", "begunAt", "(I)I"⟩, 2), (⟨"ExpectRows$RowList", "failedRow", "(I)I"⟩, 2), (⟨"java/lang/Throwable", "fillInStackTrace", "(I)Ljava/lang/Throwable;"⟩, 6), (⟨"ExpectRowsModel", "isTime", "(IJ)Z"⟩, 26), (⟨"ExpectRowsModel", "end", "(I)V"⟩, 26), (⟨"ExpectRowsModel", "rowFor", "(III)I"⟩, 26), (⟨"ExpectRowsModel", "fails", "(I)V"⟩, 26), (⟨"ExpectRowsModel", "behind", "(JJ)J"⟩, 26), (⟨"ExpectRowsModel", "tell", "(II)V"⟩, 26), (⟨"ExpectRowsModel", "isBefore", "(II)Z"⟩, 26)]
theorem lw_r3 : ∀ q ∈ lw_privs_3, lw_okq q := List.forall_mem_cons.mpr ⟨lw_p32, List.forall_mem_cons.mpr ⟨lw_p33, List.forall_mem_cons.mpr ⟨lw_p34, List.forall_mem_cons.mpr ⟨lw_p35, List.forall_mem_cons.mpr ⟨lw_p36, List.forall_mem_cons.mpr ⟨lw_p37, List.forall_mem_cons.mpr ⟨lw_p38, List.forall_mem_cons.mpr ⟨lw_p39, List.forall_mem_cons.mpr ⟨lw_p40, List.forall_mem_cons.mpr ⟨lw_p41, List.forall_mem_cons.mpr ⟨lw_p42, List.forall_mem_cons.mpr ⟨lw_p43, List.forall_mem_cons.mpr ⟨lw_p44, fun _ h => absurd h List.not_mem_nil⟩⟩⟩⟩⟩⟩⟩⟩⟩⟩⟩⟩⟩
def lw_privs : List (MethodName × Nat) := lw_privs_1 ++ (lw_privs_2 ++ (lw_privs_3))
def lw_tbl : List Cond := k2_sels lw_privs ++ tables_1
theorem lw_privs_ok : ∀ q ∈ lw_privs, lw_okq q := by
  show ∀ q ∈ lw_privs_1 ++ (lw_privs_2 ++ (lw_privs_3)), lw_okq q
  exact List.forall_mem_append.mpr ⟨lw_r1, List.forall_mem_append.mpr ⟨lw_r2, lw_r3⟩⟩
end
section
/-! NAMES, by program (wip/gen/names.py): classes, fields, methods -/
abbrev R_X : String := "ExpectRows"
def F_X : u_T := fun k => match k with
  | 0 => ("ExpectRows", "rows", "LExpectRows$RowList;", true)
  | 1 => ("ExpectRows", "holidays", "LExpectRows$HolidayList;", true)
  | 2 => ("ExpectRows", "alarms", "LExpectRows$AlarmList;", true)
  | 3 => ("ExpectRows", "counts", "LExpectRows$PlaceCounts;", true)
  | 4 => ("ExpectRows", "deliveries", "LExpectRows$DeliveryList;", true)
  | 5 => ("ExpectRows", "items", "[LExpectRows$Item;", true)
  | _ => ("ExpectRows", "clock", "J", false)
def t_X : Nat → FieldType := fun k => match k with
  | 0 => .object "ExpectRows$RowList"
  | 1 => .object "ExpectRows$HolidayList"
  | 2 => .object "ExpectRows$AlarmList"
  | 3 => .object "ExpectRows$PlaceCounts"
  | 4 => .object "ExpectRows$DeliveryList"
  | 5 => .array (.object "ExpectRows$Item")
  | _ => .long
abbrev R_Alarm : String := "ExpectRows$Alarm"
def F_Alarm : u_T := fun k => match k with
  | 0 => ("ExpectRows$Alarm", "item", "I", true)
  | 1 => ("ExpectRows$Alarm", "kind", "I", true)
  | 2 => ("ExpectRows$Alarm", "row", "I", true)
  | 3 => ("ExpectRows$Alarm", "place", "I", true)
  | _ => ("ExpectRows$Alarm", "due", "I", true)
def t_Alarm : Nat → FieldType := fun k => match k with
  | 0 => .int
  | 1 => .int
  | 2 => .int
  | 3 => .int
  | _ => .int
abbrev R_AlarmL : String := "ExpectRows$AlarmList"
def F_AlarmL : u_T := fun k => match k with
  | _ => ("ExpectRows$AlarmList", "told", "Ljava/util/ArrayList;", true)
def t_AlarmL : Nat → FieldType := fun k => match k with
  | _ => .object "java/util/ArrayList"
abbrev R_Deliv : String := "ExpectRows$DeliveryList"
def F_Deliv : u_T := fun k => match k with
  | 0 => ("ExpectRows$DeliveryList", "days", "[I", true)
  | 1 => ("ExpectRows$DeliveryList", "services", "[I", true)
  | _ => ("ExpectRows$DeliveryList", "count", "I", false)
def t_Deliv : Nat → FieldType := fun k => match k with
  | 0 => .array .int
  | 1 => .array .int
  | _ => .int
abbrev R_Holi : String := "ExpectRows$HolidayList"
def F_Holi : u_T := fun k => match k with
  | 0 => ("ExpectRows$HolidayList", "days", "[J", true)
  | _ => ("ExpectRows$HolidayList", "count", "I", false)
def t_Holi : Nat → FieldType := fun k => match k with
  | 0 => .array .long
  | _ => .int
abbrev R_Item : String := "ExpectRows$Item"
def F_Item : u_T := fun k => match k with
  | 0 => ("ExpectRows$Item", "state", "I", false)
  | 1 => ("ExpectRows$Item", "first", "J", false)
  | 2 => ("ExpectRows$Item", "last", "J", false)
  | 3 => ("ExpectRows$Item", "row", "I", false)
  | 4 => ("ExpectRows$Item", "place", "I", false)
  | 5 => ("ExpectRows$Item", "due", "J", false)
  | 6 => ("ExpectRows$Item", "late", "Z", false)
  | _ => ("ExpectRows$Item", "lost", "Z", false)
def t_Item : Nat → FieldType := fun k => match k with
  | 0 => .int
  | 1 => .long
  | 2 => .long
  | 3 => .int
  | 4 => .int
  | 5 => .long
  | 6 => .boolean
  | _ => .boolean
abbrev R_Cnts : String := "ExpectRows$PlaceCounts"
def F_Cnts : u_T := fun k => match k with
  | 0 => ("ExpectRows$PlaceCounts", "begun", "[I", true)
  | _ => ("ExpectRows$PlaceCounts", "late", "[I", true)
def t_Cnts : Nat → FieldType := fun k => match k with
  | 0 => .array .int
  | _ => .array .int
abbrev R_Row : String := "ExpectRows$Row"
def F_Row : u_T := fun k => match k with
  | 0 => ("ExpectRows$Row", "number", "I", true)
  | 1 => ("ExpectRows$Row", "state", "I", true)
  | 2 => ("ExpectRows$Row", "place", "I", true)
  | 3 => ("ExpectRows$Row", "service", "I", true)
  | 4 => ("ExpectRows$Row", "within", "J", true)
  | 5 => ("ExpectRows$Row", "fails", "Z", true)
  | _ => ("ExpectRows$Row", "hasFailed", "Z", false)
def t_Row : Nat → FieldType := fun k => match k with
  | 0 => .int
  | 1 => .int
  | 2 => .int
  | 3 => .int
  | 4 => .long
  | 5 => .boolean
  | _ => .boolean
abbrev R_RowL : String := "ExpectRows$RowList"
def F_RowL : u_T := fun k => match k with
  | 0 => ("ExpectRows$RowList", "all", "Ljava/util/ArrayList;", true)
  | _ => ("ExpectRows$RowList", "failed", "Ljava/util/ArrayList;", true)
def t_RowL : Nat → FieldType := fun k => match k with
  | 0 => .object "java/util/ArrayList"
  | _ => .object "java/util/ArrayList"
abbrev R_Mod : String := "ExpectRowsModel"
def F_Mod : u_T := fun k => match k with
  | 0 => ("ExpectRowsModel", "thrown", "I", false)
  | 1 => ("ExpectRowsModel", "rules", "I", false)
  | 2 => ("ExpectRowsModel", "states", "[I", true)
  | 3 => ("ExpectRowsModel", "places", "[I", true)
  | 4 => ("ExpectRowsModel", "services", "[I", true)
  | 5 => ("ExpectRowsModel", "withins", "[J", true)
  | 6 => ("ExpectRowsModel", "failing", "[Z", true)
  | 7 => ("ExpectRowsModel", "item", "[I", true)
  | 8 => ("ExpectRowsModel", "firsts", "[J", true)
  | 9 => ("ExpectRowsModel", "lasts", "[J", true)
  | 10 => ("ExpectRowsModel", "rows", "[I", true)
  | 11 => ("ExpectRowsModel", "at", "[I", true)
  | 12 => ("ExpectRowsModel", "dues", "[J", true)
  | 13 => ("ExpectRowsModel", "isLate", "[Z", true)
  | 14 => ("ExpectRowsModel", "isLost", "[Z", true)
  | 15 => ("ExpectRowsModel", "holidays", "[Z", true)
  | 16 => ("ExpectRowsModel", "holidayCount", "I", false)
  | 17 => ("ExpectRowsModel", "clock", "J", false)
  | 18 => ("ExpectRowsModel", "alarms", "I", false)
  | 19 => ("ExpectRowsModel", "told", "[J", true)
  | 20 => ("ExpectRowsModel", "begun", "[I", true)
  | 21 => ("ExpectRowsModel", "late", "[I", true)
  | 22 => ("ExpectRowsModel", "counts", "[I", true)
  | 23 => ("ExpectRowsModel", "days", "[I", true)
  | 24 => ("ExpectRowsModel", "failed", "I", false)
  | _ => ("ExpectRowsModel", "failedRows", "[I", true)
def t_Mod : Nat → FieldType := fun k => match k with
  | 0 => .int
  | 1 => .int
  | 2 => .array .int
  | 3 => .array .int
  | 4 => .array .int
  | 5 => .array .long
  | 6 => .array .boolean
  | 7 => .array .int
  | 8 => .array .long
  | 9 => .array .long
  | 10 => .array .int
  | 11 => .array .int
  | 12 => .array .long
  | 13 => .array .boolean
  | 14 => .array .boolean
  | 15 => .array .boolean
  | 16 => .int
  | 17 => .long
  | 18 => .int
  | 19 => .array .long
  | 20 => .array .int
  | 21 => .array .int
  | 22 => .array .int
  | 23 => .array .int
  | 24 => .int
  | _ => .array .int
abbrev R_AL : String := "java/util/ArrayList"
def F_AL : u_T := fun k => match k with
  | 0 => ("java/util/AbstractList", "modCount", "I", false)
  | 1 => ("java/util/ArrayList", "elementData", "[Ljava/lang/Object;", false)
  | _ => ("java/util/ArrayList", "size", "I", false)
def t_AL : Nat → FieldType := fun k => match k with
  | 0 => .int
  | 1 => .array (.object "java/lang/Object")
  | _ => .int
abbrev classes : List vw_C := [(R_X, F_X, 7), (R_Alarm, F_Alarm, 5), (R_AlarmL, F_AlarmL, 1), (R_Deliv, F_Deliv, 3), (R_Holi, F_Holi, 2), (R_Item, F_Item, 8), (R_Cnts, F_Cnts, 2), (R_Row, F_Row, 7), (R_RowL, F_RowL, 2), (R_Mod, F_Mod, 26), (R_AL, F_AL, 3)]
/-- the kinds of arrays: .int, .long, .boolean, .object "ExpectRows$Item", .object "java/lang/Object" -/
abbrev tys (aC : Nat → ClassId) : List (ClassId × FieldType) := [(aC 0, .int), (aC 1, .long), (aC 2, .boolean), (aC 3, .object "ExpectRows$Item"), (aC 4, .object "java/lang/Object")]
abbrev b_X_init : ByteArray := prog_1_method_1_code
def y_X_init : MethodName := ⟨"ExpectRows", "<init>", "()V"⟩
abbrev b_Obj_init : ByteArray := object_method_1_code
def y_Obj_init : MethodName := ⟨"java/lang/Object", "<init>", "()V"⟩
abbrev b_RowL_init : ByteArray := prog_9_method_1_code
def y_RowL_init : MethodName := ⟨"ExpectRows$RowList", "<init>", "()V"⟩
abbrev b_AL_init : ByteArray := prog_24_method_2_code
def y_AL_init : MethodName := ⟨"java/util/ArrayList", "<init>", "()V"⟩
abbrev b_AbL_init : ByteArray := prog_23_method_1_code
def y_AbL_init : MethodName := ⟨"java/util/AbstractList", "<init>", "()V"⟩
abbrev b_AbC_init : ByteArray := prog_22_method_1_code
def y_AbC_init : MethodName := ⟨"java/util/AbstractCollection", "<init>", "()V"⟩
abbrev b_Holi_init : ByteArray := prog_5_method_1_code
def y_Holi_init : MethodName := ⟨"ExpectRows$HolidayList", "<init>", "()V"⟩
abbrev b_AlarmL_init : ByteArray := prog_3_method_1_code
def y_AlarmL_init : MethodName := ⟨"ExpectRows$AlarmList", "<init>", "()V"⟩
abbrev b_Cnts_init : ByteArray := prog_7_method_1_code
def y_Cnts_init : MethodName := ⟨"ExpectRows$PlaceCounts", "<init>", "()V"⟩
abbrev b_Deliv_init : ByteArray := prog_4_method_1_code
def y_Deliv_init : MethodName := ⟨"ExpectRows$DeliveryList", "<init>", "()V"⟩
abbrev b_Item_init : ByteArray := prog_6_method_1_code
def y_Item_init : MethodName := ⟨"ExpectRows$Item", "<init>", "()V"⟩
abbrev b_X_rule : ByteArray := prog_1_method_2_code
def y_X_rule : MethodName := ⟨"ExpectRows", "rule", "(IIIJZ)I"⟩
abbrev b_X_isPlace : ByteArray := prog_1_method_14_code
def y_X_isPlace : MethodName := ⟨"ExpectRows", "isPlace", "(I)Z"⟩
abbrev b_X_isService : ByteArray := prog_1_method_15_code
def y_X_isService : MethodName := ⟨"ExpectRows", "isService", "(I)Z"⟩
abbrev b_RowL_addRow : ByteArray := prog_9_method_2_code
def y_RowL_addRow : MethodName := ⟨"ExpectRows$RowList", "addRow", "(IIIJZ)I"⟩
abbrev b_AL_size : ByteArray := prog_24_method_8_code
def y_AL_size : MethodName := ⟨"java/util/ArrayList", "size", "()I"⟩
abbrev b_Row_init : ByteArray := prog_8_method_1_code
def y_Row_init : MethodName := ⟨"ExpectRows$Row", "<init>", "(IIIIJZ)V"⟩
abbrev b_AL_add1 : ByteArray := prog_24_method_25_code
def y_AL_add1 : MethodName := ⟨"java/util/ArrayList", "add", "(Ljava/lang/Object;)Z"⟩
abbrev b_AL_add3 : ByteArray := prog_24_method_24_code
def y_AL_add3 : MethodName := ⟨"java/util/ArrayList", "add", "(Ljava/lang/Object;[Ljava/lang/Object;I)V"⟩
abbrev b_AL_grow0 : ByteArray := prog_24_method_7_code
def y_AL_grow0 : MethodName := ⟨"java/util/ArrayList", "grow", "()[Ljava/lang/Object;"⟩
abbrev b_AL_grow1 : ByteArray := prog_24_method_6_code
def y_AL_grow1 : MethodName := ⟨"java/util/ArrayList", "grow", "(I)[Ljava/lang/Object;"⟩
abbrev b_ASup_newLength : ByteArray := prog_31_method_27_code
def y_ASup_newLength : MethodName := ⟨"jdk/internal/util/ArraysSupport", "newLength", "(III)I"⟩
abbrev b_Math_max : ByteArray := prog_17_method_65_code
def y_Math_max : MethodName := ⟨"java/lang/Math", "max", "(II)I"⟩
abbrev b_ASup_hugeLength : ByteArray := prog_31_method_28_code
def y_ASup_hugeLength : MethodName := ⟨"jdk/internal/util/ArraysSupport", "hugeLength", "(II)I"⟩
abbrev b_Arrs_copyOf2 : ByteArray := prog_25_method_119_code
def y_Arrs_copyOf2 : MethodName := ⟨"java/util/Arrays", "copyOf", "([Ljava/lang/Object;I)[Ljava/lang/Object;"⟩
abbrev b_Arrs_copyOf3 : ByteArray := prog_25_method_120_code
def y_Arrs_copyOf3 : MethodName := ⟨"java/util/Arrays", "copyOf", "([Ljava/lang/Object;ILjava/lang/Class;)[Ljava/lang/Object;"⟩
abbrev b_Math_min : ByteArray := prog_17_method_69_code
def y_Math_min : MethodName := ⟨"java/lang/Math", "min", "(II)I"⟩
abbrev b_X_event : ByteArray := prog_1_method_3_code
def y_X_event : MethodName := ⟨"ExpectRows", "event", "(IIIIJ)I"⟩
abbrev b_X_isItem : ByteArray := prog_1_method_13_code
def y_X_isItem : MethodName := ⟨"ExpectRows", "isItem", "(I)Z"⟩
abbrev b_Item_mayComeAt : ByteArray := prog_6_method_3_code
def y_Item_mayComeAt : MethodName := ⟨"ExpectRows$Item", "mayComeAt", "(J)Z"⟩
abbrev b_Item_isNew : ByteArray := prog_6_method_2_code
def y_Item_isNew : MethodName := ⟨"ExpectRows$Item", "isNew", "()Z"⟩
abbrev b_Item_expectNothing : ByteArray := prog_6_method_9_code
def y_Item_expectNothing : MethodName := ⟨"ExpectRows$Item", "expectNothing", "()V"⟩
abbrev b_Item_daysUntil : ByteArray := prog_6_method_5_code
def y_Item_daysUntil : MethodName := ⟨"ExpectRows$Item", "daysUntil", "(J)I"⟩
abbrev b_Deliv_addDelivery : ByteArray := prog_4_method_2_code
def y_Deliv_addDelivery : MethodName := ⟨"ExpectRows$DeliveryList", "addDelivery", "(II)V"⟩
abbrev b_Item_beginAnew : ByteArray := prog_6_method_6_code
def y_Item_beginAnew : MethodName := ⟨"ExpectRows$Item", "beginAnew", "()V"⟩
abbrev b_Item_takeEvent : ByteArray := prog_6_method_4_code
def y_Item_takeEvent : MethodName := ⟨"ExpectRows$Item", "takeEvent", "(IJ)V"⟩
abbrev b_RowL_firstFor : ByteArray := prog_9_method_3_code
def y_RowL_firstFor : MethodName := ⟨"ExpectRows$RowList", "firstFor", "(III)LExpectRows$Row;"⟩
abbrev b_AL_get : ByteArray := prog_24_method_20_code
def y_AL_get : MethodName := ⟨"java/util/ArrayList", "get", "(I)Ljava/lang/Object;"⟩
abbrev b_Objs_checkIndex : ByteArray := prog_28_method_17_code
def y_Objs_checkIndex : MethodName := ⟨"java/util/Objects", "checkIndex", "(II)I"⟩
abbrev b_Prec_checkIndex : ByteArray := prog_32_method_11_code
def y_Prec_checkIndex : MethodName := ⟨"jdk/internal/util/Preconditions", "checkIndex", "(IILjava/util/function/BiFunction;)I"⟩
abbrev b_AL_elementData : ByteArray := prog_24_method_18_code
def y_AL_elementData : MethodName := ⟨"java/util/ArrayList", "elementData", "(I)Ljava/lang/Object;"⟩
abbrev b_Row_isFor : ByteArray := prog_8_method_2_code
def y_Row_isFor : MethodName := ⟨"ExpectRows$Row", "isFor", "(III)Z"⟩
abbrev b_X_expectNext : ByteArray := prog_1_method_17_code
def y_X_expectNext : MethodName := ⟨"ExpectRows", "expectNext", "(LExpectRows$Item;LExpectRows$Row;IJ)I"⟩
abbrev b_RowL_noteFailed : ByteArray := prog_9_method_4_code
def y_RowL_noteFailed : MethodName := ⟨"ExpectRows$RowList", "noteFailed", "(LExpectRows$Row;)V"⟩
abbrev b_Holi_dueAfter : ByteArray := prog_5_method_4_code
def y_Holi_dueAfter : MethodName := ⟨"ExpectRows$HolidayList", "dueAfter", "(JJ)J"⟩
abbrev b_Math_maxl : ByteArray := prog_17_method_66_code
def y_Math_maxl : MethodName := ⟨"java/lang/Math", "max", "(JJ)J"⟩
abbrev b_Item_expect : ByteArray := prog_6_method_8_code
def y_Item_expect : MethodName := ⟨"ExpectRows$Item", "expect", "(IIJ)V"⟩
abbrev b_Cnts_addBegun : ByteArray := prog_7_method_2_code
def y_Cnts_addBegun : MethodName := ⟨"ExpectRows$PlaceCounts", "addBegun", "(I)V"⟩
abbrev b_X_tick : ByteArray := prog_1_method_4_code
def y_X_tick : MethodName := ⟨"ExpectRows", "tick", "(J)I"⟩
abbrev b_AlarmL_size : ByteArray := prog_3_method_2_code
def y_AlarmL_size : MethodName := ⟨"ExpectRows$AlarmList", "size", "()I"⟩
abbrev b_X_tellLate : ByteArray := prog_1_method_18_code
def y_X_tellLate : MethodName := ⟨"ExpectRows", "tellLate", "(ILExpectRows$Item;)V"⟩
abbrev b_Item_isExpected : ByteArray := prog_6_method_7_code
def y_Item_isExpected : MethodName := ⟨"ExpectRows$Item", "isExpected", "()Z"⟩
abbrev b_Cnts_addLate : ByteArray := prog_7_method_3_code
def y_Cnts_addLate : MethodName := ⟨"ExpectRows$PlaceCounts", "addLate", "(I)V"⟩
abbrev b_AlarmL_addAlarm : ByteArray := prog_3_method_3_code
def y_AlarmL_addAlarm : MethodName := ⟨"ExpectRows$AlarmList", "addAlarm", "(IILExpectRows$Item;)V"⟩
abbrev b_Alarm_init : ByteArray := prog_2_method_1_code
def y_Alarm_init : MethodName := ⟨"ExpectRows$Alarm", "<init>", "(IIIII)V"⟩
abbrev b_X_tellLost : ByteArray := prog_1_method_19_code
def y_X_tellLost : MethodName := ⟨"ExpectRows", "tellLost", "(ILExpectRows$Item;)V"⟩
abbrev b_X_alarm : ByteArray := prog_1_method_5_code
def y_X_alarm : MethodName := ⟨"ExpectRows", "alarm", "(II)I"⟩
abbrev b_AlarmL_partOf : ByteArray := prog_3_method_4_code
def y_AlarmL_partOf : MethodName := ⟨"ExpectRows$AlarmList", "partOf", "(II)I"⟩
abbrev b_X_state : ByteArray := prog_1_method_6_code
def y_X_state : MethodName := ⟨"ExpectRows", "state", "(I)I"⟩
abbrev b_Item_toldState : ByteArray := prog_6_method_10_code
def y_Item_toldState : MethodName := ⟨"ExpectRows$Item", "toldState", "()I"⟩
abbrev b_X_holiday : ByteArray := prog_1_method_7_code
def y_X_holiday : MethodName := ⟨"ExpectRows", "holiday", "(J)I"⟩
abbrev b_Holi_addDay : ByteArray := prog_5_method_2_code
def y_Holi_addDay : MethodName := ⟨"ExpectRows$HolidayList", "addDay", "(J)I"⟩
abbrev b_Holi_holds : ByteArray := prog_5_method_3_code
def y_Holi_holds : MethodName := ⟨"ExpectRows$HolidayList", "holds", "(J)Z"⟩
abbrev b_X_percentile : ByteArray := prog_1_method_9_code
def y_X_percentile : MethodName := ⟨"ExpectRows", "percentile", "(II)J"⟩
abbrev b_Deliv_countOf : ByteArray := prog_4_method_3_code
def y_Deliv_countOf : MethodName := ⟨"ExpectRows$DeliveryList", "countOf", "(I)I"⟩
abbrev b_Deliv_daysAtRank : ByteArray := prog_4_method_4_code
def y_Deliv_daysAtRank : MethodName := ⟨"ExpectRows$DeliveryList", "daysAtRank", "(II)I"⟩
abbrev b_X_found : ByteArray := prog_1_method_10_code
def y_X_found : MethodName := ⟨"ExpectRows", "found", "(IJ)I"⟩
abbrev b_X_cluster : ByteArray := prog_1_method_11_code
def y_X_cluster : MethodName := ⟨"ExpectRows", "cluster", "(II)I"⟩
abbrev b_Cnts_clusterPlace : ByteArray := prog_7_method_7_code
def y_Cnts_clusterPlace : MethodName := ⟨"ExpectRows$PlaceCounts", "clusterPlace", "(I)I"⟩
abbrev b_Cnts_isCluster : ByteArray := prog_7_method_6_code
def y_Cnts_isCluster : MethodName := ⟨"ExpectRows$PlaceCounts", "isCluster", "(I)Z"⟩
abbrev b_Cnts_lateAt : ByteArray := prog_7_method_5_code
def y_Cnts_lateAt : MethodName := ⟨"ExpectRows$PlaceCounts", "lateAt", "(I)I"⟩
abbrev b_Cnts_clustersBefore : ByteArray := prog_7_method_8_code
def y_Cnts_clustersBefore : MethodName := ⟨"ExpectRows$PlaceCounts", "clustersBefore", "(I)I"⟩
abbrev b_Cnts_comesBefore : ByteArray := prog_7_method_9_code
def y_Cnts_comesBefore : MethodName := ⟨"ExpectRows$PlaceCounts", "comesBefore", "(II)Z"⟩
abbrev b_Cnts_begunAt : ByteArray := prog_7_method_4_code
def y_Cnts_begunAt : MethodName := ⟨"ExpectRows$PlaceCounts", "begunAt", "(I)I"⟩
abbrev b_X_failing : ByteArray := prog_1_method_12_code
def y_X_failing : MethodName := ⟨"ExpectRows", "failing", "(I)I"⟩
abbrev b_RowL_failedRow : ByteArray := prog_9_method_5_code
def y_RowL_failedRow : MethodName := ⟨"ExpectRows$RowList", "failedRow", "(I)I"⟩
abbrev b_Law_share : ByteArray := method_3_code
def y_Law_share : MethodName := ⟨"ExpectRowsLaw", "share", "(LExpectRows;II[J)I"⟩
abbrev b_X_share : ByteArray := prog_1_method_8_code
def y_X_share : MethodName := ⟨"ExpectRows", "share", "(II)J"⟩
abbrev b_Thr_init0 : ByteArray := prog_21_method_1_code
def y_Thr_init0 : MethodName := ⟨"java/lang/Throwable", "<init>", "()V"⟩
abbrev b_Thr_fillInStackTrace : ByteArray := prog_21_method_18_code
def y_Thr_fillInStackTrace : MethodName := ⟨"java/lang/Throwable", "fillInStackTrace", "()Ljava/lang/Throwable;"⟩
abbrev b_ArE_init : ByteArray := prog_13_method_2_code
def y_ArE_init : MethodName := ⟨"java/lang/ArithmeticException", "<init>", "(Ljava/lang/String;)V"⟩
abbrev b_RtE_init : ByteArray := prog_18_method_2_code
def y_RtE_init : MethodName := ⟨"java/lang/RuntimeException", "<init>", "(Ljava/lang/String;)V"⟩
abbrev b_Exc_init : ByteArray := prog_15_method_2_code
def y_Exc_init : MethodName := ⟨"java/lang/Exception", "<init>", "(Ljava/lang/String;)V"⟩
abbrev b_Thr_initS : ByteArray := prog_21_method_2_code
def y_Thr_initS : MethodName := ⟨"java/lang/Throwable", "<init>", "(Ljava/lang/String;)V"⟩
abbrev b_X_commonDivisor : ByteArray := prog_1_method_16_code
def y_X_commonDivisor : MethodName := ⟨"ExpectRows", "commonDivisor", "(II)I"⟩
abbrev b_Mod_init : ByteArray := prog_11_method_1_code
def y_Mod_init : MethodName := ⟨"ExpectRowsModel", "<init>", "()V"⟩
abbrev b_Mod_thrown : ByteArray := prog_11_method_2_code
def y_Mod_thrown : MethodName := ⟨"ExpectRowsModel", "thrown", "()I"⟩
abbrev b_Mod_rule : ByteArray := prog_11_method_4_code
def y_Mod_rule : MethodName := ⟨"ExpectRowsModel", "rule", "(IIIJZ)I"⟩
abbrev b_Mod_isIn : ByteArray := prog_11_method_3_code
def y_Mod_isIn : MethodName := ⟨"ExpectRowsModel", "isIn", "(JJJ)Z"⟩
abbrev b_Mod_event : ByteArray := prog_11_method_10_code
def y_Mod_event : MethodName := ⟨"ExpectRowsModel", "event", "(IIIIJ)I"⟩
abbrev b_Mod_isTime : ByteArray := prog_11_method_7_code
def y_Mod_isTime : MethodName := ⟨"ExpectRowsModel", "isTime", "(IJ)Z"⟩
abbrev b_Mod_end : ByteArray := prog_11_method_5_code
def y_Mod_end : MethodName := ⟨"ExpectRowsModel", "end", "(I)V"⟩
abbrev b_Mod_rowFor : ByteArray := prog_11_method_8_code
def y_Mod_rowFor : MethodName := ⟨"ExpectRowsModel", "rowFor", "(III)I"⟩
abbrev b_Mod_fails : ByteArray := prog_11_method_9_code
def y_Mod_fails : MethodName := ⟨"ExpectRowsModel", "fails", "(I)V"⟩
abbrev b_Mod_behind : ByteArray := prog_11_method_6_code
def y_Mod_behind : MethodName := ⟨"ExpectRowsModel", "behind", "(JJ)J"⟩
abbrev b_Mod_tick : ByteArray := prog_11_method_12_code
def y_Mod_tick : MethodName := ⟨"ExpectRowsModel", "tick", "(J)I"⟩
abbrev b_Mod_tell : ByteArray := prog_11_method_11_code
def y_Mod_tell : MethodName := ⟨"ExpectRowsModel", "tell", "(II)V"⟩
abbrev b_Mod_alarm : ByteArray := prog_11_method_13_code
def y_Mod_alarm : MethodName := ⟨"ExpectRowsModel", "alarm", "(II)I"⟩
abbrev b_Mod_state : ByteArray := prog_11_method_14_code
def y_Mod_state : MethodName := ⟨"ExpectRowsModel", "state", "(I)I"⟩
abbrev b_Mod_holiday : ByteArray := prog_11_method_15_code
def y_Mod_holiday : MethodName := ⟨"ExpectRowsModel", "holiday", "(J)I"⟩
abbrev b_Mod_share : ByteArray := prog_11_method_16_code
def y_Mod_share : MethodName := ⟨"ExpectRowsModel", "share", "(II)J"⟩
abbrev b_Mod_percentile : ByteArray := prog_11_method_17_code
def y_Mod_percentile : MethodName := ⟨"ExpectRowsModel", "percentile", "(II)J"⟩
abbrev b_Mod_found : ByteArray := prog_11_method_18_code
def y_Mod_found : MethodName := ⟨"ExpectRowsModel", "found", "(IJ)I"⟩
abbrev b_Mod_cluster : ByteArray := prog_11_method_20_code
def y_Mod_cluster : MethodName := ⟨"ExpectRowsModel", "cluster", "(II)I"⟩
abbrev b_Mod_isBefore : ByteArray := prog_11_method_19_code
def y_Mod_isBefore : MethodName := ⟨"ExpectRowsModel", "isBefore", "(II)Z"⟩
abbrev b_Mod_failing : ByteArray := prog_11_method_21_code
def y_Mod_failing : MethodName := ⟨"ExpectRowsModel", "failing", "(I)I"⟩
end
section
/-! THE MEMORY LAYER: the heap of the system as a partial function from addresses to cells (mm_M); every cell bears a tag (the module that it belongs to; 0: a constant of the JDK's, never written), and lies from the base g.1 on, if its tag isn't 0; a contract (Ct) says what the memory is behind a call, whole: no cutting and joining. -/
abbrev mm_E : Type := Nat × va_E
abbrev mm_M : Type := Nat → Option mm_E
abbrev mm_G : Type := Nat × va_G × (Nat → ClassId)
/-- an object's cell, an int array's, a long array's, a reference array's -/
abbrev ob (t ci : Nat) (fs : List Value) : mm_E := (t, .inr (ci, fs))
abbrev ai (t : Nat) (cA : ClassId) (n : Nat) (f : Nat → Int32) : mm_E := (t, .inl (cA, n, .inl f))
abbrev al (t : Nat) (cA : ClassId) (n : Nat) (f : Nat → Int64) : mm_E := (t, .inl (cA, n, .inr (.inl f)))
abbrev aq (t : Nat) (cA : ClassId) (n : Nat) (f : Nat → Option Nat) : mm_E := (t, .inl (cA, n, .inr (.inr (.inr (.inr f)))))
abbrev mm_up (M : mm_M) (a : Nat) (e : mm_E) : mm_M := va_up M a (some e)
theorem mm_self (M : mm_M) (a : Nat) (e : mm_E) : mm_up M a e a = some e := va_up_self M a (some e)
theorem mm_ne (M : mm_M) {a q : Nat} (e : mm_E) (h : q ≠ a) : mm_up M a e q = M q := va_up_ne M (some e) h
theorem mm_uu (M : mm_M) (a : Nat) (e e' : mm_E) : mm_up (mm_up M a e) a e' = mm_up M a e' := bx_uu M a (some e) (some e')
/-- two addresses whose cells differ are two -/
theorem mm_apart {M : mm_M} {a q : Nat} {e e' : mm_E} (h : M a = some e) (h' : M q = some e') (n : e ≠ e') : a ≠ q := fun x => n (Option.some.inj (h.symm.trans (x ▸ h')))
theorem mm_apartN {M : mm_M} {a q : Nat} {e : mm_E} (h : M a = some e) (h' : M q = none) : a ≠ q := fun x => by rw [x, h'] at h; cases h
theorem mm_tag {M : mm_M} {a q t t' : Nat} {e e' : va_E} (h : M a = some (t, e)) (h' : M q = some (t', e')) (n : t ≠ t') : a ≠ q := mm_apart h h' (fun x => n (congrArg Prod.fst x))
/-- the cells with this tag stay as they are -/
def mm_same (t : Nat) (M M' : mm_M) : Prop := ∀ (q : Nat) (e : va_E), M q = some (t, e) → M' q = some (t, e)
theorem mm_same.rf {t : Nat} {M : mm_M} : mm_same t M M := fun _ _ h => h
theorem mm_same.tr {t : Nat} {M M1 M2 : mm_M} (h : mm_same t M M1) (h' : mm_same t M1 M2) : mm_same t M M2 := fun q e x => h' q e (h q e x)
theorem mm_same.up {t t' : Nat} {M : mm_M} {a : Nat} {e0 : va_E} (h : M a = some (t', e0)) (n : t ≠ t') (e1 : mm_E) : mm_same t M (mm_up M a e1) := fun q f hq => (mm_ne M e1 (mm_tag hq h n)).trans hq
theorem mm_same.new {t : Nat} {M : mm_M} {a : Nat} (h : M a = none) (e1 : mm_E) : mm_same t M (mm_up M a e1) := fun q f hq => (mm_ne M e1 (mm_apartN hq h)).trans hq
def mm_ok (g : mm_G) (M : mm_M) (H : Heap) : Prop := g.1 ≤ H.size ∧ ∀ (a : Nat) (e : mm_E), M a = some e → (e.1 ≠ 0 → g.1 ≤ a) ∧ va_at g.2.1 classes (a, e.2) H
def mm_S (g : mm_G) (s : State) (M : mm_M) (H : Heap) (locs : List Loc) : Prop := mm_ok g M H ∧ g.1 ≤ s.heap.size ∧ va_S (fun q => g.1 ≤ q) s.heap H locs
theorem mm_ok.lt {g : mm_G} {M : mm_M} {H : Heap} (h : mm_ok g M H) {a : Nat} {e : mm_E} (hM : M a = some e) : a < H.size := (h.2 a e hM).2.lt
theorem mm_ok.fresh {g : mm_G} {M : mm_M} {H : Heap} (h : mm_ok g M H) {q : Nat} (hq : H.size ≤ q) : M q = none := by
  cases hM : M q with
  | none => rfl
  | some e => exact absurd (h.lt hM) (by omega)
/-- a cell is written -/
theorem mm_ok.put {g : mm_G} {M : mm_M} {H H1 : Heap} (h : mm_ok g M H) {a t : Nat} {e0 e : va_E} (hM : M a = some (t, e0)) (he : va_at g.2.1 classes (a, e) H1) (z : H1.size = H.size) (oq : ∀ q : Nat, q ≠ a → H1[q]? = H[q]?) : mm_ok g (mm_up M a (t, e)) H1 := by
  refine ⟨by rw [z]; exact h.1, fun q f hq => ?_⟩
  by_cases c : q = a
  · subst c
    rw [mm_self] at hq
    cases hq
    exact ⟨(h.2 q _ hM).1, he⟩
  · rw [mm_ne _ _ c] at hq
    exact ⟨(h.2 q f hq).1, (h.2 q f hq).2.kept (oq q c)⟩
/-- a cell comes -/
theorem mm_ok.new {g : mm_G} {M : mm_M} {H H1 : Heap} (h : mm_ok g M H) {t : Nat} {e : va_E} (he : va_at g.2.1 classes (H.size, e) H1) (z : H1.size = H.size + 1) (oq : ∀ q : Nat, q < H.size → H1[q]? = H[q]?) : mm_ok g (mm_up M H.size (t, e)) H1 := by
  refine ⟨by rw [z]; exact Nat.le_succ_of_le h.1, fun q f hq => ?_⟩
  by_cases c : q = H.size
  · subst c
    rw [mm_self] at hq
    cases hq
    exact ⟨fun _ => h.1, he⟩
  · rw [mm_ne _ _ c] at hq
    exact ⟨(h.2 q f hq).1, (h.2 q f hq).2.kept (oq q (h.lt hq))⟩
theorem mm_S.put {g : mm_G} {s : State} {M : mm_M} {H H1 : Heap} {locs : List Loc} (h : mm_S g s M H locs) {a k t : Nat} {e0 e : va_E} (hM : M a = some (t, e0)) (ht : t ≠ 0) (he : va_at g.2.1 classes (a, e) H1) (z : H1.size = H.size) (oq : ∀ q : Nat, q ≠ a → H1[q]? = H[q]?) : mm_S g s (mm_up M a (t, e)) H1 (locs ++ [⟨a, k⟩]) :=
  ⟨h.1.put hM he z oq, h.2.1, h.2.2.put z oq ((h.1.2 a _ hM).1 ht)⟩
theorem mm_S.new {g : mm_G} {s : State} {M : mm_M} {H H1 : Heap} {locs : List Loc} (h : mm_S g s M H locs) {t : Nat} {e : va_E} (he : va_at g.2.1 classes (H.size, e) H1) (z : H1.size = H.size + 1) (oq : ∀ q : Nat, q < H.size → H1[q]? = H[q]?) : mm_S g s (mm_up M H.size (t, e)) H1 locs :=
  ⟨h.1.new he z oq, h.2.1, ⟨Nat.le_trans h.2.2.1 (by omega), fun x h1 h2 => (oq x (Nat.lt_of_lt_of_le h1 h.2.2.1)).trans (h.2.2.2.1 x h1 h2), h.2.2.2.2⟩⟩
theorem mm_S.fresh {g : mm_G} {s : State} {M : mm_M} {H : Heap} {locs : List Loc} (h : mm_S g s M H locs) : M H.size = none := h.1.fresh (Nat.le_refl _)
-- the words that stay true where more is resolved (GW), and those of nest mates (NW)
def nw_ok : Cond → Bool
  | .fieldLinkNest .. => true
  | .methodLinkNest .. => true
  | .castable .. => true
  | .declares .. => true
  | _ => false
def GW : List Cond := lw_tbl.filter goodWord
def NW : List Cond := lw_tbl.filter nw_ok
theorem gw_of {w : Cond} (h : w ∈ lw_tbl) (hg : goodWord w = true) : w ∈ GW := List.mem_filter.mpr ⟨h, hg⟩
theorem nw_of {w : Cond} (h : w ∈ lw_tbl) (hg : nw_ok w = true) : w ∈ NW := List.mem_filter.mpr ⟨h, hg⟩
theorem gw_good : GoodIn GW GW := fun w hw => ⟨hw, good_of_word (List.mem_filter.mp hw).2⟩
theorem nw_tab {w : Cond} (h : nw_ok w = true) : w.onTables = true := by
  cases w <;> first | rfl | (simp [nw_ok] at h)
theorem nw_warm {w : Cond} {s U : State} (h : nw_ok w = true) (hW : s.WarmedH U.vm) (hZ : va_Nw w s) : va_Nw w U := by
  cases w <;> first | exact va_Nw.warmF hW hZ | exact va_Nw.warmM hW hZ | exact va_Nw.warmC hW hZ | exact va_Nw.warmD hW hZ | (simp [nw_ok] at h)
-- ArrayList's empty array (its address), the mirror of Object[], the text of the one exception: kept among the numbers of g
def g_df (g : mm_G) : Nat := g.2.1.2 100 0
def g_mi (g : mm_G) : Nat := g.2.1.2 100 1
def g_tx (g : mm_G) : Nat := g.2.1.2 100 2
/-- what is known of statics, which lie below the base -/
def mm_Zs (g : mm_G) (U : State) : Prop := va_Z "java/util/ArrayList" "DEFAULTCAPACITY_EMPTY_ELEMENTDATA" "[Ljava/lang/Object;" (.ref (g_df g)) (fun q => g.1 ≤ q) U U.heap ∧ va_T (.object "java/lang/Object") (g_df g) 0 (fun _ => .null) (fun q => g.1 ≤ q) U U.heap
theorem mm_Zs.go {g : mm_G} {s U : State} {H : Heap} {locs : List Loc} (h : mm_Zs g s) (hW : s.WarmedH U.vm) (hS : va_S (fun q => g.1 ≤ q) s.heap H locs) (hU : U.heap = H) : mm_Zs g U :=
  ⟨(va_Z.moved hW.alike h.1).kept (fun a h1 h2 => by rw [hU]; exact hS.2.1 a h1 h2), (va_T.moved hW.alike h.2).kept (fun a h1 h2 => by rw [hU]; exact hS.2.1 a h1 h2)⟩
theorem mm_Zs.same {g : mm_G} {s U : State} (h : mm_Zs g s) (hv : s.vm = U.vm) (hh : U.heap = s.heap) : mm_Zs g U :=
  ⟨(va_Z.moved (by rw [hv]; exact Vm.Alike.refl _) h.1).kept (fun a h1 h2 => by rw [hh]), (va_T.moved (by rw [hv]; exact Vm.Alike.refl _) h.2).kept (fun a h1 h2 => by rw [hh])⟩
def mm_K (g : mm_G) (U : State) : Prop := va_K g.2.1 classes (tys g.2.2) U ∧ (∀ w ∈ NW, va_Nw w U) ∧ va_AO "ExpectRows$Item" U ∧ va_AO "java/lang/Object" U ∧ va_Mi "[Ljava/lang/Object;" (g_mi g) U ∧ vk_R "ExpectRows" 139 "no expectation was begun at this place" (g_tx g) U ∧ mm_Zs g U
theorem mm_K.warm {g : mm_G} {s U : State} {H : Heap} {locs : List Loc} (h : mm_K g s) (hW : s.WarmedH U.vm) (hS : va_S (fun q => g.1 ≤ q) s.heap H locs) (hU : U.heap = H) : mm_K g U := ⟨va_K.moved hW.alike h.1, fun w hw => nw_warm (List.mem_filter.mp hw).2 hW (h.2.1 w hw), va_AO.moved hW.alike h.2.2.1, va_AO.moved hW.alike h.2.2.2.1, va_Mi.moved hW.alike h.2.2.2.2.1, vk_R.warm hW h.2.2.2.2.2.1, h.2.2.2.2.2.2.go hW hS hU⟩
theorem mm_K.same {g : mm_G} {s U : State} (h : mm_K g s) (hv : s.vm = U.vm) (hh : U.heap = s.heap) : mm_K g U := ⟨va_K.moved (by rw [hv]; exact Vm.Alike.refl _) h.1, fun w hw => va_Nw.same (nw_tab (List.mem_filter.mp hw).2) hv (h.2.1 w hw), va_AO.moved (by rw [hv]; exact Vm.Alike.refl _) h.2.2.1, va_AO.moved (by rw [hv]; exact Vm.Alike.refl _) h.2.2.2.1, va_Mi.moved (by rw [hv]; exact Vm.Alike.refl _) h.2.2.2.2.1, vk_R.same hv.symm h.2.2.2.2.2.1, h.2.2.2.2.2.2.same hv hh⟩
/-- a method's surroundings: the machine, its code, its class, the words, what is known of classes -/
def mm_C (g : mm_G) (p : Program) (s : State) (m : MethodId) (args : Array Value) (c : Code) (cc : ByteArray) (own : String) : Prop :=
  p.tables.exec = Jvm.exec ∧ c.code = cc ∧ s.vm.findClass own = some m.cls ∧ (∀ w ∈ GW, w.before args s = true) ∧ mm_K g s
def mm_Q (g : mm_G) (Post : Option Value → mm_M → Prop) : Array Value → State → Outcome → State → Prop := fun _ st o t => (∃ (v : Option Value) (M' : mm_M), o = .returned v ∧ Post v M' ∧ mm_ok g M' t.heap) ∧ va_F (fun q => g.1 ≤ q) st t
def mm_Pc (g : mm_G) (M : mm_M) (av : List Value) : Array Value → State → Prop := fun a U => a = av.toArray ∧ mm_K g U ∧ mm_ok g M U.heap
/-- A CONTRACT: with the memory M and the arguments av the method returns, with an answer and a memory as Post says -/
def Ct (l : Launch) (g : mm_G) (y : MethodName) (b : ByteArray) (n : Nat) (ret : Option FieldType) (rm : Room) (M : mm_M) (av : List Value) (Post : Option Value → mm_M → Prop) : Prop :=
  Met l y (.code y b n ret :: GW) rm (mm_Pc g M av) (mm_Q g Post) rm.cells rm.slots (fun q => g.1 ≤ q)
abbrev Ci (l : Launch) (g : mm_G) (y : MethodName) (b : ByteArray) (n : Nat) (ret : FieldType) (rm : Room) (M : mm_M) (av : List Value) (Post : Int32 → mm_M → Prop) : Prop := Ct l g y b n (some ret) rm M av (fun v M' => ∃ r, v = some (.int r) ∧ Post r M')
abbrev Cl (l : Launch) (g : mm_G) (y : MethodName) (b : ByteArray) (n : Nat) (rm : Room) (M : mm_M) (av : List Value) (Post : Int64 → mm_M → Prop) : Prop := Ct l g y b n (some .long) rm M av (fun v M' => ∃ r, v = some (.long r) ∧ Post r M')
abbrev Cv (l : Launch) (g : mm_G) (y : MethodName) (b : ByteArray) (n : Nat) (rm : Room) (M : mm_M) (av : List Value) (Post : mm_M → Prop) : Prop := Ct l g y b n none rm M av (fun v M' => v = none ∧ Post M')
abbrev Cq (l : Launch) (g : mm_G) (y : MethodName) (b : ByteArray) (n : Nat) (ret : FieldType) (rm : Room) (M : mm_M) (av : List Value) (Post : Option Nat → mm_M → Prop) : Prop := Ct l g y b n (some ret) rm M av (fun v M' => ∃ r, v = some (va_rf r) ∧ Post r M')
/-- a room of k frames, lc words, mc cells of ms slots -/
abbrev rk (k lc mc ms : Nat) : Room := { frames := k, cells := mc, slots := ms, locals := lc }
theorem mm_blind {g : mm_G} {M : mm_M} {av : List Value} : FrameBlind (mm_Pc g M av) := fun _ U _ _ q => ⟨q.1, q.2.1.same (s := U) rfl rfl, q.2.2⟩
theorem mm_enter {l : Launch} {g : mm_G} {y : MethodName} {b : ByteArray} {n : Nat} {ret : Option FieldType} {rm : Room} {M : mm_M} {av : List Value} {Post : Option Value → mm_M → Prop} (hy : plainName y.cls = true) (hn : (lg_sl av).length ≤ n)
    (body : ∀ (p : Program) (e : Env) (s : State) (m : MethodId) (args : Array Value) (below : List Frame) (meth : Method) (c : Code) (ls : Array Slot) (Q : State → Prop), mm_C g p s m args c b y.cls → c.maxLocals = n → meth.sig.returnType = ret → meth.locks = false → meth.name = y.name → mm_S g s M s.heap [] → lv_has ls n (lv_args 0 av) →
      Q = MQ below (mm_Q g Post) args s rm.cells rm.slots (fun q => g.1 ≤ q) → W p l e rm s m args below meth c s.heap [] 0 0 Q (F0 m 0 ls [])) : Ct l g y b n ret rm M av Post := by
  refine Met.ofW (cc := b) (maxL := n) (ret := ret) hy rfl ?_
  intro p e s m args below meth c s₁ B hml hv
  obtain ⟨rfl, hK, hM⟩ := hv
  have hts := atoms_spec (ws := .code y b n ret :: GW) B.pre
  rw [lg_entry_eq]
  exact body p e s m _ below meth c _ _ ⟨B.exec, B.bytes, findClass_of_methodNamed B.named, fun w h => hts w (List.mem_cons_of_mem _ h), hK⟩ hml B.returns B.notSynchronized (name_of_methodNamed B.named B.method).1 ⟨hM, hM.1, va_S.rf⟩ (lv_entry av hn) rfl
section MM
variable {p : Program} {l : Launch} {e : Env} {R : Room} {s : State} {m : MethodId} {args : Array Value} {below : List Frame} {meth : Method} {c : Code} {H : Heap} {locs : List Loc} {cells slots : Nat} {Q : State → Prop} {cc : ByteArray} {pc : Nat} {ls : Array Slot} {rest st0 : List Value} {g : mm_G} {M : mm_M} {own : String} {a : Nat} {Post : Option Value → mm_M → Prop}
-- returns
theorem mm_iret (E : mm_C g p s m args c cc own) (hr : meth.sig.returnType = some .int) (hlk : meth.locks = false) (eQ : Q = MQ below (mm_Q g Post) args s cells slots (fun q => g.1 ≤ q)) (hZ : mm_S g s M H locs) {v : Int32} (hdg : decode cc pc = .ok (.ireturn, 1)) (hp : Post (some (.int v)) M) : W p l e R s m args below meth c H locs cells slots Q (F0 m pc ls [.int v]) := by
  subst eQ
  exact W.iret E.1 E.2.1 hr (fun t ht _ => ⟨⟨_, _, rfl, hp, by rw [ht]; exact hZ.1⟩, hZ.2.2.F ht⟩) hZ.2.2.2.2 hdg hlk
theorem mm_zret (E : mm_C g p s m args c cc own) {ty : FieldType} (hr : meth.sig.returnType = some ty) (hlk : meth.locks = false) (eQ : Q = MQ below (mm_Q g Post) args s cells slots (fun q => g.1 ≤ q)) (hZ : mm_S g s M H locs) {v : Int32} (hn : narrow ty (.int v) = .int v) (hdg : decode cc pc = .ok (.ireturn, 1)) (hp : Post (some (.int v)) M) : W p l e R s m args below meth c H locs cells slots Q (F0 m pc ls [.int v]) := by
  subst eQ
  exact W.zret E.1 E.2.1 hr hn (fun t ht _ => ⟨⟨_, _, rfl, hp, by rw [ht]; exact hZ.1⟩, hZ.2.2.F ht⟩) hZ.2.2.2.2 hdg hlk
theorem mm_lret (E : mm_C g p s m args c cc own) (hr : meth.sig.returnType = some .long) (hlk : meth.locks = false) (eQ : Q = MQ below (mm_Q g Post) args s cells slots (fun q => g.1 ≤ q)) (hZ : mm_S g s M H locs) {v : Int64} (hdg : decode cc pc = .ok (.lreturn, 1)) (hp : Post (some (.long v)) M) : W p l e R s m args below meth c H locs cells slots Q (F0 m pc ls [.long v]) := by
  subst eQ
  exact W.lret E.1 E.2.1 hr (fun t ht _ => ⟨⟨_, _, rfl, hp, by rw [ht]; exact hZ.1⟩, hZ.2.2.F ht⟩) hZ.2.2.2.2 hdg hlk
theorem mm_vret (E : mm_C g p s m args c cc own) (hr : meth.sig.returnType = none) (hlk : meth.locks = false) (eQ : Q = MQ below (mm_Q g Post) args s cells slots (fun q => g.1 ≤ q)) (hZ : mm_S g s M H locs) (hdg : decode cc pc = .ok (.return_, 1)) (hp : Post none M) : W p l e R s m args below meth c H locs cells slots Q (F0 m pc ls []) := by
  subst eQ
  exact W.vret E.1 E.2.1 hr (fun t ht _ => ⟨⟨_, _, rfl, hp, by rw [ht]; exact hZ.1⟩, hZ.2.2.F ht⟩) hZ.2.2.2.2 hdg hlk
theorem mm_aret (E : mm_C g p s m args c cc own) {rt : FieldType} (hr : meth.sig.returnType = some rt) (hrt : (∃ n, rt = .object n) ∨ ∃ t, rt = .array t) (hlk : meth.locks = false) (eQ : Q = MQ below (mm_Q g Post) args s cells slots (fun q => g.1 ≤ q)) (hZ : mm_S g s M H locs) {v : Option Nat} (hdg : decode cc pc = .ok (.areturn, 1)) (hp : Post (some (va_rf v)) M) : W p l e R s m args below meth c H locs cells slots Q (F0 m pc ls [va_rf v]) := by
  subst eQ
  exact W.aret E.1 E.2.1 hr hrt (va_rf_or v) (fun t ht _ => ⟨⟨_, _, rfl, hp, by rw [ht]; exact hZ.1⟩, hZ.2.2.F ht⟩) hZ.2.2.2.2 hdg hlk
-- fields
theorem mm_getW (E : mm_C g p s m args c cc own) (hZ : mm_S g s M H locs) {C : String} {T : u_T} {N ci index : Nat} {fs : List Value} {t : Nat} (hM : M a = some (ob t ci fs)) (hc : classes[ci]? = some (C, T, N)) (hin : ∀ w ∈ u_ws C T N, w ∈ GW) (k : Nat) (hk : k < N) {ref : String} (hlink : (Cond.fieldLink own index ref (T k).2.1 (T k).2.2.1).before args s = true) (hsame : ∀ x, s.fieldFound? (T k).1 (T k).2.1 (T k).2.2.1 = some x → s.fieldFound? ref (T k).2.1 (T k).2.2.1 = some x) {v : Value} (hv : fs[k]? = some v) (hdg : decode cc pc = .ok (.getfield index, 3))
    (kk : W p l e R s m args below meth c H locs cells slots Q (F0 m (pc + 3) ls (v :: rest))) : W p l e R s m args below meth c H locs cells slots Q (F0 m pc ls (.ref a :: rest)) :=
  va_get (ws := [(a, .inr (ci, fs))]) E.1 E.2.1 E.2.2.2.1 hin E.2.2.1 E.2.2.2.2.1 (fun k q h => by
    match k, h with
    | 0, h => cases h; exact (hZ.1.2 a _ hM).2
    | k + 1, h => simp at h) 0 rfl hc k hk hlink hsame hv hdg kk
theorem mm_getNW (E : mm_C g p s m args c cc own) (hZ : mm_S g s M H locs) {C : String} {T : u_T} {N ci index : Nat} {fs : List Value} {t : Nat} (hM : M a = some (ob t ci fs)) (hc : classes[ci]? = some (C, T, N)) (hin : ∀ w ∈ u_ws C T N, w ∈ GW) (k : Nat) (hk : k < N) {ref host : String} (hlink : (Cond.fieldLinkNest own index ref (T k).2.1 (T k).2.2.1 host).before args s = true) (hsame : ∀ x, s.fieldFound? (T k).1 (T k).2.1 (T k).2.2.1 = some x → s.fieldFound? ref (T k).2.1 (T k).2.2.1 = some x) {v : Value} (hv : fs[k]? = some v) (hdg : decode cc pc = .ok (.getfield index, 3))
    (kk : W p l e R s m args below meth c H locs cells slots Q (F0 m (pc + 3) ls (v :: rest))) : W p l e R s m args below meth c H locs cells slots Q (F0 m pc ls (.ref a :: rest)) :=
  va_getN (ws := [(a, .inr (ci, fs))]) E.1 E.2.1 E.2.2.2.1 hin E.2.2.1 E.2.2.2.2.1 (fun k q h => by
    match k, h with
    | 0, h => cases h; exact (hZ.1.2 a _ hM).2
    | k + 1, h => simp at h) 0 rfl hc k hk hlink hsame hv hdg kk
/-- what a class's row of tables says, by program -/
def mm_cls (ci : Nat) (C : String) (T : u_T) (N : Nat) (ty0 : Nat → FieldType) : Prop := classes[ci]? = some (C, T, N) ∧ (∀ w ∈ u_ws C T N, w ∈ GW) ∧ (∀ k, k < N → parseFieldDescriptor (T k).2.2.1 = some (ty0 k)) ∧ (∀ a, a < N → ∀ b, b < N → a ≠ b → (T a).2.1 ≠ (T b).2.1)
/-- a field's link out of a class's pool -/
def mm_fl (own : String) (index : Nat) (T : u_T) (k : Nat) : Prop := (∃ ref, Cond.fieldLink own index ref (T k).2.1 (T k).2.2.1 ∈ GW ∧ (ref = (T k).1 ∨ Cond.sameField ref (T k).1 (T k).2.1 (T k).2.2.1 ∈ GW)) ∨ ∃ host, Cond.fieldLinkNest own index (T k).1 (T k).2.1 (T k).2.2.1 host ∈ NW
theorem mm_get (E : mm_C g p s m args c cc own) (hZ : mm_S g s M H locs) {C : String} {T : u_T} {N ci index : Nat} {ty0 : Nat → FieldType} (hcl : mm_cls ci C T N ty0) {k : Nat} (hf : mm_fl own index T k) (hk : k < N) {fs : List Value} {t : Nat} (hM : M a = some (ob t ci fs)) {v : Value} (hv : fs[k]? = some v) (hdg : decode cc pc = .ok (.getfield index, 3))
    (kk : W p l e R s m args below meth c H locs cells slots Q (F0 m (pc + 3) ls (v :: rest))) : W p l e R s m args below meth c H locs cells slots Q (F0 m pc ls (.ref a :: rest)) := by
  rcases hf with ⟨ref, hf, hsm⟩ | ⟨host, hf⟩
  · exact mm_getW E hZ hM hcl.1 hcl.2.1 k hk (E.2.2.2.1 _ hf) (by
      rcases hsm with rfl | hsm
      · exact fun _ h => h
      · exact fun x h => u_same (E.2.2.2.1 _ hsm) x h) hv hdg kk
  · exact mm_getNW E hZ hM hcl.1 hcl.2.1 k hk (va_Nw.use rfl (E.2.2.2.2.2.1 _ hf)) (fun _ h => h) hv hdg kk
theorem mm_put (E : mm_C g p s m args c cc own) (hZ : mm_S g s M H locs) {C : String} {T : u_T} {N ci index : Nat} {ty0 : Nat → FieldType} (hcl : mm_cls ci C T N ty0) {k : Nat} (hf : mm_fl own index T k) (hk : k < N) (hfin : (T k).2.2.2 = false) {fs : List Value} {t : Nat} (hM : M a = some (ob t ci fs)) {v : Value} (ht : t ≠ 0) (hn : narrow (ty0 k) v = v) (hfit : fits (ty0 k) v = true) (hl : k < fs.length) (hdg : decode cc pc = .ok (.putfield index, 3))
    (kk : ∀ (H1 : Heap) (locs1 : List Loc), mm_S g s (mm_up M a (ob t ci (fs.set k v))) H1 locs1 → W p l e R s m args below meth c H1 locs1 cells slots Q (F0 m (pc + 3) ls rest)) : W p l e R s m args below meth c H locs cells slots Q (F0 m pc ls (v :: .ref a :: rest)) := by
  obtain ⟨hexec, hb, hown, hts, hK, hN⟩ := E
  obtain ⟨hc, hin, hty, hnm⟩ := hcl
  have hap := va_apart (own := own) hts hin ty0 hty hnm hK hc
  obtain ⟨r, h1, cell, q1, q2, q3, q4⟩ := (hZ.1.2 a _ hM).2
  have hr : r = (C, T, N) := Option.some.inj (h1.symm.trans hc)
  subst hr
  obtain ⟨hS, hfc, kC, hkC, hkind⟩ := hK.1 ci _ hc
  obtain ⟨cf, kf, fi, f, hi, hsl⟩ := hS k hk
  have hlay := hts _ (hin _ (u_in_lay hk))
  unfold u_lay at hlay
  rw [if_neg (by rw [hfin]; decide)] at hlay
  have hst := (u_facts hfc hkC (u_lays hts hin hk) hi).1
  have h6 := u_store hfc hkC hkind hlay hi (hty k hk) hn hfit
  rcases hf with ⟨ref, hf, hsm⟩ | ⟨host, hf⟩
  · have hsame : ∀ x, s.fieldFound? (T k).1 (T k).2.1 (T k).2.2.1 = some x → s.fieldFound? ref (T k).2.1 (T k).2.2.1 = some x := by
      rcases hsm with rfl | hsm
      · exact fun _ h => h
      · exact fun x h => u_same (hts _ hsm) x h
    refine W.putK hexec hb (f := f) ⟨hown, hts _ hf, ⟨_, _, _, hsame _ hi⟩, hst⟩ (by rw [q2]; exact h6) q1 q3 (by rw [hsl]; exact k2_hasslot (q4 k hk)) rfl rfl hdg fun H' e1 e2 e3 => ?_
    rw [hsl] at e1 ⊢
    exact kk H' _ (hZ.put hM ht ⟨_, hc, t_OB.to (V := updV (vp_V fs) k v) ⟨_, e1, q2, q3, t_set q4 hap hk v⟩ (fun j _ => vp_updV_set hl v j)⟩ e2 e3)
  · refine va_WputK hexec hb (f := f) hown (va_Nw.use rfl (hN.1 _ hf)) hi hst (by rw [q2]; exact h6) q1 q3 (by rw [hsl]; exact k2_hasslot (q4 k hk)) rfl rfl hdg fun H' e1 e2 e3 => ?_
    rw [hsl] at e1 ⊢
    exact kk H' _ (hZ.put hM ht ⟨_, hc, t_OB.to (V := updV (vp_V fs) k v) ⟨_, e1, q2, q3, t_set q4 hap hk v⟩ (fun j _ => vp_updV_set hl v j)⟩ e2 e3)
/-- a final field, in its class's constructor -/
theorem mm_putF (E : mm_C g p s m args c cc own) (hnm2 : meth.name = "<init>") (hZ : mm_S g s M H locs) {C : String} {T : u_T} {N ci index : Nat} {ty0 : Nat → FieldType} (hcl : mm_cls ci C T N ty0) {k : Nat} (hf : Cond.fieldLink own index (T k).1 (T k).2.1 (T k).2.2.1 ∈ GW) (hk : k < N) (hfin : (T k).2.2.2 = true) (hdecl : (T k).1 = own) {fs : List Value} {t : Nat} (hM : M a = some (ob t ci fs)) {v : Value} (ht : t ≠ 0) (hn : narrow (ty0 k) v = v) (hfit : fits (ty0 k) v = true) (hl : k < fs.length) (hdg : decode cc pc = .ok (.putfield index, 3))
    (kk : ∀ (H1 : Heap) (locs1 : List Loc), mm_S g s (mm_up M a (ob t ci (fs.set k v))) H1 locs1 → W p l e R s m args below meth c H1 locs1 cells slots Q (F0 m (pc + 3) ls rest)) : W p l e R s m args below meth c H locs cells slots Q (F0 m pc ls (v :: .ref a :: rest)) := by
  obtain ⟨hexec, hb, hown, hts, hK, hN⟩ := E
  obtain ⟨hc, hin, hty, hnm⟩ := hcl
  have hap := va_apart (own := own) hts hin ty0 hty hnm hK hc
  obtain ⟨r, h1, cell, q1, q2, q3, q4⟩ := (hZ.1.2 a _ hM).2
  have hr : r = (C, T, N) := Option.some.inj (h1.symm.trans hc)
  subst hr
  obtain ⟨hS, hfc, kC, hkC, hkind⟩ := hK.1 ci _ hc
  obtain ⟨cf, kf, fi, f, hi, hsl⟩ := hS k hk
  have hlay := hts _ (hin _ (u_in_lay hk))
  unfold u_lay at hlay
  rw [if_pos hfin] at hlay
  have hst := (u_facts hfc hkC (u_lays hts hin hk) hi).1
  have hcf : m.cls = cf := by
    obtain ⟨_, _, c', _, _, _, -, -, hf', -, -, -, hown2, -⟩ := Cond.laysFinal_spec hlay
    have e1 : c' = cf := by have := hi.symm.trans hf'; simp at this; exact this.1.symm
    rw [hdecl] at hown2
    rw [← e1]; exact Option.some.inj (hown.symm.trans hown2)
  have h6 := u_fits hfc hkC hkind (Or.inr hlay) hi (hty k hk) hn hfit
  refine W.putFinK hexec hb hown (hts _ hf) hi hst hcf hnm2 (by rw [q2]; exact h6) q1 q3 (by rw [hsl]; exact k2_hasslot (q4 k hk)) rfl rfl hdg fun H' e1 e2 e3 => ?_
  rw [hsl] at e1 ⊢
  exact kk H' _ (hZ.put hM ht ⟨_, hc, t_OB.to (V := updV (vp_V fs) k v) ⟨_, e1, q2, q3, t_set q4 hap hk v⟩ (fun j _ => vp_updV_set hl v j)⟩ e2 e3)
-- arrays: an index is a number k below the length n
theorem ix_in {i : Int32} {k n : Nat} (hi : i = nI k) (hk : k < n) (hn : n < 2 ^ 31) : vp_in i n := hi ▸ vp_in_nI hk hn
theorem ix_cl {i : Int32} {k n : Nat} (hi : i = nI k) (hk : k < n) (hn : n < 2 ^ 31) : i.toNatClampNeg = k := hi ▸ nI_clamp (Nat.lt_trans hk hn)
theorem mm_at (hZ : mm_S g s M H locs) {t : Nat} {x : va_E} (hM : M a = some (t, x)) : va_P g.2.1 classes [(a, x)] H := fun k q h => by
  match k, h with
  | 0, h => cases h; exact (hZ.1.2 a _ hM).2
  | k + 1, h => simp at h
theorem mm_iald (E : mm_C g p s m args c cc own) (hZ : mm_S g s M H locs) {t t0 n : Nat} {cA : ClassId} {f : Nat → Int32} (hM : M a = some (ai t cA n f)) (ht : (tys g.2.2)[t0]? = some (cA, .int)) {i : Int32} {k : Nat} (hi : i = nI k) (hk : k < n) (hn : n < 2 ^ 31) (hdg : decode cc pc = .ok (.iaload, 1))
    (kk : W p l e R s m args below meth c H locs cells slots Q (F0 m (pc + 1) ls (.int (f k) :: rest))) : W p l e R s m args below meth c H locs cells slots Q (F0 m pc ls (.int i :: .ref a :: rest)) :=
  va_iald E.1 E.2.1 E.2.2.2.2.1 (mm_at hZ hM) 0 t0 rfl ht (ix_in hi hk hn) hdg (by rw [ix_cl hi hk hn]; exact kk)
theorem mm_lald (E : mm_C g p s m args c cc own) (hZ : mm_S g s M H locs) {t t0 n : Nat} {cA : ClassId} {f : Nat → Int64} (hM : M a = some (al t cA n f)) (ht : (tys g.2.2)[t0]? = some (cA, .long)) {i : Int32} {k : Nat} (hi : i = nI k) (hk : k < n) (hn : n < 2 ^ 31) (hdg : decode cc pc = .ok (.laload, 1))
    (kk : W p l e R s m args below meth c H locs cells slots Q (F0 m (pc + 1) ls (.long (f k) :: rest))) : W p l e R s m args below meth c H locs cells slots Q (F0 m pc ls (.int i :: .ref a :: rest)) :=
  va_lald E.1 E.2.1 E.2.2.2.2.1 (mm_at hZ hM) 0 t0 rfl ht (ix_in hi hk hn) hdg (by rw [ix_cl hi hk hn]; exact kk)
theorem mm_zald (E : mm_C g p s m args c cc own) (hZ : mm_S g s M H locs) {t t0 n : Nat} {cA : ClassId} {f : Nat → Int32} (hM : M a = some (ai t cA n f)) (ht : (tys g.2.2)[t0]? = some (cA, .boolean)) {i : Int32} {k : Nat} (hi : i = nI k) (hk : k < n) (hn : n < 2 ^ 31) (hdg : decode cc pc = .ok (.baload, 1))
    (kk : W p l e R s m args below meth c H locs cells slots Q (F0 m (pc + 1) ls (.int (f k) :: rest))) : W p l e R s m args below meth c H locs cells slots Q (F0 m pc ls (.int i :: .ref a :: rest)) :=
  va_zald E.1 E.2.1 E.2.2.2.2.1 (mm_at hZ hM) 0 t0 rfl ht (ix_in hi hk hn) hdg (by rw [ix_cl hi hk hn]; exact kk)
theorem mm_aald (E : mm_C g p s m args c cc own) (hZ : mm_S g s M H locs) {t t0 n : Nat} {cA : ClassId} {C : String} {f : Nat → Option Nat} (hM : M a = some (aq t cA n f)) (ht : (tys g.2.2)[t0]? = some (cA, .object C)) {i : Int32} {k : Nat} (hi : i = nI k) (hk : k < n) (hn : n < 2 ^ 31) (hdg : decode cc pc = .ok (.aaload, 1))
    (kk : W p l e R s m args below meth c H locs cells slots Q (F0 m (pc + 1) ls (va_rf (f k) :: rest))) : W p l e R s m args below meth c H locs cells slots Q (F0 m pc ls (.int i :: .ref a :: rest)) :=
  va_aldq E.1 E.2.1 E.2.2.2.2.1 (mm_at hZ hM) 0 t0 rfl ht (ix_in hi hk hn) hdg (by rw [ix_cl hi hk hn]; exact kk)
theorem mm_alen (E : mm_C g p s m args c cc own) (hZ : mm_S g s M H locs) {t t0 : Nat} {cA : ClassId} {x : vp_A} {ty : FieldType} (hM : M a = some (t, .inl (cA, x))) (ht : (tys g.2.2)[t0]? = some (cA, ty)) {v : Int32} (hv : Int32.ofNat x.1 = v) (hdg : decode cc pc = .ok (.arraylength, 1))
    (kk : W p l e R s m args below meth c H locs cells slots Q (F0 m (pc + 1) ls (.int v :: rest))) : W p l e R s m args below meth c H locs cells slots Q (F0 m pc ls (.ref a :: rest)) :=
  va_alen E.1 E.2.1 E.2.2.2.2.1 (mm_at hZ hM) 0 t0 rfl ht hv hdg kk
theorem mm_iast (E : mm_C g p s m args c cc own) (hZ : mm_S g s M H locs) {t t0 n : Nat} {cA : ClassId} {f : Nat → Int32} (hM : M a = some (ai t cA n f)) (ht : (tys g.2.2)[t0]? = some (cA, .int)) {i x : Int32} (ht0 : t ≠ 0) {k : Nat} (hi : i = nI k) (hk : k < n) (hn : n < 2 ^ 31) (hdg : decode cc pc = .ok (.iastore, 1))
    (kk : ∀ (H1 : Heap) (locs1 : List Loc), mm_S g s (mm_up M a (ai t cA n (va_up f k x))) H1 locs1 → W p l e R s m args below meth c H1 locs1 cells slots Q (F0 m (pc + 1) ls rest)) : W p l e R s m args below meth c H locs cells slots Q (F0 m pc ls (.int x :: .int i :: .ref a :: rest)) := by
  have hin := ix_in hi hk hn
  have hcl := ix_cl hi hk hn
  subst hcl
  refine W.iast E.1 E.2.1 (hZ.1.2 a _ hM).2 ((E.2.2.2.2.1.2 t0 _ ht).1 n (fun j => .int (f j))) (fun q => by cases q) (by show ¬ (i < 0 ∨ (arrV _ _ _).slots.size ≤ _); rw [arrV_size]; exact hin) rfl rfl hdg fun H1 e z oq => ?_
  refine kk H1 _ (hZ.put hM ht0 ?_ z oq)
  show H1[a]? = some (vp_cell _ _)
  rw [e, vp_cell_i, vp_cell_i, arrV_store]
  congr 2
  funext q
  by_cases hq : q = i.toNatClampNeg
  · subst hq
    simp [updV, va_up]
  · simp [updV, va_up, hq]
theorem mm_zast (E : mm_C g p s m args c cc own) (hZ : mm_S g s M H locs) {t t0 n : Nat} {cA : ClassId} {f : Nat → Int32} (hM : M a = some (ai t cA n f)) (ht : (tys g.2.2)[t0]? = some (cA, .boolean)) {i x : Int32} (ht0 : t ≠ 0) (hx : narrow .boolean (.int x) = .int x) {k : Nat} (hi : i = nI k) (hk : k < n) (hn : n < 2 ^ 31) (hdg : decode cc pc = .ok (.bastore, 1))
    (kk : ∀ (H1 : Heap) (locs1 : List Loc), mm_S g s (mm_up M a (ai t cA n (va_up f k x))) H1 locs1 → W p l e R s m args below meth c H1 locs1 cells slots Q (F0 m (pc + 1) ls rest)) : W p l e R s m args below meth c H locs cells slots Q (F0 m pc ls (.int x :: .int i :: .ref a :: rest)) := by
  have hin := ix_in hi hk hn
  have hcl := ix_cl hi hk hn
  subst hcl
  refine W.zast E.1 E.2.1 (hZ.1.2 a _ hM).2 ((E.2.2.2.2.1.2 t0 _ ht).1 n (fun j => .int (f j))) (fun q => by cases q) (by show ¬ (i < 0 ∨ (arrV _ _ _).slots.size ≤ _); rw [arrV_size]; exact hin) rfl rfl hdg fun H1 e z oq => ?_
  refine kk H1 _ (hZ.put hM ht0 ?_ z oq)
  show H1[a]? = some (vp_cell _ _)
  rw [e, hx, vp_cell_i, vp_cell_i, arrV_store]
  congr 2
  funext q
  by_cases hq : q = i.toNatClampNeg
  · subst hq
    simp [updV, va_up]
  · simp [updV, va_up, hq]
theorem mm_last (E : mm_C g p s m args c cc own) (hZ : mm_S g s M H locs) {t t0 n : Nat} {cA : ClassId} {f : Nat → Int64} (hM : M a = some (al t cA n f)) (ht : (tys g.2.2)[t0]? = some (cA, .long)) {i : Int32} {x : Int64} (ht0 : t ≠ 0) {k : Nat} (hi : i = nI k) (hk : k < n) (hn : n < 2 ^ 31) (hdg : decode cc pc = .ok (.lastore, 1))
    (kk : ∀ (H1 : Heap) (locs1 : List Loc), mm_S g s (mm_up M a (al t cA n (va_up f k x))) H1 locs1 → W p l e R s m args below meth c H1 locs1 cells slots Q (F0 m (pc + 1) ls rest)) : W p l e R s m args below meth c H locs cells slots Q (F0 m pc ls (.long x :: .int i :: .ref a :: rest)) := by
  have hin := ix_in hi hk hn
  have hcl := ix_cl hi hk hn
  subst hcl
  refine W.last E.1 E.2.1 (hZ.1.2 a _ hM).2 ((E.2.2.2.2.1.2 t0 _ ht).1 n (fun j => .long (f j))) (fun q => by cases q) (by show ¬ (i < 0 ∨ (arrV _ _ _).slots.size ≤ _); rw [arrV_size]; exact hin) rfl rfl hdg fun H1 e z oq => ?_
  refine kk H1 _ (hZ.put hM ht0 ?_ z oq)
  show H1[a]? = some (vp_cell _ _)
  rw [e, vp_cell_l, vp_cell_l, arrV_store]
  congr 2
  funext q
  by_cases hq : q = i.toNatClampNeg
  · subst hq
    simp [updV, va_up]
  · simp [updV, va_up, hq]
/-- an object of a known class into an array of references of that class -/
theorem mm_aast (E : mm_C g p s m args c cc own) (hZ : mm_S g s M H locs) {t t0 n ci v tv : Nat} {cA : ClassId} {r : vw_C} {vs : List Value} {f : Nat → Option Nat} (hM : M a = some (aq t cA n f)) (ht : (tys g.2.2)[t0]? = some (cA, .object r.1)) (hv : M v = some (ob tv ci vs)) (hc : classes[ci]? = some r) {i : Int32} (ht0 : t ≠ 0) {k : Nat} (hi : i = nI k) (hk : k < n) (hn : n < 2 ^ 31) (hdg : decode cc pc = .ok (.aastore, 1))
    (kk : ∀ (H1 : Heap) (locs1 : List Loc), mm_S g s (mm_up M a (aq t cA n (va_up f k (some v)))) H1 locs1 → W p l e R s m args below meth c H1 locs1 cells slots Q (F0 m (pc + 1) ls rest)) : W p l e R s m args below meth c H locs cells slots Q (F0 m pc ls (.ref v :: .int i :: .ref a :: rest)) := by
  have hin := ix_in hi hk hn
  have hcl := ix_cl hi hk hn
  subst hcl
  have hlt : i.toNatClampNeg < n := Nat.not_le.mp fun q => hin (Or.inr q)
  have h0 : ¬ i < 0 := fun q => hin (Or.inl q)
  obtain ⟨r', hr', cellV, g1, g2, g3, -⟩ := (hZ.1.2 v _ hv).2
  have hcls := (E.2.2.2.2.1.1 ci r hc).2
  obtain ⟨kA, comp, k1, k2, k3, -⟩ := (E.2.2.2.2.1.2 t0 _ ht).2
  have hcomp : comp = g.2.1.1 ci := Option.some.inj (k3.symm.trans hcls.1)
  subst hcomp
  obtain ⟨kC, hkC, -⟩ := hcls.2
  refine W.aast E.1 E.2.1 (hZ.1.2 a _ hM).2 (fun q h => by cases h) (fun h => by cases h) k1 k2 rfl hkC ⟨h0, by show _ < (arrV _ _ _).slots.size; rw [arrV_size]; exact hlt⟩ g1 (fun q h => by rw [g3] at h; cases h) (by rw [g2]; exact hkC) (by rw [g2]; exact va_assign hcls) rfl rfl hdg fun H1 e z oq => ?_
  refine kk H1 _ (hZ.put hM ht0 ?_ z oq)
  show H1[a]? = some (vp_cell _ _)
  rw [e, vp_cell_q, vp_cell_q, arrV_store]
  congr 2
  funext q
  by_cases hq : q = i.toNatClampNeg
  · subst hq
    simp [updV, va_up, va_rf]
  · simp [updV, va_up, hq]
-- what comes
theorem mm_new (t : Nat) (E : mm_C g p s m args c cc own) (hZ : mm_S g s M H locs) {C : String} {T : u_T} {N ci index : Nat} {ty0 : Nat → FieldType} (hcl : mm_cls ci C T N ty0) (hl : Cond.classLink own index C ∈ GW) (hi : Cond.instantiable C N ∈ GW) (hn : Cond.initialized C ∈ GW) {fs : List Value} (hfs : ∀ j, j < N → defaultValue (ty0 j) = vp_V fs j) (hcells : cells + 1 ≤ R.cells) (hslots : slots + N ≤ R.slots) (hdg : decode cc pc = .ok (.new index, 3))
    (kk : ∀ (q : Nat) (H1 : Heap), g.1 ≤ q → M q = none → mm_S g s (mm_up M q (ob t ci fs)) H1 locs → W p l e R s m args below meth c H1 locs (cells + 1) (slots + N) Q (F0 m (pc + 3) ls (.ref q :: rest))) : W p l e R s m args below meth c H locs cells slots Q (F0 m pc ls rest) := by
  have hKn := E.2.2.2.2.1.1 ci _ hcl.1
  refine W.newcK E.1 E.2.1 E.2.2.1 (E.2.2.2.1 _ hl) (E.2.2.2.1 _ hi) (E.2.2.2.1 _ hn) rfl hdg hcells hslots hKn.2.1 rfl fun H1 kC hkC e1 z1 o1 => ?_
  exact kk H.size H1 hZ.1.1 hZ.fresh (hZ.new ⟨_, hcl.1, (u_born ty0 E.2.2.2.1 hcl.2.1 hKn hkC e1 hcl.2.2.1).to hfs⟩ z1 o1)
theorem mm_newi (t : Nat) (E : mm_C g p s m args c cc own) (hZ : mm_S g s M H locs) {t0 : Nat} {cA : ClassId} (ht : (tys g.2.2)[t0]? = some (cA, .int)) (harr : Cond.arrayClass .int ∈ GW) {n : Int32} {N : Nat} (hn : ¬ n < 0) (hN : n.toNatClampNeg = N) (hbytes : N * 4 ≤ 536870912) (hcells : cells + 1 ≤ R.cells) (hslots : slots + N ≤ R.slots) (hdg : decode cc pc = .ok (.newarray .int, 2))
    (kk : ∀ (q : Nat) (H1 : Heap), g.1 ≤ q → M q = none → mm_S g s (mm_up M q (ai t cA N (fun _ => 0))) H1 locs → W p l e R s m args below meth c H1 locs (cells + 1) (slots + N) Q (F0 m (pc + 2) ls (.ref q :: rest))) : W p l e R s m args below meth c H locs cells slots Q (F0 m pc ls (.int n :: rest)) := by
  refine va_newaK (atype := .int) E.1 E.2.1 (E.2.2.2.1 _ harr) rfl hdg rfl hn hN hbytes hcells hslots rfl fun H1 cB e1 z1 o1 hAr hNm => ?_
  have hcc : cB = cA := Option.some.inj (hNm.symm.trans (E.2.2.2.2.1.2 t0 _ ht).2)
  subst hcc
  refine kk H.size H1 hZ.1.1 hZ.fresh (hZ.new ?_ z1 o1)
  show H1[H.size]? = some (vp_cell _ _)
  rw [vp_cell_i]
  exact e1
theorem mm_newl (t : Nat) (E : mm_C g p s m args c cc own) (hZ : mm_S g s M H locs) {t0 : Nat} {cA : ClassId} (ht : (tys g.2.2)[t0]? = some (cA, .long)) (harr : Cond.arrayClass .long ∈ GW) {n : Int32} {N : Nat} (hn : ¬ n < 0) (hN : n.toNatClampNeg = N) (hbytes : N * 8 ≤ 536870912) (hcells : cells + 1 ≤ R.cells) (hslots : slots + N ≤ R.slots) (hdg : decode cc pc = .ok (.newarray .long, 2))
    (kk : ∀ (q : Nat) (H1 : Heap), g.1 ≤ q → M q = none → mm_S g s (mm_up M q (al t cA N (fun _ => 0))) H1 locs → W p l e R s m args below meth c H1 locs (cells + 1) (slots + N) Q (F0 m (pc + 2) ls (.ref q :: rest))) : W p l e R s m args below meth c H locs cells slots Q (F0 m pc ls (.int n :: rest)) := by
  refine va_newaK (atype := .long) E.1 E.2.1 (E.2.2.2.1 _ harr) rfl hdg rfl hn hN hbytes hcells hslots rfl fun H1 cB e1 z1 o1 hAr hNm => ?_
  have hcc : cB = cA := Option.some.inj (hNm.symm.trans (E.2.2.2.2.1.2 t0 _ ht).2)
  subst hcc
  refine kk H.size H1 hZ.1.1 hZ.fresh (hZ.new ?_ z1 o1)
  show H1[H.size]? = some (vp_cell _ _)
  rw [vp_cell_l]
  exact e1
theorem mm_newz (t : Nat) (E : mm_C g p s m args c cc own) (hZ : mm_S g s M H locs) {t0 : Nat} {cA : ClassId} (ht : (tys g.2.2)[t0]? = some (cA, .boolean)) (harr : Cond.arrayClass .boolean ∈ GW) {n : Int32} {N : Nat} (hn : ¬ n < 0) (hN : n.toNatClampNeg = N) (hbytes : N * 1 ≤ 536870912) (hcells : cells + 1 ≤ R.cells) (hslots : slots + N ≤ R.slots) (hdg : decode cc pc = .ok (.newarray .boolean, 2))
    (kk : ∀ (q : Nat) (H1 : Heap), g.1 ≤ q → M q = none → mm_S g s (mm_up M q (ai t cA N (fun _ => 0))) H1 locs → W p l e R s m args below meth c H1 locs (cells + 1) (slots + N) Q (F0 m (pc + 2) ls (.ref q :: rest))) : W p l e R s m args below meth c H locs cells slots Q (F0 m pc ls (.int n :: rest)) := by
  refine va_newaK (atype := .boolean) E.1 E.2.1 (E.2.2.2.1 _ harr) rfl hdg rfl hn hN hbytes hcells hslots rfl fun H1 cB e1 z1 o1 hAr hNm => ?_
  have hcc : cB = cA := Option.some.inj (hNm.symm.trans (E.2.2.2.2.1.2 t0 _ ht).2)
  subst hcc
  refine kk H.size H1 hZ.1.1 hZ.fresh (hZ.new ?_ z1 o1)
  show H1[H.size]? = some (vp_cell _ _)
  rw [vp_cell_i]
  exact e1
theorem mm_newq (t : Nat) (E : mm_C g p s m args c cc own) (hZ : mm_S g s M H locs) {t0 : Nat} {C : String} {index : Nat} {cA : ClassId} (ht : (tys g.2.2)[t0]? = some (cA, .object C)) (hlink : Cond.classLink own index C ∈ GW) (hover : va_AO C s) {n : Int32} {N : Nat} (hn : ¬ n < 0) (hN : n.toNatClampNeg = N) (hbytes : N * 4 ≤ 536870912) (hcells : cells + 1 ≤ R.cells) (hslots : slots + N ≤ R.slots) (hdg : decode cc pc = .ok (.anewarray index, 3))
    (kk : ∀ (q : Nat) (H1 : Heap), g.1 ≤ q → M q = none → mm_S g s (mm_up M q (aq t cA N (fun _ => none))) H1 locs → W p l e R s m args below meth c H1 locs (cells + 1) (slots + N) Q (F0 m (pc + 3) ls (.ref q :: rest))) : W p l e R s m args below meth c H locs cells slots Q (F0 m pc ls (.int n :: rest)) := by
  subst hN
  refine W.anew E.1 E.2.1 E.2.2.1 (E.2.2.2.1 _ hlink) (va_AO.use hover) rfl hdg rfl hn hbytes hcells hslots fun cB kA comp f1 f2 f3 f4 => ?_
  obtain ⟨kA', comp', k1, k2, k3, k4⟩ := (E.2.2.2.2.1.2 t0 _ ht).2
  have hcc : cB = cA := Option.some.inj (f1.symm.trans k4)
  subst hcc
  generalize hH1 : H.push ({ cls := cB, slots := Array.replicate n.toNatClampNeg .null, vm := .none } : Cell) = H1
  have z1 : H1.size = H.size + 1 := by rw [← hH1, Array.size_push]
  have e1 : H1[H.size]? = some (arrV cB n.toNatClampNeg (fun _ => .null)) := by rw [← hH1, Array.getElem?_push_size, ← arrV_new]
  have o1 : ∀ q : Nat, q < H.size → H1[q]? = H[q]? := fun q hq => by rw [← hH1, Array.getElem?_push, if_neg (Nat.ne_of_lt hq)]
  refine kk H.size H1 hZ.1.1 hZ.fresh (hZ.new ?_ z1 o1)
  show H1[H.size]? = some (vp_cell _ _)
  rw [vp_cell_q]
  exact e1
-- calls
theorem gw_code {y : MethodName} {b : ByteArray} {n : Nat} {ret : Option FieldType} (h : Cond.code y b n ret ∈ GW) : GoodIn GW (.code y b n ret :: GW) := fun w hw => by
  rcases List.mem_cons.mp hw with rfl | hw
  · exact gw_good _ h
  · exact gw_good _ hw
/-- what the tables say of a call's callee: link, code, kind -/
def mm_lk (own : String) (index : Nat) (y : MethodName) : Prop := Cond.methodLink own index y ∈ GW ∨ ∃ host, Cond.methodLinkNest own index y host ∈ NW
def mm_me (y : MethodName) (b : ByteArray) (n : Nat) (ret : Option FieldType) (na : Nat) : Prop := Cond.code y b n ret ∈ GW ∧ Cond.initialized y.cls ∈ GW ∧ y.cls ≠ "java/lang/invoke/MethodHandle" ∧ y.cls ≠ "java/lang/invoke/VarHandle" ∧ (parseMethodDescriptor y.desc).map (fun d => d.parameters.length) = some na
theorem mm_runV (E : mm_C g p s m args c cc own) (hZ : mm_S g s M H locs) {nL : Nat} (hml : c.maxLocals = nL) (hsize : ls.size = nL) {y : MethodName} {b : ByteArray} {n index : Nat} {ret : Option FieldType} {rm : Room} {As : List Value} (hL : mm_lk own index y) (hY : mm_me y b n ret As.length) (hI : Cond.instanceMethod y ∈ GW ∧ Cond.selects y.cls y y ∈ GW) (hC : Ct l g y b n ret rm M (.ref a :: As) Post) {ci N : Nat} {T : u_T} {fs : List Value} {t : Nat} (hM : M a = some (ob t ci fs)) (hc : classes[ci]? = some (y.cls, T, N)) (hR : rm.frames + 1 ≤ R.frames ∧ 8 + (n + 11) + rm.locals ≤ R.locals) (hst : st0 = As.reverse ++ .ref a :: rest) (hW : (rest.map fun v => v.category).sum ≤ 8) (hdg : decode cc pc = .ok (.invokevirtual index, 3)) (hf : cells + rm.cells ≤ R.cells ∧ slots + rm.slots ≤ R.slots) :
    va_Run p l e R s m args below meth c H locs cells slots rm.cells rm.slots (F0 m pc ls st0) rest (mm_Q g Post (Value.ref a :: As).toArray) (fun q => g.1 ≤ q) := by
  have hp : PreV s H y.cls a (mm_Pc g M (.ref a :: As)) As := ⟨mm_blind, va_recv E.2.2.2.2.1 (mm_at hZ hM) hc (q0 := 0) rfl, fun U hU hW => ⟨rfl, E.2.2.2.2.warm hW hZ.2.2 hU, by rw [hU]; exact hZ.1⟩⟩
  rcases hL with hL | ⟨host, hL⟩
  · exact va_runV (C := y.cls) ⟨E.1, E.2.1, hml, E.2.2.1, E.2.2.2.1⟩ hC ⟨callB_of As.length E.2.2.2.1 (gw_code hY.1) rfl rfl rfl (E.2.2.2.1 _ hY.2.1) (E.2.2.2.1 _ hL) hY.2.2 hR, E.2.2.2.1 _ hI.1, E.2.2.2.1 _ hI.2⟩ hp rfl rfl hsize hst (lv_room hW) hdg hf
  · exact va_runVN (C := y.cls) ⟨E.1, E.2.1, hml, E.2.2.1, E.2.2.2.1⟩ hC ⟨va_cnB As.length E.2.2.2.1 (gw_code hY.1) rfl rfl rfl (E.2.2.2.2.2.1 _ hL) (E.2.2.2.1 _ hY.2.1) hY.2.2 hR, E.2.2.2.1 _ hI.1, E.2.2.2.1 _ hI.2⟩ hp rfl rfl hsize hst (lv_room hW) hdg hf
theorem mm_runS (E : mm_C g p s m args c cc own) (hZ : mm_S g s M H locs) {nL : Nat} (hml : c.maxLocals = nL) (hsize : ls.size = nL) {y : MethodName} {b : ByteArray} {n index : Nat} {ret : Option FieldType} {rm : Room} {As : List Value} (hL : mm_lk own index y) (hY : mm_me y b n ret As.length) (hI : Cond.static y ∈ GW) (hC : Ct l g y b n ret rm M As Post) (hR : rm.frames + 1 ≤ R.frames ∧ 8 + (n + 11) + rm.locals ≤ R.locals) (hst : st0 = As.reverse ++ rest) (hW : (rest.map fun v => v.category).sum ≤ 8) (hdg : decode cc pc = .ok (.invokestatic index, 3)) (hf : cells + rm.cells ≤ R.cells ∧ slots + rm.slots ≤ R.slots) :
    va_Run p l e R s m args below meth c H locs cells slots rm.cells rm.slots (F0 m pc ls st0) rest (mm_Q g Post As.toArray) (fun q => g.1 ≤ q) := by
  have hp : PreS s H (mm_Pc g M As) As := ⟨mm_blind, fun U hU hW => ⟨rfl, E.2.2.2.2.warm hW hZ.2.2 hU, by rw [hU]; exact hZ.1⟩⟩
  rcases hL with hL | ⟨host, hL⟩
  · exact va_runS ⟨E.1, E.2.1, hml, E.2.2.1, E.2.2.2.1⟩ hC ⟨callB_of As.length E.2.2.2.1 (gw_code hY.1) rfl rfl rfl (E.2.2.2.1 _ hY.2.1) (E.2.2.2.1 _ hL) hY.2.2 hR, E.2.2.2.1 _ hI⟩ hp rfl rfl hsize hst (lv_room hW) hdg hf
  · exact va_runSN ⟨E.1, E.2.1, hml, E.2.2.1, E.2.2.2.1⟩ hC ⟨va_cnB As.length E.2.2.2.1 (gw_code hY.1) rfl rfl rfl (E.2.2.2.2.2.1 _ hL) (E.2.2.2.1 _ hY.2.1) hY.2.2 hR, E.2.2.2.1 _ hI, trivial⟩ hp rfl rfl hsize hst (lv_room hW) hdg hf
theorem mm_runI (E : mm_C g p s m args c cc own) (hZ : mm_S g s M H locs) {nL : Nat} (hml : c.maxLocals = nL) (hsize : ls.size = nL) {y : MethodName} {b : ByteArray} {n index : Nat} {rm : Room} {As : List Value} (hL : mm_lk own index y) (hY : mm_me y b n none As.length) (hI : y.name = "<init>" ∧ Cond.instanceMethod y ∈ GW) (hC : Ct l g y b n none rm M (.ref a :: As) Post) (hR : rm.frames + 1 ≤ R.frames ∧ 8 + (n + 11) + rm.locals ≤ R.locals) (hst : st0 = As.reverse ++ .ref a :: rest) (hW : (rest.map fun v => v.category).sum ≤ 8) (hdg : decode cc pc = .ok (.invokespecial index, 3)) (hf : cells + rm.cells ≤ R.cells ∧ slots + rm.slots ≤ R.slots) :
    va_Run p l e R s m args below meth c H locs cells slots rm.cells rm.slots (F0 m pc ls st0) rest (mm_Q g Post (Value.ref a :: As).toArray) (fun q => g.1 ≤ q) := by
  have hp : PreS s H (mm_Pc g M (.ref a :: As)) (.ref a :: As) := ⟨mm_blind, fun U hU hW => ⟨rfl, E.2.2.2.2.warm hW hZ.2.2 hU, by rw [hU]; exact hZ.1⟩⟩
  rcases hL with hL | ⟨host, hL⟩
  · exact va_runI ⟨E.1, E.2.1, hml, E.2.2.1, E.2.2.2.1⟩ hC ⟨callB_of As.length E.2.2.2.1 (gw_code hY.1) rfl rfl rfl (E.2.2.2.1 _ hY.2.1) (E.2.2.2.1 _ hL) hY.2.2 hR, hI.1, E.2.2.2.1 _ hI.2⟩ hp rfl rfl hsize hst (lv_room hW) hdg hf
  · exact va_runIN ⟨E.1, E.2.1, hml, E.2.2.1, E.2.2.2.1⟩ hC ⟨va_cnB As.length E.2.2.2.1 (gw_code hY.1) rfl rfl rfl (E.2.2.2.2.2.1 _ hL) (E.2.2.2.1 _ hY.2.1) hY.2.2 hR, hI.1, E.2.2.2.1 _ hI.2⟩ hp rfl rfl hsize hst (lv_room hW) hdg hf
theorem mm_call {mc ms : Nat} {av : Array Value} (hr : va_Run p l e R s m args below meth c H locs cells slots mc ms (F0 m pc ls st0) rest (mm_Q g Post av) (fun q => g.1 ≤ q)) (hZ : mm_S g s M H locs)
    (kk : ∀ (v : Option Value) (M1 : mm_M) (H1 : Heap) (locs1 : List Loc), Post v M1 → mm_S g s M1 H1 locs1 → W p l e R s m args below meth c H1 locs1 (cells + mc) (slots + ms) Q (F0 m (pc + 3) ls (v.toList ++ rest))) : W p l e R s m args below meth c H locs cells slots Q (F0 m pc ls st0) := by
  intro T hT X
  obtain ⟨v, st₀, t, T', L, h0, X', hL, e1, e2, ⟨⟨v', M1, hv, hp, hok⟩, hz, hk⟩, st⟩ := hr T hT X
  cases hv
  rw [h0] at hz hk
  obtain ⟨t2, a1, b1⟩ := kk v M1 T'.heap (locs ++ L) hp ⟨by rw [e1]; exact hok, hZ.2.1, Nat.le_trans hZ.2.2.1 (by rw [e1]; exact hz), fun q h1 h2 => by rw [e1, hk q (Nat.lt_of_lt_of_le h1 hZ.2.2.1) h2]; exact hZ.2.2.2.1 q h1 h2, fun q hq => by
      rcases List.mem_append.mp hq with h | h
      · exact hZ.2.2.2.2 q h
      · exact hL q h⟩ T' rfl X'
  exact ⟨t2, st t2 a1, b1⟩
theorem mm_calli {mc ms : Nat} {av : Array Value} {post : Int32 → mm_M → Prop} (hr : va_Run p l e R s m args below meth c H locs cells slots mc ms (F0 m pc ls st0) rest (mm_Q g (fun v M' => ∃ r, v = some (.int r) ∧ post r M') av) (fun q => g.1 ≤ q)) (hZ : mm_S g s M H locs)
    (kk : ∀ (r : Int32) (M1 : mm_M) (H1 : Heap) (locs1 : List Loc), post r M1 → mm_S g s M1 H1 locs1 → W p l e R s m args below meth c H1 locs1 (cells + mc) (slots + ms) Q (F0 m (pc + 3) ls (.int r :: rest))) : W p l e R s m args below meth c H locs cells slots Q (F0 m pc ls st0) :=
  mm_call hr hZ (fun v M1 H1 locs1 hp hS => by obtain ⟨r, rfl, hp⟩ := hp; exact kk r M1 H1 locs1 hp hS)
theorem mm_calll {mc ms : Nat} {av : Array Value} {post : Int64 → mm_M → Prop} (hr : va_Run p l e R s m args below meth c H locs cells slots mc ms (F0 m pc ls st0) rest (mm_Q g (fun v M' => ∃ r, v = some (.long r) ∧ post r M') av) (fun q => g.1 ≤ q)) (hZ : mm_S g s M H locs)
    (kk : ∀ (r : Int64) (M1 : mm_M) (H1 : Heap) (locs1 : List Loc), post r M1 → mm_S g s M1 H1 locs1 → W p l e R s m args below meth c H1 locs1 (cells + mc) (slots + ms) Q (F0 m (pc + 3) ls (.long r :: rest))) : W p l e R s m args below meth c H locs cells slots Q (F0 m pc ls st0) :=
  mm_call hr hZ (fun v M1 H1 locs1 hp hS => by obtain ⟨r, rfl, hp⟩ := hp; exact kk r M1 H1 locs1 hp hS)
theorem mm_callq {mc ms : Nat} {av : Array Value} {post : Option Nat → mm_M → Prop} (hr : va_Run p l e R s m args below meth c H locs cells slots mc ms (F0 m pc ls st0) rest (mm_Q g (fun v M' => ∃ r, v = some (va_rf r) ∧ post r M') av) (fun q => g.1 ≤ q)) (hZ : mm_S g s M H locs)
    (kk : ∀ (r : Option Nat) (M1 : mm_M) (H1 : Heap) (locs1 : List Loc), post r M1 → mm_S g s M1 H1 locs1 → W p l e R s m args below meth c H1 locs1 (cells + mc) (slots + ms) Q (F0 m (pc + 3) ls (va_rf r :: rest))) : W p l e R s m args below meth c H locs cells slots Q (F0 m pc ls st0) :=
  mm_call hr hZ (fun v M1 H1 locs1 hp hS => by obtain ⟨r, rfl, hp⟩ := hp; exact kk r M1 H1 locs1 hp hS)
theorem mm_callv {mc ms : Nat} {av : Array Value} {post : mm_M → Prop} (hr : va_Run p l e R s m args below meth c H locs cells slots mc ms (F0 m pc ls st0) rest (mm_Q g (fun v M' => v = none ∧ post M') av) (fun q => g.1 ≤ q)) (hZ : mm_S g s M H locs)
    (kk : ∀ (M1 : mm_M) (H1 : Heap) (locs1 : List Loc), post M1 → mm_S g s M1 H1 locs1 → W p l e R s m args below meth c H1 locs1 (cells + mc) (slots + ms) Q (F0 m (pc + 3) ls rest)) : W p l e R s m args below meth c H locs cells slots Q (F0 m pc ls st0) :=
  mm_call hr hZ (fun v M1 H1 locs1 hp hS => by obtain ⟨rfl, hp⟩ := hp; exact kk M1 H1 locs1 hp hS)
theorem mm_objI (E : mm_C g p s m args c cc own) {nL : Nat} (hml : c.maxLocals = nL) (hsize : ls.size = nL) {idx : Nat} (hL : Cond.methodLink own idx objectInit ∈ GW) (hI : Cond.instanceMethod objectInit ∈ GW) (hcode : Cond.code objectInit ⟨#[0xb1]⟩ 1 none ∈ GW) (hf : 1 ≤ R.frames) (hl : (rest.map fun v => v.category).sum + 12 ≤ R.locals) (hdg : decode cc pc = .ok (.invokespecial idx, 3))
    (kk : W p l e R s m args below meth c H locs cells slots Q (F0 m (pc + 3) ls rest)) : W p l e R s m args below meth c H locs cells slots Q (F0 m pc ls (.ref a :: rest)) :=
  W.objInit E.1 E.2.1 E.2.2.1 (E.2.2.2.1 _ hL) (E.2.2.2.1 _ hI) (E.2.2.2.1 _ hcode) rfl (hsize.trans hml.symm) rfl hdg hf (by show 2 * 0 + _ + 12 ≤ _; omega) kk
theorem mm_cast (E : mm_C g p s m args c cc own) (hZ : mm_S g s M H locs) {ci index : Nat} {C : String} {T : u_T} {N : Nat} {fs : List Value} {t : Nat} (hM : M a = some (ob t ci fs)) (hc : classes[ci]? = some (C, T, N)) (hl : Cond.classLink own index C ∈ GW) (hdg : decode cc pc = .ok (.checkcast index, 3))
    (kk : W p l e R s m args below meth c H locs cells slots Q (F0 m (pc + 3) ls (.ref a :: rest))) : W p l e R s m args below meth c H locs cells slots Q (F0 m pc ls (.ref a :: rest)) :=
  va_castS E.1 E.2.1 E.2.2.1 (E.2.2.2.1 _ hl) (E.2.2.2.2.1.1 ci _ hc).2 (va_recv E.2.2.2.2.1 (mm_at hZ hM) hc (q0 := 0) rfl) hdg kk
-- Java's own: statics, mirrors, copies
theorem mm_dflt (E : mm_C g p s m args c cc own) (hZ : mm_S g s M H locs) {index : Nat} (hl : Cond.fieldLink own index "java/util/ArrayList" "DEFAULTCAPACITY_EMPTY_ELEMENTDATA" "[Ljava/lang/Object;" ∈ GW) (hdg : decode cc pc = .ok (.getstatic index, 3))
    (kk : W p l e R s m args below meth c H locs cells slots Q (F0 m (pc + 3) ls (.ref (g_df g) :: rest))) : W p l e R s m args below meth c H locs cells slots Q (F0 m pc ls rest) :=
  va_gets E.1 E.2.1 E.2.2.2.2.2.2.2.2.2.2.1 hZ.2.2 E.2.2.1 (E.2.2.2.1 _ hl) (fun _ h => h) hdg kk
theorem mm_dlen (E : mm_C g p s m args c cc own) (hZ : mm_S g s M H locs) (hdg : decode cc pc = .ok (.arraylength, 1))
    (kk : W p l e R s m args below meth c H locs cells slots Q (F0 m (pc + 1) ls (.int 0 :: rest))) : W p l e R s m args below meth c H locs cells slots Q (F0 m pc ls (.ref (g_df g) :: rest)) :=
  va_tlen E.1 E.2.1 E.2.2.2.2.2.2.2.2.2.2.2 hZ.2.2 rfl hdg kk
theorem mm_mirr (E : mm_C g p s m args c cc own) {index : Nat} (hl : Cond.classLink own index "[Ljava/lang/Object;" ∈ GW) (hdg : decode cc pc = .ok (.ldc index, 2))
    (kk : W p l e R s m args below meth c H locs cells slots Q (F0 m (pc + 2) ls (.ref (g_mi g) :: rest))) : W p l e R s m args below meth c H locs cells slots Q (F0 m pc ls rest) :=
  va_ldcM E.1 E.2.1 E.2.2.1 (E.2.2.2.1 _ hl) E.2.2.2.2.2.2.2.2.1 hdg kk
/-- an object of a known class into an array of another class of references that takes it -/
theorem mm_aastO (E : mm_C g p s m args c cc own) (hZ : mm_S g s M H locs) {t t0 n ci v tv : Nat} {cA : ClassId} {C : String} {r : vw_C} {vs : List Value} {f : Nat → Option Nat} (hM : M a = some (aq t cA n f)) (ht : (tys g.2.2)[t0]? = some (cA, .object C)) (hca : Cond.castable r.1 C ∈ NW) (hv : M v = some (ob tv ci vs)) (hc : classes[ci]? = some r) {i : Int32} (ht0 : t ≠ 0) {k : Nat} (hi : i = nI k) (hk : k < n) (hn : n < 2 ^ 31) (hdg : decode cc pc = .ok (.aastore, 1))
    (kk : ∀ (H1 : Heap) (locs1 : List Loc), mm_S g s (mm_up M a (aq t cA n (va_up f k (some v)))) H1 locs1 → W p l e R s m args below meth c H1 locs1 cells slots Q (F0 m (pc + 1) ls rest)) : W p l e R s m args below meth c H locs cells slots Q (F0 m pc ls (.ref v :: .int i :: .ref a :: rest)) := by
  have hin := ix_in hi hk hn
  have hcl := ix_cl hi hk hn
  subst hcl
  have hlt : i.toNatClampNeg < n := Nat.not_le.mp fun q => hin (Or.inr q)
  have h0 : ¬ i < 0 := fun q => hin (Or.inl q)
  obtain ⟨r', hr', cellV, g1, g2, g3, -⟩ := (hZ.1.2 v _ hv).2
  have hcls := (E.2.2.2.2.1.1 ci r hc).2
  obtain ⟨kA, comp, k1, k2, k3, -⟩ := (E.2.2.2.2.1.2 t0 _ ht).2
  obtain ⟨kE, hkE, -⟩ := Vm.findClass_spec k3
  obtain ⟨c0, t1, f1, f2, f3⟩ := Cond.castable_spec (va_Nw.use (A := args) rfl (E.2.2.2.2.2.1 _ hca))
  cases hcls.1.symm.trans f1
  cases k3.symm.trans f2
  obtain ⟨kC, hkC, -⟩ := hcls.2
  refine W.aast E.1 E.2.1 (hZ.1.2 a _ hM).2 (fun q h => by cases h) (fun h => by cases h) k1 k2 rfl hkE ⟨h0, by show _ < (arrV _ _ _).slots.size; rw [arrV_size]; exact hlt⟩ g1 (fun q h => by rw [g3] at h; cases h) (by rw [g2]; exact hkC) (by rw [g2]; exact f3) rfl rfl hdg fun H1 e z oq => ?_
  refine kk H1 _ (hZ.put hM ht0 ?_ z oq)
  show H1[a]? = some (vp_cell _ _)
  rw [e, vp_cell_q, vp_cell_q, arrV_store]
  congr 2
  funext q
  by_cases hq : q = i.toNatClampNeg
  · subst hq
    simp [updV, va_up, va_rf]
  · simp [updV, va_up, hq]
/-- System.arraycopy of references, from the first place on -/
theorem mm_copy (E : mm_C g p s m args c cc own) (hZ : mm_S g s M H locs) {nL : Nat} (hml : c.maxLocals = nL) (hsz : ls.size = nL) {index : Nat} (hlink : Cond.methodLink own index arraycopyName ∈ GW) (hnat : Cond.native arraycopyName ∈ GW) (hstat : Cond.static arraycopyName ∈ GW) (hini : Cond.initialized "java/lang/System" ∈ GW)
    {a0 td ts t0 n0 n1 k : Nat} {cA : ClassId} {f f1 : Nat → Option Nat} {C : String} (ha0 : M a0 = some (aq ts cA n0 f)) (ha1 : M a = some (aq td cA n1 f1)) (ht : (tys g.2.2)[t0]? = some (cA, .object C)) (htd : td ≠ 0) {n : Int32} (hn : n = nI k) (hk0 : k ≤ n0) (hk1 : k ≤ n1) (hn1 : n1 < 2 ^ 31) (hel : ∀ i : Nat, i < k → ∀ y : Nat, f i = some y → ∃ (tv ci : Nat) (vs : List Value) (r : vw_C), M y = some (ob tv ci vs) ∧ classes[ci]? = some r ∧ Cond.castable r.1 C ∈ NW)
    (hframes : 1 ≤ R.frames) (hlocals : (rest.map fun v => v.category).sum + (nativeFrameWords "java/lang/System" "arraycopy" 5 + 11) ≤ R.locals) (hdg : decode cc pc = .ok (.invokestatic index, 3))
    (kk : ∀ (H1 : Heap) (locs1 : List Loc), mm_S g s (mm_up M a (aq td cA n1 (va_cpy f f1 0 0 k))) H1 locs1 → W p l e R s m args below meth c H1 locs1 cells slots Q (F0 m (pc + 3) ls rest)) : W p l e R s m args below meth c H locs cells slots Q (F0 m pc ls (.int n :: .int 0 :: .ref a :: .int 0 :: .ref a0 :: rest)) := by
  subst hn
  have hcl : (nI k).toNatClampNeg = k := nI_clamp (by omega)
  have hti : (nI k).toInt = (k : Int) := nI_toInt (by omega)
  have h00 : (0 : Int32).toNatClampNeg = 0 := by decide
  have h0i : (0 : Int32).toInt = 0 := by decide
  intro T hT X
  have hc0 : H[a0]? = some (vp_cell cA (n0, .inr (.inr (.inr (.inr f))))) := (hZ.1.2 a0 _ ha0).2
  have hc1 : H[a]? = some (vp_cell cA (n1, .inr (.inr (.inr (.inr f1))))) := (hZ.1.2 a _ ha1).2
  obtain ⟨-, k0, hk0', cm0, hkk0⟩ := (E.2.2.2.2.1.2 t0 _ ht).1 n0 (fun j => va_rf (f j))
  obtain ⟨-, k1, hk1', cm1, hkk1⟩ := (E.2.2.2.2.1.2 t0 _ ht).1 n1 (fun j => va_rf (f1 j))
  obtain ⟨vm', X', step⟩ := X.arraycopy E.1 E.2.2.1 (E.2.2.2.1 _ hlink) (E.2.2.2.1 _ hnat) (E.2.2.2.1 _ hstat) (E.2.2.2.1 _ hini) (src := a0) (dst := a) (cs := vp_cell cA (n0, .inr (.inr (.inr (.inr f))))) (cd := vp_cell cA (n1, .inr (.inr (.inr (.inr f1))))) (srcPos := 0) (destPos := 0) (n := nI k) (by rw [hT]; exact hc0) (by rw [hT]; exact hc1)
    (fun _ h => by cases h) (fun _ h => by cases h) (fun h => by cases h) (fun h => by cases h) hk0' hk1' hkk0 hkk1 rfl (by decide) (by decide) (nI_pos (by omega))
    (by rw [h0i, hti]; show ¬ _ > ((arrV cA n0 (fun j => va_rf (f j))).slots.size : Int); rw [arrV_size]; omega)
    (by rw [h0i, hti]; show ¬ _ > ((arrV cA n1 (fun j => va_rf (f1 j))).slots.size : Int); rw [arrV_size]; omega)
    (fun vm₁ hal i hi => by
      rw [hcl] at hi
      have e : (vp_cell cA (n0, .inr (.inr (.inr (.inr f))))).slots.getD ((0 : Int32).toNatClampNeg + i) .null = va_rf (f i) := by
        show (arrV cA n0 (fun j => va_rf (f j))).slots.getD _ _ = _
        rw [h00, Nat.zero_add, Array.getD_eq_getD_getElem?, arrV_read _ _ (by omega)]
        rfl
      rw [e]
      cases hy : f i with
      | none => exact ⟨rfl, trivial⟩
      | some y =>
        obtain ⟨tv, ci, vs, r, q1, q2, q3⟩ := hel i hi y hy
        obtain ⟨r', hr', cellV, g1, g2, g3, -⟩ := (hZ.1.2 y _ q1).2
        have hcls := (E.2.2.2.2.1.1 ci r q2).2
        obtain ⟨c0, t1, f1', f2', f3'⟩ := Cond.castable_spec (va_Nw.use (A := args) rfl (E.2.2.2.2.2.1 _ q3))
        cases hcls.1.symm.trans f1'
        obtain ⟨kC, hkC, -⟩ := hcls.2
        obtain ⟨kA, comp, r1, r2, r3, -⟩ := (E.2.2.2.2.1.2 t0 _ ht).2
        cases hk1'.symm.trans r1
        cases hkk1.symm.trans r2
        cases r3.symm.trans f2'
        obtain ⟨kE, hkE, -⟩ := Vm.findClass_spec r3
        obtain ⟨kC', hkC', -⟩ := hal.2.2 _ _ hkC
        obtain ⟨kE', hkE', -⟩ := hal.2.2 _ _ hkE
        refine ⟨rfl, cellV, (show T.heap[y]? = some cellV by rw [hT]; exact g1), (fun q h => by rw [h] at g3; cases g3), ⟨kC', by rw [g2]; exact hkC'⟩, ?_, ?_⟩
        · exact ⟨kE', hkE'⟩
        · show vm₁.assignable _ _ = true
          rw [hal.assignable, g2]
          exact f3')
    (g := F0 m pc ls (.int (nI k) :: .int 0 :: .ref a :: .int 0 :: .ref a0 :: rest)) rfl (hsz.trans hml.symm) (rest := rest) rfl (by rw [E.2.1]; exact hdg) hframes (by show 2 * 0 + _ + _ ≤ _; omega)
  have e1 : copied (vp_cell cA (n0, .inr (.inr (.inr (.inr f))))) (vp_cell cA (n1, .inr (.inr (.inr (.inr f1))))) 0 0 (nI k) = vp_cell cA (n1, .inr (.inr (.inr (.inr (va_cpy f f1 0 0 k))))) := by
    rw [vp_cell_q, vp_cell_q, vp_cell_q]
    refine (va_copied (sp := (0 : Int32).toNatClampNeg) (dp := (0 : Int32).toNatClampNeg) (n := (nI k).toNatClampNeg) (n0 := n0) (n1 := n1) (fun z => va_rf z) cA cA f f1 (by rw [h00, hcl]; omega)).trans ?_
    rw [h00, hcl]
  rw [e1] at X' step
  have hl : a < H.size := (Array.getElem?_eq_some_iff.mp hc1).1
  have hheap : ((T.setVm vm').setCell a (vp_cell cA (n1, .inr (.inr (.inr (.inr (va_cpy f f1 0 0 k))))))).heap = H.setIfInBounds a (vp_cell cA (n1, .inr (.inr (.inr (.inr (va_cpy f f1 0 0 k)))))) := by rw [← hT]; rfl
  have oq : ∀ q : Nat, q ≠ a → (H.setIfInBounds a (vp_cell cA (n1, .inr (.inr (.inr (.inr (va_cpy f f1 0 0 k)))))))[q]? = H[q]? := fun q hq => by simp [Array.getElem?_setIfInBounds, Ne.symm hq]
  have hpa := (hZ.1.2 a _ ha1).1 htd
  obtain ⟨t, b1, b2⟩ := kk _ _ ⟨hZ.1.put ha1 (show (H.setIfInBounds a _)[a]? = some _ by simp [Array.getElem?_setIfInBounds, hl]) (by simp) oq, hZ.2.1, by simp; exact hZ.2.2.1, fun q g1 g2 => by
      rw [oq q (fun e => g2 (by rw [e]; exact hpa))]
      exact hZ.2.2.2.1 q g1 g2, fun q hq => by
      rcases List.mem_append.mp hq with h | h
      · exact hZ.2.2.2.2 q h
      · obtain ⟨z, -, hz⟩ := List.mem_map.mp h
        rw [← hz]
        exact hpa⟩ _ hheap X'
  exact ⟨t, step t b1, b2⟩
end MM
end
section
/-! THE WORDS of the tables, one by one, by program -/
theorem w_0 : Cond.initialized "ExpectRowsLaw" ∈ GW := gw_of (List.mem_append_right _ (List.mem_append_left _ (List.mem_of_getElem? (i := 0) rfl))) rfl
theorem w_1 : Cond.initialized "ExpectRows" ∈ GW := gw_of (List.mem_append_right _ (List.mem_append_left _ (List.mem_of_getElem? (i := 1) rfl))) rfl
theorem w_2 : Cond.initialized "ExpectRows$RowList" ∈ GW := gw_of (List.mem_append_right _ (List.mem_append_left _ (List.mem_of_getElem? (i := 2) rfl))) rfl
theorem w_3 : Cond.initialized "java/util/AbstractCollection" ∈ GW := gw_of (List.mem_append_right _ (List.mem_append_left _ (List.mem_of_getElem? (i := 3) rfl))) rfl
theorem w_4 : Cond.initialized "java/util/AbstractList" ∈ GW := gw_of (List.mem_append_right _ (List.mem_append_left _ (List.mem_of_getElem? (i := 4) rfl))) rfl
theorem w_5 : Cond.initialized "java/util/ArrayList" ∈ GW := gw_of (List.mem_append_right _ (List.mem_append_left _ (List.mem_of_getElem? (i := 5) rfl))) rfl
theorem w_6 : Cond.initialized "ExpectRows$HolidayList" ∈ GW := gw_of (List.mem_append_right _ (List.mem_append_left _ (List.mem_of_getElem? (i := 6) rfl))) rfl
theorem w_7 : Cond.initialized "ExpectRows$AlarmList" ∈ GW := gw_of (List.mem_append_right _ (List.mem_append_left _ (List.mem_of_getElem? (i := 7) rfl))) rfl
theorem w_8 : Cond.initialized "ExpectRows$PlaceCounts" ∈ GW := gw_of (List.mem_append_right _ (List.mem_append_left _ (List.mem_of_getElem? (i := 8) rfl))) rfl
theorem w_9 : Cond.initialized "ExpectRows$DeliveryList" ∈ GW := gw_of (List.mem_append_right _ (List.mem_append_left _ (List.mem_of_getElem? (i := 9) rfl))) rfl
theorem w_10 : Cond.initialized "ExpectRows$Item" ∈ GW := gw_of (List.mem_append_right _ (List.mem_append_left _ (List.mem_of_getElem? (i := 10) rfl))) rfl
theorem w_11 : Cond.initialized "ExpectRowsModel" ∈ GW := gw_of (List.mem_append_right _ (List.mem_append_left _ (List.mem_of_getElem? (i := 11) rfl))) rfl
theorem w_12 : Cond.initialized "ExpectRows$Row" ∈ GW := gw_of (List.mem_append_right _ (List.mem_append_left _ (List.mem_of_getElem? (i := 12) rfl))) rfl
theorem w_13 : Cond.initialized "jdk/internal/util/ArraysSupport" ∈ GW := gw_of (List.mem_append_right _ (List.mem_append_left _ (List.mem_of_getElem? (i := 13) rfl))) rfl
theorem w_14 : Cond.initialized "java/lang/Math" ∈ GW := gw_of (List.mem_append_right _ (List.mem_append_left _ (List.mem_of_getElem? (i := 14) rfl))) rfl
theorem w_15 : Cond.initialized "java/util/Arrays" ∈ GW := gw_of (List.mem_append_right _ (List.mem_append_left _ (List.mem_of_getElem? (i := 15) rfl))) rfl
theorem w_16 : Cond.initialized "java/lang/System" ∈ GW := gw_of (List.mem_append_right _ (List.mem_append_left _ (List.mem_of_getElem? (i := 16) rfl))) rfl
theorem w_17 : Cond.initialized "java/util/Objects" ∈ GW := gw_of (List.mem_append_right _ (List.mem_append_left _ (List.mem_of_getElem? (i := 17) rfl))) rfl
theorem w_18 : Cond.initialized "jdk/internal/util/Preconditions" ∈ GW := gw_of (List.mem_append_right _ (List.mem_append_left _ (List.mem_of_getElem? (i := 18) rfl))) rfl
theorem w_19 : Cond.initialized "ExpectRows$Alarm" ∈ GW := gw_of (List.mem_append_right _ (List.mem_append_left _ (List.mem_of_getElem? (i := 19) rfl))) rfl
theorem w_20 : Cond.initialized "java/lang/Throwable" ∈ GW := gw_of (List.mem_append_right _ (List.mem_append_left _ (List.mem_of_getElem? (i := 20) rfl))) rfl
theorem w_21 : Cond.initialized "java/lang/Exception" ∈ GW := gw_of (List.mem_append_right _ (List.mem_append_left _ (List.mem_of_getElem? (i := 21) rfl))) rfl
theorem w_22 : Cond.initialized "java/lang/RuntimeException" ∈ GW := gw_of (List.mem_append_right _ (List.mem_append_left _ (List.mem_of_getElem? (i := 22) rfl))) rfl
theorem w_23 : Cond.initialized "java/lang/ArithmeticException" ∈ GW := gw_of (List.mem_append_right _ (List.mem_append_left _ (List.mem_of_getElem? (i := 23) rfl))) rfl
theorem w_24 : Cond.classLink "ExpectRowsLaw" 8 "ExpectRows" ∈ GW := gw_of (List.mem_append_right _ (List.mem_append_left _ (List.mem_of_getElem? (i := 24) rfl))) rfl
theorem w_25 : Cond.instantiable "ExpectRows" 7 ∈ GW := gw_of (List.mem_append_right _ (List.mem_append_left _ (List.mem_of_getElem? (i := 25) rfl))) rfl
theorem w_26 : Cond.methodLink "ExpectRowsLaw" 15 ⟨"ExpectRows", "<init>", "()V"⟩ ∈ GW := gw_of (List.mem_append_right _ (List.mem_append_left _ (List.mem_of_getElem? (i := 26) rfl))) rfl
theorem w_27 : Cond.instanceMethod ⟨"ExpectRows", "<init>", "()V"⟩ ∈ GW := gw_of (List.mem_append_right _ (List.mem_append_left _ (List.mem_of_getElem? (i := 27) rfl))) rfl
theorem w_28 : Cond.code ⟨"ExpectRows", "<init>", "()V"⟩ prog_1_method_1_code 2 none ∈ GW := gw_of (List.mem_append_right _ (List.mem_append_left _ (List.mem_of_getElem? (i := 28) rfl))) rfl
theorem w_29 : Cond.methodLink "ExpectRows" 1 ⟨"java/lang/Object", "<init>", "()V"⟩ ∈ GW := gw_of (List.mem_append_right _ (List.mem_append_left _ (List.mem_of_getElem? (i := 29) rfl))) rfl
theorem w_30 : Cond.instanceMethod ⟨"java/lang/Object", "<init>", "()V"⟩ ∈ GW := gw_of (List.mem_append_right _ (List.mem_append_left _ (List.mem_of_getElem? (i := 30) rfl))) rfl
theorem w_31 : Cond.code ⟨"java/lang/Object", "<init>", "()V"⟩ object_method_1_code 1 none ∈ GW := gw_of (List.mem_append_right _ (List.mem_append_left _ (List.mem_of_getElem? (i := 31) rfl))) rfl
theorem w_32 : Cond.classLink "ExpectRows" 7 "ExpectRows$RowList" ∈ GW := gw_of (List.mem_append_right _ (List.mem_append_left _ (List.mem_of_getElem? (i := 32) rfl))) rfl
theorem w_33 : Cond.instantiable "ExpectRows$RowList" 2 ∈ GW := gw_of (List.mem_append_right _ (List.mem_append_left _ (List.mem_of_getElem? (i := 33) rfl))) rfl
theorem w_34 : Cond.methodLinkNest "ExpectRows" 9 ⟨"ExpectRows$RowList", "<init>", "()V"⟩ "ExpectRows" ∈ NW := nw_of (List.mem_append_right _ (List.mem_append_left _ (List.mem_of_getElem? (i := 34) rfl))) rfl
theorem w_35 : Cond.instanceMethod ⟨"ExpectRows$RowList", "<init>", "()V"⟩ ∈ GW := gw_of (List.mem_append_right _ (List.mem_append_left _ (List.mem_of_getElem? (i := 35) rfl))) rfl
theorem w_36 : Cond.code ⟨"ExpectRows$RowList", "<init>", "()V"⟩ prog_9_method_1_code 1 none ∈ GW := gw_of (List.mem_append_right _ (List.mem_append_left _ (List.mem_of_getElem? (i := 36) rfl))) rfl
theorem w_37 : Cond.methodLink "ExpectRows$RowList" 3 ⟨"java/lang/Object", "<init>", "()V"⟩ ∈ GW := gw_of (List.mem_append_right _ (List.mem_append_left _ (List.mem_of_getElem? (i := 37) rfl))) rfl
theorem w_38 : Cond.classLink "ExpectRows$RowList" 9 "java/util/ArrayList" ∈ GW := gw_of (List.mem_append_right _ (List.mem_append_left _ (List.mem_of_getElem? (i := 38) rfl))) rfl
theorem w_39 : Cond.instantiable "java/util/ArrayList" 3 ∈ GW := gw_of (List.mem_append_right _ (List.mem_append_left _ (List.mem_of_getElem? (i := 39) rfl))) rfl
theorem w_40 : Cond.methodLink "ExpectRows$RowList" 11 ⟨"java/util/ArrayList", "<init>", "()V"⟩ ∈ GW := gw_of (List.mem_append_right _ (List.mem_append_left _ (List.mem_of_getElem? (i := 40) rfl))) rfl
theorem w_41 : Cond.instanceMethod ⟨"java/util/ArrayList", "<init>", "()V"⟩ ∈ GW := gw_of (List.mem_append_right _ (List.mem_append_left _ (List.mem_of_getElem? (i := 41) rfl))) rfl
theorem w_42 : Cond.code ⟨"java/util/ArrayList", "<init>", "()V"⟩ prog_24_method_2_code 1 none ∈ GW := gw_of (List.mem_append_right _ (List.mem_append_left _ (List.mem_of_getElem? (i := 42) rfl))) rfl
theorem w_43 : Cond.methodLink "java/util/ArrayList" 1 ⟨"java/util/AbstractList", "<init>", "()V"⟩ ∈ GW := gw_of (List.mem_append_right _ (List.mem_append_left _ (List.mem_of_getElem? (i := 43) rfl))) rfl
theorem w_44 : Cond.instanceMethod ⟨"java/util/AbstractList", "<init>", "()V"⟩ ∈ GW := gw_of (List.mem_append_right _ (List.mem_append_left _ (List.mem_of_getElem? (i := 44) rfl))) rfl
theorem w_45 : Cond.code ⟨"java/util/AbstractList", "<init>", "()V"⟩ prog_23_method_1_code 1 none ∈ GW := gw_of (List.mem_append_right _ (List.mem_append_left _ (List.mem_of_getElem? (i := 45) rfl))) rfl
theorem w_46 : Cond.methodLink "java/util/AbstractList" 1 ⟨"java/util/AbstractCollection", "<init>", "()V"⟩ ∈ GW := gw_of (List.mem_append_right _ (List.mem_append_left _ (List.mem_of_getElem? (i := 46) rfl))) rfl
theorem w_47 : Cond.instanceMethod ⟨"java/util/AbstractCollection", "<init>", "()V"⟩ ∈ GW := gw_of (List.mem_append_right _ (List.mem_append_left _ (List.mem_of_getElem? (i := 47) rfl))) rfl
theorem w_48 : Cond.code ⟨"java/util/AbstractCollection", "<init>", "()V"⟩ prog_22_method_1_code 1 none ∈ GW := gw_of (List.mem_append_right _ (List.mem_append_left _ (List.mem_of_getElem? (i := 48) rfl))) rfl
theorem w_49 : Cond.methodLink "java/util/AbstractCollection" 1 ⟨"java/lang/Object", "<init>", "()V"⟩ ∈ GW := gw_of (List.mem_append_right _ (List.mem_append_left _ (List.mem_of_getElem? (i := 49) rfl))) rfl
theorem w_50 : Cond.fieldLink "java/util/ArrayList" 39 "java/util/ArrayList" "DEFAULTCAPACITY_EMPTY_ELEMENTDATA" "[Ljava/lang/Object;" ∈ GW := gw_of (List.mem_append_right _ (List.mem_append_left _ (List.mem_of_getElem? (i := 50) rfl))) rfl
theorem w_52 : Cond.fieldLink "java/util/ArrayList" 9 "java/util/ArrayList" "elementData" "[Ljava/lang/Object;" ∈ GW := gw_of (List.mem_append_right _ (List.mem_append_left _ (List.mem_of_getElem? (i := 52) rfl))) rfl
theorem w_53 : Cond.fieldLink "java/util/ArrayList" 48 "java/util/ArrayList" "size" "I" ∈ GW := gw_of (List.mem_append_right _ (List.mem_append_left _ (List.mem_of_getElem? (i := 53) rfl))) rfl
theorem w_54 : Cond.fieldLink "java/util/AbstractList" 7 "java/util/AbstractList" "modCount" "I" ∈ GW := gw_of (List.mem_append_right _ (List.mem_append_left _ (List.mem_of_getElem? (i := 54) rfl))) rfl
theorem w_55 : Cond.fieldLink "java/util/ArrayList" 63 "java/util/ArrayList" "modCount" "I" ∈ GW := gw_of (List.mem_append_right _ (List.mem_append_left _ (List.mem_of_getElem? (i := 55) rfl))) rfl
theorem w_56 : Cond.sameField "java/util/ArrayList" "java/util/AbstractList" "modCount" "I" ∈ GW := gw_of (List.mem_append_right _ (List.mem_append_left _ (List.mem_of_getElem? (i := 56) rfl))) rfl
theorem w_57 : Cond.lays "java/util/ArrayList" "java/util/ArrayList" "elementData" "[Ljava/lang/Object;" ∈ GW := gw_of (List.mem_append_right _ (List.mem_append_left _ (List.mem_of_getElem? (i := 57) rfl))) rfl
theorem w_59 : Cond.lays "java/util/ArrayList" "java/util/ArrayList" "size" "I" ∈ GW := gw_of (List.mem_append_right _ (List.mem_append_left _ (List.mem_of_getElem? (i := 59) rfl))) rfl
theorem w_61 : Cond.lays "java/util/ArrayList" "java/util/AbstractList" "modCount" "I" ∈ GW := gw_of (List.mem_append_right _ (List.mem_append_left _ (List.mem_of_getElem? (i := 61) rfl))) rfl
theorem w_63 : Cond.superclass "java/util/ArrayList" "java/util/AbstractList" ∈ GW := gw_of (List.mem_append_right _ (List.mem_append_left _ (List.mem_of_getElem? (i := 63) rfl))) rfl
theorem w_64 : Cond.fieldLink "ExpectRows$RowList" 12 "ExpectRows$RowList" "all" "Ljava/util/ArrayList;" ∈ GW := gw_of (List.mem_append_right _ (List.mem_append_left _ (List.mem_of_getElem? (i := 64) rfl))) rfl
theorem w_65 : Cond.fieldLink "ExpectRows$RowList" 18 "ExpectRows$RowList" "failed" "Ljava/util/ArrayList;" ∈ GW := gw_of (List.mem_append_right _ (List.mem_append_left _ (List.mem_of_getElem? (i := 65) rfl))) rfl
theorem w_66 : Cond.laysFinal "ExpectRows$RowList" "ExpectRows$RowList" "all" "Ljava/util/ArrayList;" ∈ GW := gw_of (List.mem_append_right _ (List.mem_append_left _ (List.mem_of_getElem? (i := 66) rfl))) rfl
theorem w_68 : Cond.laysFinal "ExpectRows$RowList" "ExpectRows$RowList" "failed" "Ljava/util/ArrayList;" ∈ GW := gw_of (List.mem_append_right _ (List.mem_append_left _ (List.mem_of_getElem? (i := 68) rfl))) rfl
theorem w_70 : Cond.superclass "ExpectRows$RowList" "java/lang/Object" ∈ GW := gw_of (List.mem_append_right _ (List.mem_append_left _ (List.mem_of_getElem? (i := 70) rfl))) rfl
theorem w_71 : Cond.classLink "ExpectRows" 16 "ExpectRows$HolidayList" ∈ GW := gw_of (List.mem_append_right _ (List.mem_append_left _ (List.mem_of_getElem? (i := 71) rfl))) rfl
theorem w_72 : Cond.instantiable "ExpectRows$HolidayList" 2 ∈ GW := gw_of (List.mem_append_right _ (List.mem_append_left _ (List.mem_of_getElem? (i := 72) rfl))) rfl
theorem w_73 : Cond.methodLinkNest "ExpectRows" 18 ⟨"ExpectRows$HolidayList", "<init>", "()V"⟩ "ExpectRows" ∈ NW := nw_of (List.mem_append_right _ (List.mem_append_left _ (List.mem_of_getElem? (i := 73) rfl))) rfl
theorem w_74 : Cond.instanceMethod ⟨"ExpectRows$HolidayList", "<init>", "()V"⟩ ∈ GW := gw_of (List.mem_append_right _ (List.mem_append_left _ (List.mem_of_getElem? (i := 74) rfl))) rfl
theorem w_75 : Cond.code ⟨"ExpectRows$HolidayList", "<init>", "()V"⟩ prog_5_method_1_code 1 none ∈ GW := gw_of (List.mem_append_right _ (List.mem_append_left _ (List.mem_of_getElem? (i := 75) rfl))) rfl
theorem w_76 : Cond.methodLink "ExpectRows$HolidayList" 3 ⟨"java/lang/Object", "<init>", "()V"⟩ ∈ GW := gw_of (List.mem_append_right _ (List.mem_append_left _ (List.mem_of_getElem? (i := 76) rfl))) rfl
theorem w_77 : Cond.fieldLink "ExpectRows$HolidayList" 9 "ExpectRows$HolidayList" "days" "[J" ∈ GW := gw_of (List.mem_append_right _ (List.mem_append_left _ (List.mem_of_getElem? (i := 77) rfl))) rfl
theorem w_78 : Cond.fieldLink "ExpectRows$HolidayList" 15 "ExpectRows$HolidayList" "count" "I" ∈ GW := gw_of (List.mem_append_right _ (List.mem_append_left _ (List.mem_of_getElem? (i := 78) rfl))) rfl
theorem w_79 : Cond.laysFinal "ExpectRows$HolidayList" "ExpectRows$HolidayList" "days" "[J" ∈ GW := gw_of (List.mem_append_right _ (List.mem_append_left _ (List.mem_of_getElem? (i := 79) rfl))) rfl
theorem w_81 : Cond.lays "ExpectRows$HolidayList" "ExpectRows$HolidayList" "count" "I" ∈ GW := gw_of (List.mem_append_right _ (List.mem_append_left _ (List.mem_of_getElem? (i := 81) rfl))) rfl
theorem w_83 : Cond.superclass "ExpectRows$HolidayList" "java/lang/Object" ∈ GW := gw_of (List.mem_append_right _ (List.mem_append_left _ (List.mem_of_getElem? (i := 83) rfl))) rfl
theorem w_84 : Cond.arrayClass .long ∈ GW := gw_of (List.mem_append_right _ (List.mem_append_left _ (List.mem_of_getElem? (i := 84) rfl))) rfl
theorem w_85 : Cond.classLink "ExpectRows" 23 "ExpectRows$AlarmList" ∈ GW := gw_of (List.mem_append_right _ (List.mem_append_left _ (List.mem_of_getElem? (i := 85) rfl))) rfl
theorem w_86 : Cond.instantiable "ExpectRows$AlarmList" 1 ∈ GW := gw_of (List.mem_append_right _ (List.mem_append_left _ (List.mem_of_getElem? (i := 86) rfl))) rfl
theorem w_87 : Cond.methodLinkNest "ExpectRows" 25 ⟨"ExpectRows$AlarmList", "<init>", "()V"⟩ "ExpectRows" ∈ NW := nw_of (List.mem_append_right _ (List.mem_append_left _ (List.mem_of_getElem? (i := 87) rfl))) rfl
theorem w_88 : Cond.instanceMethod ⟨"ExpectRows$AlarmList", "<init>", "()V"⟩ ∈ GW := gw_of (List.mem_append_right _ (List.mem_append_left _ (List.mem_of_getElem? (i := 88) rfl))) rfl
theorem w_89 : Cond.code ⟨"ExpectRows$AlarmList", "<init>", "()V"⟩ prog_3_method_1_code 1 none ∈ GW := gw_of (List.mem_append_right _ (List.mem_append_left _ (List.mem_of_getElem? (i := 89) rfl))) rfl
theorem w_90 : Cond.methodLink "ExpectRows$AlarmList" 3 ⟨"java/lang/Object", "<init>", "()V"⟩ ∈ GW := gw_of (List.mem_append_right _ (List.mem_append_left _ (List.mem_of_getElem? (i := 90) rfl))) rfl
theorem w_91 : Cond.classLink "ExpectRows$AlarmList" 9 "java/util/ArrayList" ∈ GW := gw_of (List.mem_append_right _ (List.mem_append_left _ (List.mem_of_getElem? (i := 91) rfl))) rfl
theorem w_92 : Cond.methodLink "ExpectRows$AlarmList" 11 ⟨"java/util/ArrayList", "<init>", "()V"⟩ ∈ GW := gw_of (List.mem_append_right _ (List.mem_append_left _ (List.mem_of_getElem? (i := 92) rfl))) rfl
theorem w_93 : Cond.fieldLink "ExpectRows$AlarmList" 12 "ExpectRows$AlarmList" "told" "Ljava/util/ArrayList;" ∈ GW := gw_of (List.mem_append_right _ (List.mem_append_left _ (List.mem_of_getElem? (i := 93) rfl))) rfl
theorem w_94 : Cond.laysFinal "ExpectRows$AlarmList" "ExpectRows$AlarmList" "told" "Ljava/util/ArrayList;" ∈ GW := gw_of (List.mem_append_right _ (List.mem_append_left _ (List.mem_of_getElem? (i := 94) rfl))) rfl
theorem w_96 : Cond.superclass "ExpectRows$AlarmList" "java/lang/Object" ∈ GW := gw_of (List.mem_append_right _ (List.mem_append_left _ (List.mem_of_getElem? (i := 96) rfl))) rfl
theorem w_97 : Cond.classLink "ExpectRows" 30 "ExpectRows$PlaceCounts" ∈ GW := gw_of (List.mem_append_right _ (List.mem_append_left _ (List.mem_of_getElem? (i := 97) rfl))) rfl
theorem w_98 : Cond.instantiable "ExpectRows$PlaceCounts" 2 ∈ GW := gw_of (List.mem_append_right _ (List.mem_append_left _ (List.mem_of_getElem? (i := 98) rfl))) rfl
theorem w_99 : Cond.methodLinkNest "ExpectRows" 32 ⟨"ExpectRows$PlaceCounts", "<init>", "()V"⟩ "ExpectRows" ∈ NW := nw_of (List.mem_append_right _ (List.mem_append_left _ (List.mem_of_getElem? (i := 99) rfl))) rfl
theorem w_100 : Cond.instanceMethod ⟨"ExpectRows$PlaceCounts", "<init>", "()V"⟩ ∈ GW := gw_of (List.mem_append_right _ (List.mem_append_left _ (List.mem_of_getElem? (i := 100) rfl))) rfl
theorem w_101 : Cond.code ⟨"ExpectRows$PlaceCounts", "<init>", "()V"⟩ prog_7_method_1_code 1 none ∈ GW := gw_of (List.mem_append_right _ (List.mem_append_left _ (List.mem_of_getElem? (i := 101) rfl))) rfl
theorem w_102 : Cond.methodLink "ExpectRows$PlaceCounts" 3 ⟨"java/lang/Object", "<init>", "()V"⟩ ∈ GW := gw_of (List.mem_append_right _ (List.mem_append_left _ (List.mem_of_getElem? (i := 102) rfl))) rfl
theorem w_103 : Cond.fieldLink "ExpectRows$PlaceCounts" 9 "ExpectRows$PlaceCounts" "begun" "[I" ∈ GW := gw_of (List.mem_append_right _ (List.mem_append_left _ (List.mem_of_getElem? (i := 103) rfl))) rfl
theorem w_104 : Cond.fieldLink "ExpectRows$PlaceCounts" 15 "ExpectRows$PlaceCounts" "late" "[I" ∈ GW := gw_of (List.mem_append_right _ (List.mem_append_left _ (List.mem_of_getElem? (i := 104) rfl))) rfl
theorem w_105 : Cond.laysFinal "ExpectRows$PlaceCounts" "ExpectRows$PlaceCounts" "begun" "[I" ∈ GW := gw_of (List.mem_append_right _ (List.mem_append_left _ (List.mem_of_getElem? (i := 105) rfl))) rfl
theorem w_107 : Cond.laysFinal "ExpectRows$PlaceCounts" "ExpectRows$PlaceCounts" "late" "[I" ∈ GW := gw_of (List.mem_append_right _ (List.mem_append_left _ (List.mem_of_getElem? (i := 107) rfl))) rfl
theorem w_109 : Cond.superclass "ExpectRows$PlaceCounts" "java/lang/Object" ∈ GW := gw_of (List.mem_append_right _ (List.mem_append_left _ (List.mem_of_getElem? (i := 109) rfl))) rfl
theorem w_110 : Cond.arrayClass .int ∈ GW := gw_of (List.mem_append_right _ (List.mem_append_left _ (List.mem_of_getElem? (i := 110) rfl))) rfl
theorem w_111 : Cond.classLink "ExpectRows" 37 "ExpectRows$DeliveryList" ∈ GW := gw_of (List.mem_append_right _ (List.mem_append_left _ (List.mem_of_getElem? (i := 111) rfl))) rfl
theorem w_112 : Cond.instantiable "ExpectRows$DeliveryList" 3 ∈ GW := gw_of (List.mem_append_right _ (List.mem_append_left _ (List.mem_of_getElem? (i := 112) rfl))) rfl
theorem w_113 : Cond.methodLinkNest "ExpectRows" 39 ⟨"ExpectRows$DeliveryList", "<init>", "()V"⟩ "ExpectRows" ∈ NW := nw_of (List.mem_append_right _ (List.mem_append_left _ (List.mem_of_getElem? (i := 113) rfl))) rfl
theorem w_114 : Cond.instanceMethod ⟨"ExpectRows$DeliveryList", "<init>", "()V"⟩ ∈ GW := gw_of (List.mem_append_right _ (List.mem_append_left _ (List.mem_of_getElem? (i := 114) rfl))) rfl
theorem w_115 : Cond.code ⟨"ExpectRows$DeliveryList", "<init>", "()V"⟩ prog_4_method_1_code 1 none ∈ GW := gw_of (List.mem_append_right _ (List.mem_append_left _ (List.mem_of_getElem? (i := 115) rfl))) rfl
theorem w_116 : Cond.methodLink "ExpectRows$DeliveryList" 3 ⟨"java/lang/Object", "<init>", "()V"⟩ ∈ GW := gw_of (List.mem_append_right _ (List.mem_append_left _ (List.mem_of_getElem? (i := 116) rfl))) rfl
theorem w_117 : Cond.fieldLink "ExpectRows$DeliveryList" 9 "ExpectRows$DeliveryList" "days" "[I" ∈ GW := gw_of (List.mem_append_right _ (List.mem_append_left _ (List.mem_of_getElem? (i := 117) rfl))) rfl
theorem w_118 : Cond.fieldLink "ExpectRows$DeliveryList" 15 "ExpectRows$DeliveryList" "services" "[I" ∈ GW := gw_of (List.mem_append_right _ (List.mem_append_left _ (List.mem_of_getElem? (i := 118) rfl))) rfl
theorem w_119 : Cond.fieldLink "ExpectRows$DeliveryList" 18 "ExpectRows$DeliveryList" "count" "I" ∈ GW := gw_of (List.mem_append_right _ (List.mem_append_left _ (List.mem_of_getElem? (i := 119) rfl))) rfl
theorem w_120 : Cond.laysFinal "ExpectRows$DeliveryList" "ExpectRows$DeliveryList" "days" "[I" ∈ GW := gw_of (List.mem_append_right _ (List.mem_append_left _ (List.mem_of_getElem? (i := 120) rfl))) rfl
theorem w_122 : Cond.laysFinal "ExpectRows$DeliveryList" "ExpectRows$DeliveryList" "services" "[I" ∈ GW := gw_of (List.mem_append_right _ (List.mem_append_left _ (List.mem_of_getElem? (i := 122) rfl))) rfl
theorem w_124 : Cond.lays "ExpectRows$DeliveryList" "ExpectRows$DeliveryList" "count" "I" ∈ GW := gw_of (List.mem_append_right _ (List.mem_append_left _ (List.mem_of_getElem? (i := 124) rfl))) rfl
theorem w_126 : Cond.superclass "ExpectRows$DeliveryList" "java/lang/Object" ∈ GW := gw_of (List.mem_append_right _ (List.mem_append_left _ (List.mem_of_getElem? (i := 126) rfl))) rfl
theorem w_127 : Cond.classLink "ExpectRows" 44 "ExpectRows$Item" ∈ GW := gw_of (List.mem_append_right _ (List.mem_append_left _ (List.mem_of_getElem? (i := 127) rfl))) rfl
theorem w_129 : Cond.instantiable "ExpectRows$Item" 8 ∈ GW := gw_of (List.mem_append_right _ (List.mem_append_left _ (List.mem_of_getElem? (i := 129) rfl))) rfl
theorem w_130 : Cond.methodLinkNest "ExpectRows" 54 ⟨"ExpectRows$Item", "<init>", "()V"⟩ "ExpectRows" ∈ NW := nw_of (List.mem_append_right _ (List.mem_append_left _ (List.mem_of_getElem? (i := 130) rfl))) rfl
theorem w_131 : Cond.instanceMethod ⟨"ExpectRows$Item", "<init>", "()V"⟩ ∈ GW := gw_of (List.mem_append_right _ (List.mem_append_left _ (List.mem_of_getElem? (i := 131) rfl))) rfl
theorem w_132 : Cond.code ⟨"ExpectRows$Item", "<init>", "()V"⟩ prog_6_method_1_code 1 none ∈ GW := gw_of (List.mem_append_right _ (List.mem_append_left _ (List.mem_of_getElem? (i := 132) rfl))) rfl
theorem w_133 : Cond.methodLink "ExpectRows$Item" 3 ⟨"java/lang/Object", "<init>", "()V"⟩ ∈ GW := gw_of (List.mem_append_right _ (List.mem_append_left _ (List.mem_of_getElem? (i := 133) rfl))) rfl
theorem w_134 : Cond.fieldLink "ExpectRows$Item" 9 "ExpectRows$Item" "state" "I" ∈ GW := gw_of (List.mem_append_right _ (List.mem_append_left _ (List.mem_of_getElem? (i := 134) rfl))) rfl
theorem w_135 : Cond.fieldLink "ExpectRows$Item" 15 "ExpectRows$Item" "first" "J" ∈ GW := gw_of (List.mem_append_right _ (List.mem_append_left _ (List.mem_of_getElem? (i := 135) rfl))) rfl
theorem w_136 : Cond.fieldLink "ExpectRows$Item" 19 "ExpectRows$Item" "last" "J" ∈ GW := gw_of (List.mem_append_right _ (List.mem_append_left _ (List.mem_of_getElem? (i := 136) rfl))) rfl
theorem w_137 : Cond.fieldLinkNest "ExpectRows" 162 "ExpectRows$Item" "last" "J" "ExpectRows" ∈ NW := nw_of (List.mem_append_right _ (List.mem_append_left _ (List.mem_of_getElem? (i := 137) rfl))) rfl
theorem w_138 : Cond.fieldLink "ExpectRows$Item" 22 "ExpectRows$Item" "row" "I" ∈ GW := gw_of (List.mem_append_right _ (List.mem_append_left _ (List.mem_of_getElem? (i := 138) rfl))) rfl
theorem w_139 : Cond.fieldLinkNest "ExpectRows$AlarmList" 24 "ExpectRows$Item" "row" "I" "ExpectRows" ∈ NW := nw_of (List.mem_append_right _ (List.mem_append_left _ (List.mem_of_getElem? (i := 139) rfl))) rfl
theorem w_140 : Cond.fieldLink "ExpectRows$Item" 25 "ExpectRows$Item" "place" "I" ∈ GW := gw_of (List.mem_append_right _ (List.mem_append_left _ (List.mem_of_getElem? (i := 140) rfl))) rfl
theorem w_141 : Cond.fieldLinkNest "ExpectRows$AlarmList" 30 "ExpectRows$Item" "place" "I" "ExpectRows" ∈ NW := nw_of (List.mem_append_right _ (List.mem_append_left _ (List.mem_of_getElem? (i := 141) rfl))) rfl
theorem w_142 : Cond.fieldLinkNest "ExpectRows" 209 "ExpectRows$Item" "place" "I" "ExpectRows" ∈ NW := nw_of (List.mem_append_right _ (List.mem_append_left _ (List.mem_of_getElem? (i := 142) rfl))) rfl
theorem w_143 : Cond.fieldLink "ExpectRows$Item" 28 "ExpectRows$Item" "due" "J" ∈ GW := gw_of (List.mem_append_right _ (List.mem_append_left _ (List.mem_of_getElem? (i := 143) rfl))) rfl
theorem w_144 : Cond.fieldLinkNest "ExpectRows$AlarmList" 33 "ExpectRows$Item" "due" "J" "ExpectRows" ∈ NW := nw_of (List.mem_append_right _ (List.mem_append_left _ (List.mem_of_getElem? (i := 144) rfl))) rfl
theorem w_145 : Cond.fieldLinkNest "ExpectRows" 206 "ExpectRows$Item" "due" "J" "ExpectRows" ∈ NW := nw_of (List.mem_append_right _ (List.mem_append_left _ (List.mem_of_getElem? (i := 145) rfl))) rfl
theorem w_146 : Cond.fieldLink "ExpectRows$Item" 31 "ExpectRows$Item" "late" "Z" ∈ GW := gw_of (List.mem_append_right _ (List.mem_append_left _ (List.mem_of_getElem? (i := 146) rfl))) rfl
theorem w_147 : Cond.fieldLinkNest "ExpectRows" 203 "ExpectRows$Item" "late" "Z" "ExpectRows" ∈ NW := nw_of (List.mem_append_right _ (List.mem_append_left _ (List.mem_of_getElem? (i := 147) rfl))) rfl
theorem w_148 : Cond.fieldLink "ExpectRows$Item" 35 "ExpectRows$Item" "lost" "Z" ∈ GW := gw_of (List.mem_append_right _ (List.mem_append_left _ (List.mem_of_getElem? (i := 148) rfl))) rfl
theorem w_149 : Cond.fieldLinkNest "ExpectRows" 158 "ExpectRows$Item" "lost" "Z" "ExpectRows" ∈ NW := nw_of (List.mem_append_right _ (List.mem_append_left _ (List.mem_of_getElem? (i := 149) rfl))) rfl
theorem w_150 : Cond.lays "ExpectRows$Item" "ExpectRows$Item" "state" "I" ∈ GW := gw_of (List.mem_append_right _ (List.mem_append_left _ (List.mem_of_getElem? (i := 150) rfl))) rfl
theorem w_152 : Cond.lays "ExpectRows$Item" "ExpectRows$Item" "first" "J" ∈ GW := gw_of (List.mem_append_right _ (List.mem_append_left _ (List.mem_of_getElem? (i := 152) rfl))) rfl
theorem w_154 : Cond.lays "ExpectRows$Item" "ExpectRows$Item" "last" "J" ∈ GW := gw_of (List.mem_append_right _ (List.mem_append_left _ (List.mem_of_getElem? (i := 154) rfl))) rfl
theorem w_156 : Cond.lays "ExpectRows$Item" "ExpectRows$Item" "row" "I" ∈ GW := gw_of (List.mem_append_right _ (List.mem_append_left _ (List.mem_of_getElem? (i := 156) rfl))) rfl
theorem w_158 : Cond.lays "ExpectRows$Item" "ExpectRows$Item" "place" "I" ∈ GW := gw_of (List.mem_append_right _ (List.mem_append_left _ (List.mem_of_getElem? (i := 158) rfl))) rfl
theorem w_160 : Cond.lays "ExpectRows$Item" "ExpectRows$Item" "due" "J" ∈ GW := gw_of (List.mem_append_right _ (List.mem_append_left _ (List.mem_of_getElem? (i := 160) rfl))) rfl
theorem w_162 : Cond.lays "ExpectRows$Item" "ExpectRows$Item" "late" "Z" ∈ GW := gw_of (List.mem_append_right _ (List.mem_append_left _ (List.mem_of_getElem? (i := 162) rfl))) rfl
theorem w_164 : Cond.lays "ExpectRows$Item" "ExpectRows$Item" "lost" "Z" ∈ GW := gw_of (List.mem_append_right _ (List.mem_append_left _ (List.mem_of_getElem? (i := 164) rfl))) rfl
theorem w_166 : Cond.superclass "ExpectRows$Item" "java/lang/Object" ∈ GW := gw_of (List.mem_append_right _ (List.mem_append_left _ (List.mem_of_getElem? (i := 166) rfl))) rfl
theorem w_167 : Cond.fieldLink "ExpectRows" 10 "ExpectRows" "rows" "LExpectRows$RowList;" ∈ GW := gw_of (List.mem_append_right _ (List.mem_append_left _ (List.mem_of_getElem? (i := 167) rfl))) rfl
theorem w_168 : Cond.fieldLink "ExpectRows" 19 "ExpectRows" "holidays" "LExpectRows$HolidayList;" ∈ GW := gw_of (List.mem_append_right _ (List.mem_append_left _ (List.mem_of_getElem? (i := 168) rfl))) rfl
theorem w_169 : Cond.fieldLink "ExpectRows" 26 "ExpectRows" "alarms" "LExpectRows$AlarmList;" ∈ GW := gw_of (List.mem_append_right _ (List.mem_append_left _ (List.mem_of_getElem? (i := 169) rfl))) rfl
theorem w_170 : Cond.fieldLink "ExpectRows" 33 "ExpectRows" "counts" "LExpectRows$PlaceCounts;" ∈ GW := gw_of (List.mem_append_right _ (List.mem_append_left _ (List.mem_of_getElem? (i := 170) rfl))) rfl
theorem w_171 : Cond.fieldLink "ExpectRows" 40 "ExpectRows" "deliveries" "LExpectRows$DeliveryList;" ∈ GW := gw_of (List.mem_append_right _ (List.mem_append_left _ (List.mem_of_getElem? (i := 171) rfl))) rfl
theorem w_172 : Cond.fieldLink "ExpectRows" 46 "ExpectRows" "items" "[LExpectRows$Item;" ∈ GW := gw_of (List.mem_append_right _ (List.mem_append_left _ (List.mem_of_getElem? (i := 172) rfl))) rfl
theorem w_173 : Cond.fieldLink "ExpectRows" 50 "ExpectRows" "clock" "J" ∈ GW := gw_of (List.mem_append_right _ (List.mem_append_left _ (List.mem_of_getElem? (i := 173) rfl))) rfl
theorem w_174 : Cond.laysFinal "ExpectRows" "ExpectRows" "rows" "LExpectRows$RowList;" ∈ GW := gw_of (List.mem_append_right _ (List.mem_append_left _ (List.mem_of_getElem? (i := 174) rfl))) rfl
theorem w_176 : Cond.laysFinal "ExpectRows" "ExpectRows" "holidays" "LExpectRows$HolidayList;" ∈ GW := gw_of (List.mem_append_right _ (List.mem_append_left _ (List.mem_of_getElem? (i := 176) rfl))) rfl
theorem w_178 : Cond.laysFinal "ExpectRows" "ExpectRows" "alarms" "LExpectRows$AlarmList;" ∈ GW := gw_of (List.mem_append_right _ (List.mem_append_left _ (List.mem_of_getElem? (i := 178) rfl))) rfl
theorem w_180 : Cond.laysFinal "ExpectRows" "ExpectRows" "counts" "LExpectRows$PlaceCounts;" ∈ GW := gw_of (List.mem_append_right _ (List.mem_append_left _ (List.mem_of_getElem? (i := 180) rfl))) rfl
theorem w_182 : Cond.laysFinal "ExpectRows" "ExpectRows" "deliveries" "LExpectRows$DeliveryList;" ∈ GW := gw_of (List.mem_append_right _ (List.mem_append_left _ (List.mem_of_getElem? (i := 182) rfl))) rfl
theorem w_184 : Cond.laysFinal "ExpectRows" "ExpectRows" "items" "[LExpectRows$Item;" ∈ GW := gw_of (List.mem_append_right _ (List.mem_append_left _ (List.mem_of_getElem? (i := 184) rfl))) rfl
theorem w_186 : Cond.lays "ExpectRows" "ExpectRows" "clock" "J" ∈ GW := gw_of (List.mem_append_right _ (List.mem_append_left _ (List.mem_of_getElem? (i := 186) rfl))) rfl
theorem w_188 : Cond.superclass "ExpectRows" "java/lang/Object" ∈ GW := gw_of (List.mem_append_right _ (List.mem_append_left _ (List.mem_of_getElem? (i := 188) rfl))) rfl
theorem w_189 : Cond.methodLink "ExpectRowsLaw" 21 ⟨"ExpectRows", "rule", "(IIIJZ)I"⟩ ∈ GW := gw_of (List.mem_append_right _ (List.mem_append_left _ (List.mem_of_getElem? (i := 189) rfl))) rfl
theorem w_190 : Cond.instanceMethod ⟨"ExpectRows", "rule", "(IIIJZ)I"⟩ ∈ GW := gw_of (List.mem_append_right _ (List.mem_append_left _ (List.mem_of_getElem? (i := 190) rfl))) rfl
theorem w_191 : Cond.selects "ExpectRows" ⟨"ExpectRows", "rule", "(IIIJZ)I"⟩ ⟨"ExpectRows", "rule", "(IIIJZ)I"⟩ ∈ GW := gw_of (List.mem_append_right _ (List.mem_append_left _ (List.mem_of_getElem? (i := 191) rfl))) rfl
theorem w_192 : Cond.code ⟨"ExpectRows", "rule", "(IIIJZ)I"⟩ prog_1_method_2_code 7 (some .int) ∈ GW := gw_of (List.mem_append_right _ (List.mem_append_left _ (List.mem_of_getElem? (i := 192) rfl))) rfl
theorem w_193 : Cond.methodLink "ExpectRows" 55 ⟨"ExpectRows", "isPlace", "(I)Z"⟩ ∈ GW := gw_of (List.mem_append_right _ (List.mem_append_left _ (List.mem_of_getElem? (i := 193) rfl))) rfl
theorem w_194 : Cond.static ⟨"ExpectRows", "isPlace", "(I)Z"⟩ ∈ GW := gw_of (List.mem_append_right _ (List.mem_append_left _ (List.mem_of_getElem? (i := 194) rfl))) rfl
theorem w_195 : Cond.code ⟨"ExpectRows", "isPlace", "(I)Z"⟩ prog_1_method_14_code 1 (some .boolean) ∈ GW := gw_of (List.mem_append_right _ (List.mem_append_left _ (List.mem_of_getElem? (i := 195) rfl))) rfl
theorem w_196 : Cond.methodLink "ExpectRows" 59 ⟨"ExpectRows", "isService", "(I)Z"⟩ ∈ GW := gw_of (List.mem_append_right _ (List.mem_append_left _ (List.mem_of_getElem? (i := 196) rfl))) rfl
theorem w_197 : Cond.static ⟨"ExpectRows", "isService", "(I)Z"⟩ ∈ GW := gw_of (List.mem_append_right _ (List.mem_append_left _ (List.mem_of_getElem? (i := 197) rfl))) rfl
theorem w_198 : Cond.code ⟨"ExpectRows", "isService", "(I)Z"⟩ prog_1_method_15_code 1 (some .boolean) ∈ GW := gw_of (List.mem_append_right _ (List.mem_append_left _ (List.mem_of_getElem? (i := 198) rfl))) rfl
theorem w_199 : Cond.constantLong "ExpectRows" 62 (10000000) ∈ GW := gw_of (List.mem_append_right _ (List.mem_append_left _ (List.mem_of_getElem? (i := 199) rfl))) rfl
theorem w_200 : Cond.methodLinkNest "ExpectRows" 64 ⟨"ExpectRows$RowList", "addRow", "(IIIJZ)I"⟩ "ExpectRows" ∈ NW := nw_of (List.mem_append_right _ (List.mem_append_left _ (List.mem_of_getElem? (i := 200) rfl))) rfl
theorem w_202 : Cond.instanceMethod ⟨"ExpectRows$RowList", "addRow", "(IIIJZ)I"⟩ ∈ GW := gw_of (List.mem_append_right _ (List.mem_append_left _ (List.mem_of_getElem? (i := 202) rfl))) rfl
theorem w_203 : Cond.code ⟨"ExpectRows$RowList", "addRow", "(IIIJZ)I"⟩ prog_9_method_2_code 8 (some .int) ∈ GW := gw_of (List.mem_append_right _ (List.mem_append_left _ (List.mem_of_getElem? (i := 203) rfl))) rfl
theorem w_204 : Cond.methodLink "ExpectRows$RowList" 21 ⟨"java/util/ArrayList", "size", "()I"⟩ ∈ GW := gw_of (List.mem_append_right _ (List.mem_append_left _ (List.mem_of_getElem? (i := 204) rfl))) rfl
theorem w_205 : Cond.instanceMethod ⟨"java/util/ArrayList", "size", "()I"⟩ ∈ GW := gw_of (List.mem_append_right _ (List.mem_append_left _ (List.mem_of_getElem? (i := 205) rfl))) rfl
theorem w_206 : Cond.selects "java/util/ArrayList" ⟨"java/util/ArrayList", "size", "()I"⟩ ⟨"java/util/ArrayList", "size", "()I"⟩ ∈ GW := gw_of (List.mem_append_right _ (List.mem_append_left _ (List.mem_of_getElem? (i := 206) rfl))) rfl
theorem w_207 : Cond.code ⟨"java/util/ArrayList", "size", "()I"⟩ prog_24_method_8_code 1 (some .int) ∈ GW := gw_of (List.mem_append_right _ (List.mem_append_left _ (List.mem_of_getElem? (i := 207) rfl))) rfl
theorem w_208 : Cond.classLink "ExpectRows$RowList" 25 "ExpectRows$Row" ∈ GW := gw_of (List.mem_append_right _ (List.mem_append_left _ (List.mem_of_getElem? (i := 208) rfl))) rfl
theorem w_209 : Cond.instantiable "ExpectRows$Row" 7 ∈ GW := gw_of (List.mem_append_right _ (List.mem_append_left _ (List.mem_of_getElem? (i := 209) rfl))) rfl
theorem w_210 : Cond.methodLinkNest "ExpectRows$RowList" 27 ⟨"ExpectRows$Row", "<init>", "(IIIIJZ)V"⟩ "ExpectRows" ∈ NW := nw_of (List.mem_append_right _ (List.mem_append_left _ (List.mem_of_getElem? (i := 210) rfl))) rfl
theorem w_211 : Cond.instanceMethod ⟨"ExpectRows$Row", "<init>", "(IIIIJZ)V"⟩ ∈ GW := gw_of (List.mem_append_right _ (List.mem_append_left _ (List.mem_of_getElem? (i := 211) rfl))) rfl
theorem w_212 : Cond.code ⟨"ExpectRows$Row", "<init>", "(IIIIJZ)V"⟩ prog_8_method_1_code 8 none ∈ GW := gw_of (List.mem_append_right _ (List.mem_append_left _ (List.mem_of_getElem? (i := 212) rfl))) rfl
theorem w_213 : Cond.methodLink "ExpectRows$Row" 3 ⟨"java/lang/Object", "<init>", "()V"⟩ ∈ GW := gw_of (List.mem_append_right _ (List.mem_append_left _ (List.mem_of_getElem? (i := 213) rfl))) rfl
theorem w_214 : Cond.fieldLink "ExpectRows$Row" 15 "ExpectRows$Row" "number" "I" ∈ GW := gw_of (List.mem_append_right _ (List.mem_append_left _ (List.mem_of_getElem? (i := 214) rfl))) rfl
theorem w_215 : Cond.fieldLinkNest "ExpectRows$RowList" 46 "ExpectRows$Row" "number" "I" "ExpectRows" ∈ NW := nw_of (List.mem_append_right _ (List.mem_append_left _ (List.mem_of_getElem? (i := 215) rfl))) rfl
theorem w_216 : Cond.fieldLinkNest "ExpectRows" 180 "ExpectRows$Row" "number" "I" "ExpectRows" ∈ NW := nw_of (List.mem_append_right _ (List.mem_append_left _ (List.mem_of_getElem? (i := 216) rfl))) rfl
theorem w_217 : Cond.fieldLink "ExpectRows$Row" 19 "ExpectRows$Row" "state" "I" ∈ GW := gw_of (List.mem_append_right _ (List.mem_append_left _ (List.mem_of_getElem? (i := 217) rfl))) rfl
theorem w_218 : Cond.fieldLink "ExpectRows$Row" 22 "ExpectRows$Row" "place" "I" ∈ GW := gw_of (List.mem_append_right _ (List.mem_append_left _ (List.mem_of_getElem? (i := 218) rfl))) rfl
theorem w_219 : Cond.fieldLink "ExpectRows$Row" 25 "ExpectRows$Row" "service" "I" ∈ GW := gw_of (List.mem_append_right _ (List.mem_append_left _ (List.mem_of_getElem? (i := 219) rfl))) rfl
theorem w_220 : Cond.fieldLink "ExpectRows$Row" 28 "ExpectRows$Row" "within" "J" ∈ GW := gw_of (List.mem_append_right _ (List.mem_append_left _ (List.mem_of_getElem? (i := 220) rfl))) rfl
theorem w_221 : Cond.fieldLinkNest "ExpectRows" 184 "ExpectRows$Row" "within" "J" "ExpectRows" ∈ NW := nw_of (List.mem_append_right _ (List.mem_append_left _ (List.mem_of_getElem? (i := 221) rfl))) rfl
theorem w_222 : Cond.fieldLink "ExpectRows$Row" 32 "ExpectRows$Row" "fails" "Z" ∈ GW := gw_of (List.mem_append_right _ (List.mem_append_left _ (List.mem_of_getElem? (i := 222) rfl))) rfl
theorem w_223 : Cond.fieldLinkNest "ExpectRows" 171 "ExpectRows$Row" "fails" "Z" "ExpectRows" ∈ NW := nw_of (List.mem_append_right _ (List.mem_append_left _ (List.mem_of_getElem? (i := 223) rfl))) rfl
theorem w_224 : Cond.fieldLink "ExpectRows$Row" 9 "ExpectRows$Row" "hasFailed" "Z" ∈ GW := gw_of (List.mem_append_right _ (List.mem_append_left _ (List.mem_of_getElem? (i := 224) rfl))) rfl
theorem w_225 : Cond.fieldLinkNest "ExpectRows$RowList" 42 "ExpectRows$Row" "hasFailed" "Z" "ExpectRows" ∈ NW := nw_of (List.mem_append_right _ (List.mem_append_left _ (List.mem_of_getElem? (i := 225) rfl))) rfl
theorem w_226 : Cond.laysFinal "ExpectRows$Row" "ExpectRows$Row" "number" "I" ∈ GW := gw_of (List.mem_append_right _ (List.mem_append_left _ (List.mem_of_getElem? (i := 226) rfl))) rfl
theorem w_228 : Cond.laysFinal "ExpectRows$Row" "ExpectRows$Row" "state" "I" ∈ GW := gw_of (List.mem_append_right _ (List.mem_append_left _ (List.mem_of_getElem? (i := 228) rfl))) rfl
theorem w_230 : Cond.laysFinal "ExpectRows$Row" "ExpectRows$Row" "place" "I" ∈ GW := gw_of (List.mem_append_right _ (List.mem_append_left _ (List.mem_of_getElem? (i := 230) rfl))) rfl
theorem w_232 : Cond.laysFinal "ExpectRows$Row" "ExpectRows$Row" "service" "I" ∈ GW := gw_of (List.mem_append_right _ (List.mem_append_left _ (List.mem_of_getElem? (i := 232) rfl))) rfl
theorem w_234 : Cond.laysFinal "ExpectRows$Row" "ExpectRows$Row" "within" "J" ∈ GW := gw_of (List.mem_append_right _ (List.mem_append_left _ (List.mem_of_getElem? (i := 234) rfl))) rfl
theorem w_236 : Cond.laysFinal "ExpectRows$Row" "ExpectRows$Row" "fails" "Z" ∈ GW := gw_of (List.mem_append_right _ (List.mem_append_left _ (List.mem_of_getElem? (i := 236) rfl))) rfl
theorem w_238 : Cond.lays "ExpectRows$Row" "ExpectRows$Row" "hasFailed" "Z" ∈ GW := gw_of (List.mem_append_right _ (List.mem_append_left _ (List.mem_of_getElem? (i := 238) rfl))) rfl
theorem w_240 : Cond.superclass "ExpectRows$Row" "java/lang/Object" ∈ GW := gw_of (List.mem_append_right _ (List.mem_append_right _ (List.mem_append_left _ (List.mem_of_getElem? (i := 0) rfl)))) rfl
theorem w_241 : Cond.methodLink "ExpectRows$RowList" 30 ⟨"java/util/ArrayList", "add", "(Ljava/lang/Object;)Z"⟩ ∈ GW := gw_of (List.mem_append_right _ (List.mem_append_right _ (List.mem_append_left _ (List.mem_of_getElem? (i := 1) rfl)))) rfl
theorem w_242 : Cond.instanceMethod ⟨"java/util/ArrayList", "add", "(Ljava/lang/Object;)Z"⟩ ∈ GW := gw_of (List.mem_append_right _ (List.mem_append_right _ (List.mem_append_left _ (List.mem_of_getElem? (i := 2) rfl)))) rfl
theorem w_243 : Cond.selects "java/util/ArrayList" ⟨"java/util/ArrayList", "add", "(Ljava/lang/Object;)Z"⟩ ⟨"java/util/ArrayList", "add", "(Ljava/lang/Object;)Z"⟩ ∈ GW := gw_of (List.mem_append_right _ (List.mem_append_right _ (List.mem_append_left _ (List.mem_of_getElem? (i := 3) rfl)))) rfl
theorem w_244 : Cond.code ⟨"java/util/ArrayList", "add", "(Ljava/lang/Object;)Z"⟩ prog_24_method_25_code 2 (some .boolean) ∈ GW := gw_of (List.mem_append_right _ (List.mem_append_right _ (List.mem_append_left _ (List.mem_of_getElem? (i := 4) rfl)))) rfl
theorem w_245 : Cond.methodLink "java/util/ArrayList" 131 ⟨"java/util/ArrayList", "add", "(Ljava/lang/Object;[Ljava/lang/Object;I)V"⟩ ∈ GW := gw_of (List.mem_append_right _ (List.mem_append_right _ (List.mem_append_left _ (List.mem_of_getElem? (i := 5) rfl)))) rfl
theorem w_247 : Cond.instanceMethod ⟨"java/util/ArrayList", "add", "(Ljava/lang/Object;[Ljava/lang/Object;I)V"⟩ ∈ GW := gw_of (List.mem_append_right _ (List.mem_append_right _ (List.mem_append_left _ (List.mem_of_getElem? (i := 7) rfl)))) rfl
theorem w_248 : Cond.code ⟨"java/util/ArrayList", "add", "(Ljava/lang/Object;[Ljava/lang/Object;I)V"⟩ prog_24_method_24_code 4 none ∈ GW := gw_of (List.mem_append_right _ (List.mem_append_right _ (List.mem_append_left _ (List.mem_of_getElem? (i := 8) rfl)))) rfl
theorem w_249 : Cond.methodLink "java/util/ArrayList" 129 ⟨"java/util/ArrayList", "grow", "()[Ljava/lang/Object;"⟩ ∈ GW := gw_of (List.mem_append_right _ (List.mem_append_right _ (List.mem_append_left _ (List.mem_of_getElem? (i := 9) rfl)))) rfl
theorem w_251 : Cond.instanceMethod ⟨"java/util/ArrayList", "grow", "()[Ljava/lang/Object;"⟩ ∈ GW := gw_of (List.mem_append_right _ (List.mem_append_right _ (List.mem_append_left _ (List.mem_of_getElem? (i := 11) rfl)))) rfl
theorem w_252 : Cond.code ⟨"java/util/ArrayList", "grow", "()[Ljava/lang/Object;"⟩ prog_24_method_7_code 1 (some (.array (.object "java/lang/Object"))) ∈ GW := gw_of (List.mem_append_right _ (List.mem_append_right _ (List.mem_append_left _ (List.mem_of_getElem? (i := 12) rfl)))) rfl
theorem w_253 : Cond.methodLink "java/util/ArrayList" 69 ⟨"java/util/ArrayList", "grow", "(I)[Ljava/lang/Object;"⟩ ∈ GW := gw_of (List.mem_append_right _ (List.mem_append_right _ (List.mem_append_left _ (List.mem_of_getElem? (i := 13) rfl)))) rfl
theorem w_255 : Cond.instanceMethod ⟨"java/util/ArrayList", "grow", "(I)[Ljava/lang/Object;"⟩ ∈ GW := gw_of (List.mem_append_right _ (List.mem_append_right _ (List.mem_append_left _ (List.mem_of_getElem? (i := 15) rfl)))) rfl
theorem w_256 : Cond.code ⟨"java/util/ArrayList", "grow", "(I)[Ljava/lang/Object;"⟩ prog_24_method_6_code 4 (some (.array (.object "java/lang/Object"))) ∈ GW := gw_of (List.mem_append_right _ (List.mem_append_right _ (List.mem_append_left _ (List.mem_of_getElem? (i := 16) rfl)))) rfl
theorem w_257 : Cond.methodLink "java/util/ArrayList" 73 ⟨"jdk/internal/util/ArraysSupport", "newLength", "(III)I"⟩ ∈ GW := gw_of (List.mem_append_right _ (List.mem_append_right _ (List.mem_append_left _ (List.mem_of_getElem? (i := 17) rfl)))) rfl
theorem w_258 : Cond.static ⟨"jdk/internal/util/ArraysSupport", "newLength", "(III)I"⟩ ∈ GW := gw_of (List.mem_append_right _ (List.mem_append_right _ (List.mem_append_left _ (List.mem_of_getElem? (i := 18) rfl)))) rfl
theorem w_259 : Cond.code ⟨"jdk/internal/util/ArraysSupport", "newLength", "(III)I"⟩ prog_31_method_27_code 4 (some .int) ∈ GW := gw_of (List.mem_append_right _ (List.mem_append_right _ (List.mem_append_left _ (List.mem_of_getElem? (i := 19) rfl)))) rfl
theorem w_260 : Cond.methodLink "jdk/internal/util/ArraysSupport" 194 ⟨"java/lang/Math", "max", "(II)I"⟩ ∈ GW := gw_of (List.mem_append_right _ (List.mem_append_right _ (List.mem_append_left _ (List.mem_of_getElem? (i := 20) rfl)))) rfl
theorem w_261 : Cond.static ⟨"java/lang/Math", "max", "(II)I"⟩ ∈ GW := gw_of (List.mem_append_right _ (List.mem_append_right _ (List.mem_append_left _ (List.mem_of_getElem? (i := 21) rfl)))) rfl
theorem w_262 : Cond.code ⟨"java/lang/Math", "max", "(II)I"⟩ prog_17_method_65_code 2 (some .int) ∈ GW := gw_of (List.mem_append_right _ (List.mem_append_right _ (List.mem_append_left _ (List.mem_of_getElem? (i := 22) rfl)))) rfl
theorem w_263 : Cond.constant "jdk/internal/util/ArraysSupport" 200 (2147483639) ∈ GW := gw_of (List.mem_append_right _ (List.mem_append_right _ (List.mem_append_left _ (List.mem_of_getElem? (i := 23) rfl)))) rfl
theorem w_264 : Cond.methodLink "jdk/internal/util/ArraysSupport" 201 ⟨"jdk/internal/util/ArraysSupport", "hugeLength", "(II)I"⟩ ∈ GW := gw_of (List.mem_append_right _ (List.mem_append_right _ (List.mem_append_left _ (List.mem_of_getElem? (i := 24) rfl)))) rfl
theorem w_265 : Cond.static ⟨"jdk/internal/util/ArraysSupport", "hugeLength", "(II)I"⟩ ∈ GW := gw_of (List.mem_append_right _ (List.mem_append_right _ (List.mem_append_left _ (List.mem_of_getElem? (i := 25) rfl)))) rfl
theorem w_266 : Cond.code ⟨"jdk/internal/util/ArraysSupport", "hugeLength", "(II)I"⟩ prog_31_method_28_code 3 (some .int) ∈ GW := gw_of (List.mem_append_right _ (List.mem_append_right _ (List.mem_append_left _ (List.mem_of_getElem? (i := 26) rfl)))) rfl
theorem w_267 : Cond.methodLink "java/util/ArrayList" 66 ⟨"java/util/Arrays", "copyOf", "([Ljava/lang/Object;I)[Ljava/lang/Object;"⟩ ∈ GW := gw_of (List.mem_append_right _ (List.mem_append_right _ (List.mem_append_left _ (List.mem_of_getElem? (i := 27) rfl)))) rfl
theorem w_268 : Cond.static ⟨"java/util/Arrays", "copyOf", "([Ljava/lang/Object;I)[Ljava/lang/Object;"⟩ ∈ GW := gw_of (List.mem_append_right _ (List.mem_append_right _ (List.mem_append_left _ (List.mem_of_getElem? (i := 28) rfl)))) rfl
theorem w_269 : Cond.code ⟨"java/util/Arrays", "copyOf", "([Ljava/lang/Object;I)[Ljava/lang/Object;"⟩ prog_25_method_119_code 2 (some (.array (.object "java/lang/Object"))) ∈ GW := gw_of (List.mem_append_right _ (List.mem_append_right _ (List.mem_append_left _ (List.mem_of_getElem? (i := 29) rfl)))) rfl
theorem w_270 : Cond.methodLink "java/util/Arrays" 86 ⟨"java/lang/Object", "getClass", "()Ljava/lang/Class;"⟩ ∈ GW := gw_of (List.mem_append_right _ (List.mem_append_right _ (List.mem_append_left _ (List.mem_of_getElem? (i := 30) rfl)))) rfl
theorem w_271 : Cond.instanceMethod ⟨"java/lang/Object", "getClass", "()Ljava/lang/Class;"⟩ ∈ GW := gw_of (List.mem_append_right _ (List.mem_append_right _ (List.mem_append_left _ (List.mem_of_getElem? (i := 31) rfl)))) rfl
theorem w_272 : Cond.sameMethod "java/lang/Object" "java/lang/Object" "getClass" "()Ljava/lang/Class;" ∈ GW := gw_of (List.mem_append_right _ (List.mem_append_right _ (List.mem_append_left _ (List.mem_of_getElem? (i := 32) rfl)))) rfl
theorem w_273 : Cond.selects "ExpectRows" ⟨"java/lang/Object", "getClass", "()Ljava/lang/Class;"⟩ ⟨"java/lang/Object", "getClass", "()Ljava/lang/Class;"⟩ ∈ GW := gw_of (List.mem_append_right _ (List.mem_append_right _ (List.mem_append_left _ (List.mem_of_getElem? (i := 33) rfl)))) rfl
theorem w_274 : Cond.selects "ExpectRows$Alarm" ⟨"java/lang/Object", "getClass", "()Ljava/lang/Class;"⟩ ⟨"java/lang/Object", "getClass", "()Ljava/lang/Class;"⟩ ∈ GW := gw_of (List.mem_append_right _ (List.mem_append_right _ (List.mem_append_left _ (List.mem_of_getElem? (i := 34) rfl)))) rfl
theorem w_275 : Cond.selects "ExpectRows$AlarmList" ⟨"java/lang/Object", "getClass", "()Ljava/lang/Class;"⟩ ⟨"java/lang/Object", "getClass", "()Ljava/lang/Class;"⟩ ∈ GW := gw_of (List.mem_append_right _ (List.mem_append_right _ (List.mem_append_left _ (List.mem_of_getElem? (i := 35) rfl)))) rfl
theorem w_276 : Cond.selects "ExpectRows$DeliveryList" ⟨"java/lang/Object", "getClass", "()Ljava/lang/Class;"⟩ ⟨"java/lang/Object", "getClass", "()Ljava/lang/Class;"⟩ ∈ GW := gw_of (List.mem_append_right _ (List.mem_append_right _ (List.mem_append_left _ (List.mem_of_getElem? (i := 36) rfl)))) rfl
theorem w_277 : Cond.selects "ExpectRows$HolidayList" ⟨"java/lang/Object", "getClass", "()Ljava/lang/Class;"⟩ ⟨"java/lang/Object", "getClass", "()Ljava/lang/Class;"⟩ ∈ GW := gw_of (List.mem_append_right _ (List.mem_append_right _ (List.mem_append_left _ (List.mem_of_getElem? (i := 37) rfl)))) rfl
theorem w_278 : Cond.selects "ExpectRows$Item" ⟨"java/lang/Object", "getClass", "()Ljava/lang/Class;"⟩ ⟨"java/lang/Object", "getClass", "()Ljava/lang/Class;"⟩ ∈ GW := gw_of (List.mem_append_right _ (List.mem_append_right _ (List.mem_append_left _ (List.mem_of_getElem? (i := 38) rfl)))) rfl
theorem w_279 : Cond.selects "ExpectRows$PlaceCounts" ⟨"java/lang/Object", "getClass", "()Ljava/lang/Class;"⟩ ⟨"java/lang/Object", "getClass", "()Ljava/lang/Class;"⟩ ∈ GW := gw_of (List.mem_append_right _ (List.mem_append_right _ (List.mem_append_left _ (List.mem_of_getElem? (i := 39) rfl)))) rfl
theorem w_280 : Cond.selects "ExpectRows$Row" ⟨"java/lang/Object", "getClass", "()Ljava/lang/Class;"⟩ ⟨"java/lang/Object", "getClass", "()Ljava/lang/Class;"⟩ ∈ GW := gw_of (List.mem_append_right _ (List.mem_append_right _ (List.mem_append_left _ (List.mem_of_getElem? (i := 40) rfl)))) rfl
theorem w_281 : Cond.selects "ExpectRows$RowList" ⟨"java/lang/Object", "getClass", "()Ljava/lang/Class;"⟩ ⟨"java/lang/Object", "getClass", "()Ljava/lang/Class;"⟩ ∈ GW := gw_of (List.mem_append_right _ (List.mem_append_right _ (List.mem_append_left _ (List.mem_of_getElem? (i := 41) rfl)))) rfl
theorem w_282 : Cond.selects "ExpectRowsModel" ⟨"java/lang/Object", "getClass", "()Ljava/lang/Class;"⟩ ⟨"java/lang/Object", "getClass", "()Ljava/lang/Class;"⟩ ∈ GW := gw_of (List.mem_append_right _ (List.mem_append_right _ (List.mem_append_left _ (List.mem_of_getElem? (i := 42) rfl)))) rfl
theorem w_283 : Cond.selects "java/lang/ArithmeticException" ⟨"java/lang/Object", "getClass", "()Ljava/lang/Class;"⟩ ⟨"java/lang/Object", "getClass", "()Ljava/lang/Class;"⟩ ∈ GW := gw_of (List.mem_append_right _ (List.mem_append_right _ (List.mem_append_left _ (List.mem_of_getElem? (i := 43) rfl)))) rfl
theorem w_284 : Cond.selects "java/util/ArrayList" ⟨"java/lang/Object", "getClass", "()Ljava/lang/Class;"⟩ ⟨"java/lang/Object", "getClass", "()Ljava/lang/Class;"⟩ ∈ GW := gw_of (List.mem_append_right _ (List.mem_append_right _ (List.mem_append_left _ (List.mem_of_getElem? (i := 44) rfl)))) rfl
theorem w_285 : Cond.native ⟨"java/lang/Object", "getClass", "()Ljava/lang/Class;"⟩ ∈ GW := gw_of (List.mem_append_right _ (List.mem_append_right _ (List.mem_append_left _ (List.mem_of_getElem? (i := 45) rfl)))) rfl
theorem w_286 : Cond.methodLink "java/util/Arrays" 300 ⟨"java/util/Arrays", "copyOf", "([Ljava/lang/Object;ILjava/lang/Class;)[Ljava/lang/Object;"⟩ ∈ GW := gw_of (List.mem_append_right _ (List.mem_append_right _ (List.mem_append_left _ (List.mem_of_getElem? (i := 46) rfl)))) rfl
theorem w_287 : Cond.static ⟨"java/util/Arrays", "copyOf", "([Ljava/lang/Object;ILjava/lang/Class;)[Ljava/lang/Object;"⟩ ∈ GW := gw_of (List.mem_append_right _ (List.mem_append_right _ (List.mem_append_left _ (List.mem_of_getElem? (i := 47) rfl)))) rfl
theorem w_288 : Cond.code ⟨"java/util/Arrays", "copyOf", "([Ljava/lang/Object;ILjava/lang/Class;)[Ljava/lang/Object;"⟩ prog_25_method_120_code 4 (some (.array (.object "java/lang/Object"))) ∈ GW := gw_of (List.mem_append_right _ (List.mem_append_right _ (List.mem_append_left _ (List.mem_of_getElem? (i := 48) rfl)))) rfl
theorem w_289 : Cond.classLink "java/util/Arrays" 110 "[Ljava/lang/Object;" ∈ GW := gw_of (List.mem_append_right _ (List.mem_append_right _ (List.mem_append_left _ (List.mem_of_getElem? (i := 49) rfl)))) rfl
theorem w_291 : Cond.classLink "java/util/Arrays" 2 "java/lang/Object" ∈ GW := gw_of (List.mem_append_right _ (List.mem_append_right _ (List.mem_append_left _ (List.mem_of_getElem? (i := 51) rfl)))) rfl
theorem w_292 : Cond.methodLink "java/util/Arrays" 304 ⟨"java/lang/Math", "min", "(II)I"⟩ ∈ GW := gw_of (List.mem_append_right _ (List.mem_append_right _ (List.mem_append_left _ (List.mem_of_getElem? (i := 52) rfl)))) rfl
theorem w_293 : Cond.static ⟨"java/lang/Math", "min", "(II)I"⟩ ∈ GW := gw_of (List.mem_append_right _ (List.mem_append_right _ (List.mem_append_left _ (List.mem_of_getElem? (i := 53) rfl)))) rfl
theorem w_294 : Cond.code ⟨"java/lang/Math", "min", "(II)I"⟩ prog_17_method_69_code 2 (some .int) ∈ GW := gw_of (List.mem_append_right _ (List.mem_append_right _ (List.mem_append_left _ (List.mem_of_getElem? (i := 54) rfl)))) rfl
theorem w_295 : Cond.methodLink "java/util/Arrays" 150 ⟨"java/lang/System", "arraycopy", "(Ljava/lang/Object;ILjava/lang/Object;II)V"⟩ ∈ GW := gw_of (List.mem_append_right _ (List.mem_append_right _ (List.mem_append_left _ (List.mem_of_getElem? (i := 55) rfl)))) rfl
theorem w_296 : Cond.static ⟨"java/lang/System", "arraycopy", "(Ljava/lang/Object;ILjava/lang/Object;II)V"⟩ ∈ GW := gw_of (List.mem_append_right _ (List.mem_append_right _ (List.mem_append_left _ (List.mem_of_getElem? (i := 56) rfl)))) rfl
theorem w_297 : Cond.native ⟨"java/lang/System", "arraycopy", "(Ljava/lang/Object;ILjava/lang/Object;II)V"⟩ ∈ GW := gw_of (List.mem_append_right _ (List.mem_append_right _ (List.mem_append_left _ (List.mem_of_getElem? (i := 57) rfl)))) rfl
theorem w_298 : Cond.methodLink "java/util/ArrayList" 79 ⟨"java/lang/Math", "max", "(II)I"⟩ ∈ GW := gw_of (List.mem_append_right _ (List.mem_append_right _ (List.mem_append_left _ (List.mem_of_getElem? (i := 58) rfl)))) rfl
theorem w_299 : Cond.classLink "java/util/ArrayList" 7 "java/lang/Object" ∈ GW := gw_of (List.mem_append_right _ (List.mem_append_right _ (List.mem_append_left _ (List.mem_of_getElem? (i := 59) rfl)))) rfl
theorem w_300 : Cond.methodLink "ExpectRowsLaw" 26 ⟨"ExpectRows", "event", "(IIIIJ)I"⟩ ∈ GW := gw_of (List.mem_append_right _ (List.mem_append_right _ (List.mem_append_left _ (List.mem_of_getElem? (i := 60) rfl)))) rfl
theorem w_301 : Cond.instanceMethod ⟨"ExpectRows", "event", "(IIIIJ)I"⟩ ∈ GW := gw_of (List.mem_append_right _ (List.mem_append_right _ (List.mem_append_left _ (List.mem_of_getElem? (i := 61) rfl)))) rfl
theorem w_302 : Cond.selects "ExpectRows" ⟨"ExpectRows", "event", "(IIIIJ)I"⟩ ⟨"ExpectRows", "event", "(IIIIJ)I"⟩ ∈ GW := gw_of (List.mem_append_right _ (List.mem_append_right _ (List.mem_append_left _ (List.mem_of_getElem? (i := 62) rfl)))) rfl
theorem w_303 : Cond.code ⟨"ExpectRows", "event", "(IIIIJ)I"⟩ prog_1_method_3_code 8 (some .int) ∈ GW := gw_of (List.mem_append_right _ (List.mem_append_right _ (List.mem_append_left _ (List.mem_of_getElem? (i := 63) rfl)))) rfl
theorem w_304 : Cond.methodLink "ExpectRows" 68 ⟨"ExpectRows", "isItem", "(I)Z"⟩ ∈ GW := gw_of (List.mem_append_right _ (List.mem_append_right _ (List.mem_append_left _ (List.mem_of_getElem? (i := 64) rfl)))) rfl
theorem w_305 : Cond.static ⟨"ExpectRows", "isItem", "(I)Z"⟩ ∈ GW := gw_of (List.mem_append_right _ (List.mem_append_right _ (List.mem_append_left _ (List.mem_of_getElem? (i := 65) rfl)))) rfl
theorem w_306 : Cond.code ⟨"ExpectRows", "isItem", "(I)Z"⟩ prog_1_method_13_code 1 (some .boolean) ∈ GW := gw_of (List.mem_append_right _ (List.mem_append_right _ (List.mem_append_left _ (List.mem_of_getElem? (i := 66) rfl)))) rfl
theorem w_307 : Cond.methodLinkNest "ExpectRows" 71 ⟨"ExpectRows$Item", "mayComeAt", "(J)Z"⟩ "ExpectRows" ∈ NW := nw_of (List.mem_append_right _ (List.mem_append_right _ (List.mem_append_left _ (List.mem_of_getElem? (i := 67) rfl)))) rfl
theorem w_309 : Cond.instanceMethod ⟨"ExpectRows$Item", "mayComeAt", "(J)Z"⟩ ∈ GW := gw_of (List.mem_append_right _ (List.mem_append_right _ (List.mem_append_left _ (List.mem_of_getElem? (i := 69) rfl)))) rfl
theorem w_310 : Cond.code ⟨"ExpectRows$Item", "mayComeAt", "(J)Z"⟩ prog_6_method_3_code 3 (some .boolean) ∈ GW := gw_of (List.mem_append_right _ (List.mem_append_right _ (List.mem_append_left _ (List.mem_of_getElem? (i := 70) rfl)))) rfl
theorem w_311 : Cond.constantLong "ExpectRows$Item" 38 (1000000000) ∈ GW := gw_of (List.mem_append_right _ (List.mem_append_right _ (List.mem_append_left _ (List.mem_of_getElem? (i := 71) rfl)))) rfl
theorem w_312 : Cond.methodLink "ExpectRows$Item" 40 ⟨"ExpectRows$Item", "isNew", "()Z"⟩ ∈ GW := gw_of (List.mem_append_right _ (List.mem_append_right _ (List.mem_append_left _ (List.mem_of_getElem? (i := 72) rfl)))) rfl
theorem w_314 : Cond.instanceMethod ⟨"ExpectRows$Item", "isNew", "()Z"⟩ ∈ GW := gw_of (List.mem_append_right _ (List.mem_append_right _ (List.mem_append_left _ (List.mem_of_getElem? (i := 74) rfl)))) rfl
theorem w_315 : Cond.code ⟨"ExpectRows$Item", "isNew", "()Z"⟩ prog_6_method_2_code 1 (some .boolean) ∈ GW := gw_of (List.mem_append_right _ (List.mem_append_right _ (List.mem_append_left _ (List.mem_of_getElem? (i := 75) rfl)))) rfl
theorem w_316 : Cond.methodLinkNest "ExpectRows" 75 ⟨"ExpectRows$Item", "expectNothing", "()V"⟩ "ExpectRows" ∈ NW := nw_of (List.mem_append_right _ (List.mem_append_right _ (List.mem_append_left _ (List.mem_of_getElem? (i := 76) rfl)))) rfl
theorem w_318 : Cond.instanceMethod ⟨"ExpectRows$Item", "expectNothing", "()V"⟩ ∈ GW := gw_of (List.mem_append_right _ (List.mem_append_right _ (List.mem_append_left _ (List.mem_of_getElem? (i := 78) rfl)))) rfl
theorem w_319 : Cond.code ⟨"ExpectRows$Item", "expectNothing", "()V"⟩ prog_6_method_9_code 1 none ∈ GW := gw_of (List.mem_append_right _ (List.mem_append_right _ (List.mem_append_left _ (List.mem_of_getElem? (i := 79) rfl)))) rfl
theorem w_320 : Cond.methodLinkNest "ExpectRows" 78 ⟨"ExpectRows$Item", "daysUntil", "(J)I"⟩ "ExpectRows" ∈ NW := nw_of (List.mem_append_right _ (List.mem_append_right _ (List.mem_append_left _ (List.mem_of_getElem? (i := 80) rfl)))) rfl
theorem w_322 : Cond.instanceMethod ⟨"ExpectRows$Item", "daysUntil", "(J)I"⟩ ∈ GW := gw_of (List.mem_append_right _ (List.mem_append_right _ (List.mem_append_left _ (List.mem_of_getElem? (i := 82) rfl)))) rfl
theorem w_323 : Cond.code ⟨"ExpectRows$Item", "daysUntil", "(J)I"⟩ prog_6_method_5_code 3 (some .int) ∈ GW := gw_of (List.mem_append_right _ (List.mem_append_right _ (List.mem_append_left _ (List.mem_of_getElem? (i := 83) rfl)))) rfl
theorem w_324 : Cond.constantLong "ExpectRows$Item" 44 (86400) ∈ GW := gw_of (List.mem_append_right _ (List.mem_append_right _ (List.mem_append_left _ (List.mem_of_getElem? (i := 84) rfl)))) rfl
theorem w_325 : Cond.methodLinkNest "ExpectRows" 82 ⟨"ExpectRows$DeliveryList", "addDelivery", "(II)V"⟩ "ExpectRows" ∈ NW := nw_of (List.mem_append_right _ (List.mem_append_right _ (List.mem_append_left _ (List.mem_of_getElem? (i := 85) rfl)))) rfl
theorem w_327 : Cond.instanceMethod ⟨"ExpectRows$DeliveryList", "addDelivery", "(II)V"⟩ ∈ GW := gw_of (List.mem_append_right _ (List.mem_append_right _ (List.mem_append_left _ (List.mem_of_getElem? (i := 87) rfl)))) rfl
theorem w_328 : Cond.code ⟨"ExpectRows$DeliveryList", "addDelivery", "(II)V"⟩ prog_4_method_2_code 4 none ∈ GW := gw_of (List.mem_append_right _ (List.mem_append_right _ (List.mem_append_left _ (List.mem_of_getElem? (i := 88) rfl)))) rfl
theorem w_329 : Cond.methodLinkNest "ExpectRows" 86 ⟨"ExpectRows$Item", "beginAnew", "()V"⟩ "ExpectRows" ∈ NW := nw_of (List.mem_append_right _ (List.mem_append_right _ (List.mem_append_left _ (List.mem_of_getElem? (i := 89) rfl)))) rfl
theorem w_331 : Cond.instanceMethod ⟨"ExpectRows$Item", "beginAnew", "()V"⟩ ∈ GW := gw_of (List.mem_append_right _ (List.mem_append_right _ (List.mem_append_left _ (List.mem_of_getElem? (i := 91) rfl)))) rfl
theorem w_332 : Cond.code ⟨"ExpectRows$Item", "beginAnew", "()V"⟩ prog_6_method_6_code 1 none ∈ GW := gw_of (List.mem_append_right _ (List.mem_append_right _ (List.mem_append_left _ (List.mem_of_getElem? (i := 92) rfl)))) rfl
theorem w_333 : Cond.methodLinkNest "ExpectRows" 89 ⟨"ExpectRows$Item", "takeEvent", "(IJ)V"⟩ "ExpectRows" ∈ NW := nw_of (List.mem_append_right _ (List.mem_append_right _ (List.mem_append_left _ (List.mem_of_getElem? (i := 93) rfl)))) rfl
theorem w_335 : Cond.instanceMethod ⟨"ExpectRows$Item", "takeEvent", "(IJ)V"⟩ ∈ GW := gw_of (List.mem_append_right _ (List.mem_append_right _ (List.mem_append_left _ (List.mem_of_getElem? (i := 95) rfl)))) rfl
theorem w_336 : Cond.code ⟨"ExpectRows$Item", "takeEvent", "(IJ)V"⟩ prog_6_method_4_code 4 none ∈ GW := gw_of (List.mem_append_right _ (List.mem_append_right _ (List.mem_append_left _ (List.mem_of_getElem? (i := 96) rfl)))) rfl
theorem w_337 : Cond.methodLinkNest "ExpectRows" 93 ⟨"ExpectRows$RowList", "firstFor", "(III)LExpectRows$Row;"⟩ "ExpectRows" ∈ NW := nw_of (List.mem_append_right _ (List.mem_append_right _ (List.mem_append_left _ (List.mem_of_getElem? (i := 97) rfl)))) rfl
theorem w_339 : Cond.instanceMethod ⟨"ExpectRows$RowList", "firstFor", "(III)LExpectRows$Row;"⟩ ∈ GW := gw_of (List.mem_append_right _ (List.mem_append_right _ (List.mem_append_left _ (List.mem_of_getElem? (i := 99) rfl)))) rfl
theorem w_340 : Cond.code ⟨"ExpectRows$RowList", "firstFor", "(III)LExpectRows$Row;"⟩ prog_9_method_3_code 6 (some (.object "ExpectRows$Row")) ∈ GW := gw_of (List.mem_append_right _ (List.mem_append_right _ (List.mem_append_left _ (List.mem_of_getElem? (i := 100) rfl)))) rfl
theorem w_341 : Cond.methodLink "ExpectRows$RowList" 34 ⟨"java/util/ArrayList", "get", "(I)Ljava/lang/Object;"⟩ ∈ GW := gw_of (List.mem_append_right _ (List.mem_append_right _ (List.mem_append_left _ (List.mem_of_getElem? (i := 101) rfl)))) rfl
theorem w_342 : Cond.instanceMethod ⟨"java/util/ArrayList", "get", "(I)Ljava/lang/Object;"⟩ ∈ GW := gw_of (List.mem_append_right _ (List.mem_append_right _ (List.mem_append_left _ (List.mem_of_getElem? (i := 102) rfl)))) rfl
theorem w_343 : Cond.selects "java/util/ArrayList" ⟨"java/util/ArrayList", "get", "(I)Ljava/lang/Object;"⟩ ⟨"java/util/ArrayList", "get", "(I)Ljava/lang/Object;"⟩ ∈ GW := gw_of (List.mem_append_right _ (List.mem_append_right _ (List.mem_append_left _ (List.mem_of_getElem? (i := 103) rfl)))) rfl
theorem w_344 : Cond.code ⟨"java/util/ArrayList", "get", "(I)Ljava/lang/Object;"⟩ prog_24_method_20_code 2 (some (.object "java/lang/Object")) ∈ GW := gw_of (List.mem_append_right _ (List.mem_append_right _ (List.mem_append_left _ (List.mem_of_getElem? (i := 104) rfl)))) rfl
theorem w_345 : Cond.methodLink "java/util/ArrayList" 118 ⟨"java/util/Objects", "checkIndex", "(II)I"⟩ ∈ GW := gw_of (List.mem_append_right _ (List.mem_append_right _ (List.mem_append_left _ (List.mem_of_getElem? (i := 105) rfl)))) rfl
theorem w_346 : Cond.static ⟨"java/util/Objects", "checkIndex", "(II)I"⟩ ∈ GW := gw_of (List.mem_append_right _ (List.mem_append_right _ (List.mem_append_left _ (List.mem_of_getElem? (i := 106) rfl)))) rfl
theorem w_347 : Cond.code ⟨"java/util/Objects", "checkIndex", "(II)I"⟩ prog_28_method_17_code 2 (some .int) ∈ GW := gw_of (List.mem_append_right _ (List.mem_append_right _ (List.mem_append_left _ (List.mem_of_getElem? (i := 107) rfl)))) rfl
theorem w_348 : Cond.methodLink "java/util/Objects" 105 ⟨"jdk/internal/util/Preconditions", "checkIndex", "(IILjava/util/function/BiFunction;)I"⟩ ∈ GW := gw_of (List.mem_append_right _ (List.mem_append_right _ (List.mem_append_left _ (List.mem_of_getElem? (i := 108) rfl)))) rfl
theorem w_349 : Cond.static ⟨"jdk/internal/util/Preconditions", "checkIndex", "(IILjava/util/function/BiFunction;)I"⟩ ∈ GW := gw_of (List.mem_append_right _ (List.mem_append_right _ (List.mem_append_left _ (List.mem_of_getElem? (i := 109) rfl)))) rfl
theorem w_350 : Cond.code ⟨"jdk/internal/util/Preconditions", "checkIndex", "(IILjava/util/function/BiFunction;)I"⟩ prog_32_method_11_code 3 (some .int) ∈ GW := gw_of (List.mem_append_right _ (List.mem_append_right _ (List.mem_append_left _ (List.mem_of_getElem? (i := 110) rfl)))) rfl
theorem w_351 : Cond.methodLink "java/util/ArrayList" 123 ⟨"java/util/ArrayList", "elementData", "(I)Ljava/lang/Object;"⟩ ∈ GW := gw_of (List.mem_append_right _ (List.mem_append_right _ (List.mem_append_left _ (List.mem_of_getElem? (i := 111) rfl)))) rfl
theorem w_352 : Cond.instanceMethod ⟨"java/util/ArrayList", "elementData", "(I)Ljava/lang/Object;"⟩ ∈ GW := gw_of (List.mem_append_right _ (List.mem_append_right _ (List.mem_append_left _ (List.mem_of_getElem? (i := 112) rfl)))) rfl
theorem w_353 : Cond.selects "java/util/ArrayList" ⟨"java/util/ArrayList", "elementData", "(I)Ljava/lang/Object;"⟩ ⟨"java/util/ArrayList", "elementData", "(I)Ljava/lang/Object;"⟩ ∈ GW := gw_of (List.mem_append_right _ (List.mem_append_right _ (List.mem_append_left _ (List.mem_of_getElem? (i := 113) rfl)))) rfl
theorem w_354 : Cond.code ⟨"java/util/ArrayList", "elementData", "(I)Ljava/lang/Object;"⟩ prog_24_method_18_code 2 (some (.object "java/lang/Object")) ∈ GW := gw_of (List.mem_append_right _ (List.mem_append_right _ (List.mem_append_left _ (List.mem_of_getElem? (i := 114) rfl)))) rfl
theorem w_355 : Cond.methodLinkNest "ExpectRows$RowList" 38 ⟨"ExpectRows$Row", "isFor", "(III)Z"⟩ "ExpectRows" ∈ NW := nw_of (List.mem_append_right _ (List.mem_append_right _ (List.mem_append_left _ (List.mem_of_getElem? (i := 115) rfl)))) rfl
theorem w_357 : Cond.instanceMethod ⟨"ExpectRows$Row", "isFor", "(III)Z"⟩ ∈ GW := gw_of (List.mem_append_right _ (List.mem_append_right _ (List.mem_append_left _ (List.mem_of_getElem? (i := 117) rfl)))) rfl
theorem w_358 : Cond.code ⟨"ExpectRows$Row", "isFor", "(III)Z"⟩ prog_8_method_2_code 4 (some .boolean) ∈ GW := gw_of (List.mem_append_right _ (List.mem_append_right _ (List.mem_append_left _ (List.mem_of_getElem? (i := 118) rfl)))) rfl
theorem w_359 : Cond.methodLink "ExpectRows" 97 ⟨"ExpectRows", "expectNext", "(LExpectRows$Item;LExpectRows$Row;IJ)I"⟩ ∈ GW := gw_of (List.mem_append_right _ (List.mem_append_right _ (List.mem_append_left _ (List.mem_of_getElem? (i := 119) rfl)))) rfl
theorem w_361 : Cond.instanceMethod ⟨"ExpectRows", "expectNext", "(LExpectRows$Item;LExpectRows$Row;IJ)I"⟩ ∈ GW := gw_of (List.mem_append_right _ (List.mem_append_right _ (List.mem_append_left _ (List.mem_of_getElem? (i := 121) rfl)))) rfl
theorem w_362 : Cond.code ⟨"ExpectRows", "expectNext", "(LExpectRows$Item;LExpectRows$Row;IJ)I"⟩ prog_1_method_17_code 6 (some .int) ∈ GW := gw_of (List.mem_append_right _ (List.mem_append_right _ (List.mem_append_left _ (List.mem_of_getElem? (i := 122) rfl)))) rfl
theorem w_363 : Cond.methodLinkNest "ExpectRows" 176 ⟨"ExpectRows$RowList", "noteFailed", "(LExpectRows$Row;)V"⟩ "ExpectRows" ∈ NW := nw_of (List.mem_append_right _ (List.mem_append_right _ (List.mem_append_left _ (List.mem_of_getElem? (i := 123) rfl)))) rfl
theorem w_365 : Cond.instanceMethod ⟨"ExpectRows$RowList", "noteFailed", "(LExpectRows$Row;)V"⟩ ∈ GW := gw_of (List.mem_append_right _ (List.mem_append_right _ (List.mem_append_left _ (List.mem_of_getElem? (i := 125) rfl)))) rfl
theorem w_366 : Cond.code ⟨"ExpectRows$RowList", "noteFailed", "(LExpectRows$Row;)V"⟩ prog_9_method_4_code 2 none ∈ GW := gw_of (List.mem_append_right _ (List.mem_append_right _ (List.mem_append_left _ (List.mem_of_getElem? (i := 126) rfl)))) rfl
theorem w_367 : Cond.methodLinkNest "ExpectRows" 187 ⟨"ExpectRows$HolidayList", "dueAfter", "(JJ)J"⟩ "ExpectRows" ∈ NW := nw_of (List.mem_append_right _ (List.mem_append_right _ (List.mem_append_left _ (List.mem_of_getElem? (i := 127) rfl)))) rfl
theorem w_369 : Cond.instanceMethod ⟨"ExpectRows$HolidayList", "dueAfter", "(JJ)J"⟩ ∈ GW := gw_of (List.mem_append_right _ (List.mem_append_right _ (List.mem_append_left _ (List.mem_of_getElem? (i := 129) rfl)))) rfl
theorem w_370 : Cond.code ⟨"ExpectRows$HolidayList", "dueAfter", "(JJ)J"⟩ prog_5_method_4_code 12 (some .long) ∈ GW := gw_of (List.mem_append_right _ (List.mem_append_right _ (List.mem_append_left _ (List.mem_of_getElem? (i := 130) rfl)))) rfl
theorem w_371 : Cond.constantLong "ExpectRows$HolidayList" 23 (86400) ∈ GW := gw_of (List.mem_append_right _ (List.mem_append_right _ (List.mem_append_left _ (List.mem_of_getElem? (i := 131) rfl)))) rfl
theorem w_372 : Cond.methodLink "ExpectRows$HolidayList" 25 ⟨"java/lang/Math", "max", "(JJ)J"⟩ ∈ GW := gw_of (List.mem_append_right _ (List.mem_append_right _ (List.mem_append_left _ (List.mem_of_getElem? (i := 132) rfl)))) rfl
theorem w_373 : Cond.static ⟨"java/lang/Math", "max", "(JJ)J"⟩ ∈ GW := gw_of (List.mem_append_right _ (List.mem_append_right _ (List.mem_append_left _ (List.mem_of_getElem? (i := 133) rfl)))) rfl
theorem w_374 : Cond.code ⟨"java/lang/Math", "max", "(JJ)J"⟩ prog_17_method_66_code 4 (some .long) ∈ GW := gw_of (List.mem_append_right _ (List.mem_append_right _ (List.mem_append_left _ (List.mem_of_getElem? (i := 134) rfl)))) rfl
theorem w_375 : Cond.methodLinkNest "ExpectRows" 191 ⟨"ExpectRows$Item", "expect", "(IIJ)V"⟩ "ExpectRows" ∈ NW := nw_of (List.mem_append_right _ (List.mem_append_right _ (List.mem_append_left _ (List.mem_of_getElem? (i := 135) rfl)))) rfl
theorem w_377 : Cond.instanceMethod ⟨"ExpectRows$Item", "expect", "(IIJ)V"⟩ ∈ GW := gw_of (List.mem_append_right _ (List.mem_append_right _ (List.mem_append_left _ (List.mem_of_getElem? (i := 137) rfl)))) rfl
theorem w_378 : Cond.code ⟨"ExpectRows$Item", "expect", "(IIJ)V"⟩ prog_6_method_8_code 5 none ∈ GW := gw_of (List.mem_append_right _ (List.mem_append_right _ (List.mem_append_left _ (List.mem_of_getElem? (i := 138) rfl)))) rfl
theorem w_379 : Cond.methodLinkNest "ExpectRows" 195 ⟨"ExpectRows$PlaceCounts", "addBegun", "(I)V"⟩ "ExpectRows" ∈ NW := nw_of (List.mem_append_right _ (List.mem_append_right _ (List.mem_append_left _ (List.mem_of_getElem? (i := 139) rfl)))) rfl
theorem w_381 : Cond.instanceMethod ⟨"ExpectRows$PlaceCounts", "addBegun", "(I)V"⟩ ∈ GW := gw_of (List.mem_append_right _ (List.mem_append_right _ (List.mem_append_left _ (List.mem_of_getElem? (i := 141) rfl)))) rfl
theorem w_382 : Cond.code ⟨"ExpectRows$PlaceCounts", "addBegun", "(I)V"⟩ prog_7_method_2_code 2 none ∈ GW := gw_of (List.mem_append_right _ (List.mem_append_right _ (List.mem_append_left _ (List.mem_of_getElem? (i := 142) rfl)))) rfl
theorem w_383 : Cond.methodLinkNest "ExpectRows$PlaceCounts" 18 ⟨"ExpectRows", "isPlace", "(I)Z"⟩ "ExpectRows" ∈ NW := nw_of (List.mem_append_right _ (List.mem_append_right _ (List.mem_append_left _ (List.mem_of_getElem? (i := 143) rfl)))) rfl
theorem w_384 : Cond.methodLink "ExpectRowsLaw" 31 ⟨"ExpectRows", "tick", "(J)I"⟩ ∈ GW := gw_of (List.mem_append_right _ (List.mem_append_right _ (List.mem_append_left _ (List.mem_of_getElem? (i := 144) rfl)))) rfl
theorem w_385 : Cond.instanceMethod ⟨"ExpectRows", "tick", "(J)I"⟩ ∈ GW := gw_of (List.mem_append_right _ (List.mem_append_right _ (List.mem_append_left _ (List.mem_of_getElem? (i := 145) rfl)))) rfl
theorem w_386 : Cond.selects "ExpectRows" ⟨"ExpectRows", "tick", "(J)I"⟩ ⟨"ExpectRows", "tick", "(J)I"⟩ ∈ GW := gw_of (List.mem_append_right _ (List.mem_append_right _ (List.mem_append_left _ (List.mem_of_getElem? (i := 146) rfl)))) rfl
theorem w_387 : Cond.code ⟨"ExpectRows", "tick", "(J)I"⟩ prog_1_method_4_code 5 (some .int) ∈ GW := gw_of (List.mem_append_right _ (List.mem_append_right _ (List.mem_append_left _ (List.mem_of_getElem? (i := 147) rfl)))) rfl
theorem w_388 : Cond.constantLong "ExpectRows" 101 (2000000000) ∈ GW := gw_of (List.mem_append_right _ (List.mem_append_right _ (List.mem_append_left _ (List.mem_of_getElem? (i := 148) rfl)))) rfl
theorem w_389 : Cond.methodLinkNest "ExpectRows" 103 ⟨"ExpectRows$AlarmList", "size", "()I"⟩ "ExpectRows" ∈ NW := nw_of (List.mem_append_right _ (List.mem_append_right _ (List.mem_append_left _ (List.mem_of_getElem? (i := 149) rfl)))) rfl
theorem w_391 : Cond.instanceMethod ⟨"ExpectRows$AlarmList", "size", "()I"⟩ ∈ GW := gw_of (List.mem_append_right _ (List.mem_append_right _ (List.mem_append_left _ (List.mem_of_getElem? (i := 151) rfl)))) rfl
theorem w_392 : Cond.code ⟨"ExpectRows$AlarmList", "size", "()I"⟩ prog_3_method_2_code 1 (some .int) ∈ GW := gw_of (List.mem_append_right _ (List.mem_append_right _ (List.mem_append_left _ (List.mem_of_getElem? (i := 152) rfl)))) rfl
theorem w_393 : Cond.methodLink "ExpectRows$AlarmList" 18 ⟨"java/util/ArrayList", "size", "()I"⟩ ∈ GW := gw_of (List.mem_append_right _ (List.mem_append_right _ (List.mem_append_left _ (List.mem_of_getElem? (i := 153) rfl)))) rfl
theorem w_394 : Cond.methodLink "ExpectRows" 107 ⟨"ExpectRows", "tellLate", "(ILExpectRows$Item;)V"⟩ ∈ GW := gw_of (List.mem_append_right _ (List.mem_append_right _ (List.mem_append_left _ (List.mem_of_getElem? (i := 154) rfl)))) rfl
theorem w_396 : Cond.instanceMethod ⟨"ExpectRows", "tellLate", "(ILExpectRows$Item;)V"⟩ ∈ GW := gw_of (List.mem_append_right _ (List.mem_append_right _ (List.mem_append_left _ (List.mem_of_getElem? (i := 156) rfl)))) rfl
theorem w_397 : Cond.code ⟨"ExpectRows", "tellLate", "(ILExpectRows$Item;)V"⟩ prog_1_method_18_code 3 none ∈ GW := gw_of (List.mem_append_right _ (List.mem_append_right _ (List.mem_append_left _ (List.mem_of_getElem? (i := 157) rfl)))) rfl
theorem w_398 : Cond.methodLinkNest "ExpectRows" 199 ⟨"ExpectRows$Item", "isExpected", "()Z"⟩ "ExpectRows" ∈ NW := nw_of (List.mem_append_right _ (List.mem_append_right _ (List.mem_append_left _ (List.mem_of_getElem? (i := 158) rfl)))) rfl
theorem w_400 : Cond.instanceMethod ⟨"ExpectRows$Item", "isExpected", "()Z"⟩ ∈ GW := gw_of (List.mem_append_right _ (List.mem_append_right _ (List.mem_append_left _ (List.mem_of_getElem? (i := 160) rfl)))) rfl
theorem w_401 : Cond.code ⟨"ExpectRows$Item", "isExpected", "()Z"⟩ prog_6_method_7_code 1 (some .boolean) ∈ GW := gw_of (List.mem_append_right _ (List.mem_append_right _ (List.mem_append_left _ (List.mem_of_getElem? (i := 161) rfl)))) rfl
theorem w_402 : Cond.methodLinkNest "ExpectRows" 212 ⟨"ExpectRows$PlaceCounts", "addLate", "(I)V"⟩ "ExpectRows" ∈ NW := nw_of (List.mem_append_right _ (List.mem_append_right _ (List.mem_append_left _ (List.mem_of_getElem? (i := 162) rfl)))) rfl
theorem w_404 : Cond.instanceMethod ⟨"ExpectRows$PlaceCounts", "addLate", "(I)V"⟩ ∈ GW := gw_of (List.mem_append_right _ (List.mem_append_right _ (List.mem_append_left _ (List.mem_of_getElem? (i := 164) rfl)))) rfl
theorem w_405 : Cond.code ⟨"ExpectRows$PlaceCounts", "addLate", "(I)V"⟩ prog_7_method_3_code 2 none ∈ GW := gw_of (List.mem_append_right _ (List.mem_append_right _ (List.mem_append_left _ (List.mem_of_getElem? (i := 165) rfl)))) rfl
theorem w_406 : Cond.methodLinkNest "ExpectRows" 215 ⟨"ExpectRows$AlarmList", "addAlarm", "(IILExpectRows$Item;)V"⟩ "ExpectRows" ∈ NW := nw_of (List.mem_append_right _ (List.mem_append_right _ (List.mem_append_left _ (List.mem_of_getElem? (i := 166) rfl)))) rfl
theorem w_408 : Cond.instanceMethod ⟨"ExpectRows$AlarmList", "addAlarm", "(IILExpectRows$Item;)V"⟩ ∈ GW := gw_of (List.mem_append_right _ (List.mem_append_right _ (List.mem_append_left _ (List.mem_of_getElem? (i := 168) rfl)))) rfl
theorem w_409 : Cond.code ⟨"ExpectRows$AlarmList", "addAlarm", "(IILExpectRows$Item;)V"⟩ prog_3_method_3_code 4 none ∈ GW := gw_of (List.mem_append_right _ (List.mem_append_right _ (List.mem_append_left _ (List.mem_of_getElem? (i := 169) rfl)))) rfl
theorem w_410 : Cond.classLink "ExpectRows$AlarmList" 22 "ExpectRows$Alarm" ∈ GW := gw_of (List.mem_append_right _ (List.mem_append_right _ (List.mem_append_left _ (List.mem_of_getElem? (i := 170) rfl)))) rfl
theorem w_411 : Cond.instantiable "ExpectRows$Alarm" 5 ∈ GW := gw_of (List.mem_append_right _ (List.mem_append_right _ (List.mem_append_left _ (List.mem_of_getElem? (i := 171) rfl)))) rfl
theorem w_412 : Cond.methodLinkNest "ExpectRows$AlarmList" 37 ⟨"ExpectRows$Alarm", "<init>", "(IIIII)V"⟩ "ExpectRows" ∈ NW := nw_of (List.mem_append_right _ (List.mem_append_right _ (List.mem_append_left _ (List.mem_of_getElem? (i := 172) rfl)))) rfl
theorem w_413 : Cond.instanceMethod ⟨"ExpectRows$Alarm", "<init>", "(IIIII)V"⟩ ∈ GW := gw_of (List.mem_append_right _ (List.mem_append_right _ (List.mem_append_left _ (List.mem_of_getElem? (i := 173) rfl)))) rfl
theorem w_414 : Cond.code ⟨"ExpectRows$Alarm", "<init>", "(IIIII)V"⟩ prog_2_method_1_code 6 none ∈ GW := gw_of (List.mem_append_right _ (List.mem_append_right _ (List.mem_append_left _ (List.mem_of_getElem? (i := 174) rfl)))) rfl
theorem w_415 : Cond.methodLink "ExpectRows$Alarm" 1 ⟨"java/lang/Object", "<init>", "()V"⟩ ∈ GW := gw_of (List.mem_append_right _ (List.mem_append_right _ (List.mem_append_left _ (List.mem_of_getElem? (i := 175) rfl)))) rfl
theorem w_416 : Cond.fieldLink "ExpectRows$Alarm" 7 "ExpectRows$Alarm" "item" "I" ∈ GW := gw_of (List.mem_append_right _ (List.mem_append_right _ (List.mem_append_left _ (List.mem_of_getElem? (i := 176) rfl)))) rfl
theorem w_417 : Cond.fieldLinkNest "ExpectRows$AlarmList" 48 "ExpectRows$Alarm" "item" "I" "ExpectRows" ∈ NW := nw_of (List.mem_append_right _ (List.mem_append_right _ (List.mem_append_left _ (List.mem_of_getElem? (i := 177) rfl)))) rfl
theorem w_418 : Cond.fieldLink "ExpectRows$Alarm" 13 "ExpectRows$Alarm" "kind" "I" ∈ GW := gw_of (List.mem_append_right _ (List.mem_append_right _ (List.mem_append_left _ (List.mem_of_getElem? (i := 178) rfl)))) rfl
theorem w_419 : Cond.fieldLinkNest "ExpectRows$AlarmList" 51 "ExpectRows$Alarm" "kind" "I" "ExpectRows" ∈ NW := nw_of (List.mem_append_right _ (List.mem_append_right _ (List.mem_append_left _ (List.mem_of_getElem? (i := 179) rfl)))) rfl
theorem w_420 : Cond.fieldLink "ExpectRows$Alarm" 16 "ExpectRows$Alarm" "row" "I" ∈ GW := gw_of (List.mem_append_right _ (List.mem_append_right _ (List.mem_append_left _ (List.mem_of_getElem? (i := 180) rfl)))) rfl
theorem w_421 : Cond.fieldLinkNest "ExpectRows$AlarmList" 54 "ExpectRows$Alarm" "row" "I" "ExpectRows" ∈ NW := nw_of (List.mem_append_right _ (List.mem_append_right _ (List.mem_append_left _ (List.mem_of_getElem? (i := 181) rfl)))) rfl
theorem w_422 : Cond.fieldLink "ExpectRows$Alarm" 19 "ExpectRows$Alarm" "place" "I" ∈ GW := gw_of (List.mem_append_right _ (List.mem_append_right _ (List.mem_append_left _ (List.mem_of_getElem? (i := 182) rfl)))) rfl
theorem w_423 : Cond.fieldLinkNest "ExpectRows$AlarmList" 55 "ExpectRows$Alarm" "place" "I" "ExpectRows" ∈ NW := nw_of (List.mem_append_right _ (List.mem_append_right _ (List.mem_append_left _ (List.mem_of_getElem? (i := 183) rfl)))) rfl
theorem w_424 : Cond.fieldLink "ExpectRows$Alarm" 22 "ExpectRows$Alarm" "due" "I" ∈ GW := gw_of (List.mem_append_right _ (List.mem_append_right _ (List.mem_append_left _ (List.mem_of_getElem? (i := 184) rfl)))) rfl
theorem w_425 : Cond.fieldLinkNest "ExpectRows$AlarmList" 56 "ExpectRows$Alarm" "due" "I" "ExpectRows" ∈ NW := nw_of (List.mem_append_right _ (List.mem_append_right _ (List.mem_append_left _ (List.mem_of_getElem? (i := 185) rfl)))) rfl
theorem w_426 : Cond.laysFinal "ExpectRows$Alarm" "ExpectRows$Alarm" "item" "I" ∈ GW := gw_of (List.mem_append_right _ (List.mem_append_right _ (List.mem_append_left _ (List.mem_of_getElem? (i := 186) rfl)))) rfl
theorem w_428 : Cond.laysFinal "ExpectRows$Alarm" "ExpectRows$Alarm" "kind" "I" ∈ GW := gw_of (List.mem_append_right _ (List.mem_append_right _ (List.mem_append_left _ (List.mem_of_getElem? (i := 188) rfl)))) rfl
theorem w_430 : Cond.laysFinal "ExpectRows$Alarm" "ExpectRows$Alarm" "row" "I" ∈ GW := gw_of (List.mem_append_right _ (List.mem_append_right _ (List.mem_append_left _ (List.mem_of_getElem? (i := 190) rfl)))) rfl
theorem w_432 : Cond.laysFinal "ExpectRows$Alarm" "ExpectRows$Alarm" "place" "I" ∈ GW := gw_of (List.mem_append_right _ (List.mem_append_right _ (List.mem_append_left _ (List.mem_of_getElem? (i := 192) rfl)))) rfl
theorem w_434 : Cond.laysFinal "ExpectRows$Alarm" "ExpectRows$Alarm" "due" "I" ∈ GW := gw_of (List.mem_append_right _ (List.mem_append_right _ (List.mem_append_left _ (List.mem_of_getElem? (i := 194) rfl)))) rfl
theorem w_436 : Cond.superclass "ExpectRows$Alarm" "java/lang/Object" ∈ GW := gw_of (List.mem_append_right _ (List.mem_append_right _ (List.mem_append_left _ (List.mem_of_getElem? (i := 196) rfl)))) rfl
theorem w_437 : Cond.methodLink "ExpectRows$AlarmList" 40 ⟨"java/util/ArrayList", "add", "(Ljava/lang/Object;)Z"⟩ ∈ GW := gw_of (List.mem_append_right _ (List.mem_append_right _ (List.mem_append_left _ (List.mem_of_getElem? (i := 197) rfl)))) rfl
theorem w_438 : Cond.methodLink "ExpectRows" 111 ⟨"ExpectRows", "tellLost", "(ILExpectRows$Item;)V"⟩ ∈ GW := gw_of (List.mem_append_right _ (List.mem_append_right _ (List.mem_append_left _ (List.mem_of_getElem? (i := 198) rfl)))) rfl
theorem w_440 : Cond.instanceMethod ⟨"ExpectRows", "tellLost", "(ILExpectRows$Item;)V"⟩ ∈ GW := gw_of (List.mem_append_right _ (List.mem_append_right _ (List.mem_append_left _ (List.mem_of_getElem? (i := 200) rfl)))) rfl
theorem w_441 : Cond.code ⟨"ExpectRows", "tellLost", "(ILExpectRows$Item;)V"⟩ prog_1_method_19_code 3 none ∈ GW := gw_of (List.mem_append_right _ (List.mem_append_right _ (List.mem_append_left _ (List.mem_of_getElem? (i := 201) rfl)))) rfl
theorem w_442 : Cond.constantLong "ExpectRows" 219 (864000) ∈ GW := gw_of (List.mem_append_right _ (List.mem_append_right _ (List.mem_append_left _ (List.mem_of_getElem? (i := 202) rfl)))) rfl
theorem w_443 : Cond.methodLink "ExpectRowsLaw" 36 ⟨"ExpectRows", "alarm", "(II)I"⟩ ∈ GW := gw_of (List.mem_append_right _ (List.mem_append_right _ (List.mem_append_left _ (List.mem_of_getElem? (i := 203) rfl)))) rfl
theorem w_444 : Cond.instanceMethod ⟨"ExpectRows", "alarm", "(II)I"⟩ ∈ GW := gw_of (List.mem_append_right _ (List.mem_append_right _ (List.mem_append_left _ (List.mem_of_getElem? (i := 204) rfl)))) rfl
theorem w_445 : Cond.selects "ExpectRows" ⟨"ExpectRows", "alarm", "(II)I"⟩ ⟨"ExpectRows", "alarm", "(II)I"⟩ ∈ GW := gw_of (List.mem_append_right _ (List.mem_append_right _ (List.mem_append_left _ (List.mem_of_getElem? (i := 205) rfl)))) rfl
theorem w_446 : Cond.code ⟨"ExpectRows", "alarm", "(II)I"⟩ prog_1_method_5_code 3 (some .int) ∈ GW := gw_of (List.mem_append_right _ (List.mem_append_right _ (List.mem_append_left _ (List.mem_of_getElem? (i := 206) rfl)))) rfl
theorem w_447 : Cond.methodLinkNest "ExpectRows" 114 ⟨"ExpectRows$AlarmList", "partOf", "(II)I"⟩ "ExpectRows" ∈ NW := nw_of (List.mem_append_right _ (List.mem_append_right _ (List.mem_append_left _ (List.mem_of_getElem? (i := 207) rfl)))) rfl
theorem w_449 : Cond.instanceMethod ⟨"ExpectRows$AlarmList", "partOf", "(II)I"⟩ ∈ GW := gw_of (List.mem_append_right _ (List.mem_append_right _ (List.mem_append_left _ (List.mem_of_getElem? (i := 209) rfl)))) rfl
theorem w_450 : Cond.code ⟨"ExpectRows$AlarmList", "partOf", "(II)I"⟩ prog_3_method_4_code 4 (some .int) ∈ GW := gw_of (List.mem_append_right _ (List.mem_append_right _ (List.mem_append_left _ (List.mem_of_getElem? (i := 210) rfl)))) rfl
theorem w_451 : Cond.methodLink "ExpectRows$AlarmList" 44 ⟨"java/util/ArrayList", "get", "(I)Ljava/lang/Object;"⟩ ∈ GW := gw_of (List.mem_append_right _ (List.mem_append_right _ (List.mem_append_left _ (List.mem_of_getElem? (i := 211) rfl)))) rfl
theorem w_452 : Cond.methodLink "ExpectRowsLaw" 41 ⟨"ExpectRows", "state", "(I)I"⟩ ∈ GW := gw_of (List.mem_append_right _ (List.mem_append_right _ (List.mem_append_left _ (List.mem_of_getElem? (i := 212) rfl)))) rfl
theorem w_453 : Cond.instanceMethod ⟨"ExpectRows", "state", "(I)I"⟩ ∈ GW := gw_of (List.mem_append_right _ (List.mem_append_right _ (List.mem_append_left _ (List.mem_of_getElem? (i := 213) rfl)))) rfl
theorem w_454 : Cond.selects "ExpectRows" ⟨"ExpectRows", "state", "(I)I"⟩ ⟨"ExpectRows", "state", "(I)I"⟩ ∈ GW := gw_of (List.mem_append_right _ (List.mem_append_right _ (List.mem_append_left _ (List.mem_of_getElem? (i := 214) rfl)))) rfl
theorem w_455 : Cond.code ⟨"ExpectRows", "state", "(I)I"⟩ prog_1_method_6_code 2 (some .int) ∈ GW := gw_of (List.mem_append_right _ (List.mem_append_right _ (List.mem_append_left _ (List.mem_of_getElem? (i := 215) rfl)))) rfl
theorem w_456 : Cond.methodLinkNest "ExpectRows" 118 ⟨"ExpectRows$Item", "toldState", "()I"⟩ "ExpectRows" ∈ NW := nw_of (List.mem_append_right _ (List.mem_append_right _ (List.mem_append_left _ (List.mem_of_getElem? (i := 216) rfl)))) rfl
theorem w_458 : Cond.instanceMethod ⟨"ExpectRows$Item", "toldState", "()I"⟩ ∈ GW := gw_of (List.mem_append_right _ (List.mem_append_right _ (List.mem_append_left _ (List.mem_of_getElem? (i := 218) rfl)))) rfl
theorem w_459 : Cond.code ⟨"ExpectRows$Item", "toldState", "()I"⟩ prog_6_method_10_code 1 (some .int) ∈ GW := gw_of (List.mem_append_right _ (List.mem_append_right _ (List.mem_append_left _ (List.mem_of_getElem? (i := 219) rfl)))) rfl
theorem w_460 : Cond.methodLink "ExpectRowsLaw" 46 ⟨"ExpectRows", "holiday", "(J)I"⟩ ∈ GW := gw_of (List.mem_append_right _ (List.mem_append_right _ (List.mem_append_left _ (List.mem_of_getElem? (i := 220) rfl)))) rfl
theorem w_461 : Cond.instanceMethod ⟨"ExpectRows", "holiday", "(J)I"⟩ ∈ GW := gw_of (List.mem_append_right _ (List.mem_append_right _ (List.mem_append_left _ (List.mem_of_getElem? (i := 221) rfl)))) rfl
theorem w_462 : Cond.selects "ExpectRows" ⟨"ExpectRows", "holiday", "(J)I"⟩ ⟨"ExpectRows", "holiday", "(J)I"⟩ ∈ GW := gw_of (List.mem_append_right _ (List.mem_append_right _ (List.mem_append_left _ (List.mem_of_getElem? (i := 222) rfl)))) rfl
theorem w_463 : Cond.code ⟨"ExpectRows", "holiday", "(J)I"⟩ prog_1_method_7_code 3 (some .int) ∈ GW := gw_of (List.mem_append_right _ (List.mem_append_right _ (List.mem_append_left _ (List.mem_of_getElem? (i := 223) rfl)))) rfl
theorem w_464 : Cond.constantLong "ExpectRows" 121 (20000) ∈ GW := gw_of (List.mem_append_right _ (List.mem_append_right _ (List.mem_append_left _ (List.mem_of_getElem? (i := 224) rfl)))) rfl
theorem w_465 : Cond.methodLinkNest "ExpectRows" 123 ⟨"ExpectRows$HolidayList", "addDay", "(J)I"⟩ "ExpectRows" ∈ NW := nw_of (List.mem_append_right _ (List.mem_append_right _ (List.mem_append_left _ (List.mem_of_getElem? (i := 225) rfl)))) rfl
theorem w_467 : Cond.instanceMethod ⟨"ExpectRows$HolidayList", "addDay", "(J)I"⟩ ∈ GW := gw_of (List.mem_append_right _ (List.mem_append_right _ (List.mem_append_left _ (List.mem_of_getElem? (i := 227) rfl)))) rfl
theorem w_468 : Cond.code ⟨"ExpectRows$HolidayList", "addDay", "(J)I"⟩ prog_5_method_2_code 4 (some .int) ∈ GW := gw_of (List.mem_append_right _ (List.mem_append_right _ (List.mem_append_left _ (List.mem_of_getElem? (i := 228) rfl)))) rfl
theorem w_469 : Cond.methodLink "ExpectRows$HolidayList" 19 ⟨"ExpectRows$HolidayList", "holds", "(J)Z"⟩ ∈ GW := gw_of (List.mem_append_right _ (List.mem_append_right _ (List.mem_append_left _ (List.mem_of_getElem? (i := 229) rfl)))) rfl
theorem w_471 : Cond.instanceMethod ⟨"ExpectRows$HolidayList", "holds", "(J)Z"⟩ ∈ GW := gw_of (List.mem_append_right _ (List.mem_append_right _ (List.mem_append_left _ (List.mem_of_getElem? (i := 231) rfl)))) rfl
theorem w_472 : Cond.code ⟨"ExpectRows$HolidayList", "holds", "(J)Z"⟩ prog_5_method_3_code 4 (some .boolean) ∈ GW := gw_of (List.mem_append_right _ (List.mem_append_right _ (List.mem_append_left _ (List.mem_of_getElem? (i := 232) rfl)))) rfl
theorem w_473 : Cond.methodLink "ExpectRowsLaw" 60 ⟨"ExpectRows", "percentile", "(II)J"⟩ ∈ GW := gw_of (List.mem_append_right _ (List.mem_append_right _ (List.mem_append_left _ (List.mem_of_getElem? (i := 233) rfl)))) rfl
theorem w_474 : Cond.instanceMethod ⟨"ExpectRows", "percentile", "(II)J"⟩ ∈ GW := gw_of (List.mem_append_right _ (List.mem_append_right _ (List.mem_append_left _ (List.mem_of_getElem? (i := 234) rfl)))) rfl
theorem w_475 : Cond.selects "ExpectRows" ⟨"ExpectRows", "percentile", "(II)J"⟩ ⟨"ExpectRows", "percentile", "(II)J"⟩ ∈ GW := gw_of (List.mem_append_right _ (List.mem_append_right _ (List.mem_append_left _ (List.mem_of_getElem? (i := 235) rfl)))) rfl
theorem w_476 : Cond.code ⟨"ExpectRows", "percentile", "(II)J"⟩ prog_1_method_9_code 5 (some .long) ∈ GW := gw_of (List.mem_append_right _ (List.mem_append_right _ (List.mem_append_left _ (List.mem_of_getElem? (i := 236) rfl)))) rfl
theorem w_477 : Cond.constantLong "ExpectRows" 128 (-102) ∈ GW := gw_of (List.mem_append_right _ (List.mem_append_right _ (List.mem_append_left _ (List.mem_of_getElem? (i := 237) rfl)))) rfl
theorem w_478 : Cond.methodLinkNest "ExpectRows" 147 ⟨"ExpectRows$DeliveryList", "countOf", "(I)I"⟩ "ExpectRows" ∈ NW := nw_of (List.mem_append_right _ (List.mem_append_right _ (List.mem_append_left _ (List.mem_of_getElem? (i := 238) rfl)))) rfl
theorem w_480 : Cond.instanceMethod ⟨"ExpectRows$DeliveryList", "countOf", "(I)I"⟩ ∈ GW := gw_of (List.mem_append_right _ (List.mem_append_right _ (List.mem_append_right _ (List.mem_append_left _ (List.mem_of_getElem? (i := 0) rfl))))) rfl
theorem w_481 : Cond.code ⟨"ExpectRows$DeliveryList", "countOf", "(I)I"⟩ prog_4_method_3_code 4 (some .int) ∈ GW := gw_of (List.mem_append_right _ (List.mem_append_right _ (List.mem_append_right _ (List.mem_append_left _ (List.mem_of_getElem? (i := 1) rfl))))) rfl
theorem w_482 : Cond.methodLink "ExpectRows" 150 ⟨"java/lang/Math", "max", "(II)I"⟩ ∈ GW := gw_of (List.mem_append_right _ (List.mem_append_right _ (List.mem_append_right _ (List.mem_append_left _ (List.mem_of_getElem? (i := 2) rfl))))) rfl
theorem w_483 : Cond.methodLinkNest "ExpectRows" 155 ⟨"ExpectRows$DeliveryList", "daysAtRank", "(II)I"⟩ "ExpectRows" ∈ NW := nw_of (List.mem_append_right _ (List.mem_append_right _ (List.mem_append_right _ (List.mem_append_left _ (List.mem_of_getElem? (i := 3) rfl))))) rfl
theorem w_485 : Cond.instanceMethod ⟨"ExpectRows$DeliveryList", "daysAtRank", "(II)I"⟩ ∈ GW := gw_of (List.mem_append_right _ (List.mem_append_right _ (List.mem_append_right _ (List.mem_append_left _ (List.mem_of_getElem? (i := 5) rfl))))) rfl
theorem w_486 : Cond.code ⟨"ExpectRows$DeliveryList", "daysAtRank", "(II)I"⟩ prog_4_method_4_code 5 (some .int) ∈ GW := gw_of (List.mem_append_right _ (List.mem_append_right _ (List.mem_append_right _ (List.mem_append_left _ (List.mem_of_getElem? (i := 6) rfl))))) rfl
theorem w_487 : Cond.methodLink "ExpectRowsLaw" 64 ⟨"ExpectRows", "found", "(IJ)I"⟩ ∈ GW := gw_of (List.mem_append_right _ (List.mem_append_right _ (List.mem_append_right _ (List.mem_append_left _ (List.mem_of_getElem? (i := 7) rfl))))) rfl
theorem w_488 : Cond.instanceMethod ⟨"ExpectRows", "found", "(IJ)I"⟩ ∈ GW := gw_of (List.mem_append_right _ (List.mem_append_right _ (List.mem_append_right _ (List.mem_append_left _ (List.mem_of_getElem? (i := 8) rfl))))) rfl
theorem w_489 : Cond.selects "ExpectRows" ⟨"ExpectRows", "found", "(IJ)I"⟩ ⟨"ExpectRows", "found", "(IJ)I"⟩ ∈ GW := gw_of (List.mem_append_right _ (List.mem_append_right _ (List.mem_append_right _ (List.mem_append_left _ (List.mem_of_getElem? (i := 9) rfl))))) rfl
theorem w_490 : Cond.code ⟨"ExpectRows", "found", "(IJ)I"⟩ prog_1_method_10_code 5 (some .int) ∈ GW := gw_of (List.mem_append_right _ (List.mem_append_right _ (List.mem_append_right _ (List.mem_append_left _ (List.mem_of_getElem? (i := 10) rfl))))) rfl
theorem w_491 : Cond.methodLink "ExpectRowsLaw" 69 ⟨"ExpectRows", "cluster", "(II)I"⟩ ∈ GW := gw_of (List.mem_append_right _ (List.mem_append_right _ (List.mem_append_right _ (List.mem_append_left _ (List.mem_of_getElem? (i := 11) rfl))))) rfl
theorem w_492 : Cond.instanceMethod ⟨"ExpectRows", "cluster", "(II)I"⟩ ∈ GW := gw_of (List.mem_append_right _ (List.mem_append_right _ (List.mem_append_right _ (List.mem_append_left _ (List.mem_of_getElem? (i := 12) rfl))))) rfl
theorem w_493 : Cond.selects "ExpectRows" ⟨"ExpectRows", "cluster", "(II)I"⟩ ⟨"ExpectRows", "cluster", "(II)I"⟩ ∈ GW := gw_of (List.mem_append_right _ (List.mem_append_right _ (List.mem_append_right _ (List.mem_append_left _ (List.mem_of_getElem? (i := 13) rfl))))) rfl
theorem w_494 : Cond.code ⟨"ExpectRows", "cluster", "(II)I"⟩ prog_1_method_11_code 4 (some .int) ∈ GW := gw_of (List.mem_append_right _ (List.mem_append_right _ (List.mem_append_right _ (List.mem_append_left _ (List.mem_of_getElem? (i := 14) rfl))))) rfl
theorem w_495 : Cond.methodLinkNest "ExpectRows" 165 ⟨"ExpectRows$PlaceCounts", "clusterPlace", "(I)I"⟩ "ExpectRows" ∈ NW := nw_of (List.mem_append_right _ (List.mem_append_right _ (List.mem_append_right _ (List.mem_append_left _ (List.mem_of_getElem? (i := 15) rfl))))) rfl
theorem w_497 : Cond.instanceMethod ⟨"ExpectRows$PlaceCounts", "clusterPlace", "(I)I"⟩ ∈ GW := gw_of (List.mem_append_right _ (List.mem_append_right _ (List.mem_append_right _ (List.mem_append_left _ (List.mem_of_getElem? (i := 17) rfl))))) rfl
theorem w_498 : Cond.code ⟨"ExpectRows$PlaceCounts", "clusterPlace", "(I)I"⟩ prog_7_method_7_code 3 (some .int) ∈ GW := gw_of (List.mem_append_right _ (List.mem_append_right _ (List.mem_append_right _ (List.mem_append_left _ (List.mem_of_getElem? (i := 18) rfl))))) rfl
theorem w_499 : Cond.methodLink "ExpectRows$PlaceCounts" 26 ⟨"ExpectRows$PlaceCounts", "isCluster", "(I)Z"⟩ ∈ GW := gw_of (List.mem_append_right _ (List.mem_append_right _ (List.mem_append_right _ (List.mem_append_left _ (List.mem_of_getElem? (i := 19) rfl))))) rfl
theorem w_501 : Cond.instanceMethod ⟨"ExpectRows$PlaceCounts", "isCluster", "(I)Z"⟩ ∈ GW := gw_of (List.mem_append_right _ (List.mem_append_right _ (List.mem_append_right _ (List.mem_append_left _ (List.mem_of_getElem? (i := 21) rfl))))) rfl
theorem w_502 : Cond.code ⟨"ExpectRows$PlaceCounts", "isCluster", "(I)Z"⟩ prog_7_method_6_code 2 (some .boolean) ∈ GW := gw_of (List.mem_append_right _ (List.mem_append_right _ (List.mem_append_right _ (List.mem_append_left _ (List.mem_of_getElem? (i := 22) rfl))))) rfl
theorem w_503 : Cond.methodLink "ExpectRows$PlaceCounts" 22 ⟨"ExpectRows$PlaceCounts", "lateAt", "(I)I"⟩ ∈ GW := gw_of (List.mem_append_right _ (List.mem_append_right _ (List.mem_append_right _ (List.mem_append_left _ (List.mem_of_getElem? (i := 23) rfl))))) rfl
theorem w_505 : Cond.instanceMethod ⟨"ExpectRows$PlaceCounts", "lateAt", "(I)I"⟩ ∈ GW := gw_of (List.mem_append_right _ (List.mem_append_right _ (List.mem_append_right _ (List.mem_append_left _ (List.mem_of_getElem? (i := 25) rfl))))) rfl
theorem w_506 : Cond.code ⟨"ExpectRows$PlaceCounts", "lateAt", "(I)I"⟩ prog_7_method_5_code 2 (some .int) ∈ GW := gw_of (List.mem_append_right _ (List.mem_append_right _ (List.mem_append_right _ (List.mem_append_left _ (List.mem_of_getElem? (i := 26) rfl))))) rfl
theorem w_507 : Cond.methodLink "ExpectRows$PlaceCounts" 29 ⟨"ExpectRows$PlaceCounts", "clustersBefore", "(I)I"⟩ ∈ GW := gw_of (List.mem_append_right _ (List.mem_append_right _ (List.mem_append_right _ (List.mem_append_left _ (List.mem_of_getElem? (i := 27) rfl))))) rfl
theorem w_509 : Cond.instanceMethod ⟨"ExpectRows$PlaceCounts", "clustersBefore", "(I)I"⟩ ∈ GW := gw_of (List.mem_append_right _ (List.mem_append_right _ (List.mem_append_right _ (List.mem_append_left _ (List.mem_of_getElem? (i := 29) rfl))))) rfl
theorem w_510 : Cond.code ⟨"ExpectRows$PlaceCounts", "clustersBefore", "(I)I"⟩ prog_7_method_8_code 4 (some .int) ∈ GW := gw_of (List.mem_append_right _ (List.mem_append_right _ (List.mem_append_right _ (List.mem_append_left _ (List.mem_of_getElem? (i := 30) rfl))))) rfl
theorem w_511 : Cond.methodLink "ExpectRows$PlaceCounts" 32 ⟨"ExpectRows$PlaceCounts", "comesBefore", "(II)Z"⟩ ∈ GW := gw_of (List.mem_append_right _ (List.mem_append_right _ (List.mem_append_right _ (List.mem_append_left _ (List.mem_of_getElem? (i := 31) rfl))))) rfl
theorem w_513 : Cond.instanceMethod ⟨"ExpectRows$PlaceCounts", "comesBefore", "(II)Z"⟩ ∈ GW := gw_of (List.mem_append_right _ (List.mem_append_right _ (List.mem_append_right _ (List.mem_append_left _ (List.mem_of_getElem? (i := 33) rfl))))) rfl
theorem w_514 : Cond.code ⟨"ExpectRows$PlaceCounts", "comesBefore", "(II)Z"⟩ prog_7_method_9_code 7 (some .boolean) ∈ GW := gw_of (List.mem_append_right _ (List.mem_append_right _ (List.mem_append_right _ (List.mem_append_left _ (List.mem_of_getElem? (i := 34) rfl))))) rfl
theorem w_515 : Cond.methodLink "ExpectRows$PlaceCounts" 36 ⟨"ExpectRows$PlaceCounts", "begunAt", "(I)I"⟩ ∈ GW := gw_of (List.mem_append_right _ (List.mem_append_right _ (List.mem_append_right _ (List.mem_append_left _ (List.mem_of_getElem? (i := 35) rfl))))) rfl
theorem w_517 : Cond.instanceMethod ⟨"ExpectRows$PlaceCounts", "begunAt", "(I)I"⟩ ∈ GW := gw_of (List.mem_append_right _ (List.mem_append_right _ (List.mem_append_right _ (List.mem_append_left _ (List.mem_of_getElem? (i := 37) rfl))))) rfl
theorem w_518 : Cond.code ⟨"ExpectRows$PlaceCounts", "begunAt", "(I)I"⟩ prog_7_method_4_code 2 (some .int) ∈ GW := gw_of (List.mem_append_right _ (List.mem_append_right _ (List.mem_append_right _ (List.mem_append_left _ (List.mem_of_getElem? (i := 38) rfl))))) rfl
theorem w_519 : Cond.methodLinkNest "ExpectRows" 130 ⟨"ExpectRows$PlaceCounts", "lateAt", "(I)I"⟩ "ExpectRows" ∈ NW := nw_of (List.mem_append_right _ (List.mem_append_right _ (List.mem_append_right _ (List.mem_append_left _ (List.mem_of_getElem? (i := 39) rfl))))) rfl
theorem w_520 : Cond.methodLinkNest "ExpectRows" 134 ⟨"ExpectRows$PlaceCounts", "begunAt", "(I)I"⟩ "ExpectRows" ∈ NW := nw_of (List.mem_append_right _ (List.mem_append_right _ (List.mem_append_right _ (List.mem_append_left _ (List.mem_of_getElem? (i := 40) rfl))))) rfl
theorem w_521 : Cond.methodLink "ExpectRowsLaw" 73 ⟨"ExpectRows", "failing", "(I)I"⟩ ∈ GW := gw_of (List.mem_append_right _ (List.mem_append_right _ (List.mem_append_right _ (List.mem_append_left _ (List.mem_of_getElem? (i := 41) rfl))))) rfl
theorem w_522 : Cond.instanceMethod ⟨"ExpectRows", "failing", "(I)I"⟩ ∈ GW := gw_of (List.mem_append_right _ (List.mem_append_right _ (List.mem_append_right _ (List.mem_append_left _ (List.mem_of_getElem? (i := 42) rfl))))) rfl
theorem w_523 : Cond.selects "ExpectRows" ⟨"ExpectRows", "failing", "(I)I"⟩ ⟨"ExpectRows", "failing", "(I)I"⟩ ∈ GW := gw_of (List.mem_append_right _ (List.mem_append_right _ (List.mem_append_right _ (List.mem_append_left _ (List.mem_of_getElem? (i := 43) rfl))))) rfl
theorem w_524 : Cond.code ⟨"ExpectRows", "failing", "(I)I"⟩ prog_1_method_12_code 2 (some .int) ∈ GW := gw_of (List.mem_append_right _ (List.mem_append_right _ (List.mem_append_right _ (List.mem_append_left _ (List.mem_of_getElem? (i := 44) rfl))))) rfl
theorem w_525 : Cond.methodLinkNest "ExpectRows" 168 ⟨"ExpectRows$RowList", "failedRow", "(I)I"⟩ "ExpectRows" ∈ NW := nw_of (List.mem_append_right _ (List.mem_append_right _ (List.mem_append_right _ (List.mem_append_left _ (List.mem_of_getElem? (i := 45) rfl))))) rfl
theorem w_527 : Cond.instanceMethod ⟨"ExpectRows$RowList", "failedRow", "(I)I"⟩ ∈ GW := gw_of (List.mem_append_right _ (List.mem_append_right _ (List.mem_append_right _ (List.mem_append_left _ (List.mem_of_getElem? (i := 47) rfl))))) rfl
theorem w_528 : Cond.code ⟨"ExpectRows$RowList", "failedRow", "(I)I"⟩ prog_9_method_5_code 2 (some .int) ∈ GW := gw_of (List.mem_append_right _ (List.mem_append_right _ (List.mem_append_right _ (List.mem_append_left _ (List.mem_of_getElem? (i := 48) rfl))))) rfl
theorem w_529 : Cond.methodLink "ExpectRowsLaw" 50 ⟨"ExpectRowsLaw", "share", "(LExpectRows;II[J)I"⟩ ∈ GW := gw_of (List.mem_append_right _ (List.mem_append_right _ (List.mem_append_right _ (List.mem_append_left _ (List.mem_of_getElem? (i := 49) rfl))))) rfl
theorem w_530 : Cond.static ⟨"ExpectRowsLaw", "share", "(LExpectRows;II[J)I"⟩ ∈ GW := gw_of (List.mem_append_right _ (List.mem_append_right _ (List.mem_append_right _ (List.mem_append_left _ (List.mem_of_getElem? (i := 50) rfl))))) rfl
theorem w_532 : Cond.classLink "ExpectRowsLaw" 13 "java/lang/ArithmeticException" ∈ GW := gw_of (List.mem_append_right _ (List.mem_append_right _ (List.mem_append_right _ (List.mem_append_left _ (List.mem_of_getElem? (i := 52) rfl))))) rfl
theorem w_533 : Cond.methodLink "ExpectRowsLaw" 7 ⟨"ExpectRows", "share", "(II)J"⟩ ∈ GW := gw_of (List.mem_append_right _ (List.mem_append_right _ (List.mem_append_right _ (List.mem_append_left _ (List.mem_of_getElem? (i := 53) rfl))))) rfl
theorem w_534 : Cond.instanceMethod ⟨"ExpectRows", "share", "(II)J"⟩ ∈ GW := gw_of (List.mem_append_right _ (List.mem_append_right _ (List.mem_append_right _ (List.mem_append_left _ (List.mem_of_getElem? (i := 54) rfl))))) rfl
theorem w_535 : Cond.selects "ExpectRows" ⟨"ExpectRows", "share", "(II)J"⟩ ⟨"ExpectRows", "share", "(II)J"⟩ ∈ GW := gw_of (List.mem_append_right _ (List.mem_append_right _ (List.mem_append_right _ (List.mem_append_left _ (List.mem_of_getElem? (i := 55) rfl))))) rfl
theorem w_536 : Cond.code ⟨"ExpectRows", "share", "(II)J"⟩ prog_1_method_8_code 6 (some .long) ∈ GW := gw_of (List.mem_append_right _ (List.mem_append_right _ (List.mem_append_right _ (List.mem_append_left _ (List.mem_of_getElem? (i := 56) rfl))))) rfl
theorem w_537 : Cond.constantLong "ExpectRows" 126 (-101) ∈ GW := gw_of (List.mem_append_right _ (List.mem_append_right _ (List.mem_append_right _ (List.mem_append_left _ (List.mem_of_getElem? (i := 57) rfl))))) rfl
theorem w_538 : Cond.classLink "ExpectRows" 137 "java/lang/ArithmeticException" ∈ GW := gw_of (List.mem_append_right _ (List.mem_append_right _ (List.mem_append_right _ (List.mem_append_left _ (List.mem_of_getElem? (i := 58) rfl))))) rfl
theorem w_539 : Cond.instantiable "java/lang/ArithmeticException" 6 ∈ GW := gw_of (List.mem_append_right _ (List.mem_append_right _ (List.mem_append_right _ (List.mem_append_left _ (List.mem_of_getElem? (i := 59) rfl))))) rfl
theorem w_540 : Cond.castable "java/lang/ArithmeticException" "java/lang/ArithmeticException" ∈ NW := nw_of (List.mem_append_right _ (List.mem_append_right _ (List.mem_append_right _ (List.mem_append_left _ (List.mem_of_getElem? (i := 60) rfl))))) rfl
theorem w_541 : Cond.declares ⟨"java/lang/RuntimeException", "<init>", "()V"⟩ ∈ NW := nw_of (List.mem_append_right _ (List.mem_append_right _ (List.mem_append_right _ (List.mem_append_left _ (List.mem_of_getElem? (i := 61) rfl))))) rfl
theorem w_542 : Cond.declares ⟨"java/lang/RuntimeException", "<init>", "(Ljava/lang/String;)V"⟩ ∈ NW := nw_of (List.mem_append_right _ (List.mem_append_right _ (List.mem_append_right _ (List.mem_append_left _ (List.mem_of_getElem? (i := 62) rfl))))) rfl
theorem w_543 : Cond.declares ⟨"java/lang/Exception", "<init>", "()V"⟩ ∈ NW := nw_of (List.mem_append_right _ (List.mem_append_right _ (List.mem_append_right _ (List.mem_append_left _ (List.mem_of_getElem? (i := 63) rfl))))) rfl
theorem w_544 : Cond.declares ⟨"java/lang/Exception", "<init>", "(Ljava/lang/String;)V"⟩ ∈ NW := nw_of (List.mem_append_right _ (List.mem_append_right _ (List.mem_append_right _ (List.mem_append_left _ (List.mem_of_getElem? (i := 64) rfl))))) rfl
theorem w_545 : Cond.declares ⟨"java/lang/Throwable", "<init>", "()V"⟩ ∈ NW := nw_of (List.mem_append_right _ (List.mem_append_right _ (List.mem_append_right _ (List.mem_append_left _ (List.mem_of_getElem? (i := 65) rfl))))) rfl
theorem w_546 : Cond.declares ⟨"java/lang/Throwable", "<init>", "(Ljava/lang/String;)V"⟩ ∈ NW := nw_of (List.mem_append_right _ (List.mem_append_right _ (List.mem_append_right _ (List.mem_append_left _ (List.mem_of_getElem? (i := 66) rfl))))) rfl
theorem w_547 : Cond.selects "java/lang/ArithmeticException" ⟨"java/lang/Throwable", "fillInStackTrace", "(I)Ljava/lang/Throwable;"⟩ ⟨"java/lang/Throwable", "fillInStackTrace", "(I)Ljava/lang/Throwable;"⟩ ∈ GW := gw_of (List.mem_append_right _ (List.mem_append_right _ (List.mem_append_right _ (List.mem_append_left _ (List.mem_of_getElem? (i := 67) rfl))))) rfl
theorem w_548 : Cond.selects "java/lang/ArithmeticException" ⟨"java/lang/Throwable", "fillInStackTrace", "()Ljava/lang/Throwable;"⟩ ⟨"java/lang/Throwable", "fillInStackTrace", "()Ljava/lang/Throwable;"⟩ ∈ GW := gw_of (List.mem_append_right _ (List.mem_append_right _ (List.mem_append_right _ (List.mem_append_left _ (List.mem_of_getElem? (i := 68) rfl))))) rfl
theorem w_549 : Cond.lays "java/lang/ArithmeticException" "java/lang/Throwable" "cause" "Ljava/lang/Throwable;" ∈ GW := gw_of (List.mem_append_right _ (List.mem_append_right _ (List.mem_append_right _ (List.mem_append_left _ (List.mem_of_getElem? (i := 69) rfl))))) rfl
theorem w_550 : Cond.lays "java/lang/Throwable" "java/lang/Throwable" "cause" "Ljava/lang/Throwable;" ∈ GW := gw_of (List.mem_append_right _ (List.mem_append_right _ (List.mem_append_right _ (List.mem_append_left _ (List.mem_of_getElem? (i := 70) rfl))))) rfl
theorem w_551 : Cond.lays "java/lang/ArithmeticException" "java/lang/Throwable" "stackTrace" "[Ljava/lang/StackTraceElement;" ∈ GW := gw_of (List.mem_append_right _ (List.mem_append_right _ (List.mem_append_right _ (List.mem_append_left _ (List.mem_of_getElem? (i := 71) rfl))))) rfl
theorem w_552 : Cond.lays "java/lang/Throwable" "java/lang/Throwable" "stackTrace" "[Ljava/lang/StackTraceElement;" ∈ GW := gw_of (List.mem_append_right _ (List.mem_append_right _ (List.mem_append_right _ (List.mem_append_left _ (List.mem_of_getElem? (i := 72) rfl))))) rfl
theorem w_553 : Cond.lays "java/lang/ArithmeticException" "java/lang/Throwable" "suppressedExceptions" "Ljava/util/List;" ∈ GW := gw_of (List.mem_append_right _ (List.mem_append_right _ (List.mem_append_right _ (List.mem_append_left _ (List.mem_of_getElem? (i := 73) rfl))))) rfl
theorem w_554 : Cond.lays "java/lang/Throwable" "java/lang/Throwable" "suppressedExceptions" "Ljava/util/List;" ∈ GW := gw_of (List.mem_append_right _ (List.mem_append_right _ (List.mem_append_right _ (List.mem_append_left _ (List.mem_of_getElem? (i := 74) rfl))))) rfl
theorem w_555 : Cond.lays "java/lang/ArithmeticException" "java/lang/Throwable" "detailMessage" "Ljava/lang/String;" ∈ GW := gw_of (List.mem_append_right _ (List.mem_append_right _ (List.mem_append_right _ (List.mem_append_left _ (List.mem_of_getElem? (i := 75) rfl))))) rfl
theorem w_556 : Cond.lays "java/lang/Throwable" "java/lang/Throwable" "detailMessage" "Ljava/lang/String;" ∈ GW := gw_of (List.mem_append_right _ (List.mem_append_right _ (List.mem_append_right _ (List.mem_append_left _ (List.mem_of_getElem? (i := 76) rfl))))) rfl
theorem w_557 : Cond.lays "java/lang/ArithmeticException" "java/lang/Throwable" "backtrace" "Ljava/lang/Object;" ∈ GW := gw_of (List.mem_append_right _ (List.mem_append_right _ (List.mem_append_right _ (List.mem_append_left _ (List.mem_of_getElem? (i := 77) rfl))))) rfl
theorem w_558 : Cond.lays "java/lang/Throwable" "java/lang/Throwable" "backtrace" "Ljava/lang/Object;" ∈ GW := gw_of (List.mem_append_right _ (List.mem_append_right _ (List.mem_append_right _ (List.mem_append_left _ (List.mem_of_getElem? (i := 78) rfl))))) rfl
theorem w_559 : Cond.fieldLink "java/lang/Throwable" 198 "java/lang/Throwable" "backtrace" "Ljava/lang/Object;" ∈ GW := gw_of (List.mem_append_right _ (List.mem_append_right _ (List.mem_append_right _ (List.mem_append_left _ (List.mem_of_getElem? (i := 79) rfl))))) rfl
theorem w_560 : Cond.superclass "java/lang/Throwable" "java/lang/Object" ∈ GW := gw_of (List.mem_append_right _ (List.mem_append_right _ (List.mem_append_right _ (List.mem_append_left _ (List.mem_of_getElem? (i := 80) rfl))))) rfl
theorem w_561 : Cond.instanceMethod ⟨"java/lang/Throwable", "<init>", "()V"⟩ ∈ GW := gw_of (List.mem_append_right _ (List.mem_append_right _ (List.mem_append_right _ (List.mem_append_left _ (List.mem_of_getElem? (i := 81) rfl))))) rfl
theorem w_562 : Cond.code ⟨"java/lang/Throwable", "<init>", "()V"⟩ prog_21_method_1_code 1 none ∈ GW := gw_of (List.mem_append_right _ (List.mem_append_right _ (List.mem_append_right _ (List.mem_append_left _ (List.mem_of_getElem? (i := 82) rfl))))) rfl
theorem w_563 : Cond.methodLink "java/lang/Throwable" 1 ⟨"java/lang/Object", "<init>", "()V"⟩ ∈ GW := gw_of (List.mem_append_right _ (List.mem_append_right _ (List.mem_append_right _ (List.mem_append_left _ (List.mem_of_getElem? (i := 83) rfl))))) rfl
theorem w_564 : Cond.fieldLink "java/lang/Throwable" 13 "java/lang/Throwable" "UNASSIGNED_STACK" "[Ljava/lang/StackTraceElement;" ∈ GW := gw_of (List.mem_append_right _ (List.mem_append_right _ (List.mem_append_right _ (List.mem_append_left _ (List.mem_of_getElem? (i := 84) rfl))))) rfl
theorem w_566 : Cond.fieldLink "java/lang/Throwable" 20 "java/lang/Throwable" "SUPPRESSED_SENTINEL" "Ljava/util/List;" ∈ GW := gw_of (List.mem_append_right _ (List.mem_append_right _ (List.mem_append_right _ (List.mem_append_left _ (List.mem_of_getElem? (i := 86) rfl))))) rfl
theorem w_568 : Cond.methodLink "java/lang/Throwable" 27 ⟨"java/lang/Throwable", "fillInStackTrace", "()Ljava/lang/Throwable;"⟩ ∈ GW := gw_of (List.mem_append_right _ (List.mem_append_right _ (List.mem_append_right _ (List.mem_append_left _ (List.mem_of_getElem? (i := 88) rfl))))) rfl
theorem w_569 : Cond.instanceMethod ⟨"java/lang/Throwable", "fillInStackTrace", "()Ljava/lang/Throwable;"⟩ ∈ GW := gw_of (List.mem_append_right _ (List.mem_append_right _ (List.mem_append_right _ (List.mem_append_left _ (List.mem_of_getElem? (i := 89) rfl))))) rfl
theorem w_570 : Cond.sameMethod "java/lang/Throwable" "java/lang/Throwable" "fillInStackTrace" "()Ljava/lang/Throwable;" ∈ GW := gw_of (List.mem_append_right _ (List.mem_append_right _ (List.mem_append_right _ (List.mem_append_left _ (List.mem_of_getElem? (i := 90) rfl))))) rfl
theorem w_572 : Cond.methodLink "java/lang/Throwable" 202 ⟨"java/lang/Throwable", "fillInStackTrace", "(I)Ljava/lang/Throwable;"⟩ ∈ GW := gw_of (List.mem_append_right _ (List.mem_append_right _ (List.mem_append_right _ (List.mem_append_left _ (List.mem_of_getElem? (i := 92) rfl))))) rfl
theorem w_574 : Cond.instanceMethod ⟨"java/lang/Throwable", "fillInStackTrace", "(I)Ljava/lang/Throwable;"⟩ ∈ GW := gw_of (List.mem_append_right _ (List.mem_append_right _ (List.mem_append_right _ (List.mem_append_left _ (List.mem_of_getElem? (i := 94) rfl))))) rfl
theorem w_575 : Cond.instantiable "java/lang/Throwable" 6 ∈ GW := gw_of (List.mem_append_right _ (List.mem_append_right _ (List.mem_append_right _ (List.mem_append_left _ (List.mem_of_getElem? (i := 95) rfl))))) rfl
theorem w_576 : Cond.native ⟨"java/lang/Throwable", "fillInStackTrace", "(I)Ljava/lang/Throwable;"⟩ ∈ GW := gw_of (List.mem_append_right _ (List.mem_append_right _ (List.mem_append_right _ (List.mem_append_left _ (List.mem_of_getElem? (i := 96) rfl))))) rfl
theorem w_578 : Cond.methodLink "ExpectRows" 141 ⟨"java/lang/ArithmeticException", "<init>", "(Ljava/lang/String;)V"⟩ ∈ GW := gw_of (List.mem_append_right _ (List.mem_append_right _ (List.mem_append_right _ (List.mem_append_left _ (List.mem_of_getElem? (i := 98) rfl))))) rfl
theorem w_579 : Cond.instanceMethod ⟨"java/lang/ArithmeticException", "<init>", "(Ljava/lang/String;)V"⟩ ∈ GW := gw_of (List.mem_append_right _ (List.mem_append_right _ (List.mem_append_right _ (List.mem_append_left _ (List.mem_of_getElem? (i := 99) rfl))))) rfl
theorem w_580 : Cond.code ⟨"java/lang/ArithmeticException", "<init>", "(Ljava/lang/String;)V"⟩ prog_13_method_2_code 2 none ∈ GW := gw_of (List.mem_append_right _ (List.mem_append_right _ (List.mem_append_right _ (List.mem_append_left _ (List.mem_of_getElem? (i := 100) rfl))))) rfl
theorem w_581 : Cond.methodLink "java/lang/ArithmeticException" 7 ⟨"java/lang/RuntimeException", "<init>", "(Ljava/lang/String;)V"⟩ ∈ GW := gw_of (List.mem_append_right _ (List.mem_append_right _ (List.mem_append_right _ (List.mem_append_left _ (List.mem_of_getElem? (i := 101) rfl))))) rfl
theorem w_582 : Cond.instanceMethod ⟨"java/lang/RuntimeException", "<init>", "(Ljava/lang/String;)V"⟩ ∈ GW := gw_of (List.mem_append_right _ (List.mem_append_right _ (List.mem_append_right _ (List.mem_append_left _ (List.mem_of_getElem? (i := 102) rfl))))) rfl
theorem w_583 : Cond.code ⟨"java/lang/RuntimeException", "<init>", "(Ljava/lang/String;)V"⟩ prog_18_method_2_code 2 none ∈ GW := gw_of (List.mem_append_right _ (List.mem_append_right _ (List.mem_append_right _ (List.mem_append_left _ (List.mem_of_getElem? (i := 103) rfl))))) rfl
theorem w_584 : Cond.methodLink "java/lang/RuntimeException" 7 ⟨"java/lang/Exception", "<init>", "(Ljava/lang/String;)V"⟩ ∈ GW := gw_of (List.mem_append_right _ (List.mem_append_right _ (List.mem_append_right _ (List.mem_append_left _ (List.mem_of_getElem? (i := 104) rfl))))) rfl
theorem w_585 : Cond.instanceMethod ⟨"java/lang/Exception", "<init>", "(Ljava/lang/String;)V"⟩ ∈ GW := gw_of (List.mem_append_right _ (List.mem_append_right _ (List.mem_append_right _ (List.mem_append_left _ (List.mem_of_getElem? (i := 105) rfl))))) rfl
theorem w_586 : Cond.code ⟨"java/lang/Exception", "<init>", "(Ljava/lang/String;)V"⟩ prog_15_method_2_code 2 none ∈ GW := gw_of (List.mem_append_right _ (List.mem_append_right _ (List.mem_append_right _ (List.mem_append_left _ (List.mem_of_getElem? (i := 106) rfl))))) rfl
theorem w_587 : Cond.methodLink "java/lang/Exception" 7 ⟨"java/lang/Throwable", "<init>", "(Ljava/lang/String;)V"⟩ ∈ GW := gw_of (List.mem_append_right _ (List.mem_append_right _ (List.mem_append_right _ (List.mem_append_left _ (List.mem_of_getElem? (i := 107) rfl))))) rfl
theorem w_588 : Cond.instanceMethod ⟨"java/lang/Throwable", "<init>", "(Ljava/lang/String;)V"⟩ ∈ GW := gw_of (List.mem_append_right _ (List.mem_append_right _ (List.mem_append_right _ (List.mem_append_left _ (List.mem_of_getElem? (i := 108) rfl))))) rfl
theorem w_589 : Cond.code ⟨"java/lang/Throwable", "<init>", "(Ljava/lang/String;)V"⟩ prog_21_method_2_code 2 none ∈ GW := gw_of (List.mem_append_right _ (List.mem_append_right _ (List.mem_append_right _ (List.mem_append_left _ (List.mem_of_getElem? (i := 109) rfl))))) rfl
theorem w_590 : Cond.fieldLink "java/lang/Throwable" 198 "java/lang/Throwable" "backtrace" "Ljava/lang/Object;" ∈ GW := gw_of (List.mem_append_right _ (List.mem_append_right _ (List.mem_append_right _ (List.mem_append_left _ (List.mem_of_getElem? (i := 110) rfl))))) rfl
theorem w_591 : Cond.fieldLink "java/lang/Throwable" 31 "java/lang/Throwable" "detailMessage" "Ljava/lang/String;" ∈ GW := gw_of (List.mem_append_right _ (List.mem_append_right _ (List.mem_append_right _ (List.mem_append_left _ (List.mem_of_getElem? (i := 111) rfl))))) rfl
theorem w_592 : Cond.fieldLink "java/lang/Throwable" 7 "java/lang/Throwable" "cause" "Ljava/lang/Throwable;" ∈ GW := gw_of (List.mem_append_right _ (List.mem_append_right _ (List.mem_append_right _ (List.mem_append_left _ (List.mem_of_getElem? (i := 112) rfl))))) rfl
theorem w_593 : Cond.fieldLink "java/lang/Throwable" 17 "java/lang/Throwable" "stackTrace" "[Ljava/lang/StackTraceElement;" ∈ GW := gw_of (List.mem_append_right _ (List.mem_append_right _ (List.mem_append_right _ (List.mem_append_left _ (List.mem_of_getElem? (i := 113) rfl))))) rfl
theorem w_594 : Cond.fieldLink "java/lang/Throwable" 24 "java/lang/Throwable" "suppressedExceptions" "Ljava/util/List;" ∈ GW := gw_of (List.mem_append_right _ (List.mem_append_right _ (List.mem_append_right _ (List.mem_append_left _ (List.mem_of_getElem? (i := 114) rfl))))) rfl
theorem w_599 : Cond.lays "java/lang/ArithmeticException" "java/lang/Throwable" "depth" "I" ∈ GW := gw_of (List.mem_append_right _ (List.mem_append_right _ (List.mem_append_right _ (List.mem_append_left _ (List.mem_of_getElem? (i := 119) rfl))))) rfl
theorem w_602 : Cond.superclass "java/lang/ArithmeticException" "java/lang/RuntimeException" ∈ GW := gw_of (List.mem_append_right _ (List.mem_append_right _ (List.mem_append_right _ (List.mem_append_left _ (List.mem_of_getElem? (i := 122) rfl))))) rfl
theorem w_603 : Cond.arrayClass .byte ∈ GW := gw_of (List.mem_append_right _ (List.mem_append_right _ (List.mem_append_right _ (List.mem_append_left _ (List.mem_of_getElem? (i := 123) rfl))))) rfl
theorem w_604 : Cond.methodLink "ExpectRows" 144 ⟨"ExpectRows", "commonDivisor", "(II)I"⟩ ∈ GW := gw_of (List.mem_append_right _ (List.mem_append_right _ (List.mem_append_right _ (List.mem_append_left _ (List.mem_of_getElem? (i := 124) rfl))))) rfl
theorem w_605 : Cond.static ⟨"ExpectRows", "commonDivisor", "(II)I"⟩ ∈ GW := gw_of (List.mem_append_right _ (List.mem_append_right _ (List.mem_append_right _ (List.mem_append_left _ (List.mem_of_getElem? (i := 125) rfl))))) rfl
theorem w_606 : Cond.code ⟨"ExpectRows", "commonDivisor", "(II)I"⟩ prog_1_method_16_code 6 (some .int) ∈ GW := gw_of (List.mem_append_right _ (List.mem_append_right _ (List.mem_append_right _ (List.mem_append_left _ (List.mem_of_getElem? (i := 126) rfl))))) rfl
theorem w_607 : Cond.classLink "ExpectRowsLaw" 16 "ExpectRowsModel" ∈ GW := gw_of (List.mem_append_right _ (List.mem_append_right _ (List.mem_append_right _ (List.mem_append_left _ (List.mem_of_getElem? (i := 127) rfl))))) rfl
theorem w_608 : Cond.instantiable "ExpectRowsModel" 26 ∈ GW := gw_of (List.mem_append_right _ (List.mem_append_right _ (List.mem_append_right _ (List.mem_append_left _ (List.mem_of_getElem? (i := 128) rfl))))) rfl
theorem w_609 : Cond.methodLink "ExpectRowsLaw" 18 ⟨"ExpectRowsModel", "<init>", "()V"⟩ ∈ GW := gw_of (List.mem_append_right _ (List.mem_append_right _ (List.mem_append_right _ (List.mem_append_left _ (List.mem_of_getElem? (i := 129) rfl))))) rfl
theorem w_610 : Cond.instanceMethod ⟨"ExpectRowsModel", "<init>", "()V"⟩ ∈ GW := gw_of (List.mem_append_right _ (List.mem_append_right _ (List.mem_append_right _ (List.mem_append_left _ (List.mem_of_getElem? (i := 130) rfl))))) rfl
theorem w_611 : Cond.code ⟨"ExpectRowsModel", "<init>", "()V"⟩ prog_11_method_1_code 2 none ∈ GW := gw_of (List.mem_append_right _ (List.mem_append_right _ (List.mem_append_right _ (List.mem_append_left _ (List.mem_of_getElem? (i := 131) rfl))))) rfl
theorem w_612 : Cond.methodLink "ExpectRowsModel" 1 ⟨"java/lang/Object", "<init>", "()V"⟩ ∈ GW := gw_of (List.mem_append_right _ (List.mem_append_right _ (List.mem_append_right _ (List.mem_append_left _ (List.mem_of_getElem? (i := 132) rfl))))) rfl
theorem w_613 : Cond.fieldLink "ExpectRowsModel" 72 "ExpectRowsModel" "thrown" "I" ∈ GW := gw_of (List.mem_append_right _ (List.mem_append_right _ (List.mem_append_right _ (List.mem_append_left _ (List.mem_of_getElem? (i := 133) rfl))))) rfl
theorem w_614 : Cond.fieldLink "ExpectRowsModel" 90 "ExpectRowsModel" "rules" "I" ∈ GW := gw_of (List.mem_append_right _ (List.mem_append_right _ (List.mem_append_right _ (List.mem_append_left _ (List.mem_of_getElem? (i := 134) rfl))))) rfl
theorem w_615 : Cond.fieldLink "ExpectRowsModel" 7 "ExpectRowsModel" "states" "[I" ∈ GW := gw_of (List.mem_append_right _ (List.mem_append_right _ (List.mem_append_right _ (List.mem_append_left _ (List.mem_of_getElem? (i := 135) rfl))))) rfl
theorem w_616 : Cond.fieldLink "ExpectRowsModel" 13 "ExpectRowsModel" "places" "[I" ∈ GW := gw_of (List.mem_append_right _ (List.mem_append_right _ (List.mem_append_right _ (List.mem_append_left _ (List.mem_of_getElem? (i := 136) rfl))))) rfl
theorem w_617 : Cond.fieldLink "ExpectRowsModel" 16 "ExpectRowsModel" "services" "[I" ∈ GW := gw_of (List.mem_append_right _ (List.mem_append_right _ (List.mem_append_right _ (List.mem_append_left _ (List.mem_of_getElem? (i := 137) rfl))))) rfl
theorem w_618 : Cond.fieldLink "ExpectRowsModel" 19 "ExpectRowsModel" "withins" "[J" ∈ GW := gw_of (List.mem_append_right _ (List.mem_append_right _ (List.mem_append_right _ (List.mem_append_left _ (List.mem_of_getElem? (i := 138) rfl))))) rfl
theorem w_619 : Cond.fieldLink "ExpectRowsModel" 23 "ExpectRowsModel" "failing" "[Z" ∈ GW := gw_of (List.mem_append_right _ (List.mem_append_right _ (List.mem_append_right _ (List.mem_append_left _ (List.mem_of_getElem? (i := 139) rfl))))) rfl
theorem w_620 : Cond.fieldLink "ExpectRowsModel" 27 "ExpectRowsModel" "item" "[I" ∈ GW := gw_of (List.mem_append_right _ (List.mem_append_right _ (List.mem_append_right _ (List.mem_append_left _ (List.mem_of_getElem? (i := 140) rfl))))) rfl
theorem w_621 : Cond.fieldLink "ExpectRowsModel" 30 "ExpectRowsModel" "firsts" "[J" ∈ GW := gw_of (List.mem_append_right _ (List.mem_append_right _ (List.mem_append_right _ (List.mem_append_left _ (List.mem_of_getElem? (i := 141) rfl))))) rfl
theorem w_622 : Cond.fieldLink "ExpectRowsModel" 33 "ExpectRowsModel" "lasts" "[J" ∈ GW := gw_of (List.mem_append_right _ (List.mem_append_right _ (List.mem_append_right _ (List.mem_append_left _ (List.mem_of_getElem? (i := 142) rfl))))) rfl
theorem w_623 : Cond.fieldLink "ExpectRowsModel" 36 "ExpectRowsModel" "rows" "[I" ∈ GW := gw_of (List.mem_append_right _ (List.mem_append_right _ (List.mem_append_right _ (List.mem_append_left _ (List.mem_of_getElem? (i := 143) rfl))))) rfl
theorem w_624 : Cond.fieldLink "ExpectRowsModel" 39 "ExpectRowsModel" "at" "[I" ∈ GW := gw_of (List.mem_append_right _ (List.mem_append_right _ (List.mem_append_right _ (List.mem_append_left _ (List.mem_of_getElem? (i := 144) rfl))))) rfl
theorem w_625 : Cond.fieldLink "ExpectRowsModel" 42 "ExpectRowsModel" "dues" "[J" ∈ GW := gw_of (List.mem_append_right _ (List.mem_append_right _ (List.mem_append_right _ (List.mem_append_left _ (List.mem_of_getElem? (i := 145) rfl))))) rfl
theorem w_626 : Cond.fieldLink "ExpectRowsModel" 45 "ExpectRowsModel" "isLate" "[Z" ∈ GW := gw_of (List.mem_append_right _ (List.mem_append_right _ (List.mem_append_right _ (List.mem_append_left _ (List.mem_of_getElem? (i := 146) rfl))))) rfl
theorem w_627 : Cond.fieldLink "ExpectRowsModel" 48 "ExpectRowsModel" "isLost" "[Z" ∈ GW := gw_of (List.mem_append_right _ (List.mem_append_right _ (List.mem_append_right _ (List.mem_append_left _ (List.mem_of_getElem? (i := 147) rfl))))) rfl
theorem w_628 : Cond.fieldLink "ExpectRowsModel" 51 "ExpectRowsModel" "holidays" "[Z" ∈ GW := gw_of (List.mem_append_right _ (List.mem_append_right _ (List.mem_append_right _ (List.mem_append_left _ (List.mem_of_getElem? (i := 148) rfl))))) rfl
theorem w_629 : Cond.fieldLink "ExpectRowsModel" 140 "ExpectRowsModel" "holidayCount" "I" ∈ GW := gw_of (List.mem_append_right _ (List.mem_append_right _ (List.mem_append_right _ (List.mem_append_left _ (List.mem_of_getElem? (i := 149) rfl))))) rfl
theorem w_630 : Cond.fieldLink "ExpectRowsModel" 128 "ExpectRowsModel" "clock" "J" ∈ GW := gw_of (List.mem_append_right _ (List.mem_append_right _ (List.mem_append_right _ (List.mem_append_left _ (List.mem_of_getElem? (i := 150) rfl))))) rfl
theorem w_631 : Cond.fieldLink "ExpectRowsModel" 125 "ExpectRowsModel" "alarms" "I" ∈ GW := gw_of (List.mem_append_right _ (List.mem_append_right _ (List.mem_append_right _ (List.mem_append_left _ (List.mem_of_getElem? (i := 151) rfl))))) rfl
theorem w_632 : Cond.fieldLink "ExpectRowsModel" 54 "ExpectRowsModel" "told" "[J" ∈ GW := gw_of (List.mem_append_right _ (List.mem_append_right _ (List.mem_append_right _ (List.mem_append_left _ (List.mem_of_getElem? (i := 152) rfl))))) rfl
theorem w_633 : Cond.fieldLink "ExpectRowsModel" 57 "ExpectRowsModel" "begun" "[I" ∈ GW := gw_of (List.mem_append_right _ (List.mem_append_right _ (List.mem_append_right _ (List.mem_append_left _ (List.mem_of_getElem? (i := 153) rfl))))) rfl
theorem w_634 : Cond.fieldLink "ExpectRowsModel" 60 "ExpectRowsModel" "late" "[I" ∈ GW := gw_of (List.mem_append_right _ (List.mem_append_right _ (List.mem_append_right _ (List.mem_append_left _ (List.mem_of_getElem? (i := 154) rfl))))) rfl
theorem w_635 : Cond.fieldLink "ExpectRowsModel" 63 "ExpectRowsModel" "counts" "[I" ∈ GW := gw_of (List.mem_append_right _ (List.mem_append_right _ (List.mem_append_right _ (List.mem_append_left _ (List.mem_of_getElem? (i := 155) rfl))))) rfl
theorem w_636 : Cond.fieldLink "ExpectRowsModel" 66 "ExpectRowsModel" "days" "[I" ∈ GW := gw_of (List.mem_append_right _ (List.mem_append_right _ (List.mem_append_right _ (List.mem_append_left _ (List.mem_of_getElem? (i := 156) rfl))))) rfl
theorem w_637 : Cond.fieldLink "ExpectRowsModel" 99 "ExpectRowsModel" "failed" "I" ∈ GW := gw_of (List.mem_append_right _ (List.mem_append_right _ (List.mem_append_right _ (List.mem_append_left _ (List.mem_of_getElem? (i := 157) rfl))))) rfl
theorem w_638 : Cond.fieldLink "ExpectRowsModel" 69 "ExpectRowsModel" "failedRows" "[I" ∈ GW := gw_of (List.mem_append_right _ (List.mem_append_right _ (List.mem_append_right _ (List.mem_append_left _ (List.mem_of_getElem? (i := 158) rfl))))) rfl
theorem w_639 : Cond.lays "ExpectRowsModel" "ExpectRowsModel" "thrown" "I" ∈ GW := gw_of (List.mem_append_right _ (List.mem_append_right _ (List.mem_append_right _ (List.mem_append_left _ (List.mem_of_getElem? (i := 159) rfl))))) rfl
theorem w_641 : Cond.lays "ExpectRowsModel" "ExpectRowsModel" "rules" "I" ∈ GW := gw_of (List.mem_append_right _ (List.mem_append_right _ (List.mem_append_right _ (List.mem_append_left _ (List.mem_of_getElem? (i := 161) rfl))))) rfl
theorem w_643 : Cond.laysFinal "ExpectRowsModel" "ExpectRowsModel" "states" "[I" ∈ GW := gw_of (List.mem_append_right _ (List.mem_append_right _ (List.mem_append_right _ (List.mem_append_left _ (List.mem_of_getElem? (i := 163) rfl))))) rfl
theorem w_645 : Cond.laysFinal "ExpectRowsModel" "ExpectRowsModel" "places" "[I" ∈ GW := gw_of (List.mem_append_right _ (List.mem_append_right _ (List.mem_append_right _ (List.mem_append_left _ (List.mem_of_getElem? (i := 165) rfl))))) rfl
theorem w_647 : Cond.laysFinal "ExpectRowsModel" "ExpectRowsModel" "services" "[I" ∈ GW := gw_of (List.mem_append_right _ (List.mem_append_right _ (List.mem_append_right _ (List.mem_append_left _ (List.mem_of_getElem? (i := 167) rfl))))) rfl
theorem w_649 : Cond.laysFinal "ExpectRowsModel" "ExpectRowsModel" "withins" "[J" ∈ GW := gw_of (List.mem_append_right _ (List.mem_append_right _ (List.mem_append_right _ (List.mem_append_left _ (List.mem_of_getElem? (i := 169) rfl))))) rfl
theorem w_651 : Cond.laysFinal "ExpectRowsModel" "ExpectRowsModel" "failing" "[Z" ∈ GW := gw_of (List.mem_append_right _ (List.mem_append_right _ (List.mem_append_right _ (List.mem_append_left _ (List.mem_of_getElem? (i := 171) rfl))))) rfl
theorem w_653 : Cond.laysFinal "ExpectRowsModel" "ExpectRowsModel" "item" "[I" ∈ GW := gw_of (List.mem_append_right _ (List.mem_append_right _ (List.mem_append_right _ (List.mem_append_left _ (List.mem_of_getElem? (i := 173) rfl))))) rfl
theorem w_655 : Cond.laysFinal "ExpectRowsModel" "ExpectRowsModel" "firsts" "[J" ∈ GW := gw_of (List.mem_append_right _ (List.mem_append_right _ (List.mem_append_right _ (List.mem_append_left _ (List.mem_of_getElem? (i := 175) rfl))))) rfl
theorem w_657 : Cond.laysFinal "ExpectRowsModel" "ExpectRowsModel" "lasts" "[J" ∈ GW := gw_of (List.mem_append_right _ (List.mem_append_right _ (List.mem_append_right _ (List.mem_append_left _ (List.mem_of_getElem? (i := 177) rfl))))) rfl
theorem w_659 : Cond.laysFinal "ExpectRowsModel" "ExpectRowsModel" "rows" "[I" ∈ GW := gw_of (List.mem_append_right _ (List.mem_append_right _ (List.mem_append_right _ (List.mem_append_left _ (List.mem_of_getElem? (i := 179) rfl))))) rfl
theorem w_661 : Cond.laysFinal "ExpectRowsModel" "ExpectRowsModel" "at" "[I" ∈ GW := gw_of (List.mem_append_right _ (List.mem_append_right _ (List.mem_append_right _ (List.mem_append_left _ (List.mem_of_getElem? (i := 181) rfl))))) rfl
theorem w_663 : Cond.laysFinal "ExpectRowsModel" "ExpectRowsModel" "dues" "[J" ∈ GW := gw_of (List.mem_append_right _ (List.mem_append_right _ (List.mem_append_right _ (List.mem_append_left _ (List.mem_of_getElem? (i := 183) rfl))))) rfl
theorem w_665 : Cond.laysFinal "ExpectRowsModel" "ExpectRowsModel" "isLate" "[Z" ∈ GW := gw_of (List.mem_append_right _ (List.mem_append_right _ (List.mem_append_right _ (List.mem_append_left _ (List.mem_of_getElem? (i := 185) rfl))))) rfl
theorem w_667 : Cond.laysFinal "ExpectRowsModel" "ExpectRowsModel" "isLost" "[Z" ∈ GW := gw_of (List.mem_append_right _ (List.mem_append_right _ (List.mem_append_right _ (List.mem_append_left _ (List.mem_of_getElem? (i := 187) rfl))))) rfl
theorem w_669 : Cond.laysFinal "ExpectRowsModel" "ExpectRowsModel" "holidays" "[Z" ∈ GW := gw_of (List.mem_append_right _ (List.mem_append_right _ (List.mem_append_right _ (List.mem_append_left _ (List.mem_of_getElem? (i := 189) rfl))))) rfl
theorem w_671 : Cond.lays "ExpectRowsModel" "ExpectRowsModel" "holidayCount" "I" ∈ GW := gw_of (List.mem_append_right _ (List.mem_append_right _ (List.mem_append_right _ (List.mem_append_left _ (List.mem_of_getElem? (i := 191) rfl))))) rfl
theorem w_673 : Cond.lays "ExpectRowsModel" "ExpectRowsModel" "clock" "J" ∈ GW := gw_of (List.mem_append_right _ (List.mem_append_right _ (List.mem_append_right _ (List.mem_append_left _ (List.mem_of_getElem? (i := 193) rfl))))) rfl
theorem w_675 : Cond.lays "ExpectRowsModel" "ExpectRowsModel" "alarms" "I" ∈ GW := gw_of (List.mem_append_right _ (List.mem_append_right _ (List.mem_append_right _ (List.mem_append_left _ (List.mem_of_getElem? (i := 195) rfl))))) rfl
theorem w_677 : Cond.laysFinal "ExpectRowsModel" "ExpectRowsModel" "told" "[J" ∈ GW := gw_of (List.mem_append_right _ (List.mem_append_right _ (List.mem_append_right _ (List.mem_append_left _ (List.mem_of_getElem? (i := 197) rfl))))) rfl
theorem w_679 : Cond.laysFinal "ExpectRowsModel" "ExpectRowsModel" "begun" "[I" ∈ GW := gw_of (List.mem_append_right _ (List.mem_append_right _ (List.mem_append_right _ (List.mem_append_left _ (List.mem_of_getElem? (i := 199) rfl))))) rfl
theorem w_681 : Cond.laysFinal "ExpectRowsModel" "ExpectRowsModel" "late" "[I" ∈ GW := gw_of (List.mem_append_right _ (List.mem_append_right _ (List.mem_append_right _ (List.mem_append_left _ (List.mem_of_getElem? (i := 201) rfl))))) rfl
theorem w_683 : Cond.laysFinal "ExpectRowsModel" "ExpectRowsModel" "counts" "[I" ∈ GW := gw_of (List.mem_append_right _ (List.mem_append_right _ (List.mem_append_right _ (List.mem_append_left _ (List.mem_of_getElem? (i := 203) rfl))))) rfl
theorem w_685 : Cond.laysFinal "ExpectRowsModel" "ExpectRowsModel" "days" "[I" ∈ GW := gw_of (List.mem_append_right _ (List.mem_append_right _ (List.mem_append_right _ (List.mem_append_left _ (List.mem_of_getElem? (i := 205) rfl))))) rfl
theorem w_687 : Cond.lays "ExpectRowsModel" "ExpectRowsModel" "failed" "I" ∈ GW := gw_of (List.mem_append_right _ (List.mem_append_right _ (List.mem_append_right _ (List.mem_append_left _ (List.mem_of_getElem? (i := 207) rfl))))) rfl
theorem w_689 : Cond.laysFinal "ExpectRowsModel" "ExpectRowsModel" "failedRows" "[I" ∈ GW := gw_of (List.mem_append_right _ (List.mem_append_right _ (List.mem_append_right _ (List.mem_append_left _ (List.mem_of_getElem? (i := 209) rfl))))) rfl
theorem w_691 : Cond.superclass "ExpectRowsModel" "java/lang/Object" ∈ GW := gw_of (List.mem_append_right _ (List.mem_append_right _ (List.mem_append_right _ (List.mem_append_left _ (List.mem_of_getElem? (i := 211) rfl))))) rfl
theorem w_692 : Cond.arrayClass .boolean ∈ GW := gw_of (List.mem_append_right _ (List.mem_append_right _ (List.mem_append_right _ (List.mem_append_left _ (List.mem_of_getElem? (i := 212) rfl))))) rfl
theorem w_693 : Cond.methodLink "ExpectRowsLaw" 56 ⟨"ExpectRowsModel", "thrown", "()I"⟩ ∈ GW := gw_of (List.mem_append_right _ (List.mem_append_right _ (List.mem_append_right _ (List.mem_append_left _ (List.mem_of_getElem? (i := 213) rfl))))) rfl
theorem w_694 : Cond.instanceMethod ⟨"ExpectRowsModel", "thrown", "()I"⟩ ∈ GW := gw_of (List.mem_append_right _ (List.mem_append_right _ (List.mem_append_right _ (List.mem_append_left _ (List.mem_of_getElem? (i := 214) rfl))))) rfl
theorem w_695 : Cond.selects "ExpectRowsModel" ⟨"ExpectRowsModel", "thrown", "()I"⟩ ⟨"ExpectRowsModel", "thrown", "()I"⟩ ∈ GW := gw_of (List.mem_append_right _ (List.mem_append_right _ (List.mem_append_right _ (List.mem_append_left _ (List.mem_of_getElem? (i := 215) rfl))))) rfl
theorem w_696 : Cond.code ⟨"ExpectRowsModel", "thrown", "()I"⟩ prog_11_method_2_code 1 (some .int) ∈ GW := gw_of (List.mem_append_right _ (List.mem_append_right _ (List.mem_append_right _ (List.mem_append_left _ (List.mem_of_getElem? (i := 216) rfl))))) rfl
theorem w_697 : Cond.methodLink "ExpectRowsLaw" 25 ⟨"ExpectRowsModel", "rule", "(IIIJZ)I"⟩ ∈ GW := gw_of (List.mem_append_right _ (List.mem_append_right _ (List.mem_append_right _ (List.mem_append_left _ (List.mem_of_getElem? (i := 217) rfl))))) rfl
theorem w_698 : Cond.instanceMethod ⟨"ExpectRowsModel", "rule", "(IIIJZ)I"⟩ ∈ GW := gw_of (List.mem_append_right _ (List.mem_append_right _ (List.mem_append_right _ (List.mem_append_left _ (List.mem_of_getElem? (i := 218) rfl))))) rfl
theorem w_699 : Cond.selects "ExpectRowsModel" ⟨"ExpectRowsModel", "rule", "(IIIJZ)I"⟩ ⟨"ExpectRowsModel", "rule", "(IIIJZ)I"⟩ ∈ GW := gw_of (List.mem_append_right _ (List.mem_append_right _ (List.mem_append_right _ (List.mem_append_left _ (List.mem_of_getElem? (i := 219) rfl))))) rfl
theorem w_700 : Cond.code ⟨"ExpectRowsModel", "rule", "(IIIJZ)I"⟩ prog_11_method_4_code 7 (some .int) ∈ GW := gw_of (List.mem_append_right _ (List.mem_append_right _ (List.mem_append_right _ (List.mem_append_left _ (List.mem_of_getElem? (i := 220) rfl))))) rfl
theorem w_701 : Cond.constantLong "ExpectRowsModel" 76 (8) ∈ GW := gw_of (List.mem_append_right _ (List.mem_append_right _ (List.mem_append_right _ (List.mem_append_left _ (List.mem_of_getElem? (i := 221) rfl))))) rfl
theorem w_702 : Cond.methodLink "ExpectRowsModel" 78 ⟨"ExpectRowsModel", "isIn", "(JJJ)Z"⟩ ∈ GW := gw_of (List.mem_append_right _ (List.mem_append_right _ (List.mem_append_right _ (List.mem_append_left _ (List.mem_of_getElem? (i := 222) rfl))))) rfl
theorem w_703 : Cond.static ⟨"ExpectRowsModel", "isIn", "(JJJ)Z"⟩ ∈ GW := gw_of (List.mem_append_right _ (List.mem_append_right _ (List.mem_append_right _ (List.mem_append_left _ (List.mem_of_getElem? (i := 223) rfl))))) rfl
theorem w_704 : Cond.code ⟨"ExpectRowsModel", "isIn", "(JJJ)Z"⟩ prog_11_method_3_code 6 (some .boolean) ∈ GW := gw_of (List.mem_append_right _ (List.mem_append_right _ (List.mem_append_right _ (List.mem_append_left _ (List.mem_of_getElem? (i := 224) rfl))))) rfl
theorem w_705 : Cond.constantLong "ExpectRowsModel" 82 (-1) ∈ GW := gw_of (List.mem_append_right _ (List.mem_append_right _ (List.mem_append_right _ (List.mem_append_left _ (List.mem_of_getElem? (i := 225) rfl))))) rfl
theorem w_706 : Cond.constantLong "ExpectRowsModel" 84 (49) ∈ GW := gw_of (List.mem_append_right _ (List.mem_append_right _ (List.mem_append_right _ (List.mem_append_left _ (List.mem_of_getElem? (i := 226) rfl))))) rfl
theorem w_707 : Cond.constantLong "ExpectRowsModel" 86 (4) ∈ GW := gw_of (List.mem_append_right _ (List.mem_append_right _ (List.mem_append_right _ (List.mem_append_left _ (List.mem_of_getElem? (i := 227) rfl))))) rfl
theorem w_708 : Cond.constantLong "ExpectRowsModel" 88 (10000000) ∈ GW := gw_of (List.mem_append_right _ (List.mem_append_right _ (List.mem_append_right _ (List.mem_append_left _ (List.mem_of_getElem? (i := 228) rfl))))) rfl
theorem w_709 : Cond.methodLink "ExpectRowsLaw" 30 ⟨"ExpectRowsModel", "event", "(IIIIJ)I"⟩ ∈ GW := gw_of (List.mem_append_right _ (List.mem_append_right _ (List.mem_append_right _ (List.mem_append_left _ (List.mem_of_getElem? (i := 229) rfl))))) rfl
theorem w_710 : Cond.instanceMethod ⟨"ExpectRowsModel", "event", "(IIIIJ)I"⟩ ∈ GW := gw_of (List.mem_append_right _ (List.mem_append_right _ (List.mem_append_right _ (List.mem_append_left _ (List.mem_of_getElem? (i := 230) rfl))))) rfl
theorem w_711 : Cond.selects "ExpectRowsModel" ⟨"ExpectRowsModel", "event", "(IIIIJ)I"⟩ ⟨"ExpectRowsModel", "event", "(IIIIJ)I"⟩ ∈ GW := gw_of (List.mem_append_right _ (List.mem_append_right _ (List.mem_append_right _ (List.mem_append_left _ (List.mem_of_getElem? (i := 231) rfl))))) rfl
theorem w_712 : Cond.code ⟨"ExpectRowsModel", "event", "(IIIIJ)I"⟩ prog_11_method_10_code 8 (some .int) ∈ GW := gw_of (List.mem_append_right _ (List.mem_append_right _ (List.mem_append_right _ (List.mem_append_left _ (List.mem_of_getElem? (i := 232) rfl))))) rfl
theorem w_713 : Cond.constantLong "ExpectRowsModel" 102 (199) ∈ GW := gw_of (List.mem_append_right _ (List.mem_append_right _ (List.mem_append_right _ (List.mem_append_left _ (List.mem_of_getElem? (i := 233) rfl))))) rfl
theorem w_714 : Cond.constantLong "ExpectRowsModel" 104 (9) ∈ GW := gw_of (List.mem_append_right _ (List.mem_append_right _ (List.mem_append_right _ (List.mem_append_left _ (List.mem_of_getElem? (i := 234) rfl))))) rfl
theorem w_715 : Cond.methodLink "ExpectRowsModel" 106 ⟨"ExpectRowsModel", "isTime", "(IJ)Z"⟩ ∈ GW := gw_of (List.mem_append_right _ (List.mem_append_right _ (List.mem_append_right _ (List.mem_append_left _ (List.mem_of_getElem? (i := 235) rfl))))) rfl
theorem w_717 : Cond.instanceMethod ⟨"ExpectRowsModel", "isTime", "(IJ)Z"⟩ ∈ GW := gw_of (List.mem_append_right _ (List.mem_append_right _ (List.mem_append_right _ (List.mem_append_left _ (List.mem_of_getElem? (i := 237) rfl))))) rfl
theorem w_718 : Cond.code ⟨"ExpectRowsModel", "isTime", "(IJ)Z"⟩ prog_11_method_7_code 4 (some .boolean) ∈ GW := gw_of (List.mem_append_right _ (List.mem_append_right _ (List.mem_append_right _ (List.mem_append_left _ (List.mem_of_getElem? (i := 238) rfl))))) rfl
theorem w_719 : Cond.constantLong "ExpectRowsModel" 97 (1000000000) ∈ GW := gw_of (List.mem_append_right _ (List.mem_append_right _ (List.mem_append_right _ (List.mem_append_left _ (List.mem_of_getElem? (i := 239) rfl))))) rfl
theorem w_720 : Cond.methodLink "ExpectRowsModel" 110 ⟨"ExpectRowsModel", "end", "(I)V"⟩ ∈ GW := gw_of (List.mem_append_right _ (List.mem_append_right _ (List.mem_append_right _ (List.mem_append_right _ (List.mem_of_getElem? (i := 0) rfl))))) rfl
theorem w_722 : Cond.instanceMethod ⟨"ExpectRowsModel", "end", "(I)V"⟩ ∈ GW := gw_of (List.mem_append_right _ (List.mem_append_right _ (List.mem_append_right _ (List.mem_append_right _ (List.mem_of_getElem? (i := 2) rfl))))) rfl
theorem w_723 : Cond.code ⟨"ExpectRowsModel", "end", "(I)V"⟩ prog_11_method_5_code 2 none ∈ GW := gw_of (List.mem_append_right _ (List.mem_append_right _ (List.mem_append_right _ (List.mem_append_right _ (List.mem_of_getElem? (i := 3) rfl))))) rfl
theorem w_724 : Cond.constantLong "ExpectRowsModel" 93 (86400) ∈ GW := gw_of (List.mem_append_right _ (List.mem_append_right _ (List.mem_append_right _ (List.mem_append_right _ (List.mem_of_getElem? (i := 4) rfl))))) rfl
theorem w_725 : Cond.methodLink "ExpectRowsModel" 114 ⟨"ExpectRowsModel", "rowFor", "(III)I"⟩ ∈ GW := gw_of (List.mem_append_right _ (List.mem_append_right _ (List.mem_append_right _ (List.mem_append_right _ (List.mem_of_getElem? (i := 5) rfl))))) rfl
theorem w_727 : Cond.instanceMethod ⟨"ExpectRowsModel", "rowFor", "(III)I"⟩ ∈ GW := gw_of (List.mem_append_right _ (List.mem_append_right _ (List.mem_append_right _ (List.mem_append_right _ (List.mem_of_getElem? (i := 7) rfl))))) rfl
theorem w_728 : Cond.code ⟨"ExpectRowsModel", "rowFor", "(III)I"⟩ prog_11_method_8_code 5 (some .int) ∈ GW := gw_of (List.mem_append_right _ (List.mem_append_right _ (List.mem_append_right _ (List.mem_append_right _ (List.mem_of_getElem? (i := 8) rfl))))) rfl
theorem w_729 : Cond.methodLink "ExpectRowsModel" 118 ⟨"ExpectRowsModel", "fails", "(I)V"⟩ ∈ GW := gw_of (List.mem_append_right _ (List.mem_append_right _ (List.mem_append_right _ (List.mem_append_right _ (List.mem_of_getElem? (i := 9) rfl))))) rfl
theorem w_731 : Cond.instanceMethod ⟨"ExpectRowsModel", "fails", "(I)V"⟩ ∈ GW := gw_of (List.mem_append_right _ (List.mem_append_right _ (List.mem_append_right _ (List.mem_append_right _ (List.mem_of_getElem? (i := 11) rfl))))) rfl
theorem w_732 : Cond.code ⟨"ExpectRowsModel", "fails", "(I)V"⟩ prog_11_method_9_code 4 none ∈ GW := gw_of (List.mem_append_right _ (List.mem_append_right _ (List.mem_append_right _ (List.mem_append_right _ (List.mem_of_getElem? (i := 12) rfl))))) rfl
theorem w_733 : Cond.methodLink "ExpectRowsModel" 121 ⟨"ExpectRowsModel", "behind", "(JJ)J"⟩ ∈ GW := gw_of (List.mem_append_right _ (List.mem_append_right _ (List.mem_append_right _ (List.mem_append_right _ (List.mem_of_getElem? (i := 13) rfl))))) rfl
theorem w_735 : Cond.instanceMethod ⟨"ExpectRowsModel", "behind", "(JJ)J"⟩ ∈ GW := gw_of (List.mem_append_right _ (List.mem_append_right _ (List.mem_append_right _ (List.mem_append_right _ (List.mem_of_getElem? (i := 15) rfl))))) rfl
theorem w_736 : Cond.code ⟨"ExpectRowsModel", "behind", "(JJ)J"⟩ prog_11_method_6_code 15 (some .long) ∈ GW := gw_of (List.mem_append_right _ (List.mem_append_right _ (List.mem_append_right _ (List.mem_append_right _ (List.mem_of_getElem? (i := 16) rfl))))) rfl
theorem w_737 : Cond.constantLong "ExpectRowsModel" 95 (20000) ∈ GW := gw_of (List.mem_append_right _ (List.mem_append_right _ (List.mem_append_right _ (List.mem_append_right _ (List.mem_of_getElem? (i := 17) rfl))))) rfl
theorem w_738 : Cond.methodLink "ExpectRowsLaw" 35 ⟨"ExpectRowsModel", "tick", "(J)I"⟩ ∈ GW := gw_of (List.mem_append_right _ (List.mem_append_right _ (List.mem_append_right _ (List.mem_append_right _ (List.mem_of_getElem? (i := 18) rfl))))) rfl
theorem w_739 : Cond.instanceMethod ⟨"ExpectRowsModel", "tick", "(J)I"⟩ ∈ GW := gw_of (List.mem_append_right _ (List.mem_append_right _ (List.mem_append_right _ (List.mem_append_right _ (List.mem_of_getElem? (i := 19) rfl))))) rfl
theorem w_740 : Cond.selects "ExpectRowsModel" ⟨"ExpectRowsModel", "tick", "(J)I"⟩ ⟨"ExpectRowsModel", "tick", "(J)I"⟩ ∈ GW := gw_of (List.mem_append_right _ (List.mem_append_right _ (List.mem_append_right _ (List.mem_append_right _ (List.mem_of_getElem? (i := 20) rfl))))) rfl
theorem w_741 : Cond.code ⟨"ExpectRowsModel", "tick", "(J)I"⟩ prog_11_method_12_code 5 (some .int) ∈ GW := gw_of (List.mem_append_right _ (List.mem_append_right _ (List.mem_append_right _ (List.mem_append_right _ (List.mem_of_getElem? (i := 21) rfl))))) rfl
theorem w_742 : Cond.constantLong "ExpectRowsModel" 132 (2000000000) ∈ GW := gw_of (List.mem_append_right _ (List.mem_append_right _ (List.mem_append_right _ (List.mem_append_right _ (List.mem_of_getElem? (i := 22) rfl))))) rfl
theorem w_743 : Cond.methodLink "ExpectRowsModel" 134 ⟨"ExpectRowsModel", "tell", "(II)V"⟩ ∈ GW := gw_of (List.mem_append_right _ (List.mem_append_right _ (List.mem_append_right _ (List.mem_append_right _ (List.mem_of_getElem? (i := 23) rfl))))) rfl
theorem w_745 : Cond.instanceMethod ⟨"ExpectRowsModel", "tell", "(II)V"⟩ ∈ GW := gw_of (List.mem_append_right _ (List.mem_append_right _ (List.mem_append_right _ (List.mem_append_right _ (List.mem_of_getElem? (i := 25) rfl))))) rfl
theorem w_746 : Cond.code ⟨"ExpectRowsModel", "tell", "(II)V"⟩ prog_11_method_11_code 3 none ∈ GW := gw_of (List.mem_append_right _ (List.mem_append_right _ (List.mem_append_right _ (List.mem_append_right _ (List.mem_of_getElem? (i := 26) rfl))))) rfl
theorem w_747 : Cond.constantLong "ExpectRowsModel" 138 (864000) ∈ GW := gw_of (List.mem_append_right _ (List.mem_append_right _ (List.mem_append_right _ (List.mem_append_right _ (List.mem_of_getElem? (i := 27) rfl))))) rfl
theorem w_748 : Cond.methodLink "ExpectRowsLaw" 40 ⟨"ExpectRowsModel", "alarm", "(II)I"⟩ ∈ GW := gw_of (List.mem_append_right _ (List.mem_append_right _ (List.mem_append_right _ (List.mem_append_right _ (List.mem_of_getElem? (i := 28) rfl))))) rfl
theorem w_749 : Cond.instanceMethod ⟨"ExpectRowsModel", "alarm", "(II)I"⟩ ∈ GW := gw_of (List.mem_append_right _ (List.mem_append_right _ (List.mem_append_right _ (List.mem_append_right _ (List.mem_of_getElem? (i := 29) rfl))))) rfl
theorem w_750 : Cond.selects "ExpectRowsModel" ⟨"ExpectRowsModel", "alarm", "(II)I"⟩ ⟨"ExpectRowsModel", "alarm", "(II)I"⟩ ∈ GW := gw_of (List.mem_append_right _ (List.mem_append_right _ (List.mem_append_right _ (List.mem_append_right _ (List.mem_of_getElem? (i := 30) rfl))))) rfl
theorem w_751 : Cond.code ⟨"ExpectRowsModel", "alarm", "(II)I"⟩ prog_11_method_13_code 3 (some .int) ∈ GW := gw_of (List.mem_append_right _ (List.mem_append_right _ (List.mem_append_right _ (List.mem_append_right _ (List.mem_of_getElem? (i := 31) rfl))))) rfl
theorem w_752 : Cond.methodLink "ExpectRowsLaw" 45 ⟨"ExpectRowsModel", "state", "(I)I"⟩ ∈ GW := gw_of (List.mem_append_right _ (List.mem_append_right _ (List.mem_append_right _ (List.mem_append_right _ (List.mem_of_getElem? (i := 32) rfl))))) rfl
theorem w_753 : Cond.instanceMethod ⟨"ExpectRowsModel", "state", "(I)I"⟩ ∈ GW := gw_of (List.mem_append_right _ (List.mem_append_right _ (List.mem_append_right _ (List.mem_append_right _ (List.mem_of_getElem? (i := 33) rfl))))) rfl
theorem w_754 : Cond.selects "ExpectRowsModel" ⟨"ExpectRowsModel", "state", "(I)I"⟩ ⟨"ExpectRowsModel", "state", "(I)I"⟩ ∈ GW := gw_of (List.mem_append_right _ (List.mem_append_right _ (List.mem_append_right _ (List.mem_append_right _ (List.mem_of_getElem? (i := 34) rfl))))) rfl
theorem w_755 : Cond.code ⟨"ExpectRowsModel", "state", "(I)I"⟩ prog_11_method_14_code 2 (some .int) ∈ GW := gw_of (List.mem_append_right _ (List.mem_append_right _ (List.mem_append_right _ (List.mem_append_right _ (List.mem_of_getElem? (i := 35) rfl))))) rfl
theorem w_756 : Cond.methodLink "ExpectRowsLaw" 49 ⟨"ExpectRowsModel", "holiday", "(J)I"⟩ ∈ GW := gw_of (List.mem_append_right _ (List.mem_append_right _ (List.mem_append_right _ (List.mem_append_right _ (List.mem_of_getElem? (i := 36) rfl))))) rfl
theorem w_757 : Cond.instanceMethod ⟨"ExpectRowsModel", "holiday", "(J)I"⟩ ∈ GW := gw_of (List.mem_append_right _ (List.mem_append_right _ (List.mem_append_right _ (List.mem_append_right _ (List.mem_of_getElem? (i := 37) rfl))))) rfl
theorem w_758 : Cond.selects "ExpectRowsModel" ⟨"ExpectRowsModel", "holiday", "(J)I"⟩ ⟨"ExpectRowsModel", "holiday", "(J)I"⟩ ∈ GW := gw_of (List.mem_append_right _ (List.mem_append_right _ (List.mem_append_right _ (List.mem_append_right _ (List.mem_of_getElem? (i := 38) rfl))))) rfl
theorem w_759 : Cond.code ⟨"ExpectRowsModel", "holiday", "(J)I"⟩ prog_11_method_15_code 3 (some .int) ∈ GW := gw_of (List.mem_append_right _ (List.mem_append_right _ (List.mem_append_right _ (List.mem_append_right _ (List.mem_of_getElem? (i := 39) rfl))))) rfl
theorem w_760 : Cond.methodLink "ExpectRowsLaw" 55 ⟨"ExpectRowsModel", "share", "(II)J"⟩ ∈ GW := gw_of (List.mem_append_right _ (List.mem_append_right _ (List.mem_append_right _ (List.mem_append_right _ (List.mem_of_getElem? (i := 40) rfl))))) rfl
theorem w_761 : Cond.instanceMethod ⟨"ExpectRowsModel", "share", "(II)J"⟩ ∈ GW := gw_of (List.mem_append_right _ (List.mem_append_right _ (List.mem_append_right _ (List.mem_append_right _ (List.mem_of_getElem? (i := 41) rfl))))) rfl
theorem w_762 : Cond.selects "ExpectRowsModel" ⟨"ExpectRowsModel", "share", "(II)J"⟩ ⟨"ExpectRowsModel", "share", "(II)J"⟩ ∈ GW := gw_of (List.mem_append_right _ (List.mem_append_right _ (List.mem_append_right _ (List.mem_append_right _ (List.mem_of_getElem? (i := 42) rfl))))) rfl
theorem w_763 : Cond.code ⟨"ExpectRowsModel", "share", "(II)J"⟩ prog_11_method_16_code 4 (some .long) ∈ GW := gw_of (List.mem_append_right _ (List.mem_append_right _ (List.mem_append_right _ (List.mem_append_right _ (List.mem_of_getElem? (i := 43) rfl))))) rfl
theorem w_764 : Cond.constantLong "ExpectRowsModel" 143 (-101) ∈ GW := gw_of (List.mem_append_right _ (List.mem_append_right _ (List.mem_append_right _ (List.mem_append_right _ (List.mem_of_getElem? (i := 44) rfl))))) rfl
theorem w_765 : Cond.constantLong "ExpectRowsModel" 145 (-102) ∈ GW := gw_of (List.mem_append_right _ (List.mem_append_right _ (List.mem_append_right _ (List.mem_append_right _ (List.mem_of_getElem? (i := 45) rfl))))) rfl
theorem w_766 : Cond.methodLink "ExpectRowsLaw" 63 ⟨"ExpectRowsModel", "percentile", "(II)J"⟩ ∈ GW := gw_of (List.mem_append_right _ (List.mem_append_right _ (List.mem_append_right _ (List.mem_append_right _ (List.mem_of_getElem? (i := 46) rfl))))) rfl
theorem w_767 : Cond.instanceMethod ⟨"ExpectRowsModel", "percentile", "(II)J"⟩ ∈ GW := gw_of (List.mem_append_right _ (List.mem_append_right _ (List.mem_append_right _ (List.mem_append_right _ (List.mem_of_getElem? (i := 47) rfl))))) rfl
theorem w_768 : Cond.selects "ExpectRowsModel" ⟨"ExpectRowsModel", "percentile", "(II)J"⟩ ⟨"ExpectRowsModel", "percentile", "(II)J"⟩ ∈ GW := gw_of (List.mem_append_right _ (List.mem_append_right _ (List.mem_append_right _ (List.mem_append_right _ (List.mem_of_getElem? (i := 48) rfl))))) rfl
theorem w_769 : Cond.code ⟨"ExpectRowsModel", "percentile", "(II)J"⟩ prog_11_method_17_code 10 (some .long) ∈ GW := gw_of (List.mem_append_right _ (List.mem_append_right _ (List.mem_append_right _ (List.mem_append_right _ (List.mem_of_getElem? (i := 49) rfl))))) rfl
theorem w_770 : Cond.constantLong "ExpectRowsModel" 147 (1000) ∈ GW := gw_of (List.mem_append_right _ (List.mem_append_right _ (List.mem_append_right _ (List.mem_append_right _ (List.mem_of_getElem? (i := 50) rfl))))) rfl
theorem w_771 : Cond.constant "ExpectRowsModel" 149 (2147483647) ∈ GW := gw_of (List.mem_append_right _ (List.mem_append_right _ (List.mem_append_right _ (List.mem_append_right _ (List.mem_of_getElem? (i := 51) rfl))))) rfl
theorem w_772 : Cond.methodLink "ExpectRowsLaw" 68 ⟨"ExpectRowsModel", "found", "(IJ)I"⟩ ∈ GW := gw_of (List.mem_append_right _ (List.mem_append_right _ (List.mem_append_right _ (List.mem_append_right _ (List.mem_of_getElem? (i := 52) rfl))))) rfl
theorem w_773 : Cond.instanceMethod ⟨"ExpectRowsModel", "found", "(IJ)I"⟩ ∈ GW := gw_of (List.mem_append_right _ (List.mem_append_right _ (List.mem_append_right _ (List.mem_append_right _ (List.mem_of_getElem? (i := 53) rfl))))) rfl
theorem w_774 : Cond.selects "ExpectRowsModel" ⟨"ExpectRowsModel", "found", "(IJ)I"⟩ ⟨"ExpectRowsModel", "found", "(IJ)I"⟩ ∈ GW := gw_of (List.mem_append_right _ (List.mem_append_right _ (List.mem_append_right _ (List.mem_append_right _ (List.mem_of_getElem? (i := 54) rfl))))) rfl
theorem w_775 : Cond.code ⟨"ExpectRowsModel", "found", "(IJ)I"⟩ prog_11_method_18_code 4 (some .int) ∈ GW := gw_of (List.mem_append_right _ (List.mem_append_right _ (List.mem_append_right _ (List.mem_append_right _ (List.mem_of_getElem? (i := 55) rfl))))) rfl
theorem w_776 : Cond.methodLink "ExpectRowsLaw" 72 ⟨"ExpectRowsModel", "cluster", "(II)I"⟩ ∈ GW := gw_of (List.mem_append_right _ (List.mem_append_right _ (List.mem_append_right _ (List.mem_append_right _ (List.mem_of_getElem? (i := 56) rfl))))) rfl
theorem w_777 : Cond.instanceMethod ⟨"ExpectRowsModel", "cluster", "(II)I"⟩ ∈ GW := gw_of (List.mem_append_right _ (List.mem_append_right _ (List.mem_append_right _ (List.mem_append_right _ (List.mem_of_getElem? (i := 57) rfl))))) rfl
theorem w_778 : Cond.selects "ExpectRowsModel" ⟨"ExpectRowsModel", "cluster", "(II)I"⟩ ⟨"ExpectRowsModel", "cluster", "(II)I"⟩ ∈ GW := gw_of (List.mem_append_right _ (List.mem_append_right _ (List.mem_append_right _ (List.mem_append_right _ (List.mem_of_getElem? (i := 58) rfl))))) rfl
theorem w_779 : Cond.code ⟨"ExpectRowsModel", "cluster", "(II)I"⟩ prog_11_method_20_code 8 (some .int) ∈ GW := gw_of (List.mem_append_right _ (List.mem_append_right _ (List.mem_append_right _ (List.mem_append_right _ (List.mem_of_getElem? (i := 59) rfl))))) rfl
theorem w_780 : Cond.methodLink "ExpectRowsModel" 150 ⟨"ExpectRowsModel", "isBefore", "(II)Z"⟩ ∈ GW := gw_of (List.mem_append_right _ (List.mem_append_right _ (List.mem_append_right _ (List.mem_append_right _ (List.mem_of_getElem? (i := 60) rfl))))) rfl
theorem w_782 : Cond.instanceMethod ⟨"ExpectRowsModel", "isBefore", "(II)Z"⟩ ∈ GW := gw_of (List.mem_append_right _ (List.mem_append_right _ (List.mem_append_right _ (List.mem_append_right _ (List.mem_of_getElem? (i := 62) rfl))))) rfl
theorem w_783 : Cond.code ⟨"ExpectRowsModel", "isBefore", "(II)Z"⟩ prog_11_method_19_code 7 (some .boolean) ∈ GW := gw_of (List.mem_append_right _ (List.mem_append_right _ (List.mem_append_right _ (List.mem_append_right _ (List.mem_of_getElem? (i := 63) rfl))))) rfl
theorem w_784 : Cond.methodLink "ExpectRowsLaw" 76 ⟨"ExpectRowsModel", "failing", "(I)I"⟩ ∈ GW := gw_of (List.mem_append_right _ (List.mem_append_right _ (List.mem_append_right _ (List.mem_append_right _ (List.mem_of_getElem? (i := 64) rfl))))) rfl
theorem w_785 : Cond.instanceMethod ⟨"ExpectRowsModel", "failing", "(I)I"⟩ ∈ GW := gw_of (List.mem_append_right _ (List.mem_append_right _ (List.mem_append_right _ (List.mem_append_right _ (List.mem_of_getElem? (i := 65) rfl))))) rfl
theorem w_786 : Cond.selects "ExpectRowsModel" ⟨"ExpectRowsModel", "failing", "(I)I"⟩ ⟨"ExpectRowsModel", "failing", "(I)I"⟩ ∈ GW := gw_of (List.mem_append_right _ (List.mem_append_right _ (List.mem_append_right _ (List.mem_append_right _ (List.mem_of_getElem? (i := 66) rfl))))) rfl
theorem w_787 : Cond.code ⟨"ExpectRowsModel", "failing", "(I)I"⟩ prog_11_method_21_code 2 (some .int) ∈ GW := gw_of (List.mem_append_right _ (List.mem_append_right _ (List.mem_append_right _ (List.mem_append_right _ (List.mem_of_getElem? (i := 67) rfl))))) rfl
theorem w_788 : Cond.constantLong "ExpectRowsLaw" 19 (4294967295) ∈ GW := gw_of (List.mem_append_right _ (List.mem_append_right _ (List.mem_append_right _ (List.mem_append_right _ (List.mem_of_getElem? (i := 68) rfl))))) rfl
theorem w_789 : Cond.sameMethod "java/lang/Throwable" "java/lang/Throwable" "fillInStackTrace" "(I)Ljava/lang/Throwable;" ∈ GW := gw_of (List.mem_append_right _ (List.mem_append_right _ (List.mem_append_right _ (List.mem_append_right _ (List.mem_of_getElem? (i := 69) rfl))))) rfl
theorem w_790 : Cond.castable "ExpectRows$Row" "ExpectRows$Row" ∈ NW := nw_of (List.mem_append_right _ (List.mem_append_right _ (List.mem_append_right _ (List.mem_append_right _ (List.mem_of_getElem? (i := 70) rfl))))) rfl
theorem w_791 : Cond.castable "ExpectRows$Alarm" "ExpectRows$Alarm" ∈ NW := nw_of (List.mem_append_right _ (List.mem_append_right _ (List.mem_append_right _ (List.mem_append_right _ (List.mem_of_getElem? (i := 71) rfl))))) rfl
theorem w_792 : Cond.sameMethod "[Ljava/lang/Object;" "java/lang/Object" "getClass" "()Ljava/lang/Class;" ∈ GW := gw_of (List.mem_append_right _ (List.mem_append_right _ (List.mem_append_right _ (List.mem_append_right _ (List.mem_of_getElem? (i := 72) rfl))))) rfl
theorem w_793 : Cond.selects "[Ljava/lang/Object;" ⟨"java/lang/Object", "getClass", "()Ljava/lang/Class;"⟩ ⟨"java/lang/Object", "getClass", "()Ljava/lang/Class;"⟩ ∈ GW := gw_of (List.mem_append_right _ (List.mem_append_right _ (List.mem_append_right _ (List.mem_append_right _ (List.mem_of_getElem? (i := 73) rfl))))) rfl
theorem w_794 : Cond.declares ⟨"java/lang/Object", "getClass", "()Ljava/lang/Class;"⟩ ∈ NW := nw_of (List.mem_append_right _ (List.mem_append_right _ (List.mem_append_right _ (List.mem_append_right _ (List.mem_of_getElem? (i := 74) rfl))))) rfl
theorem w_795 : Cond.castable "ExpectRows" "java/lang/Object" ∈ NW := nw_of (List.mem_append_right _ (List.mem_append_right _ (List.mem_append_right _ (List.mem_append_right _ (List.mem_of_getElem? (i := 75) rfl))))) rfl
theorem w_796 : Cond.castable "ExpectRows$RowList" "java/lang/Object" ∈ NW := nw_of (List.mem_append_right _ (List.mem_append_right _ (List.mem_append_right _ (List.mem_append_right _ (List.mem_of_getElem? (i := 76) rfl))))) rfl
theorem w_797 : Cond.castable "ExpectRows$HolidayList" "java/lang/Object" ∈ NW := nw_of (List.mem_append_right _ (List.mem_append_right _ (List.mem_append_right _ (List.mem_append_right _ (List.mem_of_getElem? (i := 77) rfl))))) rfl
theorem w_798 : Cond.castable "ExpectRows$AlarmList" "java/lang/Object" ∈ NW := nw_of (List.mem_append_right _ (List.mem_append_right _ (List.mem_append_right _ (List.mem_append_right _ (List.mem_of_getElem? (i := 78) rfl))))) rfl
theorem w_799 : Cond.castable "ExpectRows$PlaceCounts" "java/lang/Object" ∈ NW := nw_of (List.mem_append_right _ (List.mem_append_right _ (List.mem_append_right _ (List.mem_append_right _ (List.mem_of_getElem? (i := 79) rfl))))) rfl
theorem w_800 : Cond.castable "ExpectRows$DeliveryList" "java/lang/Object" ∈ NW := nw_of (List.mem_append_right _ (List.mem_append_right _ (List.mem_append_right _ (List.mem_append_right _ (List.mem_of_getElem? (i := 80) rfl))))) rfl
theorem w_801 : Cond.castable "ExpectRows$Item" "java/lang/Object" ∈ NW := nw_of (List.mem_append_right _ (List.mem_append_right _ (List.mem_append_right _ (List.mem_append_right _ (List.mem_of_getElem? (i := 81) rfl))))) rfl
theorem w_802 : Cond.castable "ExpectRowsModel" "java/lang/Object" ∈ NW := nw_of (List.mem_append_right _ (List.mem_append_right _ (List.mem_append_right _ (List.mem_append_right _ (List.mem_of_getElem? (i := 82) rfl))))) rfl
theorem w_803 : Cond.castable "ExpectRows$Row" "java/lang/Object" ∈ NW := nw_of (List.mem_append_right _ (List.mem_append_right _ (List.mem_append_right _ (List.mem_append_right _ (List.mem_of_getElem? (i := 83) rfl))))) rfl
theorem w_804 : Cond.castable "ExpectRows$Alarm" "java/lang/Object" ∈ NW := nw_of (List.mem_append_right _ (List.mem_append_right _ (List.mem_append_right _ (List.mem_append_right _ (List.mem_of_getElem? (i := 84) rfl))))) rfl
theorem w_805 : Cond.castable "java/lang/String" "java/lang/Object" ∈ NW := nw_of (List.mem_append_right _ (List.mem_append_right _ (List.mem_append_right _ (List.mem_append_right _ (List.mem_of_getElem? (i := 85) rfl))))) rfl
theorem s_0 : Cond.selects "ExpectRows$RowList" ⟨"ExpectRows$RowList", "addRow", "(IIIJZ)I"⟩ ⟨"ExpectRows$RowList", "addRow", "(IIIJZ)I"⟩ ∈ GW := gw_of (List.mem_append_left _ (List.mem_of_getElem? (i := 0) rfl)) rfl
theorem s_1 : Cond.selects "java/util/ArrayList" ⟨"java/util/ArrayList", "add", "(Ljava/lang/Object;[Ljava/lang/Object;I)V"⟩ ⟨"java/util/ArrayList", "add", "(Ljava/lang/Object;[Ljava/lang/Object;I)V"⟩ ∈ GW := gw_of (List.mem_append_left _ (List.mem_of_getElem? (i := 1) rfl)) rfl
theorem s_2 : Cond.selects "java/util/ArrayList" ⟨"java/util/ArrayList", "grow", "()[Ljava/lang/Object;"⟩ ⟨"java/util/ArrayList", "grow", "()[Ljava/lang/Object;"⟩ ∈ GW := gw_of (List.mem_append_left _ (List.mem_of_getElem? (i := 2) rfl)) rfl
theorem s_3 : Cond.selects "java/util/ArrayList" ⟨"java/util/ArrayList", "grow", "(I)[Ljava/lang/Object;"⟩ ⟨"java/util/ArrayList", "grow", "(I)[Ljava/lang/Object;"⟩ ∈ GW := gw_of (List.mem_append_left _ (List.mem_of_getElem? (i := 3) rfl)) rfl
theorem s_4 : Cond.selects "ExpectRows$Item" ⟨"ExpectRows$Item", "mayComeAt", "(J)Z"⟩ ⟨"ExpectRows$Item", "mayComeAt", "(J)Z"⟩ ∈ GW := gw_of (List.mem_append_left _ (List.mem_of_getElem? (i := 4) rfl)) rfl
theorem s_5 : Cond.selects "ExpectRows$Item" ⟨"ExpectRows$Item", "isNew", "()Z"⟩ ⟨"ExpectRows$Item", "isNew", "()Z"⟩ ∈ GW := gw_of (List.mem_append_left _ (List.mem_of_getElem? (i := 5) rfl)) rfl
theorem s_6 : Cond.selects "ExpectRows$Item" ⟨"ExpectRows$Item", "expectNothing", "()V"⟩ ⟨"ExpectRows$Item", "expectNothing", "()V"⟩ ∈ GW := gw_of (List.mem_append_left _ (List.mem_of_getElem? (i := 6) rfl)) rfl
theorem s_7 : Cond.selects "ExpectRows$Item" ⟨"ExpectRows$Item", "daysUntil", "(J)I"⟩ ⟨"ExpectRows$Item", "daysUntil", "(J)I"⟩ ∈ GW := gw_of (List.mem_append_left _ (List.mem_of_getElem? (i := 7) rfl)) rfl
theorem s_8 : Cond.selects "ExpectRows$DeliveryList" ⟨"ExpectRows$DeliveryList", "addDelivery", "(II)V"⟩ ⟨"ExpectRows$DeliveryList", "addDelivery", "(II)V"⟩ ∈ GW := gw_of (List.mem_append_left _ (List.mem_of_getElem? (i := 8) rfl)) rfl
theorem s_9 : Cond.selects "ExpectRows$Item" ⟨"ExpectRows$Item", "beginAnew", "()V"⟩ ⟨"ExpectRows$Item", "beginAnew", "()V"⟩ ∈ GW := gw_of (List.mem_append_left _ (List.mem_of_getElem? (i := 9) rfl)) rfl
theorem s_10 : Cond.selects "ExpectRows$Item" ⟨"ExpectRows$Item", "takeEvent", "(IJ)V"⟩ ⟨"ExpectRows$Item", "takeEvent", "(IJ)V"⟩ ∈ GW := gw_of (List.mem_append_left _ (List.mem_of_getElem? (i := 10) rfl)) rfl
theorem s_11 : Cond.selects "ExpectRows$RowList" ⟨"ExpectRows$RowList", "firstFor", "(III)LExpectRows$Row;"⟩ ⟨"ExpectRows$RowList", "firstFor", "(III)LExpectRows$Row;"⟩ ∈ GW := gw_of (List.mem_append_left _ (List.mem_of_getElem? (i := 11) rfl)) rfl
theorem s_12 : Cond.selects "ExpectRows$Row" ⟨"ExpectRows$Row", "isFor", "(III)Z"⟩ ⟨"ExpectRows$Row", "isFor", "(III)Z"⟩ ∈ GW := gw_of (List.mem_append_left _ (List.mem_of_getElem? (i := 12) rfl)) rfl
theorem s_13 : Cond.selects "ExpectRows" ⟨"ExpectRows", "expectNext", "(LExpectRows$Item;LExpectRows$Row;IJ)I"⟩ ⟨"ExpectRows", "expectNext", "(LExpectRows$Item;LExpectRows$Row;IJ)I"⟩ ∈ GW := gw_of (List.mem_append_left _ (List.mem_of_getElem? (i := 13) rfl)) rfl
theorem s_14 : Cond.selects "ExpectRows$RowList" ⟨"ExpectRows$RowList", "noteFailed", "(LExpectRows$Row;)V"⟩ ⟨"ExpectRows$RowList", "noteFailed", "(LExpectRows$Row;)V"⟩ ∈ GW := gw_of (List.mem_append_left _ (List.mem_of_getElem? (i := 14) rfl)) rfl
theorem s_15 : Cond.selects "ExpectRows$HolidayList" ⟨"ExpectRows$HolidayList", "dueAfter", "(JJ)J"⟩ ⟨"ExpectRows$HolidayList", "dueAfter", "(JJ)J"⟩ ∈ GW := gw_of (List.mem_append_left _ (List.mem_of_getElem? (i := 15) rfl)) rfl
theorem s_16 : Cond.selects "ExpectRows$Item" ⟨"ExpectRows$Item", "expect", "(IIJ)V"⟩ ⟨"ExpectRows$Item", "expect", "(IIJ)V"⟩ ∈ GW := gw_of (List.mem_append_left _ (List.mem_of_getElem? (i := 16) rfl)) rfl
theorem s_17 : Cond.selects "ExpectRows$PlaceCounts" ⟨"ExpectRows$PlaceCounts", "addBegun", "(I)V"⟩ ⟨"ExpectRows$PlaceCounts", "addBegun", "(I)V"⟩ ∈ GW := gw_of (List.mem_append_left _ (List.mem_of_getElem? (i := 17) rfl)) rfl
theorem s_18 : Cond.selects "ExpectRows$AlarmList" ⟨"ExpectRows$AlarmList", "size", "()I"⟩ ⟨"ExpectRows$AlarmList", "size", "()I"⟩ ∈ GW := gw_of (List.mem_append_left _ (List.mem_of_getElem? (i := 18) rfl)) rfl
theorem s_19 : Cond.selects "ExpectRows" ⟨"ExpectRows", "tellLate", "(ILExpectRows$Item;)V"⟩ ⟨"ExpectRows", "tellLate", "(ILExpectRows$Item;)V"⟩ ∈ GW := gw_of (List.mem_append_left _ (List.mem_of_getElem? (i := 19) rfl)) rfl
theorem s_20 : Cond.selects "ExpectRows$Item" ⟨"ExpectRows$Item", "isExpected", "()Z"⟩ ⟨"ExpectRows$Item", "isExpected", "()Z"⟩ ∈ GW := gw_of (List.mem_append_left _ (List.mem_of_getElem? (i := 20) rfl)) rfl
theorem s_21 : Cond.selects "ExpectRows$PlaceCounts" ⟨"ExpectRows$PlaceCounts", "addLate", "(I)V"⟩ ⟨"ExpectRows$PlaceCounts", "addLate", "(I)V"⟩ ∈ GW := gw_of (List.mem_append_left _ (List.mem_of_getElem? (i := 21) rfl)) rfl
theorem s_22 : Cond.selects "ExpectRows$AlarmList" ⟨"ExpectRows$AlarmList", "addAlarm", "(IILExpectRows$Item;)V"⟩ ⟨"ExpectRows$AlarmList", "addAlarm", "(IILExpectRows$Item;)V"⟩ ∈ GW := gw_of (List.mem_append_left _ (List.mem_of_getElem? (i := 22) rfl)) rfl
theorem s_23 : Cond.selects "ExpectRows" ⟨"ExpectRows", "tellLost", "(ILExpectRows$Item;)V"⟩ ⟨"ExpectRows", "tellLost", "(ILExpectRows$Item;)V"⟩ ∈ GW := gw_of (List.mem_append_left _ (List.mem_of_getElem? (i := 23) rfl)) rfl
theorem s_24 : Cond.selects "ExpectRows$AlarmList" ⟨"ExpectRows$AlarmList", "partOf", "(II)I"⟩ ⟨"ExpectRows$AlarmList", "partOf", "(II)I"⟩ ∈ GW := gw_of (List.mem_append_left _ (List.mem_of_getElem? (i := 24) rfl)) rfl
theorem s_25 : Cond.selects "ExpectRows$Item" ⟨"ExpectRows$Item", "toldState", "()I"⟩ ⟨"ExpectRows$Item", "toldState", "()I"⟩ ∈ GW := gw_of (List.mem_append_left _ (List.mem_of_getElem? (i := 25) rfl)) rfl
theorem s_26 : Cond.selects "ExpectRows$HolidayList" ⟨"ExpectRows$HolidayList", "addDay", "(J)I"⟩ ⟨"ExpectRows$HolidayList", "addDay", "(J)I"⟩ ∈ GW := gw_of (List.mem_append_left _ (List.mem_of_getElem? (i := 26) rfl)) rfl
theorem s_27 : Cond.selects "ExpectRows$HolidayList" ⟨"ExpectRows$HolidayList", "holds", "(J)Z"⟩ ⟨"ExpectRows$HolidayList", "holds", "(J)Z"⟩ ∈ GW := gw_of (List.mem_append_left _ (List.mem_of_getElem? (i := 27) rfl)) rfl
theorem s_28 : Cond.selects "ExpectRows$DeliveryList" ⟨"ExpectRows$DeliveryList", "countOf", "(I)I"⟩ ⟨"ExpectRows$DeliveryList", "countOf", "(I)I"⟩ ∈ GW := gw_of (List.mem_append_left _ (List.mem_of_getElem? (i := 28) rfl)) rfl
theorem s_29 : Cond.selects "ExpectRows$DeliveryList" ⟨"ExpectRows$DeliveryList", "daysAtRank", "(II)I"⟩ ⟨"ExpectRows$DeliveryList", "daysAtRank", "(II)I"⟩ ∈ GW := gw_of (List.mem_append_left _ (List.mem_of_getElem? (i := 29) rfl)) rfl
theorem s_30 : Cond.selects "ExpectRows$PlaceCounts" ⟨"ExpectRows$PlaceCounts", "clusterPlace", "(I)I"⟩ ⟨"ExpectRows$PlaceCounts", "clusterPlace", "(I)I"⟩ ∈ GW := gw_of (List.mem_append_left _ (List.mem_of_getElem? (i := 30) rfl)) rfl
theorem s_31 : Cond.selects "ExpectRows$PlaceCounts" ⟨"ExpectRows$PlaceCounts", "isCluster", "(I)Z"⟩ ⟨"ExpectRows$PlaceCounts", "isCluster", "(I)Z"⟩ ∈ GW := gw_of (List.mem_append_left _ (List.mem_of_getElem? (i := 31) rfl)) rfl
theorem s_32 : Cond.selects "ExpectRows$PlaceCounts" ⟨"ExpectRows$PlaceCounts", "lateAt", "(I)I"⟩ ⟨"ExpectRows$PlaceCounts", "lateAt", "(I)I"⟩ ∈ GW := gw_of (List.mem_append_left _ (List.mem_of_getElem? (i := 32) rfl)) rfl
theorem s_33 : Cond.selects "ExpectRows$PlaceCounts" ⟨"ExpectRows$PlaceCounts", "clustersBefore", "(I)I"⟩ ⟨"ExpectRows$PlaceCounts", "clustersBefore", "(I)I"⟩ ∈ GW := gw_of (List.mem_append_left _ (List.mem_of_getElem? (i := 33) rfl)) rfl
theorem s_34 : Cond.selects "ExpectRows$PlaceCounts" ⟨"ExpectRows$PlaceCounts", "comesBefore", "(II)Z"⟩ ⟨"ExpectRows$PlaceCounts", "comesBefore", "(II)Z"⟩ ∈ GW := gw_of (List.mem_append_left _ (List.mem_of_getElem? (i := 34) rfl)) rfl
theorem s_35 : Cond.selects "ExpectRows$PlaceCounts" ⟨"ExpectRows$PlaceCounts", "begunAt", "(I)I"⟩ ⟨"ExpectRows$PlaceCounts", "begunAt", "(I)I"⟩ ∈ GW := gw_of (List.mem_append_left _ (List.mem_of_getElem? (i := 35) rfl)) rfl
theorem s_36 : Cond.selects "ExpectRows$RowList" ⟨"ExpectRows$RowList", "failedRow", "(I)I"⟩ ⟨"ExpectRows$RowList", "failedRow", "(I)I"⟩ ∈ GW := gw_of (List.mem_append_left _ (List.mem_of_getElem? (i := 36) rfl)) rfl
theorem s_37 : Cond.selects "java/lang/Throwable" ⟨"java/lang/Throwable", "fillInStackTrace", "(I)Ljava/lang/Throwable;"⟩ ⟨"java/lang/Throwable", "fillInStackTrace", "(I)Ljava/lang/Throwable;"⟩ ∈ GW := gw_of (List.mem_append_left _ (List.mem_of_getElem? (i := 37) rfl)) rfl
theorem s_38 : Cond.selects "ExpectRowsModel" ⟨"ExpectRowsModel", "isTime", "(IJ)Z"⟩ ⟨"ExpectRowsModel", "isTime", "(IJ)Z"⟩ ∈ GW := gw_of (List.mem_append_left _ (List.mem_of_getElem? (i := 38) rfl)) rfl
theorem s_39 : Cond.selects "ExpectRowsModel" ⟨"ExpectRowsModel", "end", "(I)V"⟩ ⟨"ExpectRowsModel", "end", "(I)V"⟩ ∈ GW := gw_of (List.mem_append_left _ (List.mem_of_getElem? (i := 39) rfl)) rfl
theorem s_40 : Cond.selects "ExpectRowsModel" ⟨"ExpectRowsModel", "rowFor", "(III)I"⟩ ⟨"ExpectRowsModel", "rowFor", "(III)I"⟩ ∈ GW := gw_of (List.mem_append_left _ (List.mem_of_getElem? (i := 40) rfl)) rfl
theorem s_41 : Cond.selects "ExpectRowsModel" ⟨"ExpectRowsModel", "fails", "(I)V"⟩ ⟨"ExpectRowsModel", "fails", "(I)V"⟩ ∈ GW := gw_of (List.mem_append_left _ (List.mem_of_getElem? (i := 41) rfl)) rfl
theorem s_42 : Cond.selects "ExpectRowsModel" ⟨"ExpectRowsModel", "behind", "(JJ)J"⟩ ⟨"ExpectRowsModel", "behind", "(JJ)J"⟩ ∈ GW := gw_of (List.mem_append_left _ (List.mem_of_getElem? (i := 42) rfl)) rfl
theorem s_43 : Cond.selects "ExpectRowsModel" ⟨"ExpectRowsModel", "tell", "(II)V"⟩ ⟨"ExpectRowsModel", "tell", "(II)V"⟩ ∈ GW := gw_of (List.mem_append_left _ (List.mem_of_getElem? (i := 43) rfl)) rfl
theorem s_44 : Cond.selects "ExpectRowsModel" ⟨"ExpectRowsModel", "isBefore", "(II)Z"⟩ ⟨"ExpectRowsModel", "isBefore", "(II)Z"⟩ ∈ GW := gw_of (List.mem_append_left _ (List.mem_of_getElem? (i := 44) rfl)) rfl
theorem cl_X : mm_cls 0 R_X F_X 7 t_X := ⟨rfl, fun w h => by
  obtain ⟨k, hk, rfl⟩ := List.mem_map.mp h
  have hk := List.mem_range.mp hk
  match k, hk with
  | 0, _ => exact w_174
  | 1, _ => exact w_176
  | 2, _ => exact w_178
  | 3, _ => exact w_180
  | 4, _ => exact w_182
  | 5, _ => exact w_184
  | 6, _ => exact w_186
  | k + 7, hk => exact absurd hk (by omega), by decide +kernel, by decide +kernel⟩
theorem ni_X : Cond.instantiable R_X 7 ∈ GW ∧ Cond.initialized R_X ∈ GW := ⟨w_25, w_1⟩
theorem cl_Alarm : mm_cls 1 R_Alarm F_Alarm 5 t_Alarm := ⟨rfl, fun w h => by
  obtain ⟨k, hk, rfl⟩ := List.mem_map.mp h
  have hk := List.mem_range.mp hk
  match k, hk with
  | 0, _ => exact w_426
  | 1, _ => exact w_428
  | 2, _ => exact w_430
  | 3, _ => exact w_432
  | 4, _ => exact w_434
  | k + 5, hk => exact absurd hk (by omega), by decide +kernel, by decide +kernel⟩
theorem ni_Alarm : Cond.instantiable R_Alarm 5 ∈ GW ∧ Cond.initialized R_Alarm ∈ GW := ⟨w_411, w_19⟩
theorem cl_AlarmL : mm_cls 2 R_AlarmL F_AlarmL 1 t_AlarmL := ⟨rfl, fun w h => by
  obtain ⟨k, hk, rfl⟩ := List.mem_map.mp h
  have hk := List.mem_range.mp hk
  match k, hk with
  | 0, _ => exact w_94
  | k + 1, hk => exact absurd hk (by omega), by decide +kernel, by decide +kernel⟩
theorem ni_AlarmL : Cond.instantiable R_AlarmL 1 ∈ GW ∧ Cond.initialized R_AlarmL ∈ GW := ⟨w_86, w_7⟩
theorem cl_Deliv : mm_cls 3 R_Deliv F_Deliv 3 t_Deliv := ⟨rfl, fun w h => by
  obtain ⟨k, hk, rfl⟩ := List.mem_map.mp h
  have hk := List.mem_range.mp hk
  match k, hk with
  | 0, _ => exact w_120
  | 1, _ => exact w_122
  | 2, _ => exact w_124
  | k + 3, hk => exact absurd hk (by omega), by decide +kernel, by decide +kernel⟩
theorem ni_Deliv : Cond.instantiable R_Deliv 3 ∈ GW ∧ Cond.initialized R_Deliv ∈ GW := ⟨w_112, w_9⟩
theorem cl_Holi : mm_cls 4 R_Holi F_Holi 2 t_Holi := ⟨rfl, fun w h => by
  obtain ⟨k, hk, rfl⟩ := List.mem_map.mp h
  have hk := List.mem_range.mp hk
  match k, hk with
  | 0, _ => exact w_79
  | 1, _ => exact w_81
  | k + 2, hk => exact absurd hk (by omega), by decide +kernel, by decide +kernel⟩
theorem ni_Holi : Cond.instantiable R_Holi 2 ∈ GW ∧ Cond.initialized R_Holi ∈ GW := ⟨w_72, w_6⟩
theorem cl_Item : mm_cls 5 R_Item F_Item 8 t_Item := ⟨rfl, fun w h => by
  obtain ⟨k, hk, rfl⟩ := List.mem_map.mp h
  have hk := List.mem_range.mp hk
  match k, hk with
  | 0, _ => exact w_150
  | 1, _ => exact w_152
  | 2, _ => exact w_154
  | 3, _ => exact w_156
  | 4, _ => exact w_158
  | 5, _ => exact w_160
  | 6, _ => exact w_162
  | 7, _ => exact w_164
  | k + 8, hk => exact absurd hk (by omega), by decide +kernel, by decide +kernel⟩
theorem ni_Item : Cond.instantiable R_Item 8 ∈ GW ∧ Cond.initialized R_Item ∈ GW := ⟨w_129, w_10⟩
theorem cl_Cnts : mm_cls 6 R_Cnts F_Cnts 2 t_Cnts := ⟨rfl, fun w h => by
  obtain ⟨k, hk, rfl⟩ := List.mem_map.mp h
  have hk := List.mem_range.mp hk
  match k, hk with
  | 0, _ => exact w_105
  | 1, _ => exact w_107
  | k + 2, hk => exact absurd hk (by omega), by decide +kernel, by decide +kernel⟩
theorem ni_Cnts : Cond.instantiable R_Cnts 2 ∈ GW ∧ Cond.initialized R_Cnts ∈ GW := ⟨w_98, w_8⟩
theorem cl_Row : mm_cls 7 R_Row F_Row 7 t_Row := ⟨rfl, fun w h => by
  obtain ⟨k, hk, rfl⟩ := List.mem_map.mp h
  have hk := List.mem_range.mp hk
  match k, hk with
  | 0, _ => exact w_226
  | 1, _ => exact w_228
  | 2, _ => exact w_230
  | 3, _ => exact w_232
  | 4, _ => exact w_234
  | 5, _ => exact w_236
  | 6, _ => exact w_238
  | k + 7, hk => exact absurd hk (by omega), by decide +kernel, by decide +kernel⟩
theorem ni_Row : Cond.instantiable R_Row 7 ∈ GW ∧ Cond.initialized R_Row ∈ GW := ⟨w_209, w_12⟩
theorem cl_RowL : mm_cls 8 R_RowL F_RowL 2 t_RowL := ⟨rfl, fun w h => by
  obtain ⟨k, hk, rfl⟩ := List.mem_map.mp h
  have hk := List.mem_range.mp hk
  match k, hk with
  | 0, _ => exact w_66
  | 1, _ => exact w_68
  | k + 2, hk => exact absurd hk (by omega), by decide +kernel, by decide +kernel⟩
theorem ni_RowL : Cond.instantiable R_RowL 2 ∈ GW ∧ Cond.initialized R_RowL ∈ GW := ⟨w_33, w_2⟩
theorem cl_Mod : mm_cls 9 R_Mod F_Mod 26 t_Mod := ⟨rfl, fun w h => by
  obtain ⟨k, hk, rfl⟩ := List.mem_map.mp h
  have hk := List.mem_range.mp hk
  match k, hk with
  | 0, _ => exact w_639
  | 1, _ => exact w_641
  | 2, _ => exact w_643
  | 3, _ => exact w_645
  | 4, _ => exact w_647
  | 5, _ => exact w_649
  | 6, _ => exact w_651
  | 7, _ => exact w_653
  | 8, _ => exact w_655
  | 9, _ => exact w_657
  | 10, _ => exact w_659
  | 11, _ => exact w_661
  | 12, _ => exact w_663
  | 13, _ => exact w_665
  | 14, _ => exact w_667
  | 15, _ => exact w_669
  | 16, _ => exact w_671
  | 17, _ => exact w_673
  | 18, _ => exact w_675
  | 19, _ => exact w_677
  | 20, _ => exact w_679
  | 21, _ => exact w_681
  | 22, _ => exact w_683
  | 23, _ => exact w_685
  | 24, _ => exact w_687
  | 25, _ => exact w_689
  | k + 26, hk => exact absurd hk (by omega), by decide +kernel, by decide +kernel⟩
theorem ni_Mod : Cond.instantiable R_Mod 26 ∈ GW ∧ Cond.initialized R_Mod ∈ GW := ⟨w_608, w_11⟩
theorem cl_AL : mm_cls 10 R_AL F_AL 3 t_AL := ⟨rfl, fun w h => by
  obtain ⟨k, hk, rfl⟩ := List.mem_map.mp h
  have hk := List.mem_range.mp hk
  match k, hk with
  | 0, _ => exact w_61
  | 1, _ => exact w_57
  | 2, _ => exact w_59
  | k + 3, hk => exact absurd hk (by omega), by decide +kernel, by decide +kernel⟩
theorem ni_AL : Cond.instantiable R_AL 3 ∈ GW ∧ Cond.initialized R_AL ∈ GW := ⟨w_39, w_5⟩
theorem fl_AL_9 : mm_fl "java/util/ArrayList" 9 F_AL 1 := Or.inl ⟨_, w_52, Or.inl rfl⟩
theorem fl_AL_48 : mm_fl "java/util/ArrayList" 48 F_AL 2 := Or.inl ⟨_, w_53, Or.inl rfl⟩
theorem fl_AbL_7 : mm_fl "java/util/AbstractList" 7 F_AL 0 := Or.inl ⟨_, w_54, Or.inl rfl⟩
theorem fl_RowL_12 : mm_fl "ExpectRows$RowList" 12 F_RowL 0 := Or.inl ⟨_, w_64, Or.inl rfl⟩
theorem fl_RowL_18 : mm_fl "ExpectRows$RowList" 18 F_RowL 1 := Or.inl ⟨_, w_65, Or.inl rfl⟩
theorem fl_Holi_9 : mm_fl "ExpectRows$HolidayList" 9 F_Holi 0 := Or.inl ⟨_, w_77, Or.inl rfl⟩
theorem fl_Holi_15 : mm_fl "ExpectRows$HolidayList" 15 F_Holi 1 := Or.inl ⟨_, w_78, Or.inl rfl⟩
theorem fl_AlarmL_12 : mm_fl "ExpectRows$AlarmList" 12 F_AlarmL 0 := Or.inl ⟨_, w_93, Or.inl rfl⟩
theorem fl_Cnts_9 : mm_fl "ExpectRows$PlaceCounts" 9 F_Cnts 0 := Or.inl ⟨_, w_103, Or.inl rfl⟩
theorem fl_Cnts_15 : mm_fl "ExpectRows$PlaceCounts" 15 F_Cnts 1 := Or.inl ⟨_, w_104, Or.inl rfl⟩
theorem fl_Deliv_9 : mm_fl "ExpectRows$DeliveryList" 9 F_Deliv 0 := Or.inl ⟨_, w_117, Or.inl rfl⟩
theorem fl_Deliv_15 : mm_fl "ExpectRows$DeliveryList" 15 F_Deliv 1 := Or.inl ⟨_, w_118, Or.inl rfl⟩
theorem fl_Deliv_18 : mm_fl "ExpectRows$DeliveryList" 18 F_Deliv 2 := Or.inl ⟨_, w_119, Or.inl rfl⟩
theorem fl_Item_9 : mm_fl "ExpectRows$Item" 9 F_Item 0 := Or.inl ⟨_, w_134, Or.inl rfl⟩
theorem fl_Item_15 : mm_fl "ExpectRows$Item" 15 F_Item 1 := Or.inl ⟨_, w_135, Or.inl rfl⟩
theorem fl_Item_19 : mm_fl "ExpectRows$Item" 19 F_Item 2 := Or.inl ⟨_, w_136, Or.inl rfl⟩
theorem fl_X_162 : mm_fl "ExpectRows" 162 F_Item 2 := Or.inr ⟨_, w_137⟩
theorem fl_Item_22 : mm_fl "ExpectRows$Item" 22 F_Item 3 := Or.inl ⟨_, w_138, Or.inl rfl⟩
theorem fl_AlarmL_24 : mm_fl "ExpectRows$AlarmList" 24 F_Item 3 := Or.inr ⟨_, w_139⟩
theorem fl_Item_25 : mm_fl "ExpectRows$Item" 25 F_Item 4 := Or.inl ⟨_, w_140, Or.inl rfl⟩
theorem fl_AlarmL_30 : mm_fl "ExpectRows$AlarmList" 30 F_Item 4 := Or.inr ⟨_, w_141⟩
theorem fl_X_209 : mm_fl "ExpectRows" 209 F_Item 4 := Or.inr ⟨_, w_142⟩
theorem fl_Item_28 : mm_fl "ExpectRows$Item" 28 F_Item 5 := Or.inl ⟨_, w_143, Or.inl rfl⟩
theorem fl_AlarmL_33 : mm_fl "ExpectRows$AlarmList" 33 F_Item 5 := Or.inr ⟨_, w_144⟩
theorem fl_X_206 : mm_fl "ExpectRows" 206 F_Item 5 := Or.inr ⟨_, w_145⟩
theorem fl_Item_31 : mm_fl "ExpectRows$Item" 31 F_Item 6 := Or.inl ⟨_, w_146, Or.inl rfl⟩
theorem fl_X_203 : mm_fl "ExpectRows" 203 F_Item 6 := Or.inr ⟨_, w_147⟩
theorem fl_Item_35 : mm_fl "ExpectRows$Item" 35 F_Item 7 := Or.inl ⟨_, w_148, Or.inl rfl⟩
theorem fl_X_158 : mm_fl "ExpectRows" 158 F_Item 7 := Or.inr ⟨_, w_149⟩
theorem fl_X_10 : mm_fl "ExpectRows" 10 F_X 0 := Or.inl ⟨_, w_167, Or.inl rfl⟩
theorem fl_X_19 : mm_fl "ExpectRows" 19 F_X 1 := Or.inl ⟨_, w_168, Or.inl rfl⟩
theorem fl_X_26 : mm_fl "ExpectRows" 26 F_X 2 := Or.inl ⟨_, w_169, Or.inl rfl⟩
theorem fl_X_33 : mm_fl "ExpectRows" 33 F_X 3 := Or.inl ⟨_, w_170, Or.inl rfl⟩
theorem fl_X_40 : mm_fl "ExpectRows" 40 F_X 4 := Or.inl ⟨_, w_171, Or.inl rfl⟩
theorem fl_X_46 : mm_fl "ExpectRows" 46 F_X 5 := Or.inl ⟨_, w_172, Or.inl rfl⟩
theorem fl_X_50 : mm_fl "ExpectRows" 50 F_X 6 := Or.inl ⟨_, w_173, Or.inl rfl⟩
theorem fl_Row_15 : mm_fl "ExpectRows$Row" 15 F_Row 0 := Or.inl ⟨_, w_214, Or.inl rfl⟩
theorem fl_RowL_46 : mm_fl "ExpectRows$RowList" 46 F_Row 0 := Or.inr ⟨_, w_215⟩
theorem fl_X_180 : mm_fl "ExpectRows" 180 F_Row 0 := Or.inr ⟨_, w_216⟩
theorem fl_Row_19 : mm_fl "ExpectRows$Row" 19 F_Row 1 := Or.inl ⟨_, w_217, Or.inl rfl⟩
theorem fl_Row_22 : mm_fl "ExpectRows$Row" 22 F_Row 2 := Or.inl ⟨_, w_218, Or.inl rfl⟩
theorem fl_Row_25 : mm_fl "ExpectRows$Row" 25 F_Row 3 := Or.inl ⟨_, w_219, Or.inl rfl⟩
theorem fl_Row_28 : mm_fl "ExpectRows$Row" 28 F_Row 4 := Or.inl ⟨_, w_220, Or.inl rfl⟩
theorem fl_X_184 : mm_fl "ExpectRows" 184 F_Row 4 := Or.inr ⟨_, w_221⟩
theorem fl_Row_32 : mm_fl "ExpectRows$Row" 32 F_Row 5 := Or.inl ⟨_, w_222, Or.inl rfl⟩
theorem fl_X_171 : mm_fl "ExpectRows" 171 F_Row 5 := Or.inr ⟨_, w_223⟩
theorem fl_Row_9 : mm_fl "ExpectRows$Row" 9 F_Row 6 := Or.inl ⟨_, w_224, Or.inl rfl⟩
theorem fl_RowL_42 : mm_fl "ExpectRows$RowList" 42 F_Row 6 := Or.inr ⟨_, w_225⟩
theorem fl_Alarm_7 : mm_fl "ExpectRows$Alarm" 7 F_Alarm 0 := Or.inl ⟨_, w_416, Or.inl rfl⟩
theorem fl_AlarmL_48 : mm_fl "ExpectRows$AlarmList" 48 F_Alarm 0 := Or.inr ⟨_, w_417⟩
theorem fl_Alarm_13 : mm_fl "ExpectRows$Alarm" 13 F_Alarm 1 := Or.inl ⟨_, w_418, Or.inl rfl⟩
theorem fl_AlarmL_51 : mm_fl "ExpectRows$AlarmList" 51 F_Alarm 1 := Or.inr ⟨_, w_419⟩
theorem fl_Alarm_16 : mm_fl "ExpectRows$Alarm" 16 F_Alarm 2 := Or.inl ⟨_, w_420, Or.inl rfl⟩
theorem fl_AlarmL_54 : mm_fl "ExpectRows$AlarmList" 54 F_Alarm 2 := Or.inr ⟨_, w_421⟩
theorem fl_Alarm_19 : mm_fl "ExpectRows$Alarm" 19 F_Alarm 3 := Or.inl ⟨_, w_422, Or.inl rfl⟩
theorem fl_AlarmL_55 : mm_fl "ExpectRows$AlarmList" 55 F_Alarm 3 := Or.inr ⟨_, w_423⟩
theorem fl_Alarm_22 : mm_fl "ExpectRows$Alarm" 22 F_Alarm 4 := Or.inl ⟨_, w_424, Or.inl rfl⟩
theorem fl_AlarmL_56 : mm_fl "ExpectRows$AlarmList" 56 F_Alarm 4 := Or.inr ⟨_, w_425⟩
theorem fl_Mod_72 : mm_fl "ExpectRowsModel" 72 F_Mod 0 := Or.inl ⟨_, w_613, Or.inl rfl⟩
theorem fl_Mod_90 : mm_fl "ExpectRowsModel" 90 F_Mod 1 := Or.inl ⟨_, w_614, Or.inl rfl⟩
theorem fl_Mod_7 : mm_fl "ExpectRowsModel" 7 F_Mod 2 := Or.inl ⟨_, w_615, Or.inl rfl⟩
theorem fl_Mod_13 : mm_fl "ExpectRowsModel" 13 F_Mod 3 := Or.inl ⟨_, w_616, Or.inl rfl⟩
theorem fl_Mod_16 : mm_fl "ExpectRowsModel" 16 F_Mod 4 := Or.inl ⟨_, w_617, Or.inl rfl⟩
theorem fl_Mod_19 : mm_fl "ExpectRowsModel" 19 F_Mod 5 := Or.inl ⟨_, w_618, Or.inl rfl⟩
theorem fl_Mod_23 : mm_fl "ExpectRowsModel" 23 F_Mod 6 := Or.inl ⟨_, w_619, Or.inl rfl⟩
theorem fl_Mod_27 : mm_fl "ExpectRowsModel" 27 F_Mod 7 := Or.inl ⟨_, w_620, Or.inl rfl⟩
theorem fl_Mod_30 : mm_fl "ExpectRowsModel" 30 F_Mod 8 := Or.inl ⟨_, w_621, Or.inl rfl⟩
theorem fl_Mod_33 : mm_fl "ExpectRowsModel" 33 F_Mod 9 := Or.inl ⟨_, w_622, Or.inl rfl⟩
theorem fl_Mod_36 : mm_fl "ExpectRowsModel" 36 F_Mod 10 := Or.inl ⟨_, w_623, Or.inl rfl⟩
theorem fl_Mod_39 : mm_fl "ExpectRowsModel" 39 F_Mod 11 := Or.inl ⟨_, w_624, Or.inl rfl⟩
theorem fl_Mod_42 : mm_fl "ExpectRowsModel" 42 F_Mod 12 := Or.inl ⟨_, w_625, Or.inl rfl⟩
theorem fl_Mod_45 : mm_fl "ExpectRowsModel" 45 F_Mod 13 := Or.inl ⟨_, w_626, Or.inl rfl⟩
theorem fl_Mod_48 : mm_fl "ExpectRowsModel" 48 F_Mod 14 := Or.inl ⟨_, w_627, Or.inl rfl⟩
theorem fl_Mod_51 : mm_fl "ExpectRowsModel" 51 F_Mod 15 := Or.inl ⟨_, w_628, Or.inl rfl⟩
theorem fl_Mod_140 : mm_fl "ExpectRowsModel" 140 F_Mod 16 := Or.inl ⟨_, w_629, Or.inl rfl⟩
theorem fl_Mod_128 : mm_fl "ExpectRowsModel" 128 F_Mod 17 := Or.inl ⟨_, w_630, Or.inl rfl⟩
theorem fl_Mod_125 : mm_fl "ExpectRowsModel" 125 F_Mod 18 := Or.inl ⟨_, w_631, Or.inl rfl⟩
theorem fl_Mod_54 : mm_fl "ExpectRowsModel" 54 F_Mod 19 := Or.inl ⟨_, w_632, Or.inl rfl⟩
theorem fl_Mod_57 : mm_fl "ExpectRowsModel" 57 F_Mod 20 := Or.inl ⟨_, w_633, Or.inl rfl⟩
theorem fl_Mod_60 : mm_fl "ExpectRowsModel" 60 F_Mod 21 := Or.inl ⟨_, w_634, Or.inl rfl⟩
theorem fl_Mod_63 : mm_fl "ExpectRowsModel" 63 F_Mod 22 := Or.inl ⟨_, w_635, Or.inl rfl⟩
theorem fl_Mod_66 : mm_fl "ExpectRowsModel" 66 F_Mod 23 := Or.inl ⟨_, w_636, Or.inl rfl⟩
theorem fl_Mod_99 : mm_fl "ExpectRowsModel" 99 F_Mod 24 := Or.inl ⟨_, w_637, Or.inl rfl⟩
theorem fl_Mod_69 : mm_fl "ExpectRowsModel" 69 F_Mod 25 := Or.inl ⟨_, w_638, Or.inl rfl⟩
theorem fl_AL_63 : mm_fl "java/util/ArrayList" 63 F_AL 0 := Or.inl ⟨_, w_55, Or.inr w_56⟩
theorem lk_Law_15 : mm_lk "ExpectRowsLaw" 15 y_X_init := Or.inl w_26
theorem lk_X_1 : mm_lk "ExpectRows" 1 y_Obj_init := Or.inl w_29
theorem lk_X_9 : mm_lk "ExpectRows" 9 y_RowL_init := Or.inr ⟨_, w_34⟩
theorem lk_RowL_3 : mm_lk "ExpectRows$RowList" 3 y_Obj_init := Or.inl w_37
theorem lk_RowL_11 : mm_lk "ExpectRows$RowList" 11 y_AL_init := Or.inl w_40
theorem lk_AL_1 : mm_lk "java/util/ArrayList" 1 y_AbL_init := Or.inl w_43
theorem lk_AbL_1 : mm_lk "java/util/AbstractList" 1 y_AbC_init := Or.inl w_46
theorem lk_AbC_1 : mm_lk "java/util/AbstractCollection" 1 y_Obj_init := Or.inl w_49
theorem lk_X_18 : mm_lk "ExpectRows" 18 y_Holi_init := Or.inr ⟨_, w_73⟩
theorem lk_Holi_3 : mm_lk "ExpectRows$HolidayList" 3 y_Obj_init := Or.inl w_76
theorem lk_X_25 : mm_lk "ExpectRows" 25 y_AlarmL_init := Or.inr ⟨_, w_87⟩
theorem lk_AlarmL_3 : mm_lk "ExpectRows$AlarmList" 3 y_Obj_init := Or.inl w_90
theorem lk_AlarmL_11 : mm_lk "ExpectRows$AlarmList" 11 y_AL_init := Or.inl w_92
theorem lk_X_32 : mm_lk "ExpectRows" 32 y_Cnts_init := Or.inr ⟨_, w_99⟩
theorem lk_Cnts_3 : mm_lk "ExpectRows$PlaceCounts" 3 y_Obj_init := Or.inl w_102
theorem lk_X_39 : mm_lk "ExpectRows" 39 y_Deliv_init := Or.inr ⟨_, w_113⟩
theorem lk_Deliv_3 : mm_lk "ExpectRows$DeliveryList" 3 y_Obj_init := Or.inl w_116
theorem lk_X_54 : mm_lk "ExpectRows" 54 y_Item_init := Or.inr ⟨_, w_130⟩
theorem lk_Item_3 : mm_lk "ExpectRows$Item" 3 y_Obj_init := Or.inl w_133
theorem lk_Law_21 : mm_lk "ExpectRowsLaw" 21 y_X_rule := Or.inl w_189
theorem lk_X_55 : mm_lk "ExpectRows" 55 y_X_isPlace := Or.inl w_193
theorem lk_X_59 : mm_lk "ExpectRows" 59 y_X_isService := Or.inl w_196
theorem lk_X_64 : mm_lk "ExpectRows" 64 y_RowL_addRow := Or.inr ⟨_, w_200⟩
theorem lk_RowL_21 : mm_lk "ExpectRows$RowList" 21 y_AL_size := Or.inl w_204
theorem lk_RowL_27 : mm_lk "ExpectRows$RowList" 27 y_Row_init := Or.inr ⟨_, w_210⟩
theorem lk_Row_3 : mm_lk "ExpectRows$Row" 3 y_Obj_init := Or.inl w_213
theorem lk_RowL_30 : mm_lk "ExpectRows$RowList" 30 y_AL_add1 := Or.inl w_241
theorem lk_AL_131 : mm_lk "java/util/ArrayList" 131 y_AL_add3 := Or.inl w_245
theorem lk_AL_129 : mm_lk "java/util/ArrayList" 129 y_AL_grow0 := Or.inl w_249
theorem lk_AL_69 : mm_lk "java/util/ArrayList" 69 y_AL_grow1 := Or.inl w_253
theorem lk_AL_73 : mm_lk "java/util/ArrayList" 73 y_ASup_newLength := Or.inl w_257
theorem lk_ASup_194 : mm_lk "jdk/internal/util/ArraysSupport" 194 y_Math_max := Or.inl w_260
theorem lk_ASup_201 : mm_lk "jdk/internal/util/ArraysSupport" 201 y_ASup_hugeLength := Or.inl w_264
theorem lk_AL_66 : mm_lk "java/util/ArrayList" 66 y_Arrs_copyOf2 := Or.inl w_267
theorem lk_Arrs_300 : mm_lk "java/util/Arrays" 300 y_Arrs_copyOf3 := Or.inl w_286
theorem lk_Arrs_304 : mm_lk "java/util/Arrays" 304 y_Math_min := Or.inl w_292
theorem lk_AL_79 : mm_lk "java/util/ArrayList" 79 y_Math_max := Or.inl w_298
theorem lk_Law_26 : mm_lk "ExpectRowsLaw" 26 y_X_event := Or.inl w_300
theorem lk_X_68 : mm_lk "ExpectRows" 68 y_X_isItem := Or.inl w_304
theorem lk_X_71 : mm_lk "ExpectRows" 71 y_Item_mayComeAt := Or.inr ⟨_, w_307⟩
theorem lk_Item_40 : mm_lk "ExpectRows$Item" 40 y_Item_isNew := Or.inl w_312
theorem lk_X_75 : mm_lk "ExpectRows" 75 y_Item_expectNothing := Or.inr ⟨_, w_316⟩
theorem lk_X_78 : mm_lk "ExpectRows" 78 y_Item_daysUntil := Or.inr ⟨_, w_320⟩
theorem lk_X_82 : mm_lk "ExpectRows" 82 y_Deliv_addDelivery := Or.inr ⟨_, w_325⟩
theorem lk_X_86 : mm_lk "ExpectRows" 86 y_Item_beginAnew := Or.inr ⟨_, w_329⟩
theorem lk_X_89 : mm_lk "ExpectRows" 89 y_Item_takeEvent := Or.inr ⟨_, w_333⟩
theorem lk_X_93 : mm_lk "ExpectRows" 93 y_RowL_firstFor := Or.inr ⟨_, w_337⟩
theorem lk_RowL_34 : mm_lk "ExpectRows$RowList" 34 y_AL_get := Or.inl w_341
theorem lk_AL_118 : mm_lk "java/util/ArrayList" 118 y_Objs_checkIndex := Or.inl w_345
theorem lk_Objs_105 : mm_lk "java/util/Objects" 105 y_Prec_checkIndex := Or.inl w_348
theorem lk_AL_123 : mm_lk "java/util/ArrayList" 123 y_AL_elementData := Or.inl w_351
theorem lk_RowL_38 : mm_lk "ExpectRows$RowList" 38 y_Row_isFor := Or.inr ⟨_, w_355⟩
theorem lk_X_97 : mm_lk "ExpectRows" 97 y_X_expectNext := Or.inl w_359
theorem lk_X_176 : mm_lk "ExpectRows" 176 y_RowL_noteFailed := Or.inr ⟨_, w_363⟩
theorem lk_X_187 : mm_lk "ExpectRows" 187 y_Holi_dueAfter := Or.inr ⟨_, w_367⟩
theorem lk_Holi_25 : mm_lk "ExpectRows$HolidayList" 25 y_Math_maxl := Or.inl w_372
theorem lk_X_191 : mm_lk "ExpectRows" 191 y_Item_expect := Or.inr ⟨_, w_375⟩
theorem lk_X_195 : mm_lk "ExpectRows" 195 y_Cnts_addBegun := Or.inr ⟨_, w_379⟩
theorem lk_Cnts_18 : mm_lk "ExpectRows$PlaceCounts" 18 y_X_isPlace := Or.inr ⟨_, w_383⟩
theorem lk_Law_31 : mm_lk "ExpectRowsLaw" 31 y_X_tick := Or.inl w_384
theorem lk_X_103 : mm_lk "ExpectRows" 103 y_AlarmL_size := Or.inr ⟨_, w_389⟩
theorem lk_AlarmL_18 : mm_lk "ExpectRows$AlarmList" 18 y_AL_size := Or.inl w_393
theorem lk_X_107 : mm_lk "ExpectRows" 107 y_X_tellLate := Or.inl w_394
theorem lk_X_199 : mm_lk "ExpectRows" 199 y_Item_isExpected := Or.inr ⟨_, w_398⟩
theorem lk_X_212 : mm_lk "ExpectRows" 212 y_Cnts_addLate := Or.inr ⟨_, w_402⟩
theorem lk_X_215 : mm_lk "ExpectRows" 215 y_AlarmL_addAlarm := Or.inr ⟨_, w_406⟩
theorem lk_AlarmL_37 : mm_lk "ExpectRows$AlarmList" 37 y_Alarm_init := Or.inr ⟨_, w_412⟩
theorem lk_Alarm_1 : mm_lk "ExpectRows$Alarm" 1 y_Obj_init := Or.inl w_415
theorem lk_AlarmL_40 : mm_lk "ExpectRows$AlarmList" 40 y_AL_add1 := Or.inl w_437
theorem lk_X_111 : mm_lk "ExpectRows" 111 y_X_tellLost := Or.inl w_438
theorem lk_Law_36 : mm_lk "ExpectRowsLaw" 36 y_X_alarm := Or.inl w_443
theorem lk_X_114 : mm_lk "ExpectRows" 114 y_AlarmL_partOf := Or.inr ⟨_, w_447⟩
theorem lk_AlarmL_44 : mm_lk "ExpectRows$AlarmList" 44 y_AL_get := Or.inl w_451
theorem lk_Law_41 : mm_lk "ExpectRowsLaw" 41 y_X_state := Or.inl w_452
theorem lk_X_118 : mm_lk "ExpectRows" 118 y_Item_toldState := Or.inr ⟨_, w_456⟩
theorem lk_Law_46 : mm_lk "ExpectRowsLaw" 46 y_X_holiday := Or.inl w_460
theorem lk_X_123 : mm_lk "ExpectRows" 123 y_Holi_addDay := Or.inr ⟨_, w_465⟩
theorem lk_Holi_19 : mm_lk "ExpectRows$HolidayList" 19 y_Holi_holds := Or.inl w_469
theorem lk_Law_60 : mm_lk "ExpectRowsLaw" 60 y_X_percentile := Or.inl w_473
theorem lk_X_147 : mm_lk "ExpectRows" 147 y_Deliv_countOf := Or.inr ⟨_, w_478⟩
theorem lk_X_150 : mm_lk "ExpectRows" 150 y_Math_max := Or.inl w_482
theorem lk_X_155 : mm_lk "ExpectRows" 155 y_Deliv_daysAtRank := Or.inr ⟨_, w_483⟩
theorem lk_Law_64 : mm_lk "ExpectRowsLaw" 64 y_X_found := Or.inl w_487
theorem lk_Law_69 : mm_lk "ExpectRowsLaw" 69 y_X_cluster := Or.inl w_491
theorem lk_X_165 : mm_lk "ExpectRows" 165 y_Cnts_clusterPlace := Or.inr ⟨_, w_495⟩
theorem lk_Cnts_26 : mm_lk "ExpectRows$PlaceCounts" 26 y_Cnts_isCluster := Or.inl w_499
theorem lk_Cnts_22 : mm_lk "ExpectRows$PlaceCounts" 22 y_Cnts_lateAt := Or.inl w_503
theorem lk_Cnts_29 : mm_lk "ExpectRows$PlaceCounts" 29 y_Cnts_clustersBefore := Or.inl w_507
theorem lk_Cnts_32 : mm_lk "ExpectRows$PlaceCounts" 32 y_Cnts_comesBefore := Or.inl w_511
theorem lk_Cnts_36 : mm_lk "ExpectRows$PlaceCounts" 36 y_Cnts_begunAt := Or.inl w_515
theorem lk_X_130 : mm_lk "ExpectRows" 130 y_Cnts_lateAt := Or.inr ⟨_, w_519⟩
theorem lk_X_134 : mm_lk "ExpectRows" 134 y_Cnts_begunAt := Or.inr ⟨_, w_520⟩
theorem lk_Law_73 : mm_lk "ExpectRowsLaw" 73 y_X_failing := Or.inl w_521
theorem lk_X_168 : mm_lk "ExpectRows" 168 y_RowL_failedRow := Or.inr ⟨_, w_525⟩
theorem lk_Law_50 : mm_lk "ExpectRowsLaw" 50 y_Law_share := Or.inl w_529
theorem lk_Law_7 : mm_lk "ExpectRowsLaw" 7 y_X_share := Or.inl w_533
theorem lk_Thr_1 : mm_lk "java/lang/Throwable" 1 y_Obj_init := Or.inl w_563
theorem lk_Thr_27 : mm_lk "java/lang/Throwable" 27 y_Thr_fillInStackTrace := Or.inl w_568
theorem lk_X_141 : mm_lk "ExpectRows" 141 y_ArE_init := Or.inl w_578
theorem lk_ArE_7 : mm_lk "java/lang/ArithmeticException" 7 y_RtE_init := Or.inl w_581
theorem lk_RtE_7 : mm_lk "java/lang/RuntimeException" 7 y_Exc_init := Or.inl w_584
theorem lk_Exc_7 : mm_lk "java/lang/Exception" 7 y_Thr_initS := Or.inl w_587
theorem lk_X_144 : mm_lk "ExpectRows" 144 y_X_commonDivisor := Or.inl w_604
theorem lk_Law_18 : mm_lk "ExpectRowsLaw" 18 y_Mod_init := Or.inl w_609
theorem lk_Mod_1 : mm_lk "ExpectRowsModel" 1 y_Obj_init := Or.inl w_612
theorem lk_Law_56 : mm_lk "ExpectRowsLaw" 56 y_Mod_thrown := Or.inl w_693
theorem lk_Law_25 : mm_lk "ExpectRowsLaw" 25 y_Mod_rule := Or.inl w_697
theorem lk_Mod_78 : mm_lk "ExpectRowsModel" 78 y_Mod_isIn := Or.inl w_702
theorem lk_Law_30 : mm_lk "ExpectRowsLaw" 30 y_Mod_event := Or.inl w_709
theorem lk_Mod_106 : mm_lk "ExpectRowsModel" 106 y_Mod_isTime := Or.inl w_715
theorem lk_Mod_110 : mm_lk "ExpectRowsModel" 110 y_Mod_end := Or.inl w_720
theorem lk_Mod_114 : mm_lk "ExpectRowsModel" 114 y_Mod_rowFor := Or.inl w_725
theorem lk_Mod_118 : mm_lk "ExpectRowsModel" 118 y_Mod_fails := Or.inl w_729
theorem lk_Mod_121 : mm_lk "ExpectRowsModel" 121 y_Mod_behind := Or.inl w_733
theorem lk_Law_35 : mm_lk "ExpectRowsLaw" 35 y_Mod_tick := Or.inl w_738
theorem lk_Mod_134 : mm_lk "ExpectRowsModel" 134 y_Mod_tell := Or.inl w_743
theorem lk_Law_40 : mm_lk "ExpectRowsLaw" 40 y_Mod_alarm := Or.inl w_748
theorem lk_Law_45 : mm_lk "ExpectRowsLaw" 45 y_Mod_state := Or.inl w_752
theorem lk_Law_49 : mm_lk "ExpectRowsLaw" 49 y_Mod_holiday := Or.inl w_756
theorem lk_Law_55 : mm_lk "ExpectRowsLaw" 55 y_Mod_share := Or.inl w_760
theorem lk_Law_63 : mm_lk "ExpectRowsLaw" 63 y_Mod_percentile := Or.inl w_766
theorem lk_Law_68 : mm_lk "ExpectRowsLaw" 68 y_Mod_found := Or.inl w_772
theorem lk_Law_72 : mm_lk "ExpectRowsLaw" 72 y_Mod_cluster := Or.inl w_776
theorem lk_Mod_150 : mm_lk "ExpectRowsModel" 150 y_Mod_isBefore := Or.inl w_780
theorem lk_Law_76 : mm_lk "ExpectRowsLaw" 76 y_Mod_failing := Or.inl w_784
theorem me_X_init : mm_me y_X_init b_X_init 2 none 0 := ⟨w_28, w_1, by decide +kernel, by decide +kernel, by decide +kernel⟩
theorem in_X_init : y_X_init.name = "<init>" ∧ Cond.instanceMethod y_X_init ∈ GW := ⟨rfl, w_27⟩
theorem me_RowL_init : mm_me y_RowL_init b_RowL_init 1 none 0 := ⟨w_36, w_2, by decide +kernel, by decide +kernel, by decide +kernel⟩
theorem in_RowL_init : y_RowL_init.name = "<init>" ∧ Cond.instanceMethod y_RowL_init ∈ GW := ⟨rfl, w_35⟩
theorem me_AL_init : mm_me y_AL_init b_AL_init 1 none 0 := ⟨w_42, w_5, by decide +kernel, by decide +kernel, by decide +kernel⟩
theorem in_AL_init : y_AL_init.name = "<init>" ∧ Cond.instanceMethod y_AL_init ∈ GW := ⟨rfl, w_41⟩
theorem me_AbL_init : mm_me y_AbL_init b_AbL_init 1 none 0 := ⟨w_45, w_4, by decide +kernel, by decide +kernel, by decide +kernel⟩
theorem in_AbL_init : y_AbL_init.name = "<init>" ∧ Cond.instanceMethod y_AbL_init ∈ GW := ⟨rfl, w_44⟩
theorem me_AbC_init : mm_me y_AbC_init b_AbC_init 1 none 0 := ⟨w_48, w_3, by decide +kernel, by decide +kernel, by decide +kernel⟩
theorem in_AbC_init : y_AbC_init.name = "<init>" ∧ Cond.instanceMethod y_AbC_init ∈ GW := ⟨rfl, w_47⟩
theorem me_Holi_init : mm_me y_Holi_init b_Holi_init 1 none 0 := ⟨w_75, w_6, by decide +kernel, by decide +kernel, by decide +kernel⟩
theorem in_Holi_init : y_Holi_init.name = "<init>" ∧ Cond.instanceMethod y_Holi_init ∈ GW := ⟨rfl, w_74⟩
theorem me_AlarmL_init : mm_me y_AlarmL_init b_AlarmL_init 1 none 0 := ⟨w_89, w_7, by decide +kernel, by decide +kernel, by decide +kernel⟩
theorem in_AlarmL_init : y_AlarmL_init.name = "<init>" ∧ Cond.instanceMethod y_AlarmL_init ∈ GW := ⟨rfl, w_88⟩
theorem me_Cnts_init : mm_me y_Cnts_init b_Cnts_init 1 none 0 := ⟨w_101, w_8, by decide +kernel, by decide +kernel, by decide +kernel⟩
theorem in_Cnts_init : y_Cnts_init.name = "<init>" ∧ Cond.instanceMethod y_Cnts_init ∈ GW := ⟨rfl, w_100⟩
theorem me_Deliv_init : mm_me y_Deliv_init b_Deliv_init 1 none 0 := ⟨w_115, w_9, by decide +kernel, by decide +kernel, by decide +kernel⟩
theorem in_Deliv_init : y_Deliv_init.name = "<init>" ∧ Cond.instanceMethod y_Deliv_init ∈ GW := ⟨rfl, w_114⟩
theorem me_Item_init : mm_me y_Item_init b_Item_init 1 none 0 := ⟨w_132, w_10, by decide +kernel, by decide +kernel, by decide +kernel⟩
theorem in_Item_init : y_Item_init.name = "<init>" ∧ Cond.instanceMethod y_Item_init ∈ GW := ⟨rfl, w_131⟩
theorem me_X_rule : mm_me y_X_rule b_X_rule 7 (some .int) 5 := ⟨w_192, w_1, by decide +kernel, by decide +kernel, by decide +kernel⟩
theorem in_X_rule : Cond.instanceMethod y_X_rule ∈ GW ∧ Cond.selects y_X_rule.cls y_X_rule y_X_rule ∈ GW := ⟨w_190, w_191⟩
theorem me_X_isPlace : mm_me y_X_isPlace b_X_isPlace 1 (some .boolean) 1 := ⟨w_195, w_1, by decide +kernel, by decide +kernel, by decide +kernel⟩
theorem st_X_isPlace : Cond.static y_X_isPlace ∈ GW := w_194
theorem me_X_isService : mm_me y_X_isService b_X_isService 1 (some .boolean) 1 := ⟨w_198, w_1, by decide +kernel, by decide +kernel, by decide +kernel⟩
theorem st_X_isService : Cond.static y_X_isService ∈ GW := w_197
theorem me_RowL_addRow : mm_me y_RowL_addRow b_RowL_addRow 8 (some .int) 5 := ⟨w_203, w_2, by decide +kernel, by decide +kernel, by decide +kernel⟩
theorem in_RowL_addRow : Cond.instanceMethod y_RowL_addRow ∈ GW ∧ Cond.selects y_RowL_addRow.cls y_RowL_addRow y_RowL_addRow ∈ GW := ⟨w_202, s_0⟩
theorem me_AL_size : mm_me y_AL_size b_AL_size 1 (some .int) 0 := ⟨w_207, w_5, by decide +kernel, by decide +kernel, by decide +kernel⟩
theorem in_AL_size : Cond.instanceMethod y_AL_size ∈ GW ∧ Cond.selects y_AL_size.cls y_AL_size y_AL_size ∈ GW := ⟨w_205, w_206⟩
theorem me_Row_init : mm_me y_Row_init b_Row_init 8 none 6 := ⟨w_212, w_12, by decide +kernel, by decide +kernel, by decide +kernel⟩
theorem in_Row_init : y_Row_init.name = "<init>" ∧ Cond.instanceMethod y_Row_init ∈ GW := ⟨rfl, w_211⟩
theorem me_AL_add1 : mm_me y_AL_add1 b_AL_add1 2 (some .boolean) 1 := ⟨w_244, w_5, by decide +kernel, by decide +kernel, by decide +kernel⟩
theorem in_AL_add1 : Cond.instanceMethod y_AL_add1 ∈ GW ∧ Cond.selects y_AL_add1.cls y_AL_add1 y_AL_add1 ∈ GW := ⟨w_242, w_243⟩
theorem me_AL_add3 : mm_me y_AL_add3 b_AL_add3 4 none 3 := ⟨w_248, w_5, by decide +kernel, by decide +kernel, by decide +kernel⟩
theorem in_AL_add3 : Cond.instanceMethod y_AL_add3 ∈ GW ∧ Cond.selects y_AL_add3.cls y_AL_add3 y_AL_add3 ∈ GW := ⟨w_247, s_1⟩
theorem me_AL_grow0 : mm_me y_AL_grow0 b_AL_grow0 1 (some (.array (.object "java/lang/Object"))) 0 := ⟨w_252, w_5, by decide +kernel, by decide +kernel, by decide +kernel⟩
theorem in_AL_grow0 : Cond.instanceMethod y_AL_grow0 ∈ GW ∧ Cond.selects y_AL_grow0.cls y_AL_grow0 y_AL_grow0 ∈ GW := ⟨w_251, s_2⟩
theorem me_AL_grow1 : mm_me y_AL_grow1 b_AL_grow1 4 (some (.array (.object "java/lang/Object"))) 1 := ⟨w_256, w_5, by decide +kernel, by decide +kernel, by decide +kernel⟩
theorem in_AL_grow1 : Cond.instanceMethod y_AL_grow1 ∈ GW ∧ Cond.selects y_AL_grow1.cls y_AL_grow1 y_AL_grow1 ∈ GW := ⟨w_255, s_3⟩
theorem me_ASup_newLength : mm_me y_ASup_newLength b_ASup_newLength 4 (some .int) 3 := ⟨w_259, w_13, by decide +kernel, by decide +kernel, by decide +kernel⟩
theorem st_ASup_newLength : Cond.static y_ASup_newLength ∈ GW := w_258
theorem me_Math_max : mm_me y_Math_max b_Math_max 2 (some .int) 2 := ⟨w_262, w_14, by decide +kernel, by decide +kernel, by decide +kernel⟩
theorem st_Math_max : Cond.static y_Math_max ∈ GW := w_261
theorem me_ASup_hugeLength : mm_me y_ASup_hugeLength b_ASup_hugeLength 3 (some .int) 2 := ⟨w_266, w_13, by decide +kernel, by decide +kernel, by decide +kernel⟩
theorem st_ASup_hugeLength : Cond.static y_ASup_hugeLength ∈ GW := w_265
theorem me_Arrs_copyOf2 : mm_me y_Arrs_copyOf2 b_Arrs_copyOf2 2 (some (.array (.object "java/lang/Object"))) 2 := ⟨w_269, w_15, by decide +kernel, by decide +kernel, by decide +kernel⟩
theorem st_Arrs_copyOf2 : Cond.static y_Arrs_copyOf2 ∈ GW := w_268
theorem me_Arrs_copyOf3 : mm_me y_Arrs_copyOf3 b_Arrs_copyOf3 4 (some (.array (.object "java/lang/Object"))) 3 := ⟨w_288, w_15, by decide +kernel, by decide +kernel, by decide +kernel⟩
theorem st_Arrs_copyOf3 : Cond.static y_Arrs_copyOf3 ∈ GW := w_287
theorem me_Math_min : mm_me y_Math_min b_Math_min 2 (some .int) 2 := ⟨w_294, w_14, by decide +kernel, by decide +kernel, by decide +kernel⟩
theorem st_Math_min : Cond.static y_Math_min ∈ GW := w_293
theorem me_X_event : mm_me y_X_event b_X_event 8 (some .int) 5 := ⟨w_303, w_1, by decide +kernel, by decide +kernel, by decide +kernel⟩
theorem in_X_event : Cond.instanceMethod y_X_event ∈ GW ∧ Cond.selects y_X_event.cls y_X_event y_X_event ∈ GW := ⟨w_301, w_302⟩
theorem me_X_isItem : mm_me y_X_isItem b_X_isItem 1 (some .boolean) 1 := ⟨w_306, w_1, by decide +kernel, by decide +kernel, by decide +kernel⟩
theorem st_X_isItem : Cond.static y_X_isItem ∈ GW := w_305
theorem me_Item_mayComeAt : mm_me y_Item_mayComeAt b_Item_mayComeAt 3 (some .boolean) 1 := ⟨w_310, w_10, by decide +kernel, by decide +kernel, by decide +kernel⟩
theorem in_Item_mayComeAt : Cond.instanceMethod y_Item_mayComeAt ∈ GW ∧ Cond.selects y_Item_mayComeAt.cls y_Item_mayComeAt y_Item_mayComeAt ∈ GW := ⟨w_309, s_4⟩
theorem me_Item_isNew : mm_me y_Item_isNew b_Item_isNew 1 (some .boolean) 0 := ⟨w_315, w_10, by decide +kernel, by decide +kernel, by decide +kernel⟩
theorem in_Item_isNew : Cond.instanceMethod y_Item_isNew ∈ GW ∧ Cond.selects y_Item_isNew.cls y_Item_isNew y_Item_isNew ∈ GW := ⟨w_314, s_5⟩
theorem me_Item_expectNothing : mm_me y_Item_expectNothing b_Item_expectNothing 1 none 0 := ⟨w_319, w_10, by decide +kernel, by decide +kernel, by decide +kernel⟩
theorem in_Item_expectNothing : Cond.instanceMethod y_Item_expectNothing ∈ GW ∧ Cond.selects y_Item_expectNothing.cls y_Item_expectNothing y_Item_expectNothing ∈ GW := ⟨w_318, s_6⟩
theorem me_Item_daysUntil : mm_me y_Item_daysUntil b_Item_daysUntil 3 (some .int) 1 := ⟨w_323, w_10, by decide +kernel, by decide +kernel, by decide +kernel⟩
theorem in_Item_daysUntil : Cond.instanceMethod y_Item_daysUntil ∈ GW ∧ Cond.selects y_Item_daysUntil.cls y_Item_daysUntil y_Item_daysUntil ∈ GW := ⟨w_322, s_7⟩
theorem me_Deliv_addDelivery : mm_me y_Deliv_addDelivery b_Deliv_addDelivery 4 none 2 := ⟨w_328, w_9, by decide +kernel, by decide +kernel, by decide +kernel⟩
theorem in_Deliv_addDelivery : Cond.instanceMethod y_Deliv_addDelivery ∈ GW ∧ Cond.selects y_Deliv_addDelivery.cls y_Deliv_addDelivery y_Deliv_addDelivery ∈ GW := ⟨w_327, s_8⟩
theorem me_Item_beginAnew : mm_me y_Item_beginAnew b_Item_beginAnew 1 none 0 := ⟨w_332, w_10, by decide +kernel, by decide +kernel, by decide +kernel⟩
theorem in_Item_beginAnew : Cond.instanceMethod y_Item_beginAnew ∈ GW ∧ Cond.selects y_Item_beginAnew.cls y_Item_beginAnew y_Item_beginAnew ∈ GW := ⟨w_331, s_9⟩
theorem me_Item_takeEvent : mm_me y_Item_takeEvent b_Item_takeEvent 4 none 2 := ⟨w_336, w_10, by decide +kernel, by decide +kernel, by decide +kernel⟩
theorem in_Item_takeEvent : Cond.instanceMethod y_Item_takeEvent ∈ GW ∧ Cond.selects y_Item_takeEvent.cls y_Item_takeEvent y_Item_takeEvent ∈ GW := ⟨w_335, s_10⟩
theorem me_RowL_firstFor : mm_me y_RowL_firstFor b_RowL_firstFor 6 (some (.object "ExpectRows$Row")) 3 := ⟨w_340, w_2, by decide +kernel, by decide +kernel, by decide +kernel⟩
theorem in_RowL_firstFor : Cond.instanceMethod y_RowL_firstFor ∈ GW ∧ Cond.selects y_RowL_firstFor.cls y_RowL_firstFor y_RowL_firstFor ∈ GW := ⟨w_339, s_11⟩
theorem me_AL_get : mm_me y_AL_get b_AL_get 2 (some (.object "java/lang/Object")) 1 := ⟨w_344, w_5, by decide +kernel, by decide +kernel, by decide +kernel⟩
theorem in_AL_get : Cond.instanceMethod y_AL_get ∈ GW ∧ Cond.selects y_AL_get.cls y_AL_get y_AL_get ∈ GW := ⟨w_342, w_343⟩
theorem me_Objs_checkIndex : mm_me y_Objs_checkIndex b_Objs_checkIndex 2 (some .int) 2 := ⟨w_347, w_17, by decide +kernel, by decide +kernel, by decide +kernel⟩
theorem st_Objs_checkIndex : Cond.static y_Objs_checkIndex ∈ GW := w_346
theorem me_Prec_checkIndex : mm_me y_Prec_checkIndex b_Prec_checkIndex 3 (some .int) 3 := ⟨w_350, w_18, by decide +kernel, by decide +kernel, by decide +kernel⟩
theorem st_Prec_checkIndex : Cond.static y_Prec_checkIndex ∈ GW := w_349
theorem me_AL_elementData : mm_me y_AL_elementData b_AL_elementData 2 (some (.object "java/lang/Object")) 1 := ⟨w_354, w_5, by decide +kernel, by decide +kernel, by decide +kernel⟩
theorem in_AL_elementData : Cond.instanceMethod y_AL_elementData ∈ GW ∧ Cond.selects y_AL_elementData.cls y_AL_elementData y_AL_elementData ∈ GW := ⟨w_352, w_353⟩
theorem me_Row_isFor : mm_me y_Row_isFor b_Row_isFor 4 (some .boolean) 3 := ⟨w_358, w_12, by decide +kernel, by decide +kernel, by decide +kernel⟩
theorem in_Row_isFor : Cond.instanceMethod y_Row_isFor ∈ GW ∧ Cond.selects y_Row_isFor.cls y_Row_isFor y_Row_isFor ∈ GW := ⟨w_357, s_12⟩
theorem me_X_expectNext : mm_me y_X_expectNext b_X_expectNext 6 (some .int) 4 := ⟨w_362, w_1, by decide +kernel, by decide +kernel, by decide +kernel⟩
theorem in_X_expectNext : Cond.instanceMethod y_X_expectNext ∈ GW ∧ Cond.selects y_X_expectNext.cls y_X_expectNext y_X_expectNext ∈ GW := ⟨w_361, s_13⟩
theorem me_RowL_noteFailed : mm_me y_RowL_noteFailed b_RowL_noteFailed 2 none 1 := ⟨w_366, w_2, by decide +kernel, by decide +kernel, by decide +kernel⟩
theorem in_RowL_noteFailed : Cond.instanceMethod y_RowL_noteFailed ∈ GW ∧ Cond.selects y_RowL_noteFailed.cls y_RowL_noteFailed y_RowL_noteFailed ∈ GW := ⟨w_365, s_14⟩
theorem me_Holi_dueAfter : mm_me y_Holi_dueAfter b_Holi_dueAfter 12 (some .long) 2 := ⟨w_370, w_6, by decide +kernel, by decide +kernel, by decide +kernel⟩
theorem in_Holi_dueAfter : Cond.instanceMethod y_Holi_dueAfter ∈ GW ∧ Cond.selects y_Holi_dueAfter.cls y_Holi_dueAfter y_Holi_dueAfter ∈ GW := ⟨w_369, s_15⟩
theorem me_Math_maxl : mm_me y_Math_maxl b_Math_maxl 4 (some .long) 2 := ⟨w_374, w_14, by decide +kernel, by decide +kernel, by decide +kernel⟩
theorem st_Math_maxl : Cond.static y_Math_maxl ∈ GW := w_373
theorem me_Item_expect : mm_me y_Item_expect b_Item_expect 5 none 3 := ⟨w_378, w_10, by decide +kernel, by decide +kernel, by decide +kernel⟩
theorem in_Item_expect : Cond.instanceMethod y_Item_expect ∈ GW ∧ Cond.selects y_Item_expect.cls y_Item_expect y_Item_expect ∈ GW := ⟨w_377, s_16⟩
theorem me_Cnts_addBegun : mm_me y_Cnts_addBegun b_Cnts_addBegun 2 none 1 := ⟨w_382, w_8, by decide +kernel, by decide +kernel, by decide +kernel⟩
theorem in_Cnts_addBegun : Cond.instanceMethod y_Cnts_addBegun ∈ GW ∧ Cond.selects y_Cnts_addBegun.cls y_Cnts_addBegun y_Cnts_addBegun ∈ GW := ⟨w_381, s_17⟩
theorem me_X_tick : mm_me y_X_tick b_X_tick 5 (some .int) 1 := ⟨w_387, w_1, by decide +kernel, by decide +kernel, by decide +kernel⟩
theorem in_X_tick : Cond.instanceMethod y_X_tick ∈ GW ∧ Cond.selects y_X_tick.cls y_X_tick y_X_tick ∈ GW := ⟨w_385, w_386⟩
theorem me_AlarmL_size : mm_me y_AlarmL_size b_AlarmL_size 1 (some .int) 0 := ⟨w_392, w_7, by decide +kernel, by decide +kernel, by decide +kernel⟩
theorem in_AlarmL_size : Cond.instanceMethod y_AlarmL_size ∈ GW ∧ Cond.selects y_AlarmL_size.cls y_AlarmL_size y_AlarmL_size ∈ GW := ⟨w_391, s_18⟩
theorem me_X_tellLate : mm_me y_X_tellLate b_X_tellLate 3 none 2 := ⟨w_397, w_1, by decide +kernel, by decide +kernel, by decide +kernel⟩
theorem in_X_tellLate : Cond.instanceMethod y_X_tellLate ∈ GW ∧ Cond.selects y_X_tellLate.cls y_X_tellLate y_X_tellLate ∈ GW := ⟨w_396, s_19⟩
theorem me_Item_isExpected : mm_me y_Item_isExpected b_Item_isExpected 1 (some .boolean) 0 := ⟨w_401, w_10, by decide +kernel, by decide +kernel, by decide +kernel⟩
theorem in_Item_isExpected : Cond.instanceMethod y_Item_isExpected ∈ GW ∧ Cond.selects y_Item_isExpected.cls y_Item_isExpected y_Item_isExpected ∈ GW := ⟨w_400, s_20⟩
theorem me_Cnts_addLate : mm_me y_Cnts_addLate b_Cnts_addLate 2 none 1 := ⟨w_405, w_8, by decide +kernel, by decide +kernel, by decide +kernel⟩
theorem in_Cnts_addLate : Cond.instanceMethod y_Cnts_addLate ∈ GW ∧ Cond.selects y_Cnts_addLate.cls y_Cnts_addLate y_Cnts_addLate ∈ GW := ⟨w_404, s_21⟩
theorem me_AlarmL_addAlarm : mm_me y_AlarmL_addAlarm b_AlarmL_addAlarm 4 none 3 := ⟨w_409, w_7, by decide +kernel, by decide +kernel, by decide +kernel⟩
theorem in_AlarmL_addAlarm : Cond.instanceMethod y_AlarmL_addAlarm ∈ GW ∧ Cond.selects y_AlarmL_addAlarm.cls y_AlarmL_addAlarm y_AlarmL_addAlarm ∈ GW := ⟨w_408, s_22⟩
theorem me_Alarm_init : mm_me y_Alarm_init b_Alarm_init 6 none 5 := ⟨w_414, w_19, by decide +kernel, by decide +kernel, by decide +kernel⟩
theorem in_Alarm_init : y_Alarm_init.name = "<init>" ∧ Cond.instanceMethod y_Alarm_init ∈ GW := ⟨rfl, w_413⟩
theorem me_X_tellLost : mm_me y_X_tellLost b_X_tellLost 3 none 2 := ⟨w_441, w_1, by decide +kernel, by decide +kernel, by decide +kernel⟩
theorem in_X_tellLost : Cond.instanceMethod y_X_tellLost ∈ GW ∧ Cond.selects y_X_tellLost.cls y_X_tellLost y_X_tellLost ∈ GW := ⟨w_440, s_23⟩
theorem me_X_alarm : mm_me y_X_alarm b_X_alarm 3 (some .int) 2 := ⟨w_446, w_1, by decide +kernel, by decide +kernel, by decide +kernel⟩
theorem in_X_alarm : Cond.instanceMethod y_X_alarm ∈ GW ∧ Cond.selects y_X_alarm.cls y_X_alarm y_X_alarm ∈ GW := ⟨w_444, w_445⟩
theorem me_AlarmL_partOf : mm_me y_AlarmL_partOf b_AlarmL_partOf 4 (some .int) 2 := ⟨w_450, w_7, by decide +kernel, by decide +kernel, by decide +kernel⟩
theorem in_AlarmL_partOf : Cond.instanceMethod y_AlarmL_partOf ∈ GW ∧ Cond.selects y_AlarmL_partOf.cls y_AlarmL_partOf y_AlarmL_partOf ∈ GW := ⟨w_449, s_24⟩
theorem me_X_state : mm_me y_X_state b_X_state 2 (some .int) 1 := ⟨w_455, w_1, by decide +kernel, by decide +kernel, by decide +kernel⟩
theorem in_X_state : Cond.instanceMethod y_X_state ∈ GW ∧ Cond.selects y_X_state.cls y_X_state y_X_state ∈ GW := ⟨w_453, w_454⟩
theorem me_Item_toldState : mm_me y_Item_toldState b_Item_toldState 1 (some .int) 0 := ⟨w_459, w_10, by decide +kernel, by decide +kernel, by decide +kernel⟩
theorem in_Item_toldState : Cond.instanceMethod y_Item_toldState ∈ GW ∧ Cond.selects y_Item_toldState.cls y_Item_toldState y_Item_toldState ∈ GW := ⟨w_458, s_25⟩
theorem me_X_holiday : mm_me y_X_holiday b_X_holiday 3 (some .int) 1 := ⟨w_463, w_1, by decide +kernel, by decide +kernel, by decide +kernel⟩
theorem in_X_holiday : Cond.instanceMethod y_X_holiday ∈ GW ∧ Cond.selects y_X_holiday.cls y_X_holiday y_X_holiday ∈ GW := ⟨w_461, w_462⟩
theorem me_Holi_addDay : mm_me y_Holi_addDay b_Holi_addDay 4 (some .int) 1 := ⟨w_468, w_6, by decide +kernel, by decide +kernel, by decide +kernel⟩
theorem in_Holi_addDay : Cond.instanceMethod y_Holi_addDay ∈ GW ∧ Cond.selects y_Holi_addDay.cls y_Holi_addDay y_Holi_addDay ∈ GW := ⟨w_467, s_26⟩
theorem me_Holi_holds : mm_me y_Holi_holds b_Holi_holds 4 (some .boolean) 1 := ⟨w_472, w_6, by decide +kernel, by decide +kernel, by decide +kernel⟩
theorem in_Holi_holds : Cond.instanceMethod y_Holi_holds ∈ GW ∧ Cond.selects y_Holi_holds.cls y_Holi_holds y_Holi_holds ∈ GW := ⟨w_471, s_27⟩
theorem me_X_percentile : mm_me y_X_percentile b_X_percentile 5 (some .long) 2 := ⟨w_476, w_1, by decide +kernel, by decide +kernel, by decide +kernel⟩
theorem in_X_percentile : Cond.instanceMethod y_X_percentile ∈ GW ∧ Cond.selects y_X_percentile.cls y_X_percentile y_X_percentile ∈ GW := ⟨w_474, w_475⟩
theorem me_Deliv_countOf : mm_me y_Deliv_countOf b_Deliv_countOf 4 (some .int) 1 := ⟨w_481, w_9, by decide +kernel, by decide +kernel, by decide +kernel⟩
theorem in_Deliv_countOf : Cond.instanceMethod y_Deliv_countOf ∈ GW ∧ Cond.selects y_Deliv_countOf.cls y_Deliv_countOf y_Deliv_countOf ∈ GW := ⟨w_480, s_28⟩
theorem me_Deliv_daysAtRank : mm_me y_Deliv_daysAtRank b_Deliv_daysAtRank 5 (some .int) 2 := ⟨w_486, w_9, by decide +kernel, by decide +kernel, by decide +kernel⟩
theorem in_Deliv_daysAtRank : Cond.instanceMethod y_Deliv_daysAtRank ∈ GW ∧ Cond.selects y_Deliv_daysAtRank.cls y_Deliv_daysAtRank y_Deliv_daysAtRank ∈ GW := ⟨w_485, s_29⟩
theorem me_X_found : mm_me y_X_found b_X_found 5 (some .int) 2 := ⟨w_490, w_1, by decide +kernel, by decide +kernel, by decide +kernel⟩
theorem in_X_found : Cond.instanceMethod y_X_found ∈ GW ∧ Cond.selects y_X_found.cls y_X_found y_X_found ∈ GW := ⟨w_488, w_489⟩
theorem me_X_cluster : mm_me y_X_cluster b_X_cluster 4 (some .int) 2 := ⟨w_494, w_1, by decide +kernel, by decide +kernel, by decide +kernel⟩
theorem in_X_cluster : Cond.instanceMethod y_X_cluster ∈ GW ∧ Cond.selects y_X_cluster.cls y_X_cluster y_X_cluster ∈ GW := ⟨w_492, w_493⟩
theorem me_Cnts_clusterPlace : mm_me y_Cnts_clusterPlace b_Cnts_clusterPlace 3 (some .int) 1 := ⟨w_498, w_8, by decide +kernel, by decide +kernel, by decide +kernel⟩
theorem in_Cnts_clusterPlace : Cond.instanceMethod y_Cnts_clusterPlace ∈ GW ∧ Cond.selects y_Cnts_clusterPlace.cls y_Cnts_clusterPlace y_Cnts_clusterPlace ∈ GW := ⟨w_497, s_30⟩
theorem me_Cnts_isCluster : mm_me y_Cnts_isCluster b_Cnts_isCluster 2 (some .boolean) 1 := ⟨w_502, w_8, by decide +kernel, by decide +kernel, by decide +kernel⟩
theorem in_Cnts_isCluster : Cond.instanceMethod y_Cnts_isCluster ∈ GW ∧ Cond.selects y_Cnts_isCluster.cls y_Cnts_isCluster y_Cnts_isCluster ∈ GW := ⟨w_501, s_31⟩
theorem me_Cnts_lateAt : mm_me y_Cnts_lateAt b_Cnts_lateAt 2 (some .int) 1 := ⟨w_506, w_8, by decide +kernel, by decide +kernel, by decide +kernel⟩
theorem in_Cnts_lateAt : Cond.instanceMethod y_Cnts_lateAt ∈ GW ∧ Cond.selects y_Cnts_lateAt.cls y_Cnts_lateAt y_Cnts_lateAt ∈ GW := ⟨w_505, s_32⟩
theorem me_Cnts_clustersBefore : mm_me y_Cnts_clustersBefore b_Cnts_clustersBefore 4 (some .int) 1 := ⟨w_510, w_8, by decide +kernel, by decide +kernel, by decide +kernel⟩
theorem in_Cnts_clustersBefore : Cond.instanceMethod y_Cnts_clustersBefore ∈ GW ∧ Cond.selects y_Cnts_clustersBefore.cls y_Cnts_clustersBefore y_Cnts_clustersBefore ∈ GW := ⟨w_509, s_33⟩
theorem me_Cnts_comesBefore : mm_me y_Cnts_comesBefore b_Cnts_comesBefore 7 (some .boolean) 2 := ⟨w_514, w_8, by decide +kernel, by decide +kernel, by decide +kernel⟩
theorem in_Cnts_comesBefore : Cond.instanceMethod y_Cnts_comesBefore ∈ GW ∧ Cond.selects y_Cnts_comesBefore.cls y_Cnts_comesBefore y_Cnts_comesBefore ∈ GW := ⟨w_513, s_34⟩
theorem me_Cnts_begunAt : mm_me y_Cnts_begunAt b_Cnts_begunAt 2 (some .int) 1 := ⟨w_518, w_8, by decide +kernel, by decide +kernel, by decide +kernel⟩
theorem in_Cnts_begunAt : Cond.instanceMethod y_Cnts_begunAt ∈ GW ∧ Cond.selects y_Cnts_begunAt.cls y_Cnts_begunAt y_Cnts_begunAt ∈ GW := ⟨w_517, s_35⟩
theorem me_X_failing : mm_me y_X_failing b_X_failing 2 (some .int) 1 := ⟨w_524, w_1, by decide +kernel, by decide +kernel, by decide +kernel⟩
theorem in_X_failing : Cond.instanceMethod y_X_failing ∈ GW ∧ Cond.selects y_X_failing.cls y_X_failing y_X_failing ∈ GW := ⟨w_522, w_523⟩
theorem me_RowL_failedRow : mm_me y_RowL_failedRow b_RowL_failedRow 2 (some .int) 1 := ⟨w_528, w_2, by decide +kernel, by decide +kernel, by decide +kernel⟩
theorem in_RowL_failedRow : Cond.instanceMethod y_RowL_failedRow ∈ GW ∧ Cond.selects y_RowL_failedRow.cls y_RowL_failedRow y_RowL_failedRow ∈ GW := ⟨w_527, s_36⟩
theorem me_X_share : mm_me y_X_share b_X_share 6 (some .long) 2 := ⟨w_536, w_1, by decide +kernel, by decide +kernel, by decide +kernel⟩
theorem in_X_share : Cond.instanceMethod y_X_share ∈ GW ∧ Cond.selects y_X_share.cls y_X_share y_X_share ∈ GW := ⟨w_534, w_535⟩
theorem me_Thr_init0 : mm_me y_Thr_init0 b_Thr_init0 1 none 0 := ⟨w_562, w_20, by decide +kernel, by decide +kernel, by decide +kernel⟩
theorem in_Thr_init0 : y_Thr_init0.name = "<init>" ∧ Cond.instanceMethod y_Thr_init0 ∈ GW := ⟨rfl, w_561⟩
theorem me_ArE_init : mm_me y_ArE_init b_ArE_init 2 none 1 := ⟨w_580, w_23, by decide +kernel, by decide +kernel, by decide +kernel⟩
theorem in_ArE_init : y_ArE_init.name = "<init>" ∧ Cond.instanceMethod y_ArE_init ∈ GW := ⟨rfl, w_579⟩
theorem me_RtE_init : mm_me y_RtE_init b_RtE_init 2 none 1 := ⟨w_583, w_22, by decide +kernel, by decide +kernel, by decide +kernel⟩
theorem in_RtE_init : y_RtE_init.name = "<init>" ∧ Cond.instanceMethod y_RtE_init ∈ GW := ⟨rfl, w_582⟩
theorem me_Exc_init : mm_me y_Exc_init b_Exc_init 2 none 1 := ⟨w_586, w_21, by decide +kernel, by decide +kernel, by decide +kernel⟩
theorem in_Exc_init : y_Exc_init.name = "<init>" ∧ Cond.instanceMethod y_Exc_init ∈ GW := ⟨rfl, w_585⟩
theorem me_Thr_initS : mm_me y_Thr_initS b_Thr_initS 2 none 1 := ⟨w_589, w_20, by decide +kernel, by decide +kernel, by decide +kernel⟩
theorem in_Thr_initS : y_Thr_initS.name = "<init>" ∧ Cond.instanceMethod y_Thr_initS ∈ GW := ⟨rfl, w_588⟩
theorem me_X_commonDivisor : mm_me y_X_commonDivisor b_X_commonDivisor 6 (some .int) 2 := ⟨w_606, w_1, by decide +kernel, by decide +kernel, by decide +kernel⟩
theorem st_X_commonDivisor : Cond.static y_X_commonDivisor ∈ GW := w_605
theorem me_Mod_init : mm_me y_Mod_init b_Mod_init 2 none 0 := ⟨w_611, w_11, by decide +kernel, by decide +kernel, by decide +kernel⟩
theorem in_Mod_init : y_Mod_init.name = "<init>" ∧ Cond.instanceMethod y_Mod_init ∈ GW := ⟨rfl, w_610⟩
theorem me_Mod_thrown : mm_me y_Mod_thrown b_Mod_thrown 1 (some .int) 0 := ⟨w_696, w_11, by decide +kernel, by decide +kernel, by decide +kernel⟩
theorem in_Mod_thrown : Cond.instanceMethod y_Mod_thrown ∈ GW ∧ Cond.selects y_Mod_thrown.cls y_Mod_thrown y_Mod_thrown ∈ GW := ⟨w_694, w_695⟩
theorem me_Mod_rule : mm_me y_Mod_rule b_Mod_rule 7 (some .int) 5 := ⟨w_700, w_11, by decide +kernel, by decide +kernel, by decide +kernel⟩
theorem in_Mod_rule : Cond.instanceMethod y_Mod_rule ∈ GW ∧ Cond.selects y_Mod_rule.cls y_Mod_rule y_Mod_rule ∈ GW := ⟨w_698, w_699⟩
theorem me_Mod_isIn : mm_me y_Mod_isIn b_Mod_isIn 6 (some .boolean) 3 := ⟨w_704, w_11, by decide +kernel, by decide +kernel, by decide +kernel⟩
theorem st_Mod_isIn : Cond.static y_Mod_isIn ∈ GW := w_703
theorem me_Mod_event : mm_me y_Mod_event b_Mod_event 8 (some .int) 5 := ⟨w_712, w_11, by decide +kernel, by decide +kernel, by decide +kernel⟩
theorem in_Mod_event : Cond.instanceMethod y_Mod_event ∈ GW ∧ Cond.selects y_Mod_event.cls y_Mod_event y_Mod_event ∈ GW := ⟨w_710, w_711⟩
theorem me_Mod_isTime : mm_me y_Mod_isTime b_Mod_isTime 4 (some .boolean) 2 := ⟨w_718, w_11, by decide +kernel, by decide +kernel, by decide +kernel⟩
theorem in_Mod_isTime : Cond.instanceMethod y_Mod_isTime ∈ GW ∧ Cond.selects y_Mod_isTime.cls y_Mod_isTime y_Mod_isTime ∈ GW := ⟨w_717, s_38⟩
theorem me_Mod_end : mm_me y_Mod_end b_Mod_end 2 none 1 := ⟨w_723, w_11, by decide +kernel, by decide +kernel, by decide +kernel⟩
theorem in_Mod_end : Cond.instanceMethod y_Mod_end ∈ GW ∧ Cond.selects y_Mod_end.cls y_Mod_end y_Mod_end ∈ GW := ⟨w_722, s_39⟩
theorem me_Mod_rowFor : mm_me y_Mod_rowFor b_Mod_rowFor 5 (some .int) 3 := ⟨w_728, w_11, by decide +kernel, by decide +kernel, by decide +kernel⟩
theorem in_Mod_rowFor : Cond.instanceMethod y_Mod_rowFor ∈ GW ∧ Cond.selects y_Mod_rowFor.cls y_Mod_rowFor y_Mod_rowFor ∈ GW := ⟨w_727, s_40⟩
theorem me_Mod_fails : mm_me y_Mod_fails b_Mod_fails 4 none 1 := ⟨w_732, w_11, by decide +kernel, by decide +kernel, by decide +kernel⟩
theorem in_Mod_fails : Cond.instanceMethod y_Mod_fails ∈ GW ∧ Cond.selects y_Mod_fails.cls y_Mod_fails y_Mod_fails ∈ GW := ⟨w_731, s_41⟩
theorem me_Mod_behind : mm_me y_Mod_behind b_Mod_behind 15 (some .long) 2 := ⟨w_736, w_11, by decide +kernel, by decide +kernel, by decide +kernel⟩
theorem in_Mod_behind : Cond.instanceMethod y_Mod_behind ∈ GW ∧ Cond.selects y_Mod_behind.cls y_Mod_behind y_Mod_behind ∈ GW := ⟨w_735, s_42⟩
theorem me_Mod_tick : mm_me y_Mod_tick b_Mod_tick 5 (some .int) 1 := ⟨w_741, w_11, by decide +kernel, by decide +kernel, by decide +kernel⟩
theorem in_Mod_tick : Cond.instanceMethod y_Mod_tick ∈ GW ∧ Cond.selects y_Mod_tick.cls y_Mod_tick y_Mod_tick ∈ GW := ⟨w_739, w_740⟩
theorem me_Mod_tell : mm_me y_Mod_tell b_Mod_tell 3 none 2 := ⟨w_746, w_11, by decide +kernel, by decide +kernel, by decide +kernel⟩
theorem in_Mod_tell : Cond.instanceMethod y_Mod_tell ∈ GW ∧ Cond.selects y_Mod_tell.cls y_Mod_tell y_Mod_tell ∈ GW := ⟨w_745, s_43⟩
theorem me_Mod_alarm : mm_me y_Mod_alarm b_Mod_alarm 3 (some .int) 2 := ⟨w_751, w_11, by decide +kernel, by decide +kernel, by decide +kernel⟩
theorem in_Mod_alarm : Cond.instanceMethod y_Mod_alarm ∈ GW ∧ Cond.selects y_Mod_alarm.cls y_Mod_alarm y_Mod_alarm ∈ GW := ⟨w_749, w_750⟩
theorem me_Mod_state : mm_me y_Mod_state b_Mod_state 2 (some .int) 1 := ⟨w_755, w_11, by decide +kernel, by decide +kernel, by decide +kernel⟩
theorem in_Mod_state : Cond.instanceMethod y_Mod_state ∈ GW ∧ Cond.selects y_Mod_state.cls y_Mod_state y_Mod_state ∈ GW := ⟨w_753, w_754⟩
theorem me_Mod_holiday : mm_me y_Mod_holiday b_Mod_holiday 3 (some .int) 1 := ⟨w_759, w_11, by decide +kernel, by decide +kernel, by decide +kernel⟩
theorem in_Mod_holiday : Cond.instanceMethod y_Mod_holiday ∈ GW ∧ Cond.selects y_Mod_holiday.cls y_Mod_holiday y_Mod_holiday ∈ GW := ⟨w_757, w_758⟩
theorem me_Mod_share : mm_me y_Mod_share b_Mod_share 4 (some .long) 2 := ⟨w_763, w_11, by decide +kernel, by decide +kernel, by decide +kernel⟩
theorem in_Mod_share : Cond.instanceMethod y_Mod_share ∈ GW ∧ Cond.selects y_Mod_share.cls y_Mod_share y_Mod_share ∈ GW := ⟨w_761, w_762⟩
theorem me_Mod_percentile : mm_me y_Mod_percentile b_Mod_percentile 10 (some .long) 2 := ⟨w_769, w_11, by decide +kernel, by decide +kernel, by decide +kernel⟩
theorem in_Mod_percentile : Cond.instanceMethod y_Mod_percentile ∈ GW ∧ Cond.selects y_Mod_percentile.cls y_Mod_percentile y_Mod_percentile ∈ GW := ⟨w_767, w_768⟩
theorem me_Mod_found : mm_me y_Mod_found b_Mod_found 4 (some .int) 2 := ⟨w_775, w_11, by decide +kernel, by decide +kernel, by decide +kernel⟩
theorem in_Mod_found : Cond.instanceMethod y_Mod_found ∈ GW ∧ Cond.selects y_Mod_found.cls y_Mod_found y_Mod_found ∈ GW := ⟨w_773, w_774⟩
theorem me_Mod_cluster : mm_me y_Mod_cluster b_Mod_cluster 8 (some .int) 2 := ⟨w_779, w_11, by decide +kernel, by decide +kernel, by decide +kernel⟩
theorem in_Mod_cluster : Cond.instanceMethod y_Mod_cluster ∈ GW ∧ Cond.selects y_Mod_cluster.cls y_Mod_cluster y_Mod_cluster ∈ GW := ⟨w_777, w_778⟩
theorem me_Mod_isBefore : mm_me y_Mod_isBefore b_Mod_isBefore 7 (some .boolean) 2 := ⟨w_783, w_11, by decide +kernel, by decide +kernel, by decide +kernel⟩
theorem in_Mod_isBefore : Cond.instanceMethod y_Mod_isBefore ∈ GW ∧ Cond.selects y_Mod_isBefore.cls y_Mod_isBefore y_Mod_isBefore ∈ GW := ⟨w_782, s_44⟩
theorem me_Mod_failing : mm_me y_Mod_failing b_Mod_failing 2 (some .int) 1 := ⟨w_787, w_11, by decide +kernel, by decide +kernel, by decide +kernel⟩
theorem in_Mod_failing : Cond.instanceMethod y_Mod_failing ∈ GW ∧ Cond.selects y_Mod_failing.cls y_Mod_failing y_Mod_failing ∈ GW := ⟨w_785, w_786⟩
end
section
/-! DECODE ROWS, by program -/
theorem d_X_init_0 : decode b_X_init 0 = .ok (.aload_n 0, 1) := by decide +kernel
theorem d_X_init_1 : decode b_X_init 1 = .ok (.invokespecial 1, 3) := by decide +kernel
theorem d_X_init_4 : decode b_X_init 4 = .ok (.aload_n 0, 1) := by decide +kernel
theorem d_X_init_5 : decode b_X_init 5 = .ok (.new 7, 3) := by decide +kernel
theorem d_X_init_8 : decode b_X_init 8 = .ok (.dup, 1) := by decide +kernel
theorem d_X_init_9 : decode b_X_init 9 = .ok (.invokespecial 9, 3) := by decide +kernel
theorem d_X_init_12 : decode b_X_init 12 = .ok (.putfield 10, 3) := by decide +kernel
theorem d_X_init_15 : decode b_X_init 15 = .ok (.aload_n 0, 1) := by decide +kernel
theorem d_X_init_16 : decode b_X_init 16 = .ok (.new 16, 3) := by decide +kernel
theorem d_X_init_19 : decode b_X_init 19 = .ok (.dup, 1) := by decide +kernel
theorem d_X_init_20 : decode b_X_init 20 = .ok (.invokespecial 18, 3) := by decide +kernel
theorem d_X_init_23 : decode b_X_init 23 = .ok (.putfield 19, 3) := by decide +kernel
theorem d_X_init_26 : decode b_X_init 26 = .ok (.aload_n 0, 1) := by decide +kernel
theorem d_X_init_27 : decode b_X_init 27 = .ok (.new 23, 3) := by decide +kernel
theorem d_X_init_30 : decode b_X_init 30 = .ok (.dup, 1) := by decide +kernel
theorem d_X_init_31 : decode b_X_init 31 = .ok (.invokespecial 25, 3) := by decide +kernel
theorem d_X_init_34 : decode b_X_init 34 = .ok (.putfield 26, 3) := by decide +kernel
theorem d_X_init_37 : decode b_X_init 37 = .ok (.aload_n 0, 1) := by decide +kernel
theorem d_X_init_38 : decode b_X_init 38 = .ok (.new 30, 3) := by decide +kernel
theorem d_X_init_41 : decode b_X_init 41 = .ok (.dup, 1) := by decide +kernel
theorem d_X_init_42 : decode b_X_init 42 = .ok (.invokespecial 32, 3) := by decide +kernel
theorem d_X_init_45 : decode b_X_init 45 = .ok (.putfield 33, 3) := by decide +kernel
theorem d_X_init_48 : decode b_X_init 48 = .ok (.aload_n 0, 1) := by decide +kernel
theorem d_X_init_49 : decode b_X_init 49 = .ok (.new 37, 3) := by decide +kernel
theorem d_X_init_52 : decode b_X_init 52 = .ok (.dup, 1) := by decide +kernel
theorem d_X_init_53 : decode b_X_init 53 = .ok (.invokespecial 39, 3) := by decide +kernel
theorem d_X_init_56 : decode b_X_init 56 = .ok (.putfield 40, 3) := by decide +kernel
theorem d_X_init_59 : decode b_X_init 59 = .ok (.aload_n 0, 1) := by decide +kernel
theorem d_X_init_60 : decode b_X_init 60 = .ok (.sipush 200, 3) := by decide +kernel
theorem d_X_init_63 : decode b_X_init 63 = .ok (.anewarray 44, 3) := by decide +kernel
theorem d_X_init_66 : decode b_X_init 66 = .ok (.putfield 46, 3) := by decide +kernel
theorem d_X_init_69 : decode b_X_init 69 = .ok (.aload_n 0, 1) := by decide +kernel
theorem d_X_init_70 : decode b_X_init 70 = .ok (.lconst 0, 1) := by decide +kernel
theorem d_X_init_71 : decode b_X_init 71 = .ok (.putfield 50, 3) := by decide +kernel
theorem d_X_init_74 : decode b_X_init 74 = .ok (.iconst 0, 1) := by decide +kernel
theorem d_X_init_75 : decode b_X_init 75 = .ok (.istore_n 1, 1) := by decide +kernel
theorem d_X_init_76 : decode b_X_init 76 = .ok (.iload_n 1, 1) := by decide +kernel
theorem d_X_init_77 : decode b_X_init 77 = .ok (.sipush 200, 3) := by decide +kernel
theorem d_X_init_80 : decode b_X_init 80 = .ok (.if_icmp .ge 22, 3) := by decide +kernel
theorem d_X_init_83 : decode b_X_init 83 = .ok (.aload_n 0, 1) := by decide +kernel
theorem d_X_init_84 : decode b_X_init 84 = .ok (.getfield 46, 3) := by decide +kernel
theorem d_X_init_87 : decode b_X_init 87 = .ok (.iload_n 1, 1) := by decide +kernel
theorem d_X_init_88 : decode b_X_init 88 = .ok (.new 44, 3) := by decide +kernel
theorem d_X_init_91 : decode b_X_init 91 = .ok (.dup, 1) := by decide +kernel
theorem d_X_init_92 : decode b_X_init 92 = .ok (.invokespecial 54, 3) := by decide +kernel
theorem d_X_init_95 : decode b_X_init 95 = .ok (.aastore, 1) := by decide +kernel
theorem d_X_init_96 : decode b_X_init 96 = .ok (.iinc 1 1, 3) := by decide +kernel
theorem d_X_init_99 : decode b_X_init 99 = .ok (.goto (-23), 3) := by decide +kernel
theorem d_X_init_102 : decode b_X_init 102 = .ok (.return_, 1) := by decide +kernel
theorem d_RowL_init_0 : decode b_RowL_init 0 = .ok (.aload_n 0, 1) := by decide +kernel
theorem d_RowL_init_1 : decode b_RowL_init 1 = .ok (.invokespecial 3, 3) := by decide +kernel
theorem d_RowL_init_4 : decode b_RowL_init 4 = .ok (.aload_n 0, 1) := by decide +kernel
theorem d_RowL_init_5 : decode b_RowL_init 5 = .ok (.new 9, 3) := by decide +kernel
theorem d_RowL_init_8 : decode b_RowL_init 8 = .ok (.dup, 1) := by decide +kernel
theorem d_RowL_init_9 : decode b_RowL_init 9 = .ok (.invokespecial 11, 3) := by decide +kernel
theorem d_RowL_init_12 : decode b_RowL_init 12 = .ok (.putfield 12, 3) := by decide +kernel
theorem d_RowL_init_15 : decode b_RowL_init 15 = .ok (.aload_n 0, 1) := by decide +kernel
theorem d_RowL_init_16 : decode b_RowL_init 16 = .ok (.new 9, 3) := by decide +kernel
theorem d_RowL_init_19 : decode b_RowL_init 19 = .ok (.dup, 1) := by decide +kernel
theorem d_RowL_init_20 : decode b_RowL_init 20 = .ok (.invokespecial 11, 3) := by decide +kernel
theorem d_RowL_init_23 : decode b_RowL_init 23 = .ok (.putfield 18, 3) := by decide +kernel
theorem d_RowL_init_26 : decode b_RowL_init 26 = .ok (.return_, 1) := by decide +kernel
theorem d_Holi_init_0 : decode b_Holi_init 0 = .ok (.aload_n 0, 1) := by decide +kernel
theorem d_Holi_init_1 : decode b_Holi_init 1 = .ok (.invokespecial 3, 3) := by decide +kernel
theorem d_Holi_init_4 : decode b_Holi_init 4 = .ok (.aload_n 0, 1) := by decide +kernel
theorem d_Holi_init_5 : decode b_Holi_init 5 = .ok (.bipush 100, 2) := by decide +kernel
theorem d_Holi_init_7 : decode b_Holi_init 7 = .ok (.newarray .long, 2) := by decide +kernel
theorem d_Holi_init_9 : decode b_Holi_init 9 = .ok (.putfield 9, 3) := by decide +kernel
theorem d_Holi_init_12 : decode b_Holi_init 12 = .ok (.aload_n 0, 1) := by decide +kernel
theorem d_Holi_init_13 : decode b_Holi_init 13 = .ok (.iconst 0, 1) := by decide +kernel
theorem d_Holi_init_14 : decode b_Holi_init 14 = .ok (.putfield 15, 3) := by decide +kernel
theorem d_Holi_init_17 : decode b_Holi_init 17 = .ok (.return_, 1) := by decide +kernel
theorem d_AlarmL_init_0 : decode b_AlarmL_init 0 = .ok (.aload_n 0, 1) := by decide +kernel
theorem d_AlarmL_init_1 : decode b_AlarmL_init 1 = .ok (.invokespecial 3, 3) := by decide +kernel
theorem d_AlarmL_init_4 : decode b_AlarmL_init 4 = .ok (.aload_n 0, 1) := by decide +kernel
theorem d_AlarmL_init_5 : decode b_AlarmL_init 5 = .ok (.new 9, 3) := by decide +kernel
theorem d_AlarmL_init_8 : decode b_AlarmL_init 8 = .ok (.dup, 1) := by decide +kernel
theorem d_AlarmL_init_9 : decode b_AlarmL_init 9 = .ok (.invokespecial 11, 3) := by decide +kernel
theorem d_AlarmL_init_12 : decode b_AlarmL_init 12 = .ok (.putfield 12, 3) := by decide +kernel
theorem d_AlarmL_init_15 : decode b_AlarmL_init 15 = .ok (.return_, 1) := by decide +kernel
theorem d_Cnts_init_0 : decode b_Cnts_init 0 = .ok (.aload_n 0, 1) := by decide +kernel
theorem d_Cnts_init_1 : decode b_Cnts_init 1 = .ok (.invokespecial 3, 3) := by decide +kernel
theorem d_Cnts_init_4 : decode b_Cnts_init 4 = .ok (.aload_n 0, 1) := by decide +kernel
theorem d_Cnts_init_5 : decode b_Cnts_init 5 = .ok (.bipush 50, 2) := by decide +kernel
theorem d_Cnts_init_7 : decode b_Cnts_init 7 = .ok (.newarray .int, 2) := by decide +kernel
theorem d_Cnts_init_9 : decode b_Cnts_init 9 = .ok (.putfield 9, 3) := by decide +kernel
theorem d_Cnts_init_12 : decode b_Cnts_init 12 = .ok (.aload_n 0, 1) := by decide +kernel
theorem d_Cnts_init_13 : decode b_Cnts_init 13 = .ok (.bipush 50, 2) := by decide +kernel
theorem d_Cnts_init_15 : decode b_Cnts_init 15 = .ok (.newarray .int, 2) := by decide +kernel
theorem d_Cnts_init_17 : decode b_Cnts_init 17 = .ok (.putfield 15, 3) := by decide +kernel
theorem d_Cnts_init_20 : decode b_Cnts_init 20 = .ok (.return_, 1) := by decide +kernel
theorem d_Deliv_init_0 : decode b_Deliv_init 0 = .ok (.aload_n 0, 1) := by decide +kernel
theorem d_Deliv_init_1 : decode b_Deliv_init 1 = .ok (.invokespecial 3, 3) := by decide +kernel
theorem d_Deliv_init_4 : decode b_Deliv_init 4 = .ok (.aload_n 0, 1) := by decide +kernel
theorem d_Deliv_init_5 : decode b_Deliv_init 5 = .ok (.sipush 512, 3) := by decide +kernel
theorem d_Deliv_init_8 : decode b_Deliv_init 8 = .ok (.newarray .int, 2) := by decide +kernel
theorem d_Deliv_init_10 : decode b_Deliv_init 10 = .ok (.putfield 9, 3) := by decide +kernel
theorem d_Deliv_init_13 : decode b_Deliv_init 13 = .ok (.aload_n 0, 1) := by decide +kernel
theorem d_Deliv_init_14 : decode b_Deliv_init 14 = .ok (.sipush 512, 3) := by decide +kernel
theorem d_Deliv_init_17 : decode b_Deliv_init 17 = .ok (.newarray .int, 2) := by decide +kernel
theorem d_Deliv_init_19 : decode b_Deliv_init 19 = .ok (.putfield 15, 3) := by decide +kernel
theorem d_Deliv_init_22 : decode b_Deliv_init 22 = .ok (.aload_n 0, 1) := by decide +kernel
theorem d_Deliv_init_23 : decode b_Deliv_init 23 = .ok (.iconst 0, 1) := by decide +kernel
theorem d_Deliv_init_24 : decode b_Deliv_init 24 = .ok (.putfield 18, 3) := by decide +kernel
theorem d_Deliv_init_27 : decode b_Deliv_init 27 = .ok (.return_, 1) := by decide +kernel
theorem d_Item_init_0 : decode b_Item_init 0 = .ok (.aload_n 0, 1) := by decide +kernel
theorem d_Item_init_1 : decode b_Item_init 1 = .ok (.invokespecial 3, 3) := by decide +kernel
theorem d_Item_init_4 : decode b_Item_init 4 = .ok (.aload_n 0, 1) := by decide +kernel
theorem d_Item_init_5 : decode b_Item_init 5 = .ok (.iconst (-1), 1) := by decide +kernel
theorem d_Item_init_6 : decode b_Item_init 6 = .ok (.putfield 9, 3) := by decide +kernel
theorem d_Item_init_9 : decode b_Item_init 9 = .ok (.aload_n 0, 1) := by decide +kernel
theorem d_Item_init_10 : decode b_Item_init 10 = .ok (.lconst 0, 1) := by decide +kernel
theorem d_Item_init_11 : decode b_Item_init 11 = .ok (.putfield 15, 3) := by decide +kernel
theorem d_Item_init_14 : decode b_Item_init 14 = .ok (.aload_n 0, 1) := by decide +kernel
theorem d_Item_init_15 : decode b_Item_init 15 = .ok (.lconst 0, 1) := by decide +kernel
theorem d_Item_init_16 : decode b_Item_init 16 = .ok (.putfield 19, 3) := by decide +kernel
theorem d_Item_init_19 : decode b_Item_init 19 = .ok (.aload_n 0, 1) := by decide +kernel
theorem d_Item_init_20 : decode b_Item_init 20 = .ok (.iconst 0, 1) := by decide +kernel
theorem d_Item_init_21 : decode b_Item_init 21 = .ok (.putfield 22, 3) := by decide +kernel
theorem d_Item_init_24 : decode b_Item_init 24 = .ok (.aload_n 0, 1) := by decide +kernel
theorem d_Item_init_25 : decode b_Item_init 25 = .ok (.iconst 0, 1) := by decide +kernel
theorem d_Item_init_26 : decode b_Item_init 26 = .ok (.putfield 25, 3) := by decide +kernel
theorem d_Item_init_29 : decode b_Item_init 29 = .ok (.aload_n 0, 1) := by decide +kernel
theorem d_Item_init_30 : decode b_Item_init 30 = .ok (.lconst 0, 1) := by decide +kernel
theorem d_Item_init_31 : decode b_Item_init 31 = .ok (.putfield 28, 3) := by decide +kernel
theorem d_Item_init_34 : decode b_Item_init 34 = .ok (.aload_n 0, 1) := by decide +kernel
theorem d_Item_init_35 : decode b_Item_init 35 = .ok (.iconst 0, 1) := by decide +kernel
theorem d_Item_init_36 : decode b_Item_init 36 = .ok (.putfield 31, 3) := by decide +kernel
theorem d_Item_init_39 : decode b_Item_init 39 = .ok (.aload_n 0, 1) := by decide +kernel
theorem d_Item_init_40 : decode b_Item_init 40 = .ok (.iconst 0, 1) := by decide +kernel
theorem d_Item_init_41 : decode b_Item_init 41 = .ok (.putfield 35, 3) := by decide +kernel
theorem d_Item_init_44 : decode b_Item_init 44 = .ok (.return_, 1) := by decide +kernel
theorem d_X_rule_0 : decode b_X_rule 0 = .ok (.iload_n 1, 1) := by decide +kernel
theorem d_X_rule_1 : decode b_X_rule 1 = .ok (.ifCond .lt 9, 3) := by decide +kernel
theorem d_X_rule_4 : decode b_X_rule 4 = .ok (.iload_n 1, 1) := by decide +kernel
theorem d_X_rule_5 : decode b_X_rule 5 = .ok (.bipush 9, 2) := by decide +kernel
theorem d_X_rule_7 : decode b_X_rule 7 = .ok (.if_icmp .lt 6, 3) := by decide +kernel
theorem d_X_rule_10 : decode b_X_rule 10 = .ok (.bipush (-102), 2) := by decide +kernel
theorem d_X_rule_12 : decode b_X_rule 12 = .ok (.ireturn, 1) := by decide +kernel
theorem d_X_rule_13 : decode b_X_rule 13 = .ok (.iload_n 2, 1) := by decide +kernel
theorem d_X_rule_14 : decode b_X_rule 14 = .ok (.iconst (-1), 1) := by decide +kernel
theorem d_X_rule_15 : decode b_X_rule 15 = .ok (.if_icmp .eq 13, 3) := by decide +kernel
theorem d_X_rule_18 : decode b_X_rule 18 = .ok (.iload_n 2, 1) := by decide +kernel
theorem d_X_rule_19 : decode b_X_rule 19 = .ok (.invokestatic 55, 3) := by decide +kernel
theorem d_X_rule_22 : decode b_X_rule 22 = .ok (.ifCond .ne 6, 3) := by decide +kernel
theorem d_X_rule_25 : decode b_X_rule 25 = .ok (.bipush (-102), 2) := by decide +kernel
theorem d_X_rule_27 : decode b_X_rule 27 = .ok (.ireturn, 1) := by decide +kernel
theorem d_X_rule_28 : decode b_X_rule 28 = .ok (.iload_n 3, 1) := by decide +kernel
theorem d_X_rule_29 : decode b_X_rule 29 = .ok (.iconst (-1), 1) := by decide +kernel
theorem d_X_rule_30 : decode b_X_rule 30 = .ok (.if_icmp .eq 13, 3) := by decide +kernel
theorem d_X_rule_33 : decode b_X_rule 33 = .ok (.iload_n 3, 1) := by decide +kernel
theorem d_X_rule_34 : decode b_X_rule 34 = .ok (.invokestatic 59, 3) := by decide +kernel
theorem d_X_rule_37 : decode b_X_rule 37 = .ok (.ifCond .ne 6, 3) := by decide +kernel
theorem d_X_rule_40 : decode b_X_rule 40 = .ok (.bipush (-102), 2) := by decide +kernel
theorem d_X_rule_42 : decode b_X_rule 42 = .ok (.ireturn, 1) := by decide +kernel
theorem d_X_rule_43 : decode b_X_rule 43 = .ok (.lload 4, 2) := by decide +kernel
theorem d_X_rule_45 : decode b_X_rule 45 = .ok (.lconst 0, 1) := by decide +kernel
theorem d_X_rule_46 : decode b_X_rule 46 = .ok (.lcmp, 1) := by decide +kernel
theorem d_X_rule_47 : decode b_X_rule 47 = .ok (.ifCond .lt 12, 3) := by decide +kernel
theorem d_X_rule_50 : decode b_X_rule 50 = .ok (.lload 4, 2) := by decide +kernel
theorem d_X_rule_52 : decode b_X_rule 52 = .ok (.ldc2_w 62, 3) := by decide +kernel
theorem d_X_rule_55 : decode b_X_rule 55 = .ok (.lcmp, 1) := by decide +kernel
theorem d_X_rule_56 : decode b_X_rule 56 = .ok (.ifCond .le 6, 3) := by decide +kernel
theorem d_X_rule_59 : decode b_X_rule 59 = .ok (.bipush (-102), 2) := by decide +kernel
theorem d_X_rule_61 : decode b_X_rule 61 = .ok (.ireturn, 1) := by decide +kernel
theorem d_X_rule_62 : decode b_X_rule 62 = .ok (.aload_n 0, 1) := by decide +kernel
theorem d_X_rule_63 : decode b_X_rule 63 = .ok (.getfield 10, 3) := by decide +kernel
theorem d_X_rule_66 : decode b_X_rule 66 = .ok (.iload_n 1, 1) := by decide +kernel
theorem d_X_rule_67 : decode b_X_rule 67 = .ok (.iload_n 2, 1) := by decide +kernel
theorem d_X_rule_68 : decode b_X_rule 68 = .ok (.iload_n 3, 1) := by decide +kernel
theorem d_X_rule_69 : decode b_X_rule 69 = .ok (.lload 4, 2) := by decide +kernel
theorem d_X_rule_71 : decode b_X_rule 71 = .ok (.iload 6, 2) := by decide +kernel
theorem d_X_rule_73 : decode b_X_rule 73 = .ok (.invokevirtual 64, 3) := by decide +kernel
theorem d_X_rule_76 : decode b_X_rule 76 = .ok (.ireturn, 1) := by decide +kernel
theorem d_X_isPlace_0 : decode b_X_isPlace 0 = .ok (.iload_n 0, 1) := by decide +kernel
theorem d_X_isPlace_1 : decode b_X_isPlace 1 = .ok (.ifCond .lt 13, 3) := by decide +kernel
theorem d_X_isPlace_4 : decode b_X_isPlace 4 = .ok (.iload_n 0, 1) := by decide +kernel
theorem d_X_isPlace_5 : decode b_X_isPlace 5 = .ok (.bipush 50, 2) := by decide +kernel
theorem d_X_isPlace_7 : decode b_X_isPlace 7 = .ok (.if_icmp .ge 7, 3) := by decide +kernel
theorem d_X_isPlace_10 : decode b_X_isPlace 10 = .ok (.iconst 1, 1) := by decide +kernel
theorem d_X_isPlace_11 : decode b_X_isPlace 11 = .ok (.goto 4, 3) := by decide +kernel
theorem d_X_isPlace_14 : decode b_X_isPlace 14 = .ok (.iconst 0, 1) := by decide +kernel
theorem d_X_isPlace_15 : decode b_X_isPlace 15 = .ok (.ireturn, 1) := by decide +kernel
theorem d_X_isService_0 : decode b_X_isService 0 = .ok (.iload_n 0, 1) := by decide +kernel
theorem d_X_isService_1 : decode b_X_isService 1 = .ok (.ifCond .lt 12, 3) := by decide +kernel
theorem d_X_isService_4 : decode b_X_isService 4 = .ok (.iload_n 0, 1) := by decide +kernel
theorem d_X_isService_5 : decode b_X_isService 5 = .ok (.iconst 5, 1) := by decide +kernel
theorem d_X_isService_6 : decode b_X_isService 6 = .ok (.if_icmp .ge 7, 3) := by decide +kernel
theorem d_X_isService_9 : decode b_X_isService 9 = .ok (.iconst 1, 1) := by decide +kernel
theorem d_X_isService_10 : decode b_X_isService 10 = .ok (.goto 4, 3) := by decide +kernel
theorem d_X_isService_13 : decode b_X_isService 13 = .ok (.iconst 0, 1) := by decide +kernel
theorem d_X_isService_14 : decode b_X_isService 14 = .ok (.ireturn, 1) := by decide +kernel
theorem d_RowL_addRow_0 : decode b_RowL_addRow 0 = .ok (.aload_n 0, 1) := by decide +kernel
theorem d_RowL_addRow_1 : decode b_RowL_addRow 1 = .ok (.getfield 12, 3) := by decide +kernel
theorem d_RowL_addRow_4 : decode b_RowL_addRow 4 = .ok (.invokevirtual 21, 3) := by decide +kernel
theorem d_RowL_addRow_7 : decode b_RowL_addRow 7 = .ok (.bipush 40, 2) := by decide +kernel
theorem d_RowL_addRow_9 : decode b_RowL_addRow 9 = .ok (.if_icmp .lt 6, 3) := by decide +kernel
theorem d_RowL_addRow_12 : decode b_RowL_addRow 12 = .ok (.bipush (-104), 2) := by decide +kernel
theorem d_RowL_addRow_14 : decode b_RowL_addRow 14 = .ok (.ireturn, 1) := by decide +kernel
theorem d_RowL_addRow_15 : decode b_RowL_addRow 15 = .ok (.aload_n 0, 1) := by decide +kernel
theorem d_RowL_addRow_16 : decode b_RowL_addRow 16 = .ok (.getfield 12, 3) := by decide +kernel
theorem d_RowL_addRow_19 : decode b_RowL_addRow 19 = .ok (.invokevirtual 21, 3) := by decide +kernel
theorem d_RowL_addRow_22 : decode b_RowL_addRow 22 = .ok (.iconst 1, 1) := by decide +kernel
theorem d_RowL_addRow_23 : decode b_RowL_addRow 23 = .ok (.iadd, 1) := by decide +kernel
theorem d_RowL_addRow_24 : decode b_RowL_addRow 24 = .ok (.istore 7, 2) := by decide +kernel
theorem d_RowL_addRow_26 : decode b_RowL_addRow 26 = .ok (.aload_n 0, 1) := by decide +kernel
theorem d_RowL_addRow_27 : decode b_RowL_addRow 27 = .ok (.getfield 12, 3) := by decide +kernel
theorem d_RowL_addRow_30 : decode b_RowL_addRow 30 = .ok (.new 25, 3) := by decide +kernel
theorem d_RowL_addRow_33 : decode b_RowL_addRow 33 = .ok (.dup, 1) := by decide +kernel
theorem d_RowL_addRow_34 : decode b_RowL_addRow 34 = .ok (.iload 7, 2) := by decide +kernel
theorem d_RowL_addRow_36 : decode b_RowL_addRow 36 = .ok (.iload_n 1, 1) := by decide +kernel
theorem d_RowL_addRow_37 : decode b_RowL_addRow 37 = .ok (.iload_n 2, 1) := by decide +kernel
theorem d_RowL_addRow_38 : decode b_RowL_addRow 38 = .ok (.iload_n 3, 1) := by decide +kernel
theorem d_RowL_addRow_39 : decode b_RowL_addRow 39 = .ok (.lload 4, 2) := by decide +kernel
theorem d_RowL_addRow_41 : decode b_RowL_addRow 41 = .ok (.iload 6, 2) := by decide +kernel
theorem d_RowL_addRow_43 : decode b_RowL_addRow 43 = .ok (.invokespecial 27, 3) := by decide +kernel
theorem d_RowL_addRow_46 : decode b_RowL_addRow 46 = .ok (.invokevirtual 30, 3) := by decide +kernel
theorem d_RowL_addRow_49 : decode b_RowL_addRow 49 = .ok (.pop, 1) := by decide +kernel
theorem d_RowL_addRow_50 : decode b_RowL_addRow 50 = .ok (.iload 7, 2) := by decide +kernel
theorem d_RowL_addRow_52 : decode b_RowL_addRow 52 = .ok (.ireturn, 1) := by decide +kernel
theorem d_Row_init_0 : decode b_Row_init 0 = .ok (.aload_n 0, 1) := by decide +kernel
theorem d_Row_init_1 : decode b_Row_init 1 = .ok (.invokespecial 3, 3) := by decide +kernel
theorem d_Row_init_4 : decode b_Row_init 4 = .ok (.aload_n 0, 1) := by decide +kernel
theorem d_Row_init_5 : decode b_Row_init 5 = .ok (.iconst 0, 1) := by decide +kernel
theorem d_Row_init_6 : decode b_Row_init 6 = .ok (.putfield 9, 3) := by decide +kernel
theorem d_Row_init_9 : decode b_Row_init 9 = .ok (.aload_n 0, 1) := by decide +kernel
theorem d_Row_init_10 : decode b_Row_init 10 = .ok (.iload_n 1, 1) := by decide +kernel
theorem d_Row_init_11 : decode b_Row_init 11 = .ok (.putfield 15, 3) := by decide +kernel
theorem d_Row_init_14 : decode b_Row_init 14 = .ok (.aload_n 0, 1) := by decide +kernel
theorem d_Row_init_15 : decode b_Row_init 15 = .ok (.iload_n 2, 1) := by decide +kernel
theorem d_Row_init_16 : decode b_Row_init 16 = .ok (.putfield 19, 3) := by decide +kernel
theorem d_Row_init_19 : decode b_Row_init 19 = .ok (.aload_n 0, 1) := by decide +kernel
theorem d_Row_init_20 : decode b_Row_init 20 = .ok (.iload_n 3, 1) := by decide +kernel
theorem d_Row_init_21 : decode b_Row_init 21 = .ok (.putfield 22, 3) := by decide +kernel
theorem d_Row_init_24 : decode b_Row_init 24 = .ok (.aload_n 0, 1) := by decide +kernel
theorem d_Row_init_25 : decode b_Row_init 25 = .ok (.iload 4, 2) := by decide +kernel
theorem d_Row_init_27 : decode b_Row_init 27 = .ok (.putfield 25, 3) := by decide +kernel
theorem d_Row_init_30 : decode b_Row_init 30 = .ok (.aload_n 0, 1) := by decide +kernel
theorem d_Row_init_31 : decode b_Row_init 31 = .ok (.lload 5, 2) := by decide +kernel
theorem d_Row_init_33 : decode b_Row_init 33 = .ok (.putfield 28, 3) := by decide +kernel
theorem d_Row_init_36 : decode b_Row_init 36 = .ok (.aload_n 0, 1) := by decide +kernel
theorem d_Row_init_37 : decode b_Row_init 37 = .ok (.iload 7, 2) := by decide +kernel
theorem d_Row_init_39 : decode b_Row_init 39 = .ok (.putfield 32, 3) := by decide +kernel
theorem d_Row_init_42 : decode b_Row_init 42 = .ok (.return_, 1) := by decide +kernel
theorem d_X_event_0 : decode b_X_event 0 = .ok (.iload_n 1, 1) := by decide +kernel
theorem d_X_event_1 : decode b_X_event 1 = .ok (.invokestatic 68, 3) := by decide +kernel
theorem d_X_event_4 : decode b_X_event 4 = .ok (.ifCond .eq 10, 3) := by decide +kernel
theorem d_X_event_7 : decode b_X_event 7 = .ok (.iload_n 3, 1) := by decide +kernel
theorem d_X_event_8 : decode b_X_event 8 = .ok (.invokestatic 55, 3) := by decide +kernel
theorem d_X_event_11 : decode b_X_event 11 = .ok (.ifCond .ne 6, 3) := by decide +kernel
theorem d_X_event_14 : decode b_X_event 14 = .ok (.bipush (-101), 2) := by decide +kernel
theorem d_X_event_16 : decode b_X_event 16 = .ok (.ireturn, 1) := by decide +kernel
theorem d_X_event_17 : decode b_X_event 17 = .ok (.aload_n 0, 1) := by decide +kernel
theorem d_X_event_18 : decode b_X_event 18 = .ok (.getfield 46, 3) := by decide +kernel
theorem d_X_event_21 : decode b_X_event 21 = .ok (.iload_n 1, 1) := by decide +kernel
theorem d_X_event_22 : decode b_X_event 22 = .ok (.aaload, 1) := by decide +kernel
theorem d_X_event_23 : decode b_X_event 23 = .ok (.astore 7, 2) := by decide +kernel
theorem d_X_event_25 : decode b_X_event 25 = .ok (.iload_n 2, 1) := by decide +kernel
theorem d_X_event_26 : decode b_X_event 26 = .ok (.ifCond .lt 27, 3) := by decide +kernel
theorem d_X_event_29 : decode b_X_event 29 = .ok (.iload_n 2, 1) := by decide +kernel
theorem d_X_event_30 : decode b_X_event 30 = .ok (.bipush 9, 2) := by decide +kernel
theorem d_X_event_32 : decode b_X_event 32 = .ok (.if_icmp .gt 21, 3) := by decide +kernel
theorem d_X_event_35 : decode b_X_event 35 = .ok (.iload 4, 2) := by decide +kernel
theorem d_X_event_37 : decode b_X_event 37 = .ok (.invokestatic 59, 3) := by decide +kernel
theorem d_X_event_40 : decode b_X_event 40 = .ok (.ifCond .eq 13, 3) := by decide +kernel
theorem d_X_event_43 : decode b_X_event 43 = .ok (.aload 7, 2) := by decide +kernel
theorem d_X_event_45 : decode b_X_event 45 = .ok (.lload 5, 2) := by decide +kernel
theorem d_X_event_47 : decode b_X_event 47 = .ok (.invokevirtual 71, 3) := by decide +kernel
theorem d_X_event_50 : decode b_X_event 50 = .ok (.ifCond .ne 6, 3) := by decide +kernel
theorem d_X_event_53 : decode b_X_event 53 = .ok (.bipush (-102), 2) := by decide +kernel
theorem d_X_event_55 : decode b_X_event 55 = .ok (.ireturn, 1) := by decide +kernel
theorem d_X_event_56 : decode b_X_event 56 = .ok (.aload 7, 2) := by decide +kernel
theorem d_X_event_58 : decode b_X_event 58 = .ok (.invokevirtual 75, 3) := by decide +kernel
theorem d_X_event_61 : decode b_X_event 61 = .ok (.iload_n 2, 1) := by decide +kernel
theorem d_X_event_62 : decode b_X_event 62 = .ok (.bipush 9, 2) := by decide +kernel
theorem d_X_event_64 : decode b_X_event 64 = .ok (.if_icmp .ne 26, 3) := by decide +kernel
theorem d_X_event_67 : decode b_X_event 67 = .ok (.aload_n 0, 1) := by decide +kernel
theorem d_X_event_68 : decode b_X_event 68 = .ok (.getfield 40, 3) := by decide +kernel
theorem d_X_event_71 : decode b_X_event 71 = .ok (.iload 4, 2) := by decide +kernel
theorem d_X_event_73 : decode b_X_event 73 = .ok (.aload 7, 2) := by decide +kernel
theorem d_X_event_75 : decode b_X_event 75 = .ok (.lload 5, 2) := by decide +kernel
theorem d_X_event_77 : decode b_X_event 77 = .ok (.invokevirtual 78, 3) := by decide +kernel
theorem d_X_event_80 : decode b_X_event 80 = .ok (.invokevirtual 82, 3) := by decide +kernel
theorem d_X_event_83 : decode b_X_event 83 = .ok (.aload 7, 2) := by decide +kernel
theorem d_X_event_85 : decode b_X_event 85 = .ok (.invokevirtual 86, 3) := by decide +kernel
theorem d_X_event_88 : decode b_X_event 88 = .ok (.iconst 0, 1) := by decide +kernel
theorem d_X_event_89 : decode b_X_event 89 = .ok (.ireturn, 1) := by decide +kernel
theorem d_X_event_90 : decode b_X_event 90 = .ok (.aload 7, 2) := by decide +kernel
theorem d_X_event_92 : decode b_X_event 92 = .ok (.iload_n 2, 1) := by decide +kernel
theorem d_X_event_93 : decode b_X_event 93 = .ok (.lload 5, 2) := by decide +kernel
theorem d_X_event_95 : decode b_X_event 95 = .ok (.invokevirtual 89, 3) := by decide +kernel
theorem d_X_event_98 : decode b_X_event 98 = .ok (.aload_n 0, 1) := by decide +kernel
theorem d_X_event_99 : decode b_X_event 99 = .ok (.aload 7, 2) := by decide +kernel
theorem d_X_event_101 : decode b_X_event 101 = .ok (.aload_n 0, 1) := by decide +kernel
theorem d_X_event_102 : decode b_X_event 102 = .ok (.getfield 10, 3) := by decide +kernel
theorem d_X_event_105 : decode b_X_event 105 = .ok (.iload_n 2, 1) := by decide +kernel
theorem d_X_event_106 : decode b_X_event 106 = .ok (.iload_n 3, 1) := by decide +kernel
theorem d_X_event_107 : decode b_X_event 107 = .ok (.iload 4, 2) := by decide +kernel
theorem d_X_event_109 : decode b_X_event 109 = .ok (.invokevirtual 93, 3) := by decide +kernel
theorem d_X_event_112 : decode b_X_event 112 = .ok (.iload_n 3, 1) := by decide +kernel
theorem d_X_event_113 : decode b_X_event 113 = .ok (.lload 5, 2) := by decide +kernel
theorem d_X_event_115 : decode b_X_event 115 = .ok (.invokevirtual 97, 3) := by decide +kernel
theorem d_X_event_118 : decode b_X_event 118 = .ok (.ireturn, 1) := by decide +kernel
theorem d_X_isItem_0 : decode b_X_isItem 0 = .ok (.iload_n 0, 1) := by decide +kernel
theorem d_X_isItem_1 : decode b_X_isItem 1 = .ok (.ifCond .lt 14, 3) := by decide +kernel
theorem d_X_isItem_4 : decode b_X_isItem 4 = .ok (.iload_n 0, 1) := by decide +kernel
theorem d_X_isItem_5 : decode b_X_isItem 5 = .ok (.sipush 200, 3) := by decide +kernel
theorem d_X_isItem_8 : decode b_X_isItem 8 = .ok (.if_icmp .ge 7, 3) := by decide +kernel
theorem d_X_isItem_11 : decode b_X_isItem 11 = .ok (.iconst 1, 1) := by decide +kernel
theorem d_X_isItem_12 : decode b_X_isItem 12 = .ok (.goto 4, 3) := by decide +kernel
theorem d_X_isItem_15 : decode b_X_isItem 15 = .ok (.iconst 0, 1) := by decide +kernel
theorem d_X_isItem_16 : decode b_X_isItem 16 = .ok (.ireturn, 1) := by decide +kernel
theorem d_Item_mayComeAt_0 : decode b_Item_mayComeAt 0 = .ok (.lload_n 1, 1) := by decide +kernel
theorem d_Item_mayComeAt_1 : decode b_Item_mayComeAt 1 = .ok (.lconst 0, 1) := by decide +kernel
theorem d_Item_mayComeAt_2 : decode b_Item_mayComeAt 2 = .ok (.lcmp, 1) := by decide +kernel
theorem d_Item_mayComeAt_3 : decode b_Item_mayComeAt 3 = .ok (.ifCond .lt 31, 3) := by decide +kernel
theorem d_Item_mayComeAt_6 : decode b_Item_mayComeAt 6 = .ok (.lload_n 1, 1) := by decide +kernel
theorem d_Item_mayComeAt_7 : decode b_Item_mayComeAt 7 = .ok (.ldc2_w 38, 3) := by decide +kernel
theorem d_Item_mayComeAt_10 : decode b_Item_mayComeAt 10 = .ok (.lcmp, 1) := by decide +kernel
theorem d_Item_mayComeAt_11 : decode b_Item_mayComeAt 11 = .ok (.ifCond .gt 23, 3) := by decide +kernel
theorem d_Item_mayComeAt_14 : decode b_Item_mayComeAt 14 = .ok (.aload_n 0, 1) := by decide +kernel
theorem d_Item_mayComeAt_15 : decode b_Item_mayComeAt 15 = .ok (.invokevirtual 40, 3) := by decide +kernel
theorem d_Item_mayComeAt_18 : decode b_Item_mayComeAt 18 = .ok (.ifCond .ne 12, 3) := by decide +kernel
theorem d_Item_mayComeAt_21 : decode b_Item_mayComeAt 21 = .ok (.lload_n 1, 1) := by decide +kernel
theorem d_Item_mayComeAt_22 : decode b_Item_mayComeAt 22 = .ok (.aload_n 0, 1) := by decide +kernel
theorem d_Item_mayComeAt_23 : decode b_Item_mayComeAt 23 = .ok (.getfield 19, 3) := by decide +kernel
theorem d_Item_mayComeAt_26 : decode b_Item_mayComeAt 26 = .ok (.lcmp, 1) := by decide +kernel
theorem d_Item_mayComeAt_27 : decode b_Item_mayComeAt 27 = .ok (.ifCond .lt 7, 3) := by decide +kernel
theorem d_Item_mayComeAt_30 : decode b_Item_mayComeAt 30 = .ok (.iconst 1, 1) := by decide +kernel
theorem d_Item_mayComeAt_31 : decode b_Item_mayComeAt 31 = .ok (.goto 4, 3) := by decide +kernel
theorem d_Item_mayComeAt_34 : decode b_Item_mayComeAt 34 = .ok (.iconst 0, 1) := by decide +kernel
theorem d_Item_mayComeAt_35 : decode b_Item_mayComeAt 35 = .ok (.ireturn, 1) := by decide +kernel
theorem d_Item_isNew_0 : decode b_Item_isNew 0 = .ok (.aload_n 0, 1) := by decide +kernel
theorem d_Item_isNew_1 : decode b_Item_isNew 1 = .ok (.getfield 9, 3) := by decide +kernel
theorem d_Item_isNew_4 : decode b_Item_isNew 4 = .ok (.iconst (-1), 1) := by decide +kernel
theorem d_Item_isNew_5 : decode b_Item_isNew 5 = .ok (.if_icmp .ne 7, 3) := by decide +kernel
theorem d_Item_isNew_8 : decode b_Item_isNew 8 = .ok (.iconst 1, 1) := by decide +kernel
theorem d_Item_isNew_9 : decode b_Item_isNew 9 = .ok (.goto 4, 3) := by decide +kernel
theorem d_Item_isNew_12 : decode b_Item_isNew 12 = .ok (.iconst 0, 1) := by decide +kernel
theorem d_Item_isNew_13 : decode b_Item_isNew 13 = .ok (.ireturn, 1) := by decide +kernel
theorem d_Item_expectNothing_0 : decode b_Item_expectNothing 0 = .ok (.aload_n 0, 1) := by decide +kernel
theorem d_Item_expectNothing_1 : decode b_Item_expectNothing 1 = .ok (.iconst 0, 1) := by decide +kernel
theorem d_Item_expectNothing_2 : decode b_Item_expectNothing 2 = .ok (.putfield 22, 3) := by decide +kernel
theorem d_Item_expectNothing_5 : decode b_Item_expectNothing 5 = .ok (.aload_n 0, 1) := by decide +kernel
theorem d_Item_expectNothing_6 : decode b_Item_expectNothing 6 = .ok (.iconst 0, 1) := by decide +kernel
theorem d_Item_expectNothing_7 : decode b_Item_expectNothing 7 = .ok (.putfield 31, 3) := by decide +kernel
theorem d_Item_expectNothing_10 : decode b_Item_expectNothing 10 = .ok (.aload_n 0, 1) := by decide +kernel
theorem d_Item_expectNothing_11 : decode b_Item_expectNothing 11 = .ok (.iconst 0, 1) := by decide +kernel
theorem d_Item_expectNothing_12 : decode b_Item_expectNothing 12 = .ok (.putfield 35, 3) := by decide +kernel
theorem d_Item_expectNothing_15 : decode b_Item_expectNothing 15 = .ok (.return_, 1) := by decide +kernel
theorem d_Item_daysUntil_0 : decode b_Item_daysUntil 0 = .ok (.aload_n 0, 1) := by decide +kernel
theorem d_Item_daysUntil_1 : decode b_Item_daysUntil 1 = .ok (.invokevirtual 40, 3) := by decide +kernel
theorem d_Item_daysUntil_4 : decode b_Item_daysUntil 4 = .ok (.ifCond .eq 7, 3) := by decide +kernel
theorem d_Item_daysUntil_7 : decode b_Item_daysUntil 7 = .ok (.iconst 0, 1) := by decide +kernel
theorem d_Item_daysUntil_8 : decode b_Item_daysUntil 8 = .ok (.goto 14, 3) := by decide +kernel
theorem d_Item_daysUntil_11 : decode b_Item_daysUntil 11 = .ok (.lload_n 1, 1) := by decide +kernel
theorem d_Item_daysUntil_12 : decode b_Item_daysUntil 12 = .ok (.aload_n 0, 1) := by decide +kernel
theorem d_Item_daysUntil_13 : decode b_Item_daysUntil 13 = .ok (.getfield 15, 3) := by decide +kernel
theorem d_Item_daysUntil_16 : decode b_Item_daysUntil 16 = .ok (.lsub, 1) := by decide +kernel
theorem d_Item_daysUntil_17 : decode b_Item_daysUntil 17 = .ok (.ldc2_w 44, 3) := by decide +kernel
theorem d_Item_daysUntil_20 : decode b_Item_daysUntil 20 = .ok (.ldiv, 1) := by decide +kernel
theorem d_Item_daysUntil_21 : decode b_Item_daysUntil 21 = .ok (.l2i, 1) := by decide +kernel
theorem d_Item_daysUntil_22 : decode b_Item_daysUntil 22 = .ok (.ireturn, 1) := by decide +kernel
theorem d_Deliv_addDelivery_0 : decode b_Deliv_addDelivery 0 = .ok (.aload_n 0, 1) := by decide +kernel
theorem d_Deliv_addDelivery_1 : decode b_Deliv_addDelivery 1 = .ok (.getfield 18, 3) := by decide +kernel
theorem d_Deliv_addDelivery_4 : decode b_Deliv_addDelivery 4 = .ok (.sipush 512, 3) := by decide +kernel
theorem d_Deliv_addDelivery_7 : decode b_Deliv_addDelivery 7 = .ok (.if_icmp .lt 4, 3) := by decide +kernel
theorem d_Deliv_addDelivery_10 : decode b_Deliv_addDelivery 10 = .ok (.return_, 1) := by decide +kernel
theorem d_Deliv_addDelivery_11 : decode b_Deliv_addDelivery 11 = .ok (.aload_n 0, 1) := by decide +kernel
theorem d_Deliv_addDelivery_12 : decode b_Deliv_addDelivery 12 = .ok (.getfield 18, 3) := by decide +kernel
theorem d_Deliv_addDelivery_15 : decode b_Deliv_addDelivery 15 = .ok (.istore_n 3, 1) := by decide +kernel
theorem d_Deliv_addDelivery_16 : decode b_Deliv_addDelivery 16 = .ok (.iload_n 3, 1) := by decide +kernel
theorem d_Deliv_addDelivery_17 : decode b_Deliv_addDelivery 17 = .ok (.ifCond .le 49, 3) := by decide +kernel
theorem d_Deliv_addDelivery_20 : decode b_Deliv_addDelivery 20 = .ok (.aload_n 0, 1) := by decide +kernel
theorem d_Deliv_addDelivery_21 : decode b_Deliv_addDelivery 21 = .ok (.getfield 9, 3) := by decide +kernel
theorem d_Deliv_addDelivery_24 : decode b_Deliv_addDelivery 24 = .ok (.iload_n 3, 1) := by decide +kernel
theorem d_Deliv_addDelivery_25 : decode b_Deliv_addDelivery 25 = .ok (.iconst 1, 1) := by decide +kernel
theorem d_Deliv_addDelivery_26 : decode b_Deliv_addDelivery 26 = .ok (.isub, 1) := by decide +kernel
theorem d_Deliv_addDelivery_27 : decode b_Deliv_addDelivery 27 = .ok (.iaload, 1) := by decide +kernel
theorem d_Deliv_addDelivery_28 : decode b_Deliv_addDelivery 28 = .ok (.iload_n 2, 1) := by decide +kernel
theorem d_Deliv_addDelivery_29 : decode b_Deliv_addDelivery 29 = .ok (.if_icmp .le 37, 3) := by decide +kernel
theorem d_Deliv_addDelivery_32 : decode b_Deliv_addDelivery 32 = .ok (.aload_n 0, 1) := by decide +kernel
theorem d_Deliv_addDelivery_33 : decode b_Deliv_addDelivery 33 = .ok (.getfield 9, 3) := by decide +kernel
theorem d_Deliv_addDelivery_36 : decode b_Deliv_addDelivery 36 = .ok (.iload_n 3, 1) := by decide +kernel
theorem d_Deliv_addDelivery_37 : decode b_Deliv_addDelivery 37 = .ok (.aload_n 0, 1) := by decide +kernel
theorem d_Deliv_addDelivery_38 : decode b_Deliv_addDelivery 38 = .ok (.getfield 9, 3) := by decide +kernel
theorem d_Deliv_addDelivery_41 : decode b_Deliv_addDelivery 41 = .ok (.iload_n 3, 1) := by decide +kernel
theorem d_Deliv_addDelivery_42 : decode b_Deliv_addDelivery 42 = .ok (.iconst 1, 1) := by decide +kernel
theorem d_Deliv_addDelivery_43 : decode b_Deliv_addDelivery 43 = .ok (.isub, 1) := by decide +kernel
theorem d_Deliv_addDelivery_44 : decode b_Deliv_addDelivery 44 = .ok (.iaload, 1) := by decide +kernel
theorem d_Deliv_addDelivery_45 : decode b_Deliv_addDelivery 45 = .ok (.iastore, 1) := by decide +kernel
theorem d_Deliv_addDelivery_46 : decode b_Deliv_addDelivery 46 = .ok (.aload_n 0, 1) := by decide +kernel
theorem d_Deliv_addDelivery_47 : decode b_Deliv_addDelivery 47 = .ok (.getfield 15, 3) := by decide +kernel
theorem d_Deliv_addDelivery_50 : decode b_Deliv_addDelivery 50 = .ok (.iload_n 3, 1) := by decide +kernel
theorem d_Deliv_addDelivery_51 : decode b_Deliv_addDelivery 51 = .ok (.aload_n 0, 1) := by decide +kernel
theorem d_Deliv_addDelivery_52 : decode b_Deliv_addDelivery 52 = .ok (.getfield 15, 3) := by decide +kernel
theorem d_Deliv_addDelivery_55 : decode b_Deliv_addDelivery 55 = .ok (.iload_n 3, 1) := by decide +kernel
theorem d_Deliv_addDelivery_56 : decode b_Deliv_addDelivery 56 = .ok (.iconst 1, 1) := by decide +kernel
theorem d_Deliv_addDelivery_57 : decode b_Deliv_addDelivery 57 = .ok (.isub, 1) := by decide +kernel
theorem d_Deliv_addDelivery_58 : decode b_Deliv_addDelivery 58 = .ok (.iaload, 1) := by decide +kernel
theorem d_Deliv_addDelivery_59 : decode b_Deliv_addDelivery 59 = .ok (.iastore, 1) := by decide +kernel
theorem d_Deliv_addDelivery_60 : decode b_Deliv_addDelivery 60 = .ok (.iinc 3 (-1), 3) := by decide +kernel
theorem d_Deliv_addDelivery_63 : decode b_Deliv_addDelivery 63 = .ok (.goto (-47), 3) := by decide +kernel
theorem d_Deliv_addDelivery_66 : decode b_Deliv_addDelivery 66 = .ok (.aload_n 0, 1) := by decide +kernel
theorem d_Deliv_addDelivery_67 : decode b_Deliv_addDelivery 67 = .ok (.getfield 9, 3) := by decide +kernel
theorem d_Deliv_addDelivery_70 : decode b_Deliv_addDelivery 70 = .ok (.iload_n 3, 1) := by decide +kernel
theorem d_Deliv_addDelivery_71 : decode b_Deliv_addDelivery 71 = .ok (.iload_n 2, 1) := by decide +kernel
theorem d_Deliv_addDelivery_72 : decode b_Deliv_addDelivery 72 = .ok (.iastore, 1) := by decide +kernel
theorem d_Deliv_addDelivery_73 : decode b_Deliv_addDelivery 73 = .ok (.aload_n 0, 1) := by decide +kernel
theorem d_Deliv_addDelivery_74 : decode b_Deliv_addDelivery 74 = .ok (.getfield 15, 3) := by decide +kernel
theorem d_Deliv_addDelivery_77 : decode b_Deliv_addDelivery 77 = .ok (.iload_n 3, 1) := by decide +kernel
theorem d_Deliv_addDelivery_78 : decode b_Deliv_addDelivery 78 = .ok (.iload_n 1, 1) := by decide +kernel
theorem d_Deliv_addDelivery_79 : decode b_Deliv_addDelivery 79 = .ok (.iastore, 1) := by decide +kernel
theorem d_Deliv_addDelivery_80 : decode b_Deliv_addDelivery 80 = .ok (.aload_n 0, 1) := by decide +kernel
theorem d_Deliv_addDelivery_81 : decode b_Deliv_addDelivery 81 = .ok (.dup, 1) := by decide +kernel
theorem d_Deliv_addDelivery_82 : decode b_Deliv_addDelivery 82 = .ok (.getfield 18, 3) := by decide +kernel
theorem d_Deliv_addDelivery_85 : decode b_Deliv_addDelivery 85 = .ok (.iconst 1, 1) := by decide +kernel
theorem d_Deliv_addDelivery_86 : decode b_Deliv_addDelivery 86 = .ok (.iadd, 1) := by decide +kernel
theorem d_Deliv_addDelivery_87 : decode b_Deliv_addDelivery 87 = .ok (.putfield 18, 3) := by decide +kernel
theorem d_Deliv_addDelivery_90 : decode b_Deliv_addDelivery 90 = .ok (.return_, 1) := by decide +kernel
theorem d_Item_beginAnew_0 : decode b_Item_beginAnew 0 = .ok (.aload_n 0, 1) := by decide +kernel
theorem d_Item_beginAnew_1 : decode b_Item_beginAnew 1 = .ok (.iconst (-1), 1) := by decide +kernel
theorem d_Item_beginAnew_2 : decode b_Item_beginAnew 2 = .ok (.putfield 9, 3) := by decide +kernel
theorem d_Item_beginAnew_5 : decode b_Item_beginAnew 5 = .ok (.return_, 1) := by decide +kernel
theorem d_Item_takeEvent_0 : decode b_Item_takeEvent 0 = .ok (.aload_n 0, 1) := by decide +kernel
theorem d_Item_takeEvent_1 : decode b_Item_takeEvent 1 = .ok (.invokevirtual 40, 3) := by decide +kernel
theorem d_Item_takeEvent_4 : decode b_Item_takeEvent 4 = .ok (.ifCond .eq 8, 3) := by decide +kernel
theorem d_Item_takeEvent_7 : decode b_Item_takeEvent 7 = .ok (.aload_n 0, 1) := by decide +kernel
theorem d_Item_takeEvent_8 : decode b_Item_takeEvent 8 = .ok (.lload_n 2, 1) := by decide +kernel
theorem d_Item_takeEvent_9 : decode b_Item_takeEvent 9 = .ok (.putfield 15, 3) := by decide +kernel
theorem d_Item_takeEvent_12 : decode b_Item_takeEvent 12 = .ok (.aload_n 0, 1) := by decide +kernel
theorem d_Item_takeEvent_13 : decode b_Item_takeEvent 13 = .ok (.iload_n 1, 1) := by decide +kernel
theorem d_Item_takeEvent_14 : decode b_Item_takeEvent 14 = .ok (.putfield 9, 3) := by decide +kernel
theorem d_Item_takeEvent_17 : decode b_Item_takeEvent 17 = .ok (.aload_n 0, 1) := by decide +kernel
theorem d_Item_takeEvent_18 : decode b_Item_takeEvent 18 = .ok (.lload_n 2, 1) := by decide +kernel
theorem d_Item_takeEvent_19 : decode b_Item_takeEvent 19 = .ok (.putfield 19, 3) := by decide +kernel
theorem d_Item_takeEvent_22 : decode b_Item_takeEvent 22 = .ok (.return_, 1) := by decide +kernel
theorem d_RowL_firstFor_0 : decode b_RowL_firstFor 0 = .ok (.iconst 0, 1) := by decide +kernel
theorem d_RowL_firstFor_1 : decode b_RowL_firstFor 1 = .ok (.istore 4, 2) := by decide +kernel
theorem d_RowL_firstFor_3 : decode b_RowL_firstFor 3 = .ok (.iload 4, 2) := by decide +kernel
theorem d_RowL_firstFor_5 : decode b_RowL_firstFor 5 = .ok (.aload_n 0, 1) := by decide +kernel
theorem d_RowL_firstFor_6 : decode b_RowL_firstFor 6 = .ok (.getfield 12, 3) := by decide +kernel
theorem d_RowL_firstFor_9 : decode b_RowL_firstFor 9 = .ok (.invokevirtual 21, 3) := by decide +kernel
theorem d_RowL_firstFor_12 : decode b_RowL_firstFor 12 = .ok (.if_icmp .ge 37, 3) := by decide +kernel
theorem d_RowL_firstFor_15 : decode b_RowL_firstFor 15 = .ok (.aload_n 0, 1) := by decide +kernel
theorem d_RowL_firstFor_16 : decode b_RowL_firstFor 16 = .ok (.getfield 12, 3) := by decide +kernel
theorem d_RowL_firstFor_19 : decode b_RowL_firstFor 19 = .ok (.iload 4, 2) := by decide +kernel
theorem d_RowL_firstFor_21 : decode b_RowL_firstFor 21 = .ok (.invokevirtual 34, 3) := by decide +kernel
theorem d_RowL_firstFor_24 : decode b_RowL_firstFor 24 = .ok (.checkcast 25, 3) := by decide +kernel
theorem d_RowL_firstFor_27 : decode b_RowL_firstFor 27 = .ok (.astore 5, 2) := by decide +kernel
theorem d_RowL_firstFor_29 : decode b_RowL_firstFor 29 = .ok (.aload 5, 2) := by decide +kernel
theorem d_RowL_firstFor_31 : decode b_RowL_firstFor 31 = .ok (.iload_n 1, 1) := by decide +kernel
theorem d_RowL_firstFor_32 : decode b_RowL_firstFor 32 = .ok (.iload_n 2, 1) := by decide +kernel
theorem d_RowL_firstFor_33 : decode b_RowL_firstFor 33 = .ok (.iload_n 3, 1) := by decide +kernel
theorem d_RowL_firstFor_34 : decode b_RowL_firstFor 34 = .ok (.invokevirtual 38, 3) := by decide +kernel
theorem d_RowL_firstFor_37 : decode b_RowL_firstFor 37 = .ok (.ifCond .eq 6, 3) := by decide +kernel
theorem d_RowL_firstFor_40 : decode b_RowL_firstFor 40 = .ok (.aload 5, 2) := by decide +kernel
theorem d_RowL_firstFor_42 : decode b_RowL_firstFor 42 = .ok (.areturn, 1) := by decide +kernel
theorem d_RowL_firstFor_43 : decode b_RowL_firstFor 43 = .ok (.iinc 4 1, 3) := by decide +kernel
theorem d_RowL_firstFor_46 : decode b_RowL_firstFor 46 = .ok (.goto (-43), 3) := by decide +kernel
theorem d_RowL_firstFor_49 : decode b_RowL_firstFor 49 = .ok (.aconst_null, 1) := by decide +kernel
theorem d_RowL_firstFor_50 : decode b_RowL_firstFor 50 = .ok (.areturn, 1) := by decide +kernel
theorem d_Row_isFor_0 : decode b_Row_isFor 0 = .ok (.aload_n 0, 1) := by decide +kernel
theorem d_Row_isFor_1 : decode b_Row_isFor 1 = .ok (.getfield 19, 3) := by decide +kernel
theorem d_Row_isFor_4 : decode b_Row_isFor 4 = .ok (.iload_n 1, 1) := by decide +kernel
theorem d_Row_isFor_5 : decode b_Row_isFor 5 = .ok (.if_icmp .ne 39, 3) := by decide +kernel
theorem d_Row_isFor_8 : decode b_Row_isFor 8 = .ok (.aload_n 0, 1) := by decide +kernel
theorem d_Row_isFor_9 : decode b_Row_isFor 9 = .ok (.getfield 22, 3) := by decide +kernel
theorem d_Row_isFor_12 : decode b_Row_isFor 12 = .ok (.iconst (-1), 1) := by decide +kernel
theorem d_Row_isFor_13 : decode b_Row_isFor 13 = .ok (.if_icmp .eq 11, 3) := by decide +kernel
theorem d_Row_isFor_16 : decode b_Row_isFor 16 = .ok (.aload_n 0, 1) := by decide +kernel
theorem d_Row_isFor_17 : decode b_Row_isFor 17 = .ok (.getfield 22, 3) := by decide +kernel
theorem d_Row_isFor_20 : decode b_Row_isFor 20 = .ok (.iload_n 2, 1) := by decide +kernel
theorem d_Row_isFor_21 : decode b_Row_isFor 21 = .ok (.if_icmp .ne 23, 3) := by decide +kernel
theorem d_Row_isFor_24 : decode b_Row_isFor 24 = .ok (.aload_n 0, 1) := by decide +kernel
theorem d_Row_isFor_25 : decode b_Row_isFor 25 = .ok (.getfield 25, 3) := by decide +kernel
theorem d_Row_isFor_28 : decode b_Row_isFor 28 = .ok (.iconst (-1), 1) := by decide +kernel
theorem d_Row_isFor_29 : decode b_Row_isFor 29 = .ok (.if_icmp .eq 11, 3) := by decide +kernel
theorem d_Row_isFor_32 : decode b_Row_isFor 32 = .ok (.aload_n 0, 1) := by decide +kernel
theorem d_Row_isFor_33 : decode b_Row_isFor 33 = .ok (.getfield 25, 3) := by decide +kernel
theorem d_Row_isFor_36 : decode b_Row_isFor 36 = .ok (.iload_n 3, 1) := by decide +kernel
theorem d_Row_isFor_37 : decode b_Row_isFor 37 = .ok (.if_icmp .ne 7, 3) := by decide +kernel
theorem d_Row_isFor_40 : decode b_Row_isFor 40 = .ok (.iconst 1, 1) := by decide +kernel
theorem d_Row_isFor_41 : decode b_Row_isFor 41 = .ok (.goto 4, 3) := by decide +kernel
theorem d_Row_isFor_44 : decode b_Row_isFor 44 = .ok (.iconst 0, 1) := by decide +kernel
theorem d_Row_isFor_45 : decode b_Row_isFor 45 = .ok (.ireturn, 1) := by decide +kernel
theorem d_X_expectNext_0 : decode b_X_expectNext 0 = .ok (.aload_n 2, 1) := by decide +kernel
theorem d_X_expectNext_1 : decode b_X_expectNext 1 = .ok (.ifnonnull 5, 3) := by decide +kernel
theorem d_X_expectNext_4 : decode b_X_expectNext 4 = .ok (.iconst 0, 1) := by decide +kernel
theorem d_X_expectNext_5 : decode b_X_expectNext 5 = .ok (.ireturn, 1) := by decide +kernel
theorem d_X_expectNext_6 : decode b_X_expectNext 6 = .ok (.aload_n 2, 1) := by decide +kernel
theorem d_X_expectNext_7 : decode b_X_expectNext 7 = .ok (.getfield 171, 3) := by decide +kernel
theorem d_X_expectNext_10 : decode b_X_expectNext 10 = .ok (.ifCond .eq 17, 3) := by decide +kernel
theorem d_X_expectNext_13 : decode b_X_expectNext 13 = .ok (.aload_n 0, 1) := by decide +kernel
theorem d_X_expectNext_14 : decode b_X_expectNext 14 = .ok (.getfield 10, 3) := by decide +kernel
theorem d_X_expectNext_17 : decode b_X_expectNext 17 = .ok (.aload_n 2, 1) := by decide +kernel
theorem d_X_expectNext_18 : decode b_X_expectNext 18 = .ok (.invokevirtual 176, 3) := by decide +kernel
theorem d_X_expectNext_21 : decode b_X_expectNext 21 = .ok (.aload_n 2, 1) := by decide +kernel
theorem d_X_expectNext_22 : decode b_X_expectNext 22 = .ok (.getfield 180, 3) := by decide +kernel
theorem d_X_expectNext_25 : decode b_X_expectNext 25 = .ok (.ineg, 1) := by decide +kernel
theorem d_X_expectNext_26 : decode b_X_expectNext 26 = .ok (.ireturn, 1) := by decide +kernel
theorem d_X_expectNext_27 : decode b_X_expectNext 27 = .ok (.aload_n 1, 1) := by decide +kernel
theorem d_X_expectNext_28 : decode b_X_expectNext 28 = .ok (.aload_n 2, 1) := by decide +kernel
theorem d_X_expectNext_29 : decode b_X_expectNext 29 = .ok (.getfield 180, 3) := by decide +kernel
theorem d_X_expectNext_32 : decode b_X_expectNext 32 = .ok (.iload_n 3, 1) := by decide +kernel
theorem d_X_expectNext_33 : decode b_X_expectNext 33 = .ok (.aload_n 0, 1) := by decide +kernel
theorem d_X_expectNext_34 : decode b_X_expectNext 34 = .ok (.getfield 19, 3) := by decide +kernel
theorem d_X_expectNext_37 : decode b_X_expectNext 37 = .ok (.lload 4, 2) := by decide +kernel
theorem d_X_expectNext_39 : decode b_X_expectNext 39 = .ok (.aload_n 2, 1) := by decide +kernel
theorem d_X_expectNext_40 : decode b_X_expectNext 40 = .ok (.getfield 184, 3) := by decide +kernel
theorem d_X_expectNext_43 : decode b_X_expectNext 43 = .ok (.invokevirtual 187, 3) := by decide +kernel
theorem d_X_expectNext_46 : decode b_X_expectNext 46 = .ok (.invokevirtual 191, 3) := by decide +kernel
theorem d_X_expectNext_49 : decode b_X_expectNext 49 = .ok (.aload_n 0, 1) := by decide +kernel
theorem d_X_expectNext_50 : decode b_X_expectNext 50 = .ok (.getfield 33, 3) := by decide +kernel
theorem d_X_expectNext_53 : decode b_X_expectNext 53 = .ok (.iload_n 3, 1) := by decide +kernel
theorem d_X_expectNext_54 : decode b_X_expectNext 54 = .ok (.invokevirtual 195, 3) := by decide +kernel
theorem d_X_expectNext_57 : decode b_X_expectNext 57 = .ok (.aload_n 2, 1) := by decide +kernel
theorem d_X_expectNext_58 : decode b_X_expectNext 58 = .ok (.getfield 180, 3) := by decide +kernel
theorem d_X_expectNext_61 : decode b_X_expectNext 61 = .ok (.ireturn, 1) := by decide +kernel
theorem d_RowL_noteFailed_0 : decode b_RowL_noteFailed 0 = .ok (.aload_n 1, 1) := by decide +kernel
theorem d_RowL_noteFailed_1 : decode b_RowL_noteFailed 1 = .ok (.getfield 42, 3) := by decide +kernel
theorem d_RowL_noteFailed_4 : decode b_RowL_noteFailed 4 = .ok (.ifCond .ne 17, 3) := by decide +kernel
theorem d_RowL_noteFailed_7 : decode b_RowL_noteFailed 7 = .ok (.aload_n 1, 1) := by decide +kernel
theorem d_RowL_noteFailed_8 : decode b_RowL_noteFailed 8 = .ok (.iconst 1, 1) := by decide +kernel
theorem d_RowL_noteFailed_9 : decode b_RowL_noteFailed 9 = .ok (.putfield 42, 3) := by decide +kernel
theorem d_RowL_noteFailed_12 : decode b_RowL_noteFailed 12 = .ok (.aload_n 0, 1) := by decide +kernel
theorem d_RowL_noteFailed_13 : decode b_RowL_noteFailed 13 = .ok (.getfield 18, 3) := by decide +kernel
theorem d_RowL_noteFailed_16 : decode b_RowL_noteFailed 16 = .ok (.aload_n 1, 1) := by decide +kernel
theorem d_RowL_noteFailed_17 : decode b_RowL_noteFailed 17 = .ok (.invokevirtual 30, 3) := by decide +kernel
theorem d_RowL_noteFailed_20 : decode b_RowL_noteFailed 20 = .ok (.pop, 1) := by decide +kernel
theorem d_RowL_noteFailed_21 : decode b_RowL_noteFailed 21 = .ok (.return_, 1) := by decide +kernel
theorem d_Holi_dueAfter_0 : decode b_Holi_dueAfter 0 = .ok (.lload_n 1, 1) := by decide +kernel
theorem d_Holi_dueAfter_1 : decode b_Holi_dueAfter 1 = .ok (.lload_n 3, 1) := by decide +kernel
theorem d_Holi_dueAfter_2 : decode b_Holi_dueAfter 2 = .ok (.ladd, 1) := by decide +kernel
theorem d_Holi_dueAfter_3 : decode b_Holi_dueAfter 3 = .ok (.lstore 5, 2) := by decide +kernel
theorem d_Holi_dueAfter_5 : decode b_Holi_dueAfter 5 = .ok (.iconst 0, 1) := by decide +kernel
theorem d_Holi_dueAfter_6 : decode b_Holi_dueAfter 6 = .ok (.istore 7, 2) := by decide +kernel
theorem d_Holi_dueAfter_8 : decode b_Holi_dueAfter 8 = .ok (.iload 7, 2) := by decide +kernel
theorem d_Holi_dueAfter_10 : decode b_Holi_dueAfter 10 = .ok (.aload_n 0, 1) := by decide +kernel
theorem d_Holi_dueAfter_11 : decode b_Holi_dueAfter 11 = .ok (.getfield 15, 3) := by decide +kernel
theorem d_Holi_dueAfter_14 : decode b_Holi_dueAfter 14 = .ok (.if_icmp .ge 69, 3) := by decide +kernel
theorem d_Holi_dueAfter_17 : decode b_Holi_dueAfter 17 = .ok (.aload_n 0, 1) := by decide +kernel
theorem d_Holi_dueAfter_18 : decode b_Holi_dueAfter 18 = .ok (.getfield 9, 3) := by decide +kernel
theorem d_Holi_dueAfter_21 : decode b_Holi_dueAfter 21 = .ok (.iload 7, 2) := by decide +kernel
theorem d_Holi_dueAfter_23 : decode b_Holi_dueAfter 23 = .ok (.laload, 1) := by decide +kernel
theorem d_Holi_dueAfter_24 : decode b_Holi_dueAfter 24 = .ok (.ldc2_w 23, 3) := by decide +kernel
theorem d_Holi_dueAfter_27 : decode b_Holi_dueAfter 27 = .ok (.lmul, 1) := by decide +kernel
theorem d_Holi_dueAfter_28 : decode b_Holi_dueAfter 28 = .ok (.lload_n 1, 1) := by decide +kernel
theorem d_Holi_dueAfter_29 : decode b_Holi_dueAfter 29 = .ok (.invokestatic 25, 3) := by decide +kernel
theorem d_Holi_dueAfter_32 : decode b_Holi_dueAfter 32 = .ok (.lstore 8, 2) := by decide +kernel
theorem d_Holi_dueAfter_34 : decode b_Holi_dueAfter 34 = .ok (.aload_n 0, 1) := by decide +kernel
theorem d_Holi_dueAfter_35 : decode b_Holi_dueAfter 35 = .ok (.getfield 9, 3) := by decide +kernel
theorem d_Holi_dueAfter_38 : decode b_Holi_dueAfter 38 = .ok (.iload 7, 2) := by decide +kernel
theorem d_Holi_dueAfter_40 : decode b_Holi_dueAfter 40 = .ok (.laload, 1) := by decide +kernel
theorem d_Holi_dueAfter_41 : decode b_Holi_dueAfter 41 = .ok (.ldc2_w 23, 3) := by decide +kernel
theorem d_Holi_dueAfter_44 : decode b_Holi_dueAfter 44 = .ok (.lmul, 1) := by decide +kernel
theorem d_Holi_dueAfter_45 : decode b_Holi_dueAfter 45 = .ok (.ldc2_w 23, 3) := by decide +kernel
theorem d_Holi_dueAfter_48 : decode b_Holi_dueAfter 48 = .ok (.ladd, 1) := by decide +kernel
theorem d_Holi_dueAfter_49 : decode b_Holi_dueAfter 49 = .ok (.lstore 10, 2) := by decide +kernel
theorem d_Holi_dueAfter_51 : decode b_Holi_dueAfter 51 = .ok (.lload 8, 2) := by decide +kernel
theorem d_Holi_dueAfter_53 : decode b_Holi_dueAfter 53 = .ok (.lload 10, 2) := by decide +kernel
theorem d_Holi_dueAfter_55 : decode b_Holi_dueAfter 55 = .ok (.lcmp, 1) := by decide +kernel
theorem d_Holi_dueAfter_56 : decode b_Holi_dueAfter 56 = .ok (.ifCond .ge 21, 3) := by decide +kernel
theorem d_Holi_dueAfter_59 : decode b_Holi_dueAfter 59 = .ok (.lload 8, 2) := by decide +kernel
theorem d_Holi_dueAfter_61 : decode b_Holi_dueAfter 61 = .ok (.lload 5, 2) := by decide +kernel
theorem d_Holi_dueAfter_63 : decode b_Holi_dueAfter 63 = .ok (.lcmp, 1) := by decide +kernel
theorem d_Holi_dueAfter_64 : decode b_Holi_dueAfter 64 = .ok (.ifCond .ge 13, 3) := by decide +kernel
theorem d_Holi_dueAfter_67 : decode b_Holi_dueAfter 67 = .ok (.lload 5, 2) := by decide +kernel
theorem d_Holi_dueAfter_69 : decode b_Holi_dueAfter 69 = .ok (.lload 10, 2) := by decide +kernel
theorem d_Holi_dueAfter_71 : decode b_Holi_dueAfter 71 = .ok (.lload 8, 2) := by decide +kernel
theorem d_Holi_dueAfter_73 : decode b_Holi_dueAfter 73 = .ok (.lsub, 1) := by decide +kernel
theorem d_Holi_dueAfter_74 : decode b_Holi_dueAfter 74 = .ok (.ladd, 1) := by decide +kernel
theorem d_Holi_dueAfter_75 : decode b_Holi_dueAfter 75 = .ok (.lstore 5, 2) := by decide +kernel
theorem d_Holi_dueAfter_77 : decode b_Holi_dueAfter 77 = .ok (.iinc 7 1, 3) := by decide +kernel
theorem d_Holi_dueAfter_80 : decode b_Holi_dueAfter 80 = .ok (.goto (-72), 3) := by decide +kernel
theorem d_Holi_dueAfter_83 : decode b_Holi_dueAfter 83 = .ok (.lload 5, 2) := by decide +kernel
theorem d_Holi_dueAfter_85 : decode b_Holi_dueAfter 85 = .ok (.lreturn, 1) := by decide +kernel
theorem d_Item_expect_0 : decode b_Item_expect 0 = .ok (.aload_n 0, 1) := by decide +kernel
theorem d_Item_expect_1 : decode b_Item_expect 1 = .ok (.iload_n 1, 1) := by decide +kernel
theorem d_Item_expect_2 : decode b_Item_expect 2 = .ok (.putfield 22, 3) := by decide +kernel
theorem d_Item_expect_5 : decode b_Item_expect 5 = .ok (.aload_n 0, 1) := by decide +kernel
theorem d_Item_expect_6 : decode b_Item_expect 6 = .ok (.iload_n 2, 1) := by decide +kernel
theorem d_Item_expect_7 : decode b_Item_expect 7 = .ok (.putfield 25, 3) := by decide +kernel
theorem d_Item_expect_10 : decode b_Item_expect 10 = .ok (.aload_n 0, 1) := by decide +kernel
theorem d_Item_expect_11 : decode b_Item_expect 11 = .ok (.lload_n 3, 1) := by decide +kernel
theorem d_Item_expect_12 : decode b_Item_expect 12 = .ok (.putfield 28, 3) := by decide +kernel
theorem d_Item_expect_15 : decode b_Item_expect 15 = .ok (.return_, 1) := by decide +kernel
theorem d_Cnts_addBegun_0 : decode b_Cnts_addBegun 0 = .ok (.iload_n 1, 1) := by decide +kernel
theorem d_Cnts_addBegun_1 : decode b_Cnts_addBegun 1 = .ok (.invokestatic 18, 3) := by decide +kernel
theorem d_Cnts_addBegun_4 : decode b_Cnts_addBegun 4 = .ok (.ifCond .eq 13, 3) := by decide +kernel
theorem d_Cnts_addBegun_7 : decode b_Cnts_addBegun 7 = .ok (.aload_n 0, 1) := by decide +kernel
theorem d_Cnts_addBegun_8 : decode b_Cnts_addBegun 8 = .ok (.getfield 9, 3) := by decide +kernel
theorem d_Cnts_addBegun_11 : decode b_Cnts_addBegun 11 = .ok (.iload_n 1, 1) := by decide +kernel
theorem d_Cnts_addBegun_12 : decode b_Cnts_addBegun 12 = .ok (.dup2, 1) := by decide +kernel
theorem d_Cnts_addBegun_13 : decode b_Cnts_addBegun 13 = .ok (.iaload, 1) := by decide +kernel
theorem d_Cnts_addBegun_14 : decode b_Cnts_addBegun 14 = .ok (.iconst 1, 1) := by decide +kernel
theorem d_Cnts_addBegun_15 : decode b_Cnts_addBegun 15 = .ok (.iadd, 1) := by decide +kernel
theorem d_Cnts_addBegun_16 : decode b_Cnts_addBegun 16 = .ok (.iastore, 1) := by decide +kernel
theorem d_Cnts_addBegun_17 : decode b_Cnts_addBegun 17 = .ok (.return_, 1) := by decide +kernel
theorem d_X_tick_0 : decode b_X_tick 0 = .ok (.lload_n 1, 1) := by decide +kernel
theorem d_X_tick_1 : decode b_X_tick 1 = .ok (.aload_n 0, 1) := by decide +kernel
theorem d_X_tick_2 : decode b_X_tick 2 = .ok (.getfield 50, 3) := by decide +kernel
theorem d_X_tick_5 : decode b_X_tick 5 = .ok (.lcmp, 1) := by decide +kernel
theorem d_X_tick_6 : decode b_X_tick 6 = .ok (.ifCond .lt 11, 3) := by decide +kernel
theorem d_X_tick_9 : decode b_X_tick 9 = .ok (.lload_n 1, 1) := by decide +kernel
theorem d_X_tick_10 : decode b_X_tick 10 = .ok (.ldc2_w 101, 3) := by decide +kernel
theorem d_X_tick_13 : decode b_X_tick 13 = .ok (.lcmp, 1) := by decide +kernel
theorem d_X_tick_14 : decode b_X_tick 14 = .ok (.ifCond .le 6, 3) := by decide +kernel
theorem d_X_tick_17 : decode b_X_tick 17 = .ok (.bipush (-102), 2) := by decide +kernel
theorem d_X_tick_19 : decode b_X_tick 19 = .ok (.ireturn, 1) := by decide +kernel
theorem d_X_tick_20 : decode b_X_tick 20 = .ok (.aload_n 0, 1) := by decide +kernel
theorem d_X_tick_21 : decode b_X_tick 21 = .ok (.lload_n 1, 1) := by decide +kernel
theorem d_X_tick_22 : decode b_X_tick 22 = .ok (.putfield 50, 3) := by decide +kernel
theorem d_X_tick_25 : decode b_X_tick 25 = .ok (.aload_n 0, 1) := by decide +kernel
theorem d_X_tick_26 : decode b_X_tick 26 = .ok (.getfield 26, 3) := by decide +kernel
theorem d_X_tick_29 : decode b_X_tick 29 = .ok (.invokevirtual 103, 3) := by decide +kernel
theorem d_X_tick_32 : decode b_X_tick 32 = .ok (.istore_n 3, 1) := by decide +kernel
theorem d_X_tick_33 : decode b_X_tick 33 = .ok (.iconst 0, 1) := by decide +kernel
theorem d_X_tick_34 : decode b_X_tick 34 = .ok (.istore 4, 2) := by decide +kernel
theorem d_X_tick_36 : decode b_X_tick 36 = .ok (.iload 4, 2) := by decide +kernel
theorem d_X_tick_38 : decode b_X_tick 38 = .ok (.sipush 200, 3) := by decide +kernel
theorem d_X_tick_41 : decode b_X_tick 41 = .ok (.if_icmp .ge 35, 3) := by decide +kernel
theorem d_X_tick_44 : decode b_X_tick 44 = .ok (.aload_n 0, 1) := by decide +kernel
theorem d_X_tick_45 : decode b_X_tick 45 = .ok (.iload 4, 2) := by decide +kernel
theorem d_X_tick_47 : decode b_X_tick 47 = .ok (.aload_n 0, 1) := by decide +kernel
theorem d_X_tick_48 : decode b_X_tick 48 = .ok (.getfield 46, 3) := by decide +kernel
theorem d_X_tick_51 : decode b_X_tick 51 = .ok (.iload 4, 2) := by decide +kernel
theorem d_X_tick_53 : decode b_X_tick 53 = .ok (.aaload, 1) := by decide +kernel
theorem d_X_tick_54 : decode b_X_tick 54 = .ok (.invokevirtual 107, 3) := by decide +kernel
theorem d_X_tick_57 : decode b_X_tick 57 = .ok (.aload_n 0, 1) := by decide +kernel
theorem d_X_tick_58 : decode b_X_tick 58 = .ok (.iload 4, 2) := by decide +kernel
theorem d_X_tick_60 : decode b_X_tick 60 = .ok (.aload_n 0, 1) := by decide +kernel
theorem d_X_tick_61 : decode b_X_tick 61 = .ok (.getfield 46, 3) := by decide +kernel
theorem d_X_tick_64 : decode b_X_tick 64 = .ok (.iload 4, 2) := by decide +kernel
theorem d_X_tick_66 : decode b_X_tick 66 = .ok (.aaload, 1) := by decide +kernel
theorem d_X_tick_67 : decode b_X_tick 67 = .ok (.invokevirtual 111, 3) := by decide +kernel
theorem d_X_tick_70 : decode b_X_tick 70 = .ok (.iinc 4 1, 3) := by decide +kernel
theorem d_X_tick_73 : decode b_X_tick 73 = .ok (.goto (-37), 3) := by decide +kernel
theorem d_X_tick_76 : decode b_X_tick 76 = .ok (.aload_n 0, 1) := by decide +kernel
theorem d_X_tick_77 : decode b_X_tick 77 = .ok (.getfield 26, 3) := by decide +kernel
theorem d_X_tick_80 : decode b_X_tick 80 = .ok (.invokevirtual 103, 3) := by decide +kernel
theorem d_X_tick_83 : decode b_X_tick 83 = .ok (.iload_n 3, 1) := by decide +kernel
theorem d_X_tick_84 : decode b_X_tick 84 = .ok (.isub, 1) := by decide +kernel
theorem d_X_tick_85 : decode b_X_tick 85 = .ok (.ireturn, 1) := by decide +kernel
theorem d_AlarmL_size_0 : decode b_AlarmL_size 0 = .ok (.aload_n 0, 1) := by decide +kernel
theorem d_AlarmL_size_1 : decode b_AlarmL_size 1 = .ok (.getfield 12, 3) := by decide +kernel
theorem d_AlarmL_size_4 : decode b_AlarmL_size 4 = .ok (.invokevirtual 18, 3) := by decide +kernel
theorem d_AlarmL_size_7 : decode b_AlarmL_size 7 = .ok (.ireturn, 1) := by decide +kernel
theorem d_X_tellLate_0 : decode b_X_tellLate 0 = .ok (.aload_n 2, 1) := by decide +kernel
theorem d_X_tellLate_1 : decode b_X_tellLate 1 = .ok (.invokevirtual 199, 3) := by decide +kernel
theorem d_X_tellLate_4 : decode b_X_tellLate 4 = .ok (.ifCond .eq 48, 3) := by decide +kernel
theorem d_X_tellLate_7 : decode b_X_tellLate 7 = .ok (.aload_n 2, 1) := by decide +kernel
theorem d_X_tellLate_8 : decode b_X_tellLate 8 = .ok (.getfield 203, 3) := by decide +kernel
theorem d_X_tellLate_11 : decode b_X_tellLate 11 = .ok (.ifCond .ne 41, 3) := by decide +kernel
theorem d_X_tellLate_14 : decode b_X_tellLate 14 = .ok (.aload_n 2, 1) := by decide +kernel
theorem d_X_tellLate_15 : decode b_X_tellLate 15 = .ok (.getfield 206, 3) := by decide +kernel
theorem d_X_tellLate_18 : decode b_X_tellLate 18 = .ok (.aload_n 0, 1) := by decide +kernel
theorem d_X_tellLate_19 : decode b_X_tellLate 19 = .ok (.getfield 50, 3) := by decide +kernel
theorem d_X_tellLate_22 : decode b_X_tellLate 22 = .ok (.lcmp, 1) := by decide +kernel
theorem d_X_tellLate_23 : decode b_X_tellLate 23 = .ok (.ifCond .ge 29, 3) := by decide +kernel
theorem d_X_tellLate_26 : decode b_X_tellLate 26 = .ok (.aload_n 2, 1) := by decide +kernel
theorem d_X_tellLate_27 : decode b_X_tellLate 27 = .ok (.iconst 1, 1) := by decide +kernel
theorem d_X_tellLate_28 : decode b_X_tellLate 28 = .ok (.putfield 203, 3) := by decide +kernel
theorem d_X_tellLate_31 : decode b_X_tellLate 31 = .ok (.aload_n 0, 1) := by decide +kernel
theorem d_X_tellLate_32 : decode b_X_tellLate 32 = .ok (.getfield 33, 3) := by decide +kernel
theorem d_X_tellLate_35 : decode b_X_tellLate 35 = .ok (.aload_n 2, 1) := by decide +kernel
theorem d_X_tellLate_36 : decode b_X_tellLate 36 = .ok (.getfield 209, 3) := by decide +kernel
theorem d_X_tellLate_39 : decode b_X_tellLate 39 = .ok (.invokevirtual 212, 3) := by decide +kernel
theorem d_X_tellLate_42 : decode b_X_tellLate 42 = .ok (.aload_n 0, 1) := by decide +kernel
theorem d_X_tellLate_43 : decode b_X_tellLate 43 = .ok (.getfield 26, 3) := by decide +kernel
theorem d_X_tellLate_46 : decode b_X_tellLate 46 = .ok (.iload_n 1, 1) := by decide +kernel
theorem d_X_tellLate_47 : decode b_X_tellLate 47 = .ok (.iconst 1, 1) := by decide +kernel
theorem d_X_tellLate_48 : decode b_X_tellLate 48 = .ok (.aload_n 2, 1) := by decide +kernel
theorem d_X_tellLate_49 : decode b_X_tellLate 49 = .ok (.invokevirtual 215, 3) := by decide +kernel
theorem d_X_tellLate_52 : decode b_X_tellLate 52 = .ok (.return_, 1) := by decide +kernel
theorem d_Item_isExpected_0 : decode b_Item_isExpected 0 = .ok (.aload_n 0, 1) := by decide +kernel
theorem d_Item_isExpected_1 : decode b_Item_isExpected 1 = .ok (.getfield 22, 3) := by decide +kernel
theorem d_Item_isExpected_4 : decode b_Item_isExpected 4 = .ok (.ifCond .eq 7, 3) := by decide +kernel
theorem d_Item_isExpected_7 : decode b_Item_isExpected 7 = .ok (.iconst 1, 1) := by decide +kernel
theorem d_Item_isExpected_8 : decode b_Item_isExpected 8 = .ok (.goto 4, 3) := by decide +kernel
theorem d_Item_isExpected_11 : decode b_Item_isExpected 11 = .ok (.iconst 0, 1) := by decide +kernel
theorem d_Item_isExpected_12 : decode b_Item_isExpected 12 = .ok (.ireturn, 1) := by decide +kernel
theorem d_Cnts_addLate_0 : decode b_Cnts_addLate 0 = .ok (.iload_n 1, 1) := by decide +kernel
theorem d_Cnts_addLate_1 : decode b_Cnts_addLate 1 = .ok (.invokestatic 18, 3) := by decide +kernel
theorem d_Cnts_addLate_4 : decode b_Cnts_addLate 4 = .ok (.ifCond .eq 13, 3) := by decide +kernel
theorem d_Cnts_addLate_7 : decode b_Cnts_addLate 7 = .ok (.aload_n 0, 1) := by decide +kernel
theorem d_Cnts_addLate_8 : decode b_Cnts_addLate 8 = .ok (.getfield 15, 3) := by decide +kernel
theorem d_Cnts_addLate_11 : decode b_Cnts_addLate 11 = .ok (.iload_n 1, 1) := by decide +kernel
theorem d_Cnts_addLate_12 : decode b_Cnts_addLate 12 = .ok (.dup2, 1) := by decide +kernel
theorem d_Cnts_addLate_13 : decode b_Cnts_addLate 13 = .ok (.iaload, 1) := by decide +kernel
theorem d_Cnts_addLate_14 : decode b_Cnts_addLate 14 = .ok (.iconst 1, 1) := by decide +kernel
theorem d_Cnts_addLate_15 : decode b_Cnts_addLate 15 = .ok (.iadd, 1) := by decide +kernel
theorem d_Cnts_addLate_16 : decode b_Cnts_addLate 16 = .ok (.iastore, 1) := by decide +kernel
theorem d_Cnts_addLate_17 : decode b_Cnts_addLate 17 = .ok (.return_, 1) := by decide +kernel
theorem d_AlarmL_addAlarm_0 : decode b_AlarmL_addAlarm 0 = .ok (.aload_n 0, 1) := by decide +kernel
theorem d_AlarmL_addAlarm_1 : decode b_AlarmL_addAlarm 1 = .ok (.getfield 12, 3) := by decide +kernel
theorem d_AlarmL_addAlarm_4 : decode b_AlarmL_addAlarm 4 = .ok (.invokevirtual 18, 3) := by decide +kernel
theorem d_AlarmL_addAlarm_7 : decode b_AlarmL_addAlarm 7 = .ok (.sipush 400, 3) := by decide +kernel
theorem d_AlarmL_addAlarm_10 : decode b_AlarmL_addAlarm 10 = .ok (.if_icmp .ge 33, 3) := by decide +kernel
theorem d_AlarmL_addAlarm_13 : decode b_AlarmL_addAlarm 13 = .ok (.aload_n 0, 1) := by decide +kernel
theorem d_AlarmL_addAlarm_14 : decode b_AlarmL_addAlarm 14 = .ok (.getfield 12, 3) := by decide +kernel
theorem d_AlarmL_addAlarm_17 : decode b_AlarmL_addAlarm 17 = .ok (.new 22, 3) := by decide +kernel
theorem d_AlarmL_addAlarm_20 : decode b_AlarmL_addAlarm 20 = .ok (.dup, 1) := by decide +kernel
theorem d_AlarmL_addAlarm_21 : decode b_AlarmL_addAlarm 21 = .ok (.iload_n 1, 1) := by decide +kernel
theorem d_AlarmL_addAlarm_22 : decode b_AlarmL_addAlarm 22 = .ok (.iload_n 2, 1) := by decide +kernel
theorem d_AlarmL_addAlarm_23 : decode b_AlarmL_addAlarm 23 = .ok (.aload_n 3, 1) := by decide +kernel
theorem d_AlarmL_addAlarm_24 : decode b_AlarmL_addAlarm 24 = .ok (.getfield 24, 3) := by decide +kernel
theorem d_AlarmL_addAlarm_27 : decode b_AlarmL_addAlarm 27 = .ok (.aload_n 3, 1) := by decide +kernel
theorem d_AlarmL_addAlarm_28 : decode b_AlarmL_addAlarm 28 = .ok (.getfield 30, 3) := by decide +kernel
theorem d_AlarmL_addAlarm_31 : decode b_AlarmL_addAlarm 31 = .ok (.aload_n 3, 1) := by decide +kernel
theorem d_AlarmL_addAlarm_32 : decode b_AlarmL_addAlarm 32 = .ok (.getfield 33, 3) := by decide +kernel
theorem d_AlarmL_addAlarm_35 : decode b_AlarmL_addAlarm 35 = .ok (.l2i, 1) := by decide +kernel
theorem d_AlarmL_addAlarm_36 : decode b_AlarmL_addAlarm 36 = .ok (.invokespecial 37, 3) := by decide +kernel
theorem d_AlarmL_addAlarm_39 : decode b_AlarmL_addAlarm 39 = .ok (.invokevirtual 40, 3) := by decide +kernel
theorem d_AlarmL_addAlarm_42 : decode b_AlarmL_addAlarm 42 = .ok (.pop, 1) := by decide +kernel
theorem d_AlarmL_addAlarm_43 : decode b_AlarmL_addAlarm 43 = .ok (.return_, 1) := by decide +kernel
theorem d_Alarm_init_0 : decode b_Alarm_init 0 = .ok (.aload_n 0, 1) := by decide +kernel
theorem d_Alarm_init_1 : decode b_Alarm_init 1 = .ok (.invokespecial 1, 3) := by decide +kernel
theorem d_Alarm_init_4 : decode b_Alarm_init 4 = .ok (.aload_n 0, 1) := by decide +kernel
theorem d_Alarm_init_5 : decode b_Alarm_init 5 = .ok (.iload_n 1, 1) := by decide +kernel
theorem d_Alarm_init_6 : decode b_Alarm_init 6 = .ok (.putfield 7, 3) := by decide +kernel
theorem d_Alarm_init_9 : decode b_Alarm_init 9 = .ok (.aload_n 0, 1) := by decide +kernel
theorem d_Alarm_init_10 : decode b_Alarm_init 10 = .ok (.iload_n 2, 1) := by decide +kernel
theorem d_Alarm_init_11 : decode b_Alarm_init 11 = .ok (.putfield 13, 3) := by decide +kernel
theorem d_Alarm_init_14 : decode b_Alarm_init 14 = .ok (.aload_n 0, 1) := by decide +kernel
theorem d_Alarm_init_15 : decode b_Alarm_init 15 = .ok (.iload_n 3, 1) := by decide +kernel
theorem d_Alarm_init_16 : decode b_Alarm_init 16 = .ok (.putfield 16, 3) := by decide +kernel
theorem d_Alarm_init_19 : decode b_Alarm_init 19 = .ok (.aload_n 0, 1) := by decide +kernel
theorem d_Alarm_init_20 : decode b_Alarm_init 20 = .ok (.iload 4, 2) := by decide +kernel
theorem d_Alarm_init_22 : decode b_Alarm_init 22 = .ok (.putfield 19, 3) := by decide +kernel
theorem d_Alarm_init_25 : decode b_Alarm_init 25 = .ok (.aload_n 0, 1) := by decide +kernel
theorem d_Alarm_init_26 : decode b_Alarm_init 26 = .ok (.iload 5, 2) := by decide +kernel
theorem d_Alarm_init_28 : decode b_Alarm_init 28 = .ok (.putfield 22, 3) := by decide +kernel
theorem d_Alarm_init_31 : decode b_Alarm_init 31 = .ok (.return_, 1) := by decide +kernel
theorem d_X_tellLost_0 : decode b_X_tellLost 0 = .ok (.aload_n 2, 1) := by decide +kernel
theorem d_X_tellLost_1 : decode b_X_tellLost 1 = .ok (.invokevirtual 199, 3) := by decide +kernel
theorem d_X_tellLost_4 : decode b_X_tellLost 4 = .ok (.ifCond .eq 41, 3) := by decide +kernel
theorem d_X_tellLost_7 : decode b_X_tellLost 7 = .ok (.aload_n 2, 1) := by decide +kernel
theorem d_X_tellLost_8 : decode b_X_tellLost 8 = .ok (.getfield 158, 3) := by decide +kernel
theorem d_X_tellLost_11 : decode b_X_tellLost 11 = .ok (.ifCond .ne 34, 3) := by decide +kernel
theorem d_X_tellLost_14 : decode b_X_tellLost 14 = .ok (.aload_n 0, 1) := by decide +kernel
theorem d_X_tellLost_15 : decode b_X_tellLost 15 = .ok (.getfield 50, 3) := by decide +kernel
theorem d_X_tellLost_18 : decode b_X_tellLost 18 = .ok (.aload_n 2, 1) := by decide +kernel
theorem d_X_tellLost_19 : decode b_X_tellLost 19 = .ok (.getfield 206, 3) := by decide +kernel
theorem d_X_tellLost_22 : decode b_X_tellLost 22 = .ok (.lsub, 1) := by decide +kernel
theorem d_X_tellLost_23 : decode b_X_tellLost 23 = .ok (.ldc2_w 219, 3) := by decide +kernel
theorem d_X_tellLost_26 : decode b_X_tellLost 26 = .ok (.lcmp, 1) := by decide +kernel
theorem d_X_tellLost_27 : decode b_X_tellLost 27 = .ok (.ifCond .le 18, 3) := by decide +kernel
theorem d_X_tellLost_30 : decode b_X_tellLost 30 = .ok (.aload_n 2, 1) := by decide +kernel
theorem d_X_tellLost_31 : decode b_X_tellLost 31 = .ok (.iconst 1, 1) := by decide +kernel
theorem d_X_tellLost_32 : decode b_X_tellLost 32 = .ok (.putfield 158, 3) := by decide +kernel
theorem d_X_tellLost_35 : decode b_X_tellLost 35 = .ok (.aload_n 0, 1) := by decide +kernel
theorem d_X_tellLost_36 : decode b_X_tellLost 36 = .ok (.getfield 26, 3) := by decide +kernel
theorem d_X_tellLost_39 : decode b_X_tellLost 39 = .ok (.iload_n 1, 1) := by decide +kernel
theorem d_X_tellLost_40 : decode b_X_tellLost 40 = .ok (.iconst 2, 1) := by decide +kernel
theorem d_X_tellLost_41 : decode b_X_tellLost 41 = .ok (.aload_n 2, 1) := by decide +kernel
theorem d_X_tellLost_42 : decode b_X_tellLost 42 = .ok (.invokevirtual 215, 3) := by decide +kernel
theorem d_X_tellLost_45 : decode b_X_tellLost 45 = .ok (.return_, 1) := by decide +kernel
theorem d_X_alarm_0 : decode b_X_alarm 0 = .ok (.aload_n 0, 1) := by decide +kernel
theorem d_X_alarm_1 : decode b_X_alarm 1 = .ok (.getfield 26, 3) := by decide +kernel
theorem d_X_alarm_4 : decode b_X_alarm 4 = .ok (.iload_n 1, 1) := by decide +kernel
theorem d_X_alarm_5 : decode b_X_alarm 5 = .ok (.iload_n 2, 1) := by decide +kernel
theorem d_X_alarm_6 : decode b_X_alarm 6 = .ok (.invokevirtual 114, 3) := by decide +kernel
theorem d_X_alarm_9 : decode b_X_alarm 9 = .ok (.ireturn, 1) := by decide +kernel
theorem d_AlarmL_partOf_0 : decode b_AlarmL_partOf 0 = .ok (.iload_n 1, 1) := by decide +kernel
theorem d_AlarmL_partOf_1 : decode b_AlarmL_partOf 1 = .ok (.ifCond .lt 14, 3) := by decide +kernel
theorem d_AlarmL_partOf_4 : decode b_AlarmL_partOf 4 = .ok (.iload_n 1, 1) := by decide +kernel
theorem d_AlarmL_partOf_5 : decode b_AlarmL_partOf 5 = .ok (.aload_n 0, 1) := by decide +kernel
theorem d_AlarmL_partOf_6 : decode b_AlarmL_partOf 6 = .ok (.getfield 12, 3) := by decide +kernel
theorem d_AlarmL_partOf_9 : decode b_AlarmL_partOf 9 = .ok (.invokevirtual 18, 3) := by decide +kernel
theorem d_AlarmL_partOf_12 : decode b_AlarmL_partOf 12 = .ok (.if_icmp .lt 5, 3) := by decide +kernel
theorem d_AlarmL_partOf_15 : decode b_AlarmL_partOf 15 = .ok (.iconst (-1), 1) := by decide +kernel
theorem d_AlarmL_partOf_16 : decode b_AlarmL_partOf 16 = .ok (.ireturn, 1) := by decide +kernel
theorem d_AlarmL_partOf_17 : decode b_AlarmL_partOf 17 = .ok (.aload_n 0, 1) := by decide +kernel
theorem d_AlarmL_partOf_18 : decode b_AlarmL_partOf 18 = .ok (.getfield 12, 3) := by decide +kernel
theorem d_AlarmL_partOf_21 : decode b_AlarmL_partOf 21 = .ok (.iload_n 1, 1) := by decide +kernel
theorem d_AlarmL_partOf_22 : decode b_AlarmL_partOf 22 = .ok (.invokevirtual 44, 3) := by decide +kernel
theorem d_AlarmL_partOf_25 : decode b_AlarmL_partOf 25 = .ok (.checkcast 22, 3) := by decide +kernel
theorem d_AlarmL_partOf_28 : decode b_AlarmL_partOf 28 = .ok (.astore_n 3, 1) := by decide +kernel
theorem d_AlarmL_partOf_29 : decode b_AlarmL_partOf 29 = .ok (.iload_n 2, 1) := by decide +kernel
theorem d_AlarmL_partOf_30 : decode b_AlarmL_partOf 30 = .ok (.tableswitch 59 0 4 #[34, 39, 44, 49, 54], 34) := by decide +kernel
theorem d_AlarmL_partOf_64 : decode b_AlarmL_partOf 64 = .ok (.aload_n 3, 1) := by decide +kernel
theorem d_AlarmL_partOf_65 : decode b_AlarmL_partOf 65 = .ok (.getfield 48, 3) := by decide +kernel
theorem d_AlarmL_partOf_68 : decode b_AlarmL_partOf 68 = .ok (.ireturn, 1) := by decide +kernel
theorem d_AlarmL_partOf_69 : decode b_AlarmL_partOf 69 = .ok (.aload_n 3, 1) := by decide +kernel
theorem d_AlarmL_partOf_70 : decode b_AlarmL_partOf 70 = .ok (.getfield 51, 3) := by decide +kernel
theorem d_AlarmL_partOf_73 : decode b_AlarmL_partOf 73 = .ok (.ireturn, 1) := by decide +kernel
theorem d_AlarmL_partOf_74 : decode b_AlarmL_partOf 74 = .ok (.aload_n 3, 1) := by decide +kernel
theorem d_AlarmL_partOf_75 : decode b_AlarmL_partOf 75 = .ok (.getfield 54, 3) := by decide +kernel
theorem d_AlarmL_partOf_78 : decode b_AlarmL_partOf 78 = .ok (.ireturn, 1) := by decide +kernel
theorem d_AlarmL_partOf_79 : decode b_AlarmL_partOf 79 = .ok (.aload_n 3, 1) := by decide +kernel
theorem d_AlarmL_partOf_80 : decode b_AlarmL_partOf 80 = .ok (.getfield 55, 3) := by decide +kernel
theorem d_AlarmL_partOf_83 : decode b_AlarmL_partOf 83 = .ok (.ireturn, 1) := by decide +kernel
theorem d_AlarmL_partOf_84 : decode b_AlarmL_partOf 84 = .ok (.aload_n 3, 1) := by decide +kernel
theorem d_AlarmL_partOf_85 : decode b_AlarmL_partOf 85 = .ok (.getfield 56, 3) := by decide +kernel
theorem d_AlarmL_partOf_88 : decode b_AlarmL_partOf 88 = .ok (.ireturn, 1) := by decide +kernel
theorem d_AlarmL_partOf_89 : decode b_AlarmL_partOf 89 = .ok (.iconst (-1), 1) := by decide +kernel
theorem d_AlarmL_partOf_90 : decode b_AlarmL_partOf 90 = .ok (.ireturn, 1) := by decide +kernel
theorem d_X_state_0 : decode b_X_state 0 = .ok (.iload_n 1, 1) := by decide +kernel
theorem d_X_state_1 : decode b_X_state 1 = .ok (.invokestatic 68, 3) := by decide +kernel
theorem d_X_state_4 : decode b_X_state 4 = .ok (.ifCond .ne 6, 3) := by decide +kernel
theorem d_X_state_7 : decode b_X_state 7 = .ok (.bipush (-101), 2) := by decide +kernel
theorem d_X_state_9 : decode b_X_state 9 = .ok (.ireturn, 1) := by decide +kernel
theorem d_X_state_10 : decode b_X_state 10 = .ok (.aload_n 0, 1) := by decide +kernel
theorem d_X_state_11 : decode b_X_state 11 = .ok (.getfield 46, 3) := by decide +kernel
theorem d_X_state_14 : decode b_X_state 14 = .ok (.iload_n 1, 1) := by decide +kernel
theorem d_X_state_15 : decode b_X_state 15 = .ok (.aaload, 1) := by decide +kernel
theorem d_X_state_16 : decode b_X_state 16 = .ok (.invokevirtual 118, 3) := by decide +kernel
theorem d_X_state_19 : decode b_X_state 19 = .ok (.ireturn, 1) := by decide +kernel
theorem d_Item_toldState_0 : decode b_Item_toldState 0 = .ok (.aload_n 0, 1) := by decide +kernel
theorem d_Item_toldState_1 : decode b_Item_toldState 1 = .ok (.getfield 35, 3) := by decide +kernel
theorem d_Item_toldState_4 : decode b_Item_toldState 4 = .ok (.ifCond .eq 12, 3) := by decide +kernel
theorem d_Item_toldState_7 : decode b_Item_toldState 7 = .ok (.aload_n 0, 1) := by decide +kernel
theorem d_Item_toldState_8 : decode b_Item_toldState 8 = .ok (.getfield 9, 3) := by decide +kernel
theorem d_Item_toldState_11 : decode b_Item_toldState 11 = .ok (.sipush 200, 3) := by decide +kernel
theorem d_Item_toldState_14 : decode b_Item_toldState 14 = .ok (.iadd, 1) := by decide +kernel
theorem d_Item_toldState_15 : decode b_Item_toldState 15 = .ok (.ireturn, 1) := by decide +kernel
theorem d_Item_toldState_16 : decode b_Item_toldState 16 = .ok (.aload_n 0, 1) := by decide +kernel
theorem d_Item_toldState_17 : decode b_Item_toldState 17 = .ok (.getfield 31, 3) := by decide +kernel
theorem d_Item_toldState_20 : decode b_Item_toldState 20 = .ok (.ifCond .eq 13, 3) := by decide +kernel
theorem d_Item_toldState_23 : decode b_Item_toldState 23 = .ok (.aload_n 0, 1) := by decide +kernel
theorem d_Item_toldState_24 : decode b_Item_toldState 24 = .ok (.getfield 9, 3) := by decide +kernel
theorem d_Item_toldState_27 : decode b_Item_toldState 27 = .ok (.bipush 100, 2) := by decide +kernel
theorem d_Item_toldState_29 : decode b_Item_toldState 29 = .ok (.iadd, 1) := by decide +kernel
theorem d_Item_toldState_30 : decode b_Item_toldState 30 = .ok (.goto 7, 3) := by decide +kernel
theorem d_Item_toldState_33 : decode b_Item_toldState 33 = .ok (.aload_n 0, 1) := by decide +kernel
theorem d_Item_toldState_34 : decode b_Item_toldState 34 = .ok (.getfield 9, 3) := by decide +kernel
theorem d_Item_toldState_37 : decode b_Item_toldState 37 = .ok (.ireturn, 1) := by decide +kernel
theorem d_X_holiday_0 : decode b_X_holiday 0 = .ok (.lload_n 1, 1) := by decide +kernel
theorem d_X_holiday_1 : decode b_X_holiday 1 = .ok (.lconst 0, 1) := by decide +kernel
theorem d_X_holiday_2 : decode b_X_holiday 2 = .ok (.lcmp, 1) := by decide +kernel
theorem d_X_holiday_3 : decode b_X_holiday 3 = .ok (.ifCond .lt 11, 3) := by decide +kernel
theorem d_X_holiday_6 : decode b_X_holiday 6 = .ok (.lload_n 1, 1) := by decide +kernel
theorem d_X_holiday_7 : decode b_X_holiday 7 = .ok (.ldc2_w 121, 3) := by decide +kernel
theorem d_X_holiday_10 : decode b_X_holiday 10 = .ok (.lcmp, 1) := by decide +kernel
theorem d_X_holiday_11 : decode b_X_holiday 11 = .ok (.ifCond .le 6, 3) := by decide +kernel
theorem d_X_holiday_14 : decode b_X_holiday 14 = .ok (.bipush (-102), 2) := by decide +kernel
theorem d_X_holiday_16 : decode b_X_holiday 16 = .ok (.ireturn, 1) := by decide +kernel
theorem d_X_holiday_17 : decode b_X_holiday 17 = .ok (.aload_n 0, 1) := by decide +kernel
theorem d_X_holiday_18 : decode b_X_holiday 18 = .ok (.getfield 19, 3) := by decide +kernel
theorem d_X_holiday_21 : decode b_X_holiday 21 = .ok (.lload_n 1, 1) := by decide +kernel
theorem d_X_holiday_22 : decode b_X_holiday 22 = .ok (.invokevirtual 123, 3) := by decide +kernel
theorem d_X_holiday_25 : decode b_X_holiday 25 = .ok (.ireturn, 1) := by decide +kernel
theorem d_Holi_addDay_0 : decode b_Holi_addDay 0 = .ok (.aload_n 0, 1) := by decide +kernel
theorem d_Holi_addDay_1 : decode b_Holi_addDay 1 = .ok (.lload_n 1, 1) := by decide +kernel
theorem d_Holi_addDay_2 : decode b_Holi_addDay 2 = .ok (.invokevirtual 19, 3) := by decide +kernel
theorem d_Holi_addDay_5 : decode b_Holi_addDay 5 = .ok (.ifCond .eq 5, 3) := by decide +kernel
theorem d_Holi_addDay_8 : decode b_Holi_addDay 8 = .ok (.iconst 0, 1) := by decide +kernel
theorem d_Holi_addDay_9 : decode b_Holi_addDay 9 = .ok (.ireturn, 1) := by decide +kernel
theorem d_Holi_addDay_10 : decode b_Holi_addDay 10 = .ok (.aload_n 0, 1) := by decide +kernel
theorem d_Holi_addDay_11 : decode b_Holi_addDay 11 = .ok (.getfield 15, 3) := by decide +kernel
theorem d_Holi_addDay_14 : decode b_Holi_addDay 14 = .ok (.bipush 100, 2) := by decide +kernel
theorem d_Holi_addDay_16 : decode b_Holi_addDay 16 = .ok (.if_icmp .lt 6, 3) := by decide +kernel
theorem d_Holi_addDay_19 : decode b_Holi_addDay 19 = .ok (.bipush (-104), 2) := by decide +kernel
theorem d_Holi_addDay_21 : decode b_Holi_addDay 21 = .ok (.ireturn, 1) := by decide +kernel
theorem d_Holi_addDay_22 : decode b_Holi_addDay 22 = .ok (.aload_n 0, 1) := by decide +kernel
theorem d_Holi_addDay_23 : decode b_Holi_addDay 23 = .ok (.getfield 15, 3) := by decide +kernel
theorem d_Holi_addDay_26 : decode b_Holi_addDay 26 = .ok (.istore_n 3, 1) := by decide +kernel
theorem d_Holi_addDay_27 : decode b_Holi_addDay 27 = .ok (.iload_n 3, 1) := by decide +kernel
theorem d_Holi_addDay_28 : decode b_Holi_addDay 28 = .ok (.ifCond .le 36, 3) := by decide +kernel
theorem d_Holi_addDay_31 : decode b_Holi_addDay 31 = .ok (.aload_n 0, 1) := by decide +kernel
theorem d_Holi_addDay_32 : decode b_Holi_addDay 32 = .ok (.getfield 9, 3) := by decide +kernel
theorem d_Holi_addDay_35 : decode b_Holi_addDay 35 = .ok (.iload_n 3, 1) := by decide +kernel
theorem d_Holi_addDay_36 : decode b_Holi_addDay 36 = .ok (.iconst 1, 1) := by decide +kernel
theorem d_Holi_addDay_37 : decode b_Holi_addDay 37 = .ok (.isub, 1) := by decide +kernel
theorem d_Holi_addDay_38 : decode b_Holi_addDay 38 = .ok (.laload, 1) := by decide +kernel
theorem d_Holi_addDay_39 : decode b_Holi_addDay 39 = .ok (.lload_n 1, 1) := by decide +kernel
theorem d_Holi_addDay_40 : decode b_Holi_addDay 40 = .ok (.lcmp, 1) := by decide +kernel
theorem d_Holi_addDay_41 : decode b_Holi_addDay 41 = .ok (.ifCond .le 23, 3) := by decide +kernel
theorem d_Holi_addDay_44 : decode b_Holi_addDay 44 = .ok (.aload_n 0, 1) := by decide +kernel
theorem d_Holi_addDay_45 : decode b_Holi_addDay 45 = .ok (.getfield 9, 3) := by decide +kernel
theorem d_Holi_addDay_48 : decode b_Holi_addDay 48 = .ok (.iload_n 3, 1) := by decide +kernel
theorem d_Holi_addDay_49 : decode b_Holi_addDay 49 = .ok (.aload_n 0, 1) := by decide +kernel
theorem d_Holi_addDay_50 : decode b_Holi_addDay 50 = .ok (.getfield 9, 3) := by decide +kernel
theorem d_Holi_addDay_53 : decode b_Holi_addDay 53 = .ok (.iload_n 3, 1) := by decide +kernel
theorem d_Holi_addDay_54 : decode b_Holi_addDay 54 = .ok (.iconst 1, 1) := by decide +kernel
theorem d_Holi_addDay_55 : decode b_Holi_addDay 55 = .ok (.isub, 1) := by decide +kernel
theorem d_Holi_addDay_56 : decode b_Holi_addDay 56 = .ok (.laload, 1) := by decide +kernel
theorem d_Holi_addDay_57 : decode b_Holi_addDay 57 = .ok (.lastore, 1) := by decide +kernel
theorem d_Holi_addDay_58 : decode b_Holi_addDay 58 = .ok (.iinc 3 (-1), 3) := by decide +kernel
theorem d_Holi_addDay_61 : decode b_Holi_addDay 61 = .ok (.goto (-34), 3) := by decide +kernel
theorem d_Holi_addDay_64 : decode b_Holi_addDay 64 = .ok (.aload_n 0, 1) := by decide +kernel
theorem d_Holi_addDay_65 : decode b_Holi_addDay 65 = .ok (.getfield 9, 3) := by decide +kernel
theorem d_Holi_addDay_68 : decode b_Holi_addDay 68 = .ok (.iload_n 3, 1) := by decide +kernel
theorem d_Holi_addDay_69 : decode b_Holi_addDay 69 = .ok (.lload_n 1, 1) := by decide +kernel
theorem d_Holi_addDay_70 : decode b_Holi_addDay 70 = .ok (.lastore, 1) := by decide +kernel
theorem d_Holi_addDay_71 : decode b_Holi_addDay 71 = .ok (.aload_n 0, 1) := by decide +kernel
theorem d_Holi_addDay_72 : decode b_Holi_addDay 72 = .ok (.dup, 1) := by decide +kernel
theorem d_Holi_addDay_73 : decode b_Holi_addDay 73 = .ok (.getfield 15, 3) := by decide +kernel
theorem d_Holi_addDay_76 : decode b_Holi_addDay 76 = .ok (.iconst 1, 1) := by decide +kernel
theorem d_Holi_addDay_77 : decode b_Holi_addDay 77 = .ok (.iadd, 1) := by decide +kernel
theorem d_Holi_addDay_78 : decode b_Holi_addDay 78 = .ok (.putfield 15, 3) := by decide +kernel
theorem d_Holi_addDay_81 : decode b_Holi_addDay 81 = .ok (.iconst 1, 1) := by decide +kernel
theorem d_Holi_addDay_82 : decode b_Holi_addDay 82 = .ok (.ireturn, 1) := by decide +kernel
theorem d_Holi_holds_0 : decode b_Holi_holds 0 = .ok (.iconst 0, 1) := by decide +kernel
theorem d_Holi_holds_1 : decode b_Holi_holds 1 = .ok (.istore_n 3, 1) := by decide +kernel
theorem d_Holi_holds_2 : decode b_Holi_holds 2 = .ok (.iload_n 3, 1) := by decide +kernel
theorem d_Holi_holds_3 : decode b_Holi_holds 3 = .ok (.aload_n 0, 1) := by decide +kernel
theorem d_Holi_holds_4 : decode b_Holi_holds 4 = .ok (.getfield 15, 3) := by decide +kernel
theorem d_Holi_holds_7 : decode b_Holi_holds 7 = .ok (.if_icmp .ge 22, 3) := by decide +kernel
theorem d_Holi_holds_10 : decode b_Holi_holds 10 = .ok (.aload_n 0, 1) := by decide +kernel
theorem d_Holi_holds_11 : decode b_Holi_holds 11 = .ok (.getfield 9, 3) := by decide +kernel
theorem d_Holi_holds_14 : decode b_Holi_holds 14 = .ok (.iload_n 3, 1) := by decide +kernel
theorem d_Holi_holds_15 : decode b_Holi_holds 15 = .ok (.laload, 1) := by decide +kernel
theorem d_Holi_holds_16 : decode b_Holi_holds 16 = .ok (.lload_n 1, 1) := by decide +kernel
theorem d_Holi_holds_17 : decode b_Holi_holds 17 = .ok (.lcmp, 1) := by decide +kernel
theorem d_Holi_holds_18 : decode b_Holi_holds 18 = .ok (.ifCond .ne 5, 3) := by decide +kernel
theorem d_Holi_holds_21 : decode b_Holi_holds 21 = .ok (.iconst 1, 1) := by decide +kernel
theorem d_Holi_holds_22 : decode b_Holi_holds 22 = .ok (.ireturn, 1) := by decide +kernel
theorem d_Holi_holds_23 : decode b_Holi_holds 23 = .ok (.iinc 3 1, 3) := by decide +kernel
theorem d_Holi_holds_26 : decode b_Holi_holds 26 = .ok (.goto (-24), 3) := by decide +kernel
theorem d_Holi_holds_29 : decode b_Holi_holds 29 = .ok (.iconst 0, 1) := by decide +kernel
theorem d_Holi_holds_30 : decode b_Holi_holds 30 = .ok (.ireturn, 1) := by decide +kernel
theorem d_X_percentile_0 : decode b_X_percentile 0 = .ok (.iload_n 1, 1) := by decide +kernel
theorem d_X_percentile_1 : decode b_X_percentile 1 = .ok (.invokestatic 59, 3) := by decide +kernel
theorem d_X_percentile_4 : decode b_X_percentile 4 = .ok (.ifCond .eq 14, 3) := by decide +kernel
theorem d_X_percentile_7 : decode b_X_percentile 7 = .ok (.iload_n 2, 1) := by decide +kernel
theorem d_X_percentile_8 : decode b_X_percentile 8 = .ok (.ifCond .lt 10, 3) := by decide +kernel
theorem d_X_percentile_11 : decode b_X_percentile 11 = .ok (.iload_n 2, 1) := by decide +kernel
theorem d_X_percentile_12 : decode b_X_percentile 12 = .ok (.sipush 1000, 3) := by decide +kernel
theorem d_X_percentile_15 : decode b_X_percentile 15 = .ok (.if_icmp .le 7, 3) := by decide +kernel
theorem d_X_percentile_18 : decode b_X_percentile 18 = .ok (.ldc2_w 128, 3) := by decide +kernel
theorem d_X_percentile_21 : decode b_X_percentile 21 = .ok (.lreturn, 1) := by decide +kernel
theorem d_X_percentile_22 : decode b_X_percentile 22 = .ok (.aload_n 0, 1) := by decide +kernel
theorem d_X_percentile_23 : decode b_X_percentile 23 = .ok (.getfield 40, 3) := by decide +kernel
theorem d_X_percentile_26 : decode b_X_percentile 26 = .ok (.iload_n 1, 1) := by decide +kernel
theorem d_X_percentile_27 : decode b_X_percentile 27 = .ok (.invokevirtual 147, 3) := by decide +kernel
theorem d_X_percentile_30 : decode b_X_percentile 30 = .ok (.istore_n 3, 1) := by decide +kernel
theorem d_X_percentile_31 : decode b_X_percentile 31 = .ok (.iload_n 3, 1) := by decide +kernel
theorem d_X_percentile_32 : decode b_X_percentile 32 = .ok (.iload_n 2, 1) := by decide +kernel
theorem d_X_percentile_33 : decode b_X_percentile 33 = .ok (.imul, 1) := by decide +kernel
theorem d_X_percentile_34 : decode b_X_percentile 34 = .ok (.sipush 1000, 3) := by decide +kernel
theorem d_X_percentile_37 : decode b_X_percentile 37 = .ok (.iadd, 1) := by decide +kernel
theorem d_X_percentile_38 : decode b_X_percentile 38 = .ok (.iconst 1, 1) := by decide +kernel
theorem d_X_percentile_39 : decode b_X_percentile 39 = .ok (.isub, 1) := by decide +kernel
theorem d_X_percentile_40 : decode b_X_percentile 40 = .ok (.sipush 1000, 3) := by decide +kernel
theorem d_X_percentile_43 : decode b_X_percentile 43 = .ok (.idiv, 1) := by decide +kernel
theorem d_X_percentile_44 : decode b_X_percentile 44 = .ok (.istore 4, 2) := by decide +kernel
theorem d_X_percentile_46 : decode b_X_percentile 46 = .ok (.aload_n 0, 1) := by decide +kernel
theorem d_X_percentile_47 : decode b_X_percentile 47 = .ok (.getfield 40, 3) := by decide +kernel
theorem d_X_percentile_50 : decode b_X_percentile 50 = .ok (.iload_n 1, 1) := by decide +kernel
theorem d_X_percentile_51 : decode b_X_percentile 51 = .ok (.iload 4, 2) := by decide +kernel
theorem d_X_percentile_53 : decode b_X_percentile 53 = .ok (.iconst 1, 1) := by decide +kernel
theorem d_X_percentile_54 : decode b_X_percentile 54 = .ok (.invokestatic 150, 3) := by decide +kernel
theorem d_X_percentile_57 : decode b_X_percentile 57 = .ok (.invokevirtual 155, 3) := by decide +kernel
theorem d_X_percentile_60 : decode b_X_percentile 60 = .ok (.i2l, 1) := by decide +kernel
theorem d_X_percentile_61 : decode b_X_percentile 61 = .ok (.lreturn, 1) := by decide +kernel
theorem d_Deliv_countOf_0 : decode b_Deliv_countOf 0 = .ok (.iconst 0, 1) := by decide +kernel
theorem d_Deliv_countOf_1 : decode b_Deliv_countOf 1 = .ok (.istore_n 2, 1) := by decide +kernel
theorem d_Deliv_countOf_2 : decode b_Deliv_countOf 2 = .ok (.iconst 0, 1) := by decide +kernel
theorem d_Deliv_countOf_3 : decode b_Deliv_countOf 3 = .ok (.istore_n 3, 1) := by decide +kernel
theorem d_Deliv_countOf_4 : decode b_Deliv_countOf 4 = .ok (.iload_n 3, 1) := by decide +kernel
theorem d_Deliv_countOf_5 : decode b_Deliv_countOf 5 = .ok (.aload_n 0, 1) := by decide +kernel
theorem d_Deliv_countOf_6 : decode b_Deliv_countOf 6 = .ok (.getfield 18, 3) := by decide +kernel
theorem d_Deliv_countOf_9 : decode b_Deliv_countOf 9 = .ok (.if_icmp .ge 22, 3) := by decide +kernel
theorem d_Deliv_countOf_12 : decode b_Deliv_countOf 12 = .ok (.aload_n 0, 1) := by decide +kernel
theorem d_Deliv_countOf_13 : decode b_Deliv_countOf 13 = .ok (.getfield 15, 3) := by decide +kernel
theorem d_Deliv_countOf_16 : decode b_Deliv_countOf 16 = .ok (.iload_n 3, 1) := by decide +kernel
theorem d_Deliv_countOf_17 : decode b_Deliv_countOf 17 = .ok (.iaload, 1) := by decide +kernel
theorem d_Deliv_countOf_18 : decode b_Deliv_countOf 18 = .ok (.iload_n 1, 1) := by decide +kernel
theorem d_Deliv_countOf_19 : decode b_Deliv_countOf 19 = .ok (.if_icmp .ne 6, 3) := by decide +kernel
theorem d_Deliv_countOf_22 : decode b_Deliv_countOf 22 = .ok (.iinc 2 1, 3) := by decide +kernel
theorem d_Deliv_countOf_25 : decode b_Deliv_countOf 25 = .ok (.iinc 3 1, 3) := by decide +kernel
theorem d_Deliv_countOf_28 : decode b_Deliv_countOf 28 = .ok (.goto (-24), 3) := by decide +kernel
theorem d_Deliv_countOf_31 : decode b_Deliv_countOf 31 = .ok (.iload_n 2, 1) := by decide +kernel
theorem d_Deliv_countOf_32 : decode b_Deliv_countOf 32 = .ok (.ireturn, 1) := by decide +kernel
theorem d_Deliv_daysAtRank_0 : decode b_Deliv_daysAtRank 0 = .ok (.iconst 0, 1) := by decide +kernel
theorem d_Deliv_daysAtRank_1 : decode b_Deliv_daysAtRank 1 = .ok (.istore_n 3, 1) := by decide +kernel
theorem d_Deliv_daysAtRank_2 : decode b_Deliv_daysAtRank 2 = .ok (.iconst 0, 1) := by decide +kernel
theorem d_Deliv_daysAtRank_3 : decode b_Deliv_daysAtRank 3 = .ok (.istore 4, 2) := by decide +kernel
theorem d_Deliv_daysAtRank_5 : decode b_Deliv_daysAtRank 5 = .ok (.iload 4, 2) := by decide +kernel
theorem d_Deliv_daysAtRank_7 : decode b_Deliv_daysAtRank 7 = .ok (.aload_n 0, 1) := by decide +kernel
theorem d_Deliv_daysAtRank_8 : decode b_Deliv_daysAtRank 8 = .ok (.getfield 18, 3) := by decide +kernel
theorem d_Deliv_daysAtRank_11 : decode b_Deliv_daysAtRank 11 = .ok (.if_icmp .ge 36, 3) := by decide +kernel
theorem d_Deliv_daysAtRank_14 : decode b_Deliv_daysAtRank 14 = .ok (.aload_n 0, 1) := by decide +kernel
theorem d_Deliv_daysAtRank_15 : decode b_Deliv_daysAtRank 15 = .ok (.getfield 15, 3) := by decide +kernel
theorem d_Deliv_daysAtRank_18 : decode b_Deliv_daysAtRank 18 = .ok (.iload 4, 2) := by decide +kernel
theorem d_Deliv_daysAtRank_20 : decode b_Deliv_daysAtRank 20 = .ok (.iaload, 1) := by decide +kernel
theorem d_Deliv_daysAtRank_21 : decode b_Deliv_daysAtRank 21 = .ok (.iload_n 1, 1) := by decide +kernel
theorem d_Deliv_daysAtRank_22 : decode b_Deliv_daysAtRank 22 = .ok (.if_icmp .ne 19, 3) := by decide +kernel
theorem d_Deliv_daysAtRank_25 : decode b_Deliv_daysAtRank 25 = .ok (.iinc 3 1, 3) := by decide +kernel
theorem d_Deliv_daysAtRank_28 : decode b_Deliv_daysAtRank 28 = .ok (.iload_n 3, 1) := by decide +kernel
theorem d_Deliv_daysAtRank_29 : decode b_Deliv_daysAtRank 29 = .ok (.iload_n 2, 1) := by decide +kernel
theorem d_Deliv_daysAtRank_30 : decode b_Deliv_daysAtRank 30 = .ok (.if_icmp .ne 11, 3) := by decide +kernel
theorem d_Deliv_daysAtRank_33 : decode b_Deliv_daysAtRank 33 = .ok (.aload_n 0, 1) := by decide +kernel
theorem d_Deliv_daysAtRank_34 : decode b_Deliv_daysAtRank 34 = .ok (.getfield 9, 3) := by decide +kernel
theorem d_Deliv_daysAtRank_37 : decode b_Deliv_daysAtRank 37 = .ok (.iload 4, 2) := by decide +kernel
theorem d_Deliv_daysAtRank_39 : decode b_Deliv_daysAtRank 39 = .ok (.iaload, 1) := by decide +kernel
theorem d_Deliv_daysAtRank_40 : decode b_Deliv_daysAtRank 40 = .ok (.ireturn, 1) := by decide +kernel
theorem d_Deliv_daysAtRank_41 : decode b_Deliv_daysAtRank 41 = .ok (.iinc 4 1, 3) := by decide +kernel
theorem d_Deliv_daysAtRank_44 : decode b_Deliv_daysAtRank 44 = .ok (.goto (-39), 3) := by decide +kernel
theorem d_Deliv_daysAtRank_47 : decode b_Deliv_daysAtRank 47 = .ok (.iconst (-1), 1) := by decide +kernel
theorem d_Deliv_daysAtRank_48 : decode b_Deliv_daysAtRank 48 = .ok (.ireturn, 1) := by decide +kernel
theorem d_X_found_0 : decode b_X_found 0 = .ok (.iload_n 1, 1) := by decide +kernel
theorem d_X_found_1 : decode b_X_found 1 = .ok (.invokestatic 68, 3) := by decide +kernel
theorem d_X_found_4 : decode b_X_found 4 = .ok (.ifCond .ne 6, 3) := by decide +kernel
theorem d_X_found_7 : decode b_X_found 7 = .ok (.bipush (-101), 2) := by decide +kernel
theorem d_X_found_9 : decode b_X_found 9 = .ok (.ireturn, 1) := by decide +kernel
theorem d_X_found_10 : decode b_X_found 10 = .ok (.aload_n 0, 1) := by decide +kernel
theorem d_X_found_11 : decode b_X_found 11 = .ok (.getfield 46, 3) := by decide +kernel
theorem d_X_found_14 : decode b_X_found 14 = .ok (.iload_n 1, 1) := by decide +kernel
theorem d_X_found_15 : decode b_X_found 15 = .ok (.aaload, 1) := by decide +kernel
theorem d_X_found_16 : decode b_X_found 16 = .ok (.astore 4, 2) := by decide +kernel
theorem d_X_found_18 : decode b_X_found 18 = .ok (.aload 4, 2) := by decide +kernel
theorem d_X_found_20 : decode b_X_found 20 = .ok (.lload_n 2, 1) := by decide +kernel
theorem d_X_found_21 : decode b_X_found 21 = .ok (.invokevirtual 71, 3) := by decide +kernel
theorem d_X_found_24 : decode b_X_found 24 = .ok (.ifCond .ne 6, 3) := by decide +kernel
theorem d_X_found_27 : decode b_X_found 27 = .ok (.bipush (-102), 2) := by decide +kernel
theorem d_X_found_29 : decode b_X_found 29 = .ok (.ireturn, 1) := by decide +kernel
theorem d_X_found_30 : decode b_X_found 30 = .ok (.aload 4, 2) := by decide +kernel
theorem d_X_found_32 : decode b_X_found 32 = .ok (.getfield 158, 3) := by decide +kernel
theorem d_X_found_35 : decode b_X_found 35 = .ok (.ifCond .ne 5, 3) := by decide +kernel
theorem d_X_found_38 : decode b_X_found 38 = .ok (.iconst 0, 1) := by decide +kernel
theorem d_X_found_39 : decode b_X_found 39 = .ok (.ireturn, 1) := by decide +kernel
theorem d_X_found_40 : decode b_X_found 40 = .ok (.aload 4, 2) := by decide +kernel
theorem d_X_found_42 : decode b_X_found 42 = .ok (.invokevirtual 75, 3) := by decide +kernel
theorem d_X_found_45 : decode b_X_found 45 = .ok (.aload 4, 2) := by decide +kernel
theorem d_X_found_47 : decode b_X_found 47 = .ok (.lload_n 2, 1) := by decide +kernel
theorem d_X_found_48 : decode b_X_found 48 = .ok (.putfield 162, 3) := by decide +kernel
theorem d_X_found_51 : decode b_X_found 51 = .ok (.iconst 1, 1) := by decide +kernel
theorem d_X_found_52 : decode b_X_found 52 = .ok (.ireturn, 1) := by decide +kernel
theorem d_X_cluster_0 : decode b_X_cluster 0 = .ok (.aload_n 0, 1) := by decide +kernel
theorem d_X_cluster_1 : decode b_X_cluster 1 = .ok (.getfield 33, 3) := by decide +kernel
theorem d_X_cluster_4 : decode b_X_cluster 4 = .ok (.iload_n 1, 1) := by decide +kernel
theorem d_X_cluster_5 : decode b_X_cluster 5 = .ok (.invokevirtual 165, 3) := by decide +kernel
theorem d_X_cluster_8 : decode b_X_cluster 8 = .ok (.istore_n 3, 1) := by decide +kernel
theorem d_X_cluster_9 : decode b_X_cluster 9 = .ok (.iload_n 3, 1) := by decide +kernel
theorem d_X_cluster_10 : decode b_X_cluster 10 = .ok (.iconst (-1), 1) := by decide +kernel
theorem d_X_cluster_11 : decode b_X_cluster 11 = .ok (.if_icmp .ne 5, 3) := by decide +kernel
theorem d_X_cluster_14 : decode b_X_cluster 14 = .ok (.iconst (-1), 1) := by decide +kernel
theorem d_X_cluster_15 : decode b_X_cluster 15 = .ok (.ireturn, 1) := by decide +kernel
theorem d_X_cluster_16 : decode b_X_cluster 16 = .ok (.iload_n 2, 1) := by decide +kernel
theorem d_X_cluster_17 : decode b_X_cluster 17 = .ok (.tableswitch 47 0 2 #[27, 29, 38], 27) := by decide +kernel
theorem d_X_cluster_44 : decode b_X_cluster 44 = .ok (.iload_n 3, 1) := by decide +kernel
theorem d_X_cluster_45 : decode b_X_cluster 45 = .ok (.ireturn, 1) := by decide +kernel
theorem d_X_cluster_46 : decode b_X_cluster 46 = .ok (.aload_n 0, 1) := by decide +kernel
theorem d_X_cluster_47 : decode b_X_cluster 47 = .ok (.getfield 33, 3) := by decide +kernel
theorem d_X_cluster_50 : decode b_X_cluster 50 = .ok (.iload_n 3, 1) := by decide +kernel
theorem d_X_cluster_51 : decode b_X_cluster 51 = .ok (.invokevirtual 130, 3) := by decide +kernel
theorem d_X_cluster_54 : decode b_X_cluster 54 = .ok (.ireturn, 1) := by decide +kernel
theorem d_X_cluster_55 : decode b_X_cluster 55 = .ok (.aload_n 0, 1) := by decide +kernel
theorem d_X_cluster_56 : decode b_X_cluster 56 = .ok (.getfield 33, 3) := by decide +kernel
theorem d_X_cluster_59 : decode b_X_cluster 59 = .ok (.iload_n 3, 1) := by decide +kernel
theorem d_X_cluster_60 : decode b_X_cluster 60 = .ok (.invokevirtual 134, 3) := by decide +kernel
theorem d_X_cluster_63 : decode b_X_cluster 63 = .ok (.ireturn, 1) := by decide +kernel
theorem d_X_cluster_64 : decode b_X_cluster 64 = .ok (.iconst (-1), 1) := by decide +kernel
theorem d_X_cluster_65 : decode b_X_cluster 65 = .ok (.ireturn, 1) := by decide +kernel
theorem d_Cnts_clusterPlace_0 : decode b_Cnts_clusterPlace 0 = .ok (.iconst 0, 1) := by decide +kernel
theorem d_Cnts_clusterPlace_1 : decode b_Cnts_clusterPlace 1 = .ok (.istore_n 2, 1) := by decide +kernel
theorem d_Cnts_clusterPlace_2 : decode b_Cnts_clusterPlace 2 = .ok (.iload_n 2, 1) := by decide +kernel
theorem d_Cnts_clusterPlace_3 : decode b_Cnts_clusterPlace 3 = .ok (.bipush 50, 2) := by decide +kernel
theorem d_Cnts_clusterPlace_5 : decode b_Cnts_clusterPlace 5 = .ok (.if_icmp .ge 28, 3) := by decide +kernel
theorem d_Cnts_clusterPlace_8 : decode b_Cnts_clusterPlace 8 = .ok (.aload_n 0, 1) := by decide +kernel
theorem d_Cnts_clusterPlace_9 : decode b_Cnts_clusterPlace 9 = .ok (.iload_n 2, 1) := by decide +kernel
theorem d_Cnts_clusterPlace_10 : decode b_Cnts_clusterPlace 10 = .ok (.invokevirtual 26, 3) := by decide +kernel
theorem d_Cnts_clusterPlace_13 : decode b_Cnts_clusterPlace 13 = .ok (.ifCond .eq 14, 3) := by decide +kernel
theorem d_Cnts_clusterPlace_16 : decode b_Cnts_clusterPlace 16 = .ok (.aload_n 0, 1) := by decide +kernel
theorem d_Cnts_clusterPlace_17 : decode b_Cnts_clusterPlace 17 = .ok (.iload_n 2, 1) := by decide +kernel
theorem d_Cnts_clusterPlace_18 : decode b_Cnts_clusterPlace 18 = .ok (.invokevirtual 29, 3) := by decide +kernel
theorem d_Cnts_clusterPlace_21 : decode b_Cnts_clusterPlace 21 = .ok (.iload_n 1, 1) := by decide +kernel
theorem d_Cnts_clusterPlace_22 : decode b_Cnts_clusterPlace 22 = .ok (.if_icmp .ne 5, 3) := by decide +kernel
theorem d_Cnts_clusterPlace_25 : decode b_Cnts_clusterPlace 25 = .ok (.iload_n 2, 1) := by decide +kernel
theorem d_Cnts_clusterPlace_26 : decode b_Cnts_clusterPlace 26 = .ok (.ireturn, 1) := by decide +kernel
theorem d_Cnts_clusterPlace_27 : decode b_Cnts_clusterPlace 27 = .ok (.iinc 2 1, 3) := by decide +kernel
theorem d_Cnts_clusterPlace_30 : decode b_Cnts_clusterPlace 30 = .ok (.goto (-28), 3) := by decide +kernel
theorem d_Cnts_clusterPlace_33 : decode b_Cnts_clusterPlace 33 = .ok (.iconst (-1), 1) := by decide +kernel
theorem d_Cnts_clusterPlace_34 : decode b_Cnts_clusterPlace 34 = .ok (.ireturn, 1) := by decide +kernel
theorem d_Cnts_isCluster_0 : decode b_Cnts_isCluster 0 = .ok (.aload_n 0, 1) := by decide +kernel
theorem d_Cnts_isCluster_1 : decode b_Cnts_isCluster 1 = .ok (.iload_n 1, 1) := by decide +kernel
theorem d_Cnts_isCluster_2 : decode b_Cnts_isCluster 2 = .ok (.invokevirtual 22, 3) := by decide +kernel
theorem d_Cnts_isCluster_5 : decode b_Cnts_isCluster 5 = .ok (.iconst 3, 1) := by decide +kernel
theorem d_Cnts_isCluster_6 : decode b_Cnts_isCluster 6 = .ok (.if_icmp .lt 7, 3) := by decide +kernel
theorem d_Cnts_isCluster_9 : decode b_Cnts_isCluster 9 = .ok (.iconst 1, 1) := by decide +kernel
theorem d_Cnts_isCluster_10 : decode b_Cnts_isCluster 10 = .ok (.goto 4, 3) := by decide +kernel
theorem d_Cnts_isCluster_13 : decode b_Cnts_isCluster 13 = .ok (.iconst 0, 1) := by decide +kernel
theorem d_Cnts_isCluster_14 : decode b_Cnts_isCluster 14 = .ok (.ireturn, 1) := by decide +kernel
theorem d_Cnts_lateAt_0 : decode b_Cnts_lateAt 0 = .ok (.iload_n 1, 1) := by decide +kernel
theorem d_Cnts_lateAt_1 : decode b_Cnts_lateAt 1 = .ok (.invokestatic 18, 3) := by decide +kernel
theorem d_Cnts_lateAt_4 : decode b_Cnts_lateAt 4 = .ok (.ifCond .eq 12, 3) := by decide +kernel
theorem d_Cnts_lateAt_7 : decode b_Cnts_lateAt 7 = .ok (.aload_n 0, 1) := by decide +kernel
theorem d_Cnts_lateAt_8 : decode b_Cnts_lateAt 8 = .ok (.getfield 15, 3) := by decide +kernel
theorem d_Cnts_lateAt_11 : decode b_Cnts_lateAt 11 = .ok (.iload_n 1, 1) := by decide +kernel
theorem d_Cnts_lateAt_12 : decode b_Cnts_lateAt 12 = .ok (.iaload, 1) := by decide +kernel
theorem d_Cnts_lateAt_13 : decode b_Cnts_lateAt 13 = .ok (.goto 4, 3) := by decide +kernel
theorem d_Cnts_lateAt_16 : decode b_Cnts_lateAt 16 = .ok (.iconst 0, 1) := by decide +kernel
theorem d_Cnts_lateAt_17 : decode b_Cnts_lateAt 17 = .ok (.ireturn, 1) := by decide +kernel
theorem d_Cnts_clustersBefore_0 : decode b_Cnts_clustersBefore 0 = .ok (.iconst 0, 1) := by decide +kernel
theorem d_Cnts_clustersBefore_1 : decode b_Cnts_clustersBefore 1 = .ok (.istore_n 2, 1) := by decide +kernel
theorem d_Cnts_clustersBefore_2 : decode b_Cnts_clustersBefore 2 = .ok (.iconst 0, 1) := by decide +kernel
theorem d_Cnts_clustersBefore_3 : decode b_Cnts_clustersBefore 3 = .ok (.istore_n 3, 1) := by decide +kernel
theorem d_Cnts_clustersBefore_4 : decode b_Cnts_clustersBefore 4 = .ok (.iload_n 3, 1) := by decide +kernel
theorem d_Cnts_clustersBefore_5 : decode b_Cnts_clustersBefore 5 = .ok (.bipush 50, 2) := by decide +kernel
theorem d_Cnts_clustersBefore_7 : decode b_Cnts_clustersBefore 7 = .ok (.if_icmp .ge 29, 3) := by decide +kernel
theorem d_Cnts_clustersBefore_10 : decode b_Cnts_clustersBefore 10 = .ok (.aload_n 0, 1) := by decide +kernel
theorem d_Cnts_clustersBefore_11 : decode b_Cnts_clustersBefore 11 = .ok (.iload_n 3, 1) := by decide +kernel
theorem d_Cnts_clustersBefore_12 : decode b_Cnts_clustersBefore 12 = .ok (.invokevirtual 26, 3) := by decide +kernel
theorem d_Cnts_clustersBefore_15 : decode b_Cnts_clustersBefore 15 = .ok (.ifCond .eq 15, 3) := by decide +kernel
theorem d_Cnts_clustersBefore_18 : decode b_Cnts_clustersBefore 18 = .ok (.aload_n 0, 1) := by decide +kernel
theorem d_Cnts_clustersBefore_19 : decode b_Cnts_clustersBefore 19 = .ok (.iload_n 3, 1) := by decide +kernel
theorem d_Cnts_clustersBefore_20 : decode b_Cnts_clustersBefore 20 = .ok (.iload_n 1, 1) := by decide +kernel
theorem d_Cnts_clustersBefore_21 : decode b_Cnts_clustersBefore 21 = .ok (.invokevirtual 32, 3) := by decide +kernel
theorem d_Cnts_clustersBefore_24 : decode b_Cnts_clustersBefore 24 = .ok (.ifCond .eq 6, 3) := by decide +kernel
theorem d_Cnts_clustersBefore_27 : decode b_Cnts_clustersBefore 27 = .ok (.iinc 2 1, 3) := by decide +kernel
theorem d_Cnts_clustersBefore_30 : decode b_Cnts_clustersBefore 30 = .ok (.iinc 3 1, 3) := by decide +kernel
theorem d_Cnts_clustersBefore_33 : decode b_Cnts_clustersBefore 33 = .ok (.goto (-29), 3) := by decide +kernel
theorem d_Cnts_clustersBefore_36 : decode b_Cnts_clustersBefore 36 = .ok (.iload_n 2, 1) := by decide +kernel
theorem d_Cnts_clustersBefore_37 : decode b_Cnts_clustersBefore 37 = .ok (.ireturn, 1) := by decide +kernel
theorem d_Cnts_comesBefore_0 : decode b_Cnts_comesBefore 0 = .ok (.aload_n 0, 1) := by decide +kernel
theorem d_Cnts_comesBefore_1 : decode b_Cnts_comesBefore 1 = .ok (.iload_n 1, 1) := by decide +kernel
theorem d_Cnts_comesBefore_2 : decode b_Cnts_comesBefore 2 = .ok (.invokevirtual 22, 3) := by decide +kernel
theorem d_Cnts_comesBefore_5 : decode b_Cnts_comesBefore 5 = .ok (.i2l, 1) := by decide +kernel
theorem d_Cnts_comesBefore_6 : decode b_Cnts_comesBefore 6 = .ok (.aload_n 0, 1) := by decide +kernel
theorem d_Cnts_comesBefore_7 : decode b_Cnts_comesBefore 7 = .ok (.iload_n 2, 1) := by decide +kernel
theorem d_Cnts_comesBefore_8 : decode b_Cnts_comesBefore 8 = .ok (.invokevirtual 36, 3) := by decide +kernel
theorem d_Cnts_comesBefore_11 : decode b_Cnts_comesBefore 11 = .ok (.i2l, 1) := by decide +kernel
theorem d_Cnts_comesBefore_12 : decode b_Cnts_comesBefore 12 = .ok (.lmul, 1) := by decide +kernel
theorem d_Cnts_comesBefore_13 : decode b_Cnts_comesBefore 13 = .ok (.lstore_n 3, 1) := by decide +kernel
theorem d_Cnts_comesBefore_14 : decode b_Cnts_comesBefore 14 = .ok (.aload_n 0, 1) := by decide +kernel
theorem d_Cnts_comesBefore_15 : decode b_Cnts_comesBefore 15 = .ok (.iload_n 2, 1) := by decide +kernel
theorem d_Cnts_comesBefore_16 : decode b_Cnts_comesBefore 16 = .ok (.invokevirtual 22, 3) := by decide +kernel
theorem d_Cnts_comesBefore_19 : decode b_Cnts_comesBefore 19 = .ok (.i2l, 1) := by decide +kernel
theorem d_Cnts_comesBefore_20 : decode b_Cnts_comesBefore 20 = .ok (.aload_n 0, 1) := by decide +kernel
theorem d_Cnts_comesBefore_21 : decode b_Cnts_comesBefore 21 = .ok (.iload_n 1, 1) := by decide +kernel
theorem d_Cnts_comesBefore_22 : decode b_Cnts_comesBefore 22 = .ok (.invokevirtual 36, 3) := by decide +kernel
theorem d_Cnts_comesBefore_25 : decode b_Cnts_comesBefore 25 = .ok (.i2l, 1) := by decide +kernel
theorem d_Cnts_comesBefore_26 : decode b_Cnts_comesBefore 26 = .ok (.lmul, 1) := by decide +kernel
theorem d_Cnts_comesBefore_27 : decode b_Cnts_comesBefore 27 = .ok (.lstore 5, 2) := by decide +kernel
theorem d_Cnts_comesBefore_29 : decode b_Cnts_comesBefore 29 = .ok (.lload_n 3, 1) := by decide +kernel
theorem d_Cnts_comesBefore_30 : decode b_Cnts_comesBefore 30 = .ok (.lload 5, 2) := by decide +kernel
theorem d_Cnts_comesBefore_32 : decode b_Cnts_comesBefore 32 = .ok (.lcmp, 1) := by decide +kernel
theorem d_Cnts_comesBefore_33 : decode b_Cnts_comesBefore 33 = .ok (.ifCond .gt 15, 3) := by decide +kernel
theorem d_Cnts_comesBefore_36 : decode b_Cnts_comesBefore 36 = .ok (.lload_n 3, 1) := by decide +kernel
theorem d_Cnts_comesBefore_37 : decode b_Cnts_comesBefore 37 = .ok (.lload 5, 2) := by decide +kernel
theorem d_Cnts_comesBefore_39 : decode b_Cnts_comesBefore 39 = .ok (.lcmp, 1) := by decide +kernel
theorem d_Cnts_comesBefore_40 : decode b_Cnts_comesBefore 40 = .ok (.ifCond .ne 12, 3) := by decide +kernel
theorem d_Cnts_comesBefore_43 : decode b_Cnts_comesBefore 43 = .ok (.iload_n 1, 1) := by decide +kernel
theorem d_Cnts_comesBefore_44 : decode b_Cnts_comesBefore 44 = .ok (.iload_n 2, 1) := by decide +kernel
theorem d_Cnts_comesBefore_45 : decode b_Cnts_comesBefore 45 = .ok (.if_icmp .ge 7, 3) := by decide +kernel
theorem d_Cnts_comesBefore_48 : decode b_Cnts_comesBefore 48 = .ok (.iconst 1, 1) := by decide +kernel
theorem d_Cnts_comesBefore_49 : decode b_Cnts_comesBefore 49 = .ok (.goto 4, 3) := by decide +kernel
theorem d_Cnts_comesBefore_52 : decode b_Cnts_comesBefore 52 = .ok (.iconst 0, 1) := by decide +kernel
theorem d_Cnts_comesBefore_53 : decode b_Cnts_comesBefore 53 = .ok (.ireturn, 1) := by decide +kernel
theorem d_Cnts_begunAt_0 : decode b_Cnts_begunAt 0 = .ok (.iload_n 1, 1) := by decide +kernel
theorem d_Cnts_begunAt_1 : decode b_Cnts_begunAt 1 = .ok (.invokestatic 18, 3) := by decide +kernel
theorem d_Cnts_begunAt_4 : decode b_Cnts_begunAt 4 = .ok (.ifCond .eq 12, 3) := by decide +kernel
theorem d_Cnts_begunAt_7 : decode b_Cnts_begunAt 7 = .ok (.aload_n 0, 1) := by decide +kernel
theorem d_Cnts_begunAt_8 : decode b_Cnts_begunAt 8 = .ok (.getfield 9, 3) := by decide +kernel
theorem d_Cnts_begunAt_11 : decode b_Cnts_begunAt 11 = .ok (.iload_n 1, 1) := by decide +kernel
theorem d_Cnts_begunAt_12 : decode b_Cnts_begunAt 12 = .ok (.iaload, 1) := by decide +kernel
theorem d_Cnts_begunAt_13 : decode b_Cnts_begunAt 13 = .ok (.goto 4, 3) := by decide +kernel
theorem d_Cnts_begunAt_16 : decode b_Cnts_begunAt 16 = .ok (.iconst 0, 1) := by decide +kernel
theorem d_Cnts_begunAt_17 : decode b_Cnts_begunAt 17 = .ok (.ireturn, 1) := by decide +kernel
theorem d_X_failing_0 : decode b_X_failing 0 = .ok (.aload_n 0, 1) := by decide +kernel
theorem d_X_failing_1 : decode b_X_failing 1 = .ok (.getfield 10, 3) := by decide +kernel
theorem d_X_failing_4 : decode b_X_failing 4 = .ok (.iload_n 1, 1) := by decide +kernel
theorem d_X_failing_5 : decode b_X_failing 5 = .ok (.invokevirtual 168, 3) := by decide +kernel
theorem d_X_failing_8 : decode b_X_failing 8 = .ok (.ireturn, 1) := by decide +kernel
theorem d_RowL_failedRow_0 : decode b_RowL_failedRow 0 = .ok (.iload_n 1, 1) := by decide +kernel
theorem d_RowL_failedRow_1 : decode b_RowL_failedRow 1 = .ok (.ifCond .lt 14, 3) := by decide +kernel
theorem d_RowL_failedRow_4 : decode b_RowL_failedRow 4 = .ok (.iload_n 1, 1) := by decide +kernel
theorem d_RowL_failedRow_5 : decode b_RowL_failedRow 5 = .ok (.aload_n 0, 1) := by decide +kernel
theorem d_RowL_failedRow_6 : decode b_RowL_failedRow 6 = .ok (.getfield 18, 3) := by decide +kernel
theorem d_RowL_failedRow_9 : decode b_RowL_failedRow 9 = .ok (.invokevirtual 21, 3) := by decide +kernel
theorem d_RowL_failedRow_12 : decode b_RowL_failedRow 12 = .ok (.if_icmp .lt 5, 3) := by decide +kernel
theorem d_RowL_failedRow_15 : decode b_RowL_failedRow 15 = .ok (.iconst 0, 1) := by decide +kernel
theorem d_RowL_failedRow_16 : decode b_RowL_failedRow 16 = .ok (.ireturn, 1) := by decide +kernel
theorem d_RowL_failedRow_17 : decode b_RowL_failedRow 17 = .ok (.aload_n 0, 1) := by decide +kernel
theorem d_RowL_failedRow_18 : decode b_RowL_failedRow 18 = .ok (.getfield 18, 3) := by decide +kernel
theorem d_RowL_failedRow_21 : decode b_RowL_failedRow 21 = .ok (.iload_n 1, 1) := by decide +kernel
theorem d_RowL_failedRow_22 : decode b_RowL_failedRow 22 = .ok (.invokevirtual 34, 3) := by decide +kernel
theorem d_RowL_failedRow_25 : decode b_RowL_failedRow 25 = .ok (.checkcast 25, 3) := by decide +kernel
theorem d_RowL_failedRow_28 : decode b_RowL_failedRow 28 = .ok (.getfield 46, 3) := by decide +kernel
theorem d_RowL_failedRow_31 : decode b_RowL_failedRow 31 = .ok (.ireturn, 1) := by decide +kernel
theorem d_X_share_0 : decode b_X_share 0 = .ok (.iload_n 1, 1) := by decide +kernel
theorem d_X_share_1 : decode b_X_share 1 = .ok (.invokestatic 55, 3) := by decide +kernel
theorem d_X_share_4 : decode b_X_share 4 = .ok (.ifCond .ne 7, 3) := by decide +kernel
theorem d_X_share_7 : decode b_X_share 7 = .ok (.ldc2_w 126, 3) := by decide +kernel
theorem d_X_share_10 : decode b_X_share 10 = .ok (.lreturn, 1) := by decide +kernel
theorem d_X_share_11 : decode b_X_share 11 = .ok (.iload_n 2, 1) := by decide +kernel
theorem d_X_share_12 : decode b_X_share 12 = .ok (.ifCond .eq 12, 3) := by decide +kernel
theorem d_X_share_15 : decode b_X_share 15 = .ok (.iload_n 2, 1) := by decide +kernel
theorem d_X_share_16 : decode b_X_share 16 = .ok (.iconst 1, 1) := by decide +kernel
theorem d_X_share_17 : decode b_X_share 17 = .ok (.if_icmp .eq 7, 3) := by decide +kernel
theorem d_X_share_20 : decode b_X_share 20 = .ok (.ldc2_w 128, 3) := by decide +kernel
theorem d_X_share_23 : decode b_X_share 23 = .ok (.lreturn, 1) := by decide +kernel
theorem d_X_share_24 : decode b_X_share 24 = .ok (.aload_n 0, 1) := by decide +kernel
theorem d_X_share_25 : decode b_X_share 25 = .ok (.getfield 33, 3) := by decide +kernel
theorem d_X_share_28 : decode b_X_share 28 = .ok (.iload_n 1, 1) := by decide +kernel
theorem d_X_share_29 : decode b_X_share 29 = .ok (.invokevirtual 130, 3) := by decide +kernel
theorem d_X_share_32 : decode b_X_share 32 = .ok (.istore_n 3, 1) := by decide +kernel
theorem d_X_share_33 : decode b_X_share 33 = .ok (.aload_n 0, 1) := by decide +kernel
theorem d_X_share_34 : decode b_X_share 34 = .ok (.getfield 33, 3) := by decide +kernel
theorem d_X_share_37 : decode b_X_share 37 = .ok (.iload_n 1, 1) := by decide +kernel
theorem d_X_share_38 : decode b_X_share 38 = .ok (.invokevirtual 134, 3) := by decide +kernel
theorem d_X_share_41 : decode b_X_share 41 = .ok (.istore 4, 2) := by decide +kernel
theorem d_X_share_43 : decode b_X_share 43 = .ok (.iload 4, 2) := by decide +kernel
theorem d_X_share_45 : decode b_X_share 45 = .ok (.ifCond .gt 13, 3) := by decide +kernel
theorem d_X_share_48 : decode b_X_share 48 = .ok (.new 137, 3) := by decide +kernel
theorem d_X_share_51 : decode b_X_share 51 = .ok (.dup, 1) := by decide +kernel
theorem d_X_share_52 : decode b_X_share 52 = .ok (.ldc 139, 2) := by decide +kernel
theorem d_X_share_54 : decode b_X_share 54 = .ok (.invokespecial 141, 3) := by decide +kernel
theorem d_X_share_57 : decode b_X_share 57 = .ok (.athrow, 1) := by decide +kernel
theorem d_X_share_58 : decode b_X_share 58 = .ok (.iload_n 3, 1) := by decide +kernel
theorem d_X_share_59 : decode b_X_share 59 = .ok (.iload 4, 2) := by decide +kernel
theorem d_X_share_61 : decode b_X_share 61 = .ok (.invokestatic 144, 3) := by decide +kernel
theorem d_X_share_64 : decode b_X_share 64 = .ok (.istore 5, 2) := by decide +kernel
theorem d_X_share_66 : decode b_X_share 66 = .ok (.iload_n 2, 1) := by decide +kernel
theorem d_X_share_67 : decode b_X_share 67 = .ok (.ifCond .ne 11, 3) := by decide +kernel
theorem d_X_share_70 : decode b_X_share 70 = .ok (.iload_n 3, 1) := by decide +kernel
theorem d_X_share_71 : decode b_X_share 71 = .ok (.iload 5, 2) := by decide +kernel
theorem d_X_share_73 : decode b_X_share 73 = .ok (.idiv, 1) := by decide +kernel
theorem d_X_share_74 : decode b_X_share 74 = .ok (.i2l, 1) := by decide +kernel
theorem d_X_share_75 : decode b_X_share 75 = .ok (.goto 9, 3) := by decide +kernel
theorem d_X_share_78 : decode b_X_share 78 = .ok (.iload 4, 2) := by decide +kernel
theorem d_X_share_80 : decode b_X_share 80 = .ok (.iload 5, 2) := by decide +kernel
theorem d_X_share_82 : decode b_X_share 82 = .ok (.idiv, 1) := by decide +kernel
theorem d_X_share_83 : decode b_X_share 83 = .ok (.i2l, 1) := by decide +kernel
theorem d_X_share_84 : decode b_X_share 84 = .ok (.lreturn, 1) := by decide +kernel
theorem d_X_commonDivisor_0 : decode b_X_commonDivisor 0 = .ok (.iload_n 0, 1) := by decide +kernel
theorem d_X_commonDivisor_1 : decode b_X_commonDivisor 1 = .ok (.istore_n 2, 1) := by decide +kernel
theorem d_X_commonDivisor_2 : decode b_X_commonDivisor 2 = .ok (.iload_n 1, 1) := by decide +kernel
theorem d_X_commonDivisor_3 : decode b_X_commonDivisor 3 = .ok (.istore_n 3, 1) := by decide +kernel
theorem d_X_commonDivisor_4 : decode b_X_commonDivisor 4 = .ok (.iconst 0, 1) := by decide +kernel
theorem d_X_commonDivisor_5 : decode b_X_commonDivisor 5 = .ok (.istore 4, 2) := by decide +kernel
theorem d_X_commonDivisor_7 : decode b_X_commonDivisor 7 = .ok (.iload 4, 2) := by decide +kernel
theorem d_X_commonDivisor_9 : decode b_X_commonDivisor 9 = .ok (.bipush 64, 2) := by decide +kernel
theorem d_X_commonDivisor_11 : decode b_X_commonDivisor 11 = .ok (.if_icmp .ge 23, 3) := by decide +kernel
theorem d_X_commonDivisor_14 : decode b_X_commonDivisor 14 = .ok (.iload_n 3, 1) := by decide +kernel
theorem d_X_commonDivisor_15 : decode b_X_commonDivisor 15 = .ok (.ifCond .eq 19, 3) := by decide +kernel
theorem d_X_commonDivisor_18 : decode b_X_commonDivisor 18 = .ok (.iload_n 2, 1) := by decide +kernel
theorem d_X_commonDivisor_19 : decode b_X_commonDivisor 19 = .ok (.iload_n 3, 1) := by decide +kernel
theorem d_X_commonDivisor_20 : decode b_X_commonDivisor 20 = .ok (.irem, 1) := by decide +kernel
theorem d_X_commonDivisor_21 : decode b_X_commonDivisor 21 = .ok (.istore 5, 2) := by decide +kernel
theorem d_X_commonDivisor_23 : decode b_X_commonDivisor 23 = .ok (.iload_n 3, 1) := by decide +kernel
theorem d_X_commonDivisor_24 : decode b_X_commonDivisor 24 = .ok (.istore_n 2, 1) := by decide +kernel
theorem d_X_commonDivisor_25 : decode b_X_commonDivisor 25 = .ok (.iload 5, 2) := by decide +kernel
theorem d_X_commonDivisor_27 : decode b_X_commonDivisor 27 = .ok (.istore_n 3, 1) := by decide +kernel
theorem d_X_commonDivisor_28 : decode b_X_commonDivisor 28 = .ok (.iinc 4 1, 3) := by decide +kernel
theorem d_X_commonDivisor_31 : decode b_X_commonDivisor 31 = .ok (.goto (-24), 3) := by decide +kernel
theorem d_X_commonDivisor_34 : decode b_X_commonDivisor 34 = .ok (.iload_n 2, 1) := by decide +kernel
theorem d_X_commonDivisor_35 : decode b_X_commonDivisor 35 = .ok (.iconst 1, 1) := by decide +kernel
theorem d_X_commonDivisor_36 : decode b_X_commonDivisor 36 = .ok (.invokestatic 150, 3) := by decide +kernel
theorem d_X_commonDivisor_39 : decode b_X_commonDivisor 39 = .ok (.ireturn, 1) := by decide +kernel
end
section
/-! DECODE ROWS, by program -/
theorem d_Mod_init_0 : decode b_Mod_init 0 = .ok (.aload_n 0, 1) := by decide +kernel
theorem d_Mod_init_1 : decode b_Mod_init 1 = .ok (.invokespecial 1, 3) := by decide +kernel
theorem d_Mod_init_4 : decode b_Mod_init 4 = .ok (.aload_n 0, 1) := by decide +kernel
theorem d_Mod_init_5 : decode b_Mod_init 5 = .ok (.bipush 41, 2) := by decide +kernel
theorem d_Mod_init_7 : decode b_Mod_init 7 = .ok (.newarray .int, 2) := by decide +kernel
theorem d_Mod_init_9 : decode b_Mod_init 9 = .ok (.putfield 7, 3) := by decide +kernel
theorem d_Mod_init_12 : decode b_Mod_init 12 = .ok (.aload_n 0, 1) := by decide +kernel
theorem d_Mod_init_13 : decode b_Mod_init 13 = .ok (.bipush 41, 2) := by decide +kernel
theorem d_Mod_init_15 : decode b_Mod_init 15 = .ok (.newarray .int, 2) := by decide +kernel
theorem d_Mod_init_17 : decode b_Mod_init 17 = .ok (.putfield 13, 3) := by decide +kernel
theorem d_Mod_init_20 : decode b_Mod_init 20 = .ok (.aload_n 0, 1) := by decide +kernel
theorem d_Mod_init_21 : decode b_Mod_init 21 = .ok (.bipush 41, 2) := by decide +kernel
theorem d_Mod_init_23 : decode b_Mod_init 23 = .ok (.newarray .int, 2) := by decide +kernel
theorem d_Mod_init_25 : decode b_Mod_init 25 = .ok (.putfield 16, 3) := by decide +kernel
theorem d_Mod_init_28 : decode b_Mod_init 28 = .ok (.aload_n 0, 1) := by decide +kernel
theorem d_Mod_init_29 : decode b_Mod_init 29 = .ok (.bipush 41, 2) := by decide +kernel
theorem d_Mod_init_31 : decode b_Mod_init 31 = .ok (.newarray .long, 2) := by decide +kernel
theorem d_Mod_init_33 : decode b_Mod_init 33 = .ok (.putfield 19, 3) := by decide +kernel
theorem d_Mod_init_36 : decode b_Mod_init 36 = .ok (.aload_n 0, 1) := by decide +kernel
theorem d_Mod_init_37 : decode b_Mod_init 37 = .ok (.bipush 41, 2) := by decide +kernel
theorem d_Mod_init_39 : decode b_Mod_init 39 = .ok (.newarray .boolean, 2) := by decide +kernel
theorem d_Mod_init_41 : decode b_Mod_init 41 = .ok (.putfield 23, 3) := by decide +kernel
theorem d_Mod_init_44 : decode b_Mod_init 44 = .ok (.aload_n 0, 1) := by decide +kernel
theorem d_Mod_init_45 : decode b_Mod_init 45 = .ok (.sipush 200, 3) := by decide +kernel
theorem d_Mod_init_48 : decode b_Mod_init 48 = .ok (.newarray .int, 2) := by decide +kernel
theorem d_Mod_init_50 : decode b_Mod_init 50 = .ok (.putfield 27, 3) := by decide +kernel
theorem d_Mod_init_53 : decode b_Mod_init 53 = .ok (.aload_n 0, 1) := by decide +kernel
theorem d_Mod_init_54 : decode b_Mod_init 54 = .ok (.sipush 200, 3) := by decide +kernel
theorem d_Mod_init_57 : decode b_Mod_init 57 = .ok (.newarray .long, 2) := by decide +kernel
theorem d_Mod_init_59 : decode b_Mod_init 59 = .ok (.putfield 30, 3) := by decide +kernel
theorem d_Mod_init_62 : decode b_Mod_init 62 = .ok (.aload_n 0, 1) := by decide +kernel
theorem d_Mod_init_63 : decode b_Mod_init 63 = .ok (.sipush 200, 3) := by decide +kernel
theorem d_Mod_init_66 : decode b_Mod_init 66 = .ok (.newarray .long, 2) := by decide +kernel
theorem d_Mod_init_68 : decode b_Mod_init 68 = .ok (.putfield 33, 3) := by decide +kernel
theorem d_Mod_init_71 : decode b_Mod_init 71 = .ok (.aload_n 0, 1) := by decide +kernel
theorem d_Mod_init_72 : decode b_Mod_init 72 = .ok (.sipush 200, 3) := by decide +kernel
theorem d_Mod_init_75 : decode b_Mod_init 75 = .ok (.newarray .int, 2) := by decide +kernel
theorem d_Mod_init_77 : decode b_Mod_init 77 = .ok (.putfield 36, 3) := by decide +kernel
theorem d_Mod_init_80 : decode b_Mod_init 80 = .ok (.aload_n 0, 1) := by decide +kernel
theorem d_Mod_init_81 : decode b_Mod_init 81 = .ok (.sipush 200, 3) := by decide +kernel
theorem d_Mod_init_84 : decode b_Mod_init 84 = .ok (.newarray .int, 2) := by decide +kernel
theorem d_Mod_init_86 : decode b_Mod_init 86 = .ok (.putfield 39, 3) := by decide +kernel
theorem d_Mod_init_89 : decode b_Mod_init 89 = .ok (.aload_n 0, 1) := by decide +kernel
theorem d_Mod_init_90 : decode b_Mod_init 90 = .ok (.sipush 200, 3) := by decide +kernel
theorem d_Mod_init_93 : decode b_Mod_init 93 = .ok (.newarray .long, 2) := by decide +kernel
theorem d_Mod_init_95 : decode b_Mod_init 95 = .ok (.putfield 42, 3) := by decide +kernel
theorem d_Mod_init_98 : decode b_Mod_init 98 = .ok (.aload_n 0, 1) := by decide +kernel
theorem d_Mod_init_99 : decode b_Mod_init 99 = .ok (.sipush 200, 3) := by decide +kernel
theorem d_Mod_init_102 : decode b_Mod_init 102 = .ok (.newarray .boolean, 2) := by decide +kernel
theorem d_Mod_init_104 : decode b_Mod_init 104 = .ok (.putfield 45, 3) := by decide +kernel
theorem d_Mod_init_107 : decode b_Mod_init 107 = .ok (.aload_n 0, 1) := by decide +kernel
theorem d_Mod_init_108 : decode b_Mod_init 108 = .ok (.sipush 200, 3) := by decide +kernel
theorem d_Mod_init_111 : decode b_Mod_init 111 = .ok (.newarray .boolean, 2) := by decide +kernel
theorem d_Mod_init_113 : decode b_Mod_init 113 = .ok (.putfield 48, 3) := by decide +kernel
theorem d_Mod_init_116 : decode b_Mod_init 116 = .ok (.aload_n 0, 1) := by decide +kernel
theorem d_Mod_init_117 : decode b_Mod_init 117 = .ok (.sipush 20001, 3) := by decide +kernel
theorem d_Mod_init_120 : decode b_Mod_init 120 = .ok (.newarray .boolean, 2) := by decide +kernel
theorem d_Mod_init_122 : decode b_Mod_init 122 = .ok (.putfield 51, 3) := by decide +kernel
theorem d_Mod_init_125 : decode b_Mod_init 125 = .ok (.aload_n 0, 1) := by decide +kernel
theorem d_Mod_init_126 : decode b_Mod_init 126 = .ok (.sipush 2000, 3) := by decide +kernel
theorem d_Mod_init_129 : decode b_Mod_init 129 = .ok (.newarray .long, 2) := by decide +kernel
theorem d_Mod_init_131 : decode b_Mod_init 131 = .ok (.putfield 54, 3) := by decide +kernel
theorem d_Mod_init_134 : decode b_Mod_init 134 = .ok (.aload_n 0, 1) := by decide +kernel
theorem d_Mod_init_135 : decode b_Mod_init 135 = .ok (.bipush 50, 2) := by decide +kernel
theorem d_Mod_init_137 : decode b_Mod_init 137 = .ok (.newarray .int, 2) := by decide +kernel
theorem d_Mod_init_139 : decode b_Mod_init 139 = .ok (.putfield 57, 3) := by decide +kernel
theorem d_Mod_init_142 : decode b_Mod_init 142 = .ok (.aload_n 0, 1) := by decide +kernel
theorem d_Mod_init_143 : decode b_Mod_init 143 = .ok (.bipush 50, 2) := by decide +kernel
theorem d_Mod_init_145 : decode b_Mod_init 145 = .ok (.newarray .int, 2) := by decide +kernel
theorem d_Mod_init_147 : decode b_Mod_init 147 = .ok (.putfield 60, 3) := by decide +kernel
theorem d_Mod_init_150 : decode b_Mod_init 150 = .ok (.aload_n 0, 1) := by decide +kernel
theorem d_Mod_init_151 : decode b_Mod_init 151 = .ok (.iconst 5, 1) := by decide +kernel
theorem d_Mod_init_152 : decode b_Mod_init 152 = .ok (.newarray .int, 2) := by decide +kernel
theorem d_Mod_init_154 : decode b_Mod_init 154 = .ok (.putfield 63, 3) := by decide +kernel
theorem d_Mod_init_157 : decode b_Mod_init 157 = .ok (.aload_n 0, 1) := by decide +kernel
theorem d_Mod_init_158 : decode b_Mod_init 158 = .ok (.sipush 21000, 3) := by decide +kernel
theorem d_Mod_init_161 : decode b_Mod_init 161 = .ok (.newarray .int, 2) := by decide +kernel
theorem d_Mod_init_163 : decode b_Mod_init 163 = .ok (.putfield 66, 3) := by decide +kernel
theorem d_Mod_init_166 : decode b_Mod_init 166 = .ok (.aload_n 0, 1) := by decide +kernel
theorem d_Mod_init_167 : decode b_Mod_init 167 = .ok (.bipush 40, 2) := by decide +kernel
theorem d_Mod_init_169 : decode b_Mod_init 169 = .ok (.newarray .int, 2) := by decide +kernel
theorem d_Mod_init_171 : decode b_Mod_init 171 = .ok (.putfield 69, 3) := by decide +kernel
theorem d_Mod_init_174 : decode b_Mod_init 174 = .ok (.iconst 0, 1) := by decide +kernel
theorem d_Mod_init_175 : decode b_Mod_init 175 = .ok (.istore_n 1, 1) := by decide +kernel
theorem d_Mod_init_176 : decode b_Mod_init 176 = .ok (.iload_n 1, 1) := by decide +kernel
theorem d_Mod_init_177 : decode b_Mod_init 177 = .ok (.sipush 200, 3) := by decide +kernel
theorem d_Mod_init_180 : decode b_Mod_init 180 = .ok (.if_icmp .ge 16, 3) := by decide +kernel
theorem d_Mod_init_183 : decode b_Mod_init 183 = .ok (.aload_n 0, 1) := by decide +kernel
theorem d_Mod_init_184 : decode b_Mod_init 184 = .ok (.getfield 27, 3) := by decide +kernel
theorem d_Mod_init_187 : decode b_Mod_init 187 = .ok (.iload_n 1, 1) := by decide +kernel
theorem d_Mod_init_188 : decode b_Mod_init 188 = .ok (.iconst (-1), 1) := by decide +kernel
theorem d_Mod_init_189 : decode b_Mod_init 189 = .ok (.iastore, 1) := by decide +kernel
theorem d_Mod_init_190 : decode b_Mod_init 190 = .ok (.iinc 1 1, 3) := by decide +kernel
theorem d_Mod_init_193 : decode b_Mod_init 193 = .ok (.goto (-17), 3) := by decide +kernel
theorem d_Mod_init_196 : decode b_Mod_init 196 = .ok (.return_, 1) := by decide +kernel
theorem d_Mod_thrown_0 : decode b_Mod_thrown 0 = .ok (.aload_n 0, 1) := by decide +kernel
theorem d_Mod_thrown_1 : decode b_Mod_thrown 1 = .ok (.getfield 72, 3) := by decide +kernel
theorem d_Mod_thrown_4 : decode b_Mod_thrown 4 = .ok (.ireturn, 1) := by decide +kernel
theorem d_Mod_rule_0 : decode b_Mod_rule 0 = .ok (.aload_n 0, 1) := by decide +kernel
theorem d_Mod_rule_1 : decode b_Mod_rule 1 = .ok (.iconst 0, 1) := by decide +kernel
theorem d_Mod_rule_2 : decode b_Mod_rule 2 = .ok (.putfield 72, 3) := by decide +kernel
theorem d_Mod_rule_5 : decode b_Mod_rule 5 = .ok (.iload_n 1, 1) := by decide +kernel
theorem d_Mod_rule_6 : decode b_Mod_rule 6 = .ok (.i2l, 1) := by decide +kernel
theorem d_Mod_rule_7 : decode b_Mod_rule 7 = .ok (.lconst 0, 1) := by decide +kernel
theorem d_Mod_rule_8 : decode b_Mod_rule 8 = .ok (.ldc2_w 76, 3) := by decide +kernel
theorem d_Mod_rule_11 : decode b_Mod_rule 11 = .ok (.invokestatic 78, 3) := by decide +kernel
theorem d_Mod_rule_14 : decode b_Mod_rule 14 = .ok (.ifCond .eq 43, 3) := by decide +kernel
theorem d_Mod_rule_17 : decode b_Mod_rule 17 = .ok (.iload_n 2, 1) := by decide +kernel
theorem d_Mod_rule_18 : decode b_Mod_rule 18 = .ok (.i2l, 1) := by decide +kernel
theorem d_Mod_rule_19 : decode b_Mod_rule 19 = .ok (.ldc2_w 82, 3) := by decide +kernel
theorem d_Mod_rule_22 : decode b_Mod_rule 22 = .ok (.ldc2_w 84, 3) := by decide +kernel
theorem d_Mod_rule_25 : decode b_Mod_rule 25 = .ok (.invokestatic 78, 3) := by decide +kernel
theorem d_Mod_rule_28 : decode b_Mod_rule 28 = .ok (.ifCond .eq 29, 3) := by decide +kernel
theorem d_Mod_rule_31 : decode b_Mod_rule 31 = .ok (.iload_n 3, 1) := by decide +kernel
theorem d_Mod_rule_32 : decode b_Mod_rule 32 = .ok (.i2l, 1) := by decide +kernel
theorem d_Mod_rule_33 : decode b_Mod_rule 33 = .ok (.ldc2_w 82, 3) := by decide +kernel
theorem d_Mod_rule_36 : decode b_Mod_rule 36 = .ok (.ldc2_w 86, 3) := by decide +kernel
theorem d_Mod_rule_39 : decode b_Mod_rule 39 = .ok (.invokestatic 78, 3) := by decide +kernel
theorem d_Mod_rule_42 : decode b_Mod_rule 42 = .ok (.ifCond .eq 15, 3) := by decide +kernel
theorem d_Mod_rule_45 : decode b_Mod_rule 45 = .ok (.lload 4, 2) := by decide +kernel
theorem d_Mod_rule_47 : decode b_Mod_rule 47 = .ok (.lconst 0, 1) := by decide +kernel
theorem d_Mod_rule_48 : decode b_Mod_rule 48 = .ok (.ldc2_w 88, 3) := by decide +kernel
theorem d_Mod_rule_51 : decode b_Mod_rule 51 = .ok (.invokestatic 78, 3) := by decide +kernel
theorem d_Mod_rule_54 : decode b_Mod_rule 54 = .ok (.ifCond .ne 6, 3) := by decide +kernel
theorem d_Mod_rule_57 : decode b_Mod_rule 57 = .ok (.bipush (-102), 2) := by decide +kernel
theorem d_Mod_rule_59 : decode b_Mod_rule 59 = .ok (.ireturn, 1) := by decide +kernel
theorem d_Mod_rule_60 : decode b_Mod_rule 60 = .ok (.aload_n 0, 1) := by decide +kernel
theorem d_Mod_rule_61 : decode b_Mod_rule 61 = .ok (.getfield 90, 3) := by decide +kernel
theorem d_Mod_rule_64 : decode b_Mod_rule 64 = .ok (.bipush 40, 2) := by decide +kernel
theorem d_Mod_rule_66 : decode b_Mod_rule 66 = .ok (.if_icmp .ne 6, 3) := by decide +kernel
theorem d_Mod_rule_69 : decode b_Mod_rule 69 = .ok (.bipush (-104), 2) := by decide +kernel
theorem d_Mod_rule_71 : decode b_Mod_rule 71 = .ok (.ireturn, 1) := by decide +kernel
theorem d_Mod_rule_72 : decode b_Mod_rule 72 = .ok (.aload_n 0, 1) := by decide +kernel
theorem d_Mod_rule_73 : decode b_Mod_rule 73 = .ok (.dup, 1) := by decide +kernel
theorem d_Mod_rule_74 : decode b_Mod_rule 74 = .ok (.getfield 90, 3) := by decide +kernel
theorem d_Mod_rule_77 : decode b_Mod_rule 77 = .ok (.iconst 1, 1) := by decide +kernel
theorem d_Mod_rule_78 : decode b_Mod_rule 78 = .ok (.iadd, 1) := by decide +kernel
theorem d_Mod_rule_79 : decode b_Mod_rule 79 = .ok (.putfield 90, 3) := by decide +kernel
theorem d_Mod_rule_82 : decode b_Mod_rule 82 = .ok (.aload_n 0, 1) := by decide +kernel
theorem d_Mod_rule_83 : decode b_Mod_rule 83 = .ok (.getfield 7, 3) := by decide +kernel
theorem d_Mod_rule_86 : decode b_Mod_rule 86 = .ok (.aload_n 0, 1) := by decide +kernel
theorem d_Mod_rule_87 : decode b_Mod_rule 87 = .ok (.getfield 90, 3) := by decide +kernel
theorem d_Mod_rule_90 : decode b_Mod_rule 90 = .ok (.iload_n 1, 1) := by decide +kernel
theorem d_Mod_rule_91 : decode b_Mod_rule 91 = .ok (.iastore, 1) := by decide +kernel
theorem d_Mod_rule_92 : decode b_Mod_rule 92 = .ok (.aload_n 0, 1) := by decide +kernel
theorem d_Mod_rule_93 : decode b_Mod_rule 93 = .ok (.getfield 13, 3) := by decide +kernel
theorem d_Mod_rule_96 : decode b_Mod_rule 96 = .ok (.aload_n 0, 1) := by decide +kernel
theorem d_Mod_rule_97 : decode b_Mod_rule 97 = .ok (.getfield 90, 3) := by decide +kernel
theorem d_Mod_rule_100 : decode b_Mod_rule 100 = .ok (.iload_n 2, 1) := by decide +kernel
theorem d_Mod_rule_101 : decode b_Mod_rule 101 = .ok (.iastore, 1) := by decide +kernel
theorem d_Mod_rule_102 : decode b_Mod_rule 102 = .ok (.aload_n 0, 1) := by decide +kernel
theorem d_Mod_rule_103 : decode b_Mod_rule 103 = .ok (.getfield 16, 3) := by decide +kernel
theorem d_Mod_rule_106 : decode b_Mod_rule 106 = .ok (.aload_n 0, 1) := by decide +kernel
theorem d_Mod_rule_107 : decode b_Mod_rule 107 = .ok (.getfield 90, 3) := by decide +kernel
theorem d_Mod_rule_110 : decode b_Mod_rule 110 = .ok (.iload_n 3, 1) := by decide +kernel
theorem d_Mod_rule_111 : decode b_Mod_rule 111 = .ok (.iastore, 1) := by decide +kernel
theorem d_Mod_rule_112 : decode b_Mod_rule 112 = .ok (.aload_n 0, 1) := by decide +kernel
theorem d_Mod_rule_113 : decode b_Mod_rule 113 = .ok (.getfield 19, 3) := by decide +kernel
theorem d_Mod_rule_116 : decode b_Mod_rule 116 = .ok (.aload_n 0, 1) := by decide +kernel
theorem d_Mod_rule_117 : decode b_Mod_rule 117 = .ok (.getfield 90, 3) := by decide +kernel
theorem d_Mod_rule_120 : decode b_Mod_rule 120 = .ok (.lload 4, 2) := by decide +kernel
theorem d_Mod_rule_122 : decode b_Mod_rule 122 = .ok (.lastore, 1) := by decide +kernel
theorem d_Mod_rule_123 : decode b_Mod_rule 123 = .ok (.aload_n 0, 1) := by decide +kernel
theorem d_Mod_rule_124 : decode b_Mod_rule 124 = .ok (.getfield 23, 3) := by decide +kernel
theorem d_Mod_rule_127 : decode b_Mod_rule 127 = .ok (.aload_n 0, 1) := by decide +kernel
theorem d_Mod_rule_128 : decode b_Mod_rule 128 = .ok (.getfield 90, 3) := by decide +kernel
theorem d_Mod_rule_131 : decode b_Mod_rule 131 = .ok (.iload 6, 2) := by decide +kernel
theorem d_Mod_rule_133 : decode b_Mod_rule 133 = .ok (.bastore, 1) := by decide +kernel
theorem d_Mod_rule_134 : decode b_Mod_rule 134 = .ok (.aload_n 0, 1) := by decide +kernel
theorem d_Mod_rule_135 : decode b_Mod_rule 135 = .ok (.getfield 90, 3) := by decide +kernel
theorem d_Mod_rule_138 : decode b_Mod_rule 138 = .ok (.ireturn, 1) := by decide +kernel
theorem d_Mod_isIn_0 : decode b_Mod_isIn 0 = .ok (.lload_n 0, 1) := by decide +kernel
theorem d_Mod_isIn_1 : decode b_Mod_isIn 1 = .ok (.lload_n 2, 1) := by decide +kernel
theorem d_Mod_isIn_2 : decode b_Mod_isIn 2 = .ok (.lcmp, 1) := by decide +kernel
theorem d_Mod_isIn_3 : decode b_Mod_isIn 3 = .ok (.ifCond .lt 14, 3) := by decide +kernel
theorem d_Mod_isIn_6 : decode b_Mod_isIn 6 = .ok (.lload_n 0, 1) := by decide +kernel
theorem d_Mod_isIn_7 : decode b_Mod_isIn 7 = .ok (.lload 4, 2) := by decide +kernel
theorem d_Mod_isIn_9 : decode b_Mod_isIn 9 = .ok (.lcmp, 1) := by decide +kernel
theorem d_Mod_isIn_10 : decode b_Mod_isIn 10 = .ok (.ifCond .gt 7, 3) := by decide +kernel
theorem d_Mod_isIn_13 : decode b_Mod_isIn 13 = .ok (.iconst 1, 1) := by decide +kernel
theorem d_Mod_isIn_14 : decode b_Mod_isIn 14 = .ok (.goto 4, 3) := by decide +kernel
theorem d_Mod_isIn_17 : decode b_Mod_isIn 17 = .ok (.iconst 0, 1) := by decide +kernel
theorem d_Mod_isIn_18 : decode b_Mod_isIn 18 = .ok (.ireturn, 1) := by decide +kernel
theorem d_Mod_event_0 : decode b_Mod_event 0 = .ok (.aload_n 0, 1) := by decide +kernel
theorem d_Mod_event_1 : decode b_Mod_event 1 = .ok (.iconst 0, 1) := by decide +kernel
theorem d_Mod_event_2 : decode b_Mod_event 2 = .ok (.putfield 72, 3) := by decide +kernel
theorem d_Mod_event_5 : decode b_Mod_event 5 = .ok (.iload_n 1, 1) := by decide +kernel
theorem d_Mod_event_6 : decode b_Mod_event 6 = .ok (.i2l, 1) := by decide +kernel
theorem d_Mod_event_7 : decode b_Mod_event 7 = .ok (.lconst 0, 1) := by decide +kernel
theorem d_Mod_event_8 : decode b_Mod_event 8 = .ok (.ldc2_w 102, 3) := by decide +kernel
theorem d_Mod_event_11 : decode b_Mod_event 11 = .ok (.invokestatic 78, 3) := by decide +kernel
theorem d_Mod_event_14 : decode b_Mod_event 14 = .ok (.ifCond .eq 15, 3) := by decide +kernel
theorem d_Mod_event_17 : decode b_Mod_event 17 = .ok (.iload_n 3, 1) := by decide +kernel
theorem d_Mod_event_18 : decode b_Mod_event 18 = .ok (.i2l, 1) := by decide +kernel
theorem d_Mod_event_19 : decode b_Mod_event 19 = .ok (.lconst 0, 1) := by decide +kernel
theorem d_Mod_event_20 : decode b_Mod_event 20 = .ok (.ldc2_w 84, 3) := by decide +kernel
theorem d_Mod_event_23 : decode b_Mod_event 23 = .ok (.invokestatic 78, 3) := by decide +kernel
theorem d_Mod_event_26 : decode b_Mod_event 26 = .ok (.ifCond .ne 6, 3) := by decide +kernel
theorem d_Mod_event_29 : decode b_Mod_event 29 = .ok (.bipush (-101), 2) := by decide +kernel
theorem d_Mod_event_31 : decode b_Mod_event 31 = .ok (.ireturn, 1) := by decide +kernel
theorem d_Mod_event_32 : decode b_Mod_event 32 = .ok (.iload_n 2, 1) := by decide +kernel
theorem d_Mod_event_33 : decode b_Mod_event 33 = .ok (.i2l, 1) := by decide +kernel
theorem d_Mod_event_34 : decode b_Mod_event 34 = .ok (.lconst 0, 1) := by decide +kernel
theorem d_Mod_event_35 : decode b_Mod_event 35 = .ok (.ldc2_w 104, 3) := by decide +kernel
theorem d_Mod_event_38 : decode b_Mod_event 38 = .ok (.invokestatic 78, 3) := by decide +kernel
theorem d_Mod_event_41 : decode b_Mod_event 41 = .ok (.ifCond .eq 26, 3) := by decide +kernel
theorem d_Mod_event_44 : decode b_Mod_event 44 = .ok (.iload 4, 2) := by decide +kernel
theorem d_Mod_event_46 : decode b_Mod_event 46 = .ok (.i2l, 1) := by decide +kernel
theorem d_Mod_event_47 : decode b_Mod_event 47 = .ok (.lconst 0, 1) := by decide +kernel
theorem d_Mod_event_48 : decode b_Mod_event 48 = .ok (.ldc2_w 86, 3) := by decide +kernel
theorem d_Mod_event_51 : decode b_Mod_event 51 = .ok (.invokestatic 78, 3) := by decide +kernel
theorem d_Mod_event_54 : decode b_Mod_event 54 = .ok (.ifCond .eq 13, 3) := by decide +kernel
theorem d_Mod_event_57 : decode b_Mod_event 57 = .ok (.aload_n 0, 1) := by decide +kernel
theorem d_Mod_event_58 : decode b_Mod_event 58 = .ok (.iload_n 1, 1) := by decide +kernel
theorem d_Mod_event_59 : decode b_Mod_event 59 = .ok (.lload 5, 2) := by decide +kernel
theorem d_Mod_event_61 : decode b_Mod_event 61 = .ok (.invokevirtual 106, 3) := by decide +kernel
theorem d_Mod_event_64 : decode b_Mod_event 64 = .ok (.ifCond .ne 6, 3) := by decide +kernel
theorem d_Mod_event_67 : decode b_Mod_event 67 = .ok (.bipush (-102), 2) := by decide +kernel
theorem d_Mod_event_69 : decode b_Mod_event 69 = .ok (.ireturn, 1) := by decide +kernel
theorem d_Mod_event_70 : decode b_Mod_event 70 = .ok (.aload_n 0, 1) := by decide +kernel
theorem d_Mod_event_71 : decode b_Mod_event 71 = .ok (.getfield 30, 3) := by decide +kernel
theorem d_Mod_event_74 : decode b_Mod_event 74 = .ok (.iload_n 1, 1) := by decide +kernel
theorem d_Mod_event_75 : decode b_Mod_event 75 = .ok (.aload_n 0, 1) := by decide +kernel
theorem d_Mod_event_76 : decode b_Mod_event 76 = .ok (.getfield 27, 3) := by decide +kernel
theorem d_Mod_event_79 : decode b_Mod_event 79 = .ok (.iload_n 1, 1) := by decide +kernel
theorem d_Mod_event_80 : decode b_Mod_event 80 = .ok (.iaload, 1) := by decide +kernel
theorem d_Mod_event_81 : decode b_Mod_event 81 = .ok (.ifCond .ge 8, 3) := by decide +kernel
theorem d_Mod_event_84 : decode b_Mod_event 84 = .ok (.lload 5, 2) := by decide +kernel
theorem d_Mod_event_86 : decode b_Mod_event 86 = .ok (.goto 9, 3) := by decide +kernel
theorem d_Mod_event_89 : decode b_Mod_event 89 = .ok (.aload_n 0, 1) := by decide +kernel
theorem d_Mod_event_90 : decode b_Mod_event 90 = .ok (.getfield 30, 3) := by decide +kernel
theorem d_Mod_event_93 : decode b_Mod_event 93 = .ok (.iload_n 1, 1) := by decide +kernel
theorem d_Mod_event_94 : decode b_Mod_event 94 = .ok (.laload, 1) := by decide +kernel
theorem d_Mod_event_95 : decode b_Mod_event 95 = .ok (.lastore, 1) := by decide +kernel
theorem d_Mod_event_96 : decode b_Mod_event 96 = .ok (.aload_n 0, 1) := by decide +kernel
theorem d_Mod_event_97 : decode b_Mod_event 97 = .ok (.getfield 33, 3) := by decide +kernel
theorem d_Mod_event_100 : decode b_Mod_event 100 = .ok (.iload_n 1, 1) := by decide +kernel
theorem d_Mod_event_101 : decode b_Mod_event 101 = .ok (.lload 5, 2) := by decide +kernel
theorem d_Mod_event_103 : decode b_Mod_event 103 = .ok (.lastore, 1) := by decide +kernel
theorem d_Mod_event_104 : decode b_Mod_event 104 = .ok (.aload_n 0, 1) := by decide +kernel
theorem d_Mod_event_105 : decode b_Mod_event 105 = .ok (.iload_n 1, 1) := by decide +kernel
theorem d_Mod_event_106 : decode b_Mod_event 106 = .ok (.invokevirtual 110, 3) := by decide +kernel
theorem d_Mod_event_109 : decode b_Mod_event 109 = .ok (.iload_n 2, 1) := by decide +kernel
theorem d_Mod_event_110 : decode b_Mod_event 110 = .ok (.bipush 9, 2) := by decide +kernel
theorem d_Mod_event_112 : decode b_Mod_event 112 = .ok (.if_icmp .ne 56, 3) := by decide +kernel
theorem d_Mod_event_115 : decode b_Mod_event 115 = .ok (.aload_n 0, 1) := by decide +kernel
theorem d_Mod_event_116 : decode b_Mod_event 116 = .ok (.getfield 66, 3) := by decide +kernel
theorem d_Mod_event_119 : decode b_Mod_event 119 = .ok (.sipush 4200, 3) := by decide +kernel
theorem d_Mod_event_122 : decode b_Mod_event 122 = .ok (.iload 4, 2) := by decide +kernel
theorem d_Mod_event_124 : decode b_Mod_event 124 = .ok (.imul, 1) := by decide +kernel
theorem d_Mod_event_125 : decode b_Mod_event 125 = .ok (.aload_n 0, 1) := by decide +kernel
theorem d_Mod_event_126 : decode b_Mod_event 126 = .ok (.getfield 63, 3) := by decide +kernel
theorem d_Mod_event_129 : decode b_Mod_event 129 = .ok (.iload 4, 2) := by decide +kernel
theorem d_Mod_event_131 : decode b_Mod_event 131 = .ok (.iaload, 1) := by decide +kernel
theorem d_Mod_event_132 : decode b_Mod_event 132 = .ok (.iadd, 1) := by decide +kernel
theorem d_Mod_event_133 : decode b_Mod_event 133 = .ok (.lload 5, 2) := by decide +kernel
theorem d_Mod_event_135 : decode b_Mod_event 135 = .ok (.aload_n 0, 1) := by decide +kernel
theorem d_Mod_event_136 : decode b_Mod_event 136 = .ok (.getfield 30, 3) := by decide +kernel
theorem d_Mod_event_139 : decode b_Mod_event 139 = .ok (.iload_n 1, 1) := by decide +kernel
theorem d_Mod_event_140 : decode b_Mod_event 140 = .ok (.laload, 1) := by decide +kernel
theorem d_Mod_event_141 : decode b_Mod_event 141 = .ok (.lsub, 1) := by decide +kernel
theorem d_Mod_event_142 : decode b_Mod_event 142 = .ok (.ldc2_w 93, 3) := by decide +kernel
theorem d_Mod_event_145 : decode b_Mod_event 145 = .ok (.ldiv, 1) := by decide +kernel
theorem d_Mod_event_146 : decode b_Mod_event 146 = .ok (.l2i, 1) := by decide +kernel
theorem d_Mod_event_147 : decode b_Mod_event 147 = .ok (.iastore, 1) := by decide +kernel
theorem d_Mod_event_148 : decode b_Mod_event 148 = .ok (.aload_n 0, 1) := by decide +kernel
theorem d_Mod_event_149 : decode b_Mod_event 149 = .ok (.getfield 63, 3) := by decide +kernel
theorem d_Mod_event_152 : decode b_Mod_event 152 = .ok (.iload 4, 2) := by decide +kernel
theorem d_Mod_event_154 : decode b_Mod_event 154 = .ok (.dup2, 1) := by decide +kernel
theorem d_Mod_event_155 : decode b_Mod_event 155 = .ok (.iaload, 1) := by decide +kernel
theorem d_Mod_event_156 : decode b_Mod_event 156 = .ok (.iconst 1, 1) := by decide +kernel
theorem d_Mod_event_157 : decode b_Mod_event 157 = .ok (.iadd, 1) := by decide +kernel
theorem d_Mod_event_158 : decode b_Mod_event 158 = .ok (.iastore, 1) := by decide +kernel
theorem d_Mod_event_159 : decode b_Mod_event 159 = .ok (.aload_n 0, 1) := by decide +kernel
theorem d_Mod_event_160 : decode b_Mod_event 160 = .ok (.getfield 27, 3) := by decide +kernel
theorem d_Mod_event_163 : decode b_Mod_event 163 = .ok (.iload_n 1, 1) := by decide +kernel
theorem d_Mod_event_164 : decode b_Mod_event 164 = .ok (.iconst (-1), 1) := by decide +kernel
theorem d_Mod_event_165 : decode b_Mod_event 165 = .ok (.iastore, 1) := by decide +kernel
theorem d_Mod_event_166 : decode b_Mod_event 166 = .ok (.iconst 0, 1) := by decide +kernel
theorem d_Mod_event_167 : decode b_Mod_event 167 = .ok (.ireturn, 1) := by decide +kernel
theorem d_Mod_event_168 : decode b_Mod_event 168 = .ok (.aload_n 0, 1) := by decide +kernel
theorem d_Mod_event_169 : decode b_Mod_event 169 = .ok (.getfield 27, 3) := by decide +kernel
theorem d_Mod_event_172 : decode b_Mod_event 172 = .ok (.iload_n 1, 1) := by decide +kernel
theorem d_Mod_event_173 : decode b_Mod_event 173 = .ok (.iload_n 2, 1) := by decide +kernel
theorem d_Mod_event_174 : decode b_Mod_event 174 = .ok (.iastore, 1) := by decide +kernel
theorem d_Mod_event_175 : decode b_Mod_event 175 = .ok (.aload_n 0, 1) := by decide +kernel
theorem d_Mod_event_176 : decode b_Mod_event 176 = .ok (.iload_n 2, 1) := by decide +kernel
theorem d_Mod_event_177 : decode b_Mod_event 177 = .ok (.iload_n 3, 1) := by decide +kernel
theorem d_Mod_event_178 : decode b_Mod_event 178 = .ok (.iload 4, 2) := by decide +kernel
theorem d_Mod_event_180 : decode b_Mod_event 180 = .ok (.invokevirtual 114, 3) := by decide +kernel
theorem d_Mod_event_183 : decode b_Mod_event 183 = .ok (.istore 7, 2) := by decide +kernel
theorem d_Mod_event_185 : decode b_Mod_event 185 = .ok (.iload 7, 2) := by decide +kernel
theorem d_Mod_event_187 : decode b_Mod_event 187 = .ok (.ifCond .le 23, 3) := by decide +kernel
theorem d_Mod_event_190 : decode b_Mod_event 190 = .ok (.aload_n 0, 1) := by decide +kernel
theorem d_Mod_event_191 : decode b_Mod_event 191 = .ok (.getfield 23, 3) := by decide +kernel
theorem d_Mod_event_194 : decode b_Mod_event 194 = .ok (.iload 7, 2) := by decide +kernel
theorem d_Mod_event_196 : decode b_Mod_event 196 = .ok (.baload, 1) := by decide +kernel
theorem d_Mod_event_197 : decode b_Mod_event 197 = .ok (.ifCond .eq 13, 3) := by decide +kernel
theorem d_Mod_event_200 : decode b_Mod_event 200 = .ok (.aload_n 0, 1) := by decide +kernel
theorem d_Mod_event_201 : decode b_Mod_event 201 = .ok (.iload 7, 2) := by decide +kernel
theorem d_Mod_event_203 : decode b_Mod_event 203 = .ok (.invokevirtual 118, 3) := by decide +kernel
theorem d_Mod_event_206 : decode b_Mod_event 206 = .ok (.iload 7, 2) := by decide +kernel
theorem d_Mod_event_208 : decode b_Mod_event 208 = .ok (.ineg, 1) := by decide +kernel
theorem d_Mod_event_209 : decode b_Mod_event 209 = .ok (.ireturn, 1) := by decide +kernel
theorem d_Mod_event_210 : decode b_Mod_event 210 = .ok (.iload 7, 2) := by decide +kernel
theorem d_Mod_event_212 : decode b_Mod_event 212 = .ok (.ifCond .le 47, 3) := by decide +kernel
theorem d_Mod_event_215 : decode b_Mod_event 215 = .ok (.aload_n 0, 1) := by decide +kernel
theorem d_Mod_event_216 : decode b_Mod_event 216 = .ok (.getfield 36, 3) := by decide +kernel
theorem d_Mod_event_219 : decode b_Mod_event 219 = .ok (.iload_n 1, 1) := by decide +kernel
theorem d_Mod_event_220 : decode b_Mod_event 220 = .ok (.iload 7, 2) := by decide +kernel
theorem d_Mod_event_222 : decode b_Mod_event 222 = .ok (.iastore, 1) := by decide +kernel
theorem d_Mod_event_223 : decode b_Mod_event 223 = .ok (.aload_n 0, 1) := by decide +kernel
theorem d_Mod_event_224 : decode b_Mod_event 224 = .ok (.getfield 39, 3) := by decide +kernel
theorem d_Mod_event_227 : decode b_Mod_event 227 = .ok (.iload_n 1, 1) := by decide +kernel
theorem d_Mod_event_228 : decode b_Mod_event 228 = .ok (.iload_n 3, 1) := by decide +kernel
theorem d_Mod_event_229 : decode b_Mod_event 229 = .ok (.iastore, 1) := by decide +kernel
theorem d_Mod_event_230 : decode b_Mod_event 230 = .ok (.aload_n 0, 1) := by decide +kernel
theorem d_Mod_event_231 : decode b_Mod_event 231 = .ok (.getfield 42, 3) := by decide +kernel
theorem d_Mod_event_234 : decode b_Mod_event 234 = .ok (.iload_n 1, 1) := by decide +kernel
theorem d_Mod_event_235 : decode b_Mod_event 235 = .ok (.aload_n 0, 1) := by decide +kernel
theorem d_Mod_event_236 : decode b_Mod_event 236 = .ok (.lload 5, 2) := by decide +kernel
theorem d_Mod_event_238 : decode b_Mod_event 238 = .ok (.aload_n 0, 1) := by decide +kernel
theorem d_Mod_event_239 : decode b_Mod_event 239 = .ok (.getfield 19, 3) := by decide +kernel
theorem d_Mod_event_242 : decode b_Mod_event 242 = .ok (.iload 7, 2) := by decide +kernel
theorem d_Mod_event_244 : decode b_Mod_event 244 = .ok (.laload, 1) := by decide +kernel
theorem d_Mod_event_245 : decode b_Mod_event 245 = .ok (.invokevirtual 121, 3) := by decide +kernel
theorem d_Mod_event_248 : decode b_Mod_event 248 = .ok (.lastore, 1) := by decide +kernel
theorem d_Mod_event_249 : decode b_Mod_event 249 = .ok (.aload_n 0, 1) := by decide +kernel
theorem d_Mod_event_250 : decode b_Mod_event 250 = .ok (.getfield 57, 3) := by decide +kernel
theorem d_Mod_event_253 : decode b_Mod_event 253 = .ok (.iload_n 3, 1) := by decide +kernel
theorem d_Mod_event_254 : decode b_Mod_event 254 = .ok (.dup2, 1) := by decide +kernel
theorem d_Mod_event_255 : decode b_Mod_event 255 = .ok (.iaload, 1) := by decide +kernel
theorem d_Mod_event_256 : decode b_Mod_event 256 = .ok (.iconst 1, 1) := by decide +kernel
theorem d_Mod_event_257 : decode b_Mod_event 257 = .ok (.iadd, 1) := by decide +kernel
theorem d_Mod_event_258 : decode b_Mod_event 258 = .ok (.iastore, 1) := by decide +kernel
theorem d_Mod_event_259 : decode b_Mod_event 259 = .ok (.iload 7, 2) := by decide +kernel
theorem d_Mod_event_261 : decode b_Mod_event 261 = .ok (.ireturn, 1) := by decide +kernel
theorem d_Mod_isTime_0 : decode b_Mod_isTime 0 = .ok (.lload_n 2, 1) := by decide +kernel
theorem d_Mod_isTime_1 : decode b_Mod_isTime 1 = .ok (.aload_n 0, 1) := by decide +kernel
theorem d_Mod_isTime_2 : decode b_Mod_isTime 2 = .ok (.getfield 27, 3) := by decide +kernel
theorem d_Mod_isTime_5 : decode b_Mod_isTime 5 = .ok (.iload_n 1, 1) := by decide +kernel
theorem d_Mod_isTime_6 : decode b_Mod_isTime 6 = .ok (.iaload, 1) := by decide +kernel
theorem d_Mod_isTime_7 : decode b_Mod_isTime 7 = .ok (.ifCond .ge 7, 3) := by decide +kernel
theorem d_Mod_isTime_10 : decode b_Mod_isTime 10 = .ok (.lconst 0, 1) := by decide +kernel
theorem d_Mod_isTime_11 : decode b_Mod_isTime 11 = .ok (.goto 9, 3) := by decide +kernel
theorem d_Mod_isTime_14 : decode b_Mod_isTime 14 = .ok (.aload_n 0, 1) := by decide +kernel
theorem d_Mod_isTime_15 : decode b_Mod_isTime 15 = .ok (.getfield 33, 3) := by decide +kernel
theorem d_Mod_isTime_18 : decode b_Mod_isTime 18 = .ok (.iload_n 1, 1) := by decide +kernel
theorem d_Mod_isTime_19 : decode b_Mod_isTime 19 = .ok (.laload, 1) := by decide +kernel
theorem d_Mod_isTime_20 : decode b_Mod_isTime 20 = .ok (.ldc2_w 97, 3) := by decide +kernel
theorem d_Mod_isTime_23 : decode b_Mod_isTime 23 = .ok (.invokestatic 78, 3) := by decide +kernel
theorem d_Mod_isTime_26 : decode b_Mod_isTime 26 = .ok (.ireturn, 1) := by decide +kernel
theorem d_Mod_end_0 : decode b_Mod_end 0 = .ok (.aload_n 0, 1) := by decide +kernel
theorem d_Mod_end_1 : decode b_Mod_end 1 = .ok (.getfield 36, 3) := by decide +kernel
theorem d_Mod_end_4 : decode b_Mod_end 4 = .ok (.iload_n 1, 1) := by decide +kernel
theorem d_Mod_end_5 : decode b_Mod_end 5 = .ok (.iconst 0, 1) := by decide +kernel
theorem d_Mod_end_6 : decode b_Mod_end 6 = .ok (.iastore, 1) := by decide +kernel
theorem d_Mod_end_7 : decode b_Mod_end 7 = .ok (.aload_n 0, 1) := by decide +kernel
theorem d_Mod_end_8 : decode b_Mod_end 8 = .ok (.getfield 45, 3) := by decide +kernel
theorem d_Mod_end_11 : decode b_Mod_end 11 = .ok (.iload_n 1, 1) := by decide +kernel
theorem d_Mod_end_12 : decode b_Mod_end 12 = .ok (.iconst 0, 1) := by decide +kernel
theorem d_Mod_end_13 : decode b_Mod_end 13 = .ok (.bastore, 1) := by decide +kernel
theorem d_Mod_end_14 : decode b_Mod_end 14 = .ok (.aload_n 0, 1) := by decide +kernel
theorem d_Mod_end_15 : decode b_Mod_end 15 = .ok (.getfield 48, 3) := by decide +kernel
theorem d_Mod_end_18 : decode b_Mod_end 18 = .ok (.iload_n 1, 1) := by decide +kernel
theorem d_Mod_end_19 : decode b_Mod_end 19 = .ok (.iconst 0, 1) := by decide +kernel
theorem d_Mod_end_20 : decode b_Mod_end 20 = .ok (.bastore, 1) := by decide +kernel
theorem d_Mod_end_21 : decode b_Mod_end 21 = .ok (.return_, 1) := by decide +kernel
theorem d_Mod_rowFor_0 : decode b_Mod_rowFor 0 = .ok (.iconst 1, 1) := by decide +kernel
theorem d_Mod_rowFor_1 : decode b_Mod_rowFor 1 = .ok (.istore 4, 2) := by decide +kernel
theorem d_Mod_rowFor_3 : decode b_Mod_rowFor 3 = .ok (.iload 4, 2) := by decide +kernel
theorem d_Mod_rowFor_5 : decode b_Mod_rowFor 5 = .ok (.aload_n 0, 1) := by decide +kernel
theorem d_Mod_rowFor_6 : decode b_Mod_rowFor 6 = .ok (.getfield 90, 3) := by decide +kernel
theorem d_Mod_rowFor_9 : decode b_Mod_rowFor 9 = .ok (.if_icmp .gt 62, 3) := by decide +kernel
theorem d_Mod_rowFor_12 : decode b_Mod_rowFor 12 = .ok (.aload_n 0, 1) := by decide +kernel
theorem d_Mod_rowFor_13 : decode b_Mod_rowFor 13 = .ok (.getfield 7, 3) := by decide +kernel
theorem d_Mod_rowFor_16 : decode b_Mod_rowFor 16 = .ok (.iload 4, 2) := by decide +kernel
theorem d_Mod_rowFor_18 : decode b_Mod_rowFor 18 = .ok (.iaload, 1) := by decide +kernel
theorem d_Mod_rowFor_19 : decode b_Mod_rowFor 19 = .ok (.iload_n 1, 1) := by decide +kernel
theorem d_Mod_rowFor_20 : decode b_Mod_rowFor 20 = .ok (.if_icmp .ne 45, 3) := by decide +kernel
theorem d_Mod_rowFor_23 : decode b_Mod_rowFor 23 = .ok (.aload_n 0, 1) := by decide +kernel
theorem d_Mod_rowFor_24 : decode b_Mod_rowFor 24 = .ok (.getfield 13, 3) := by decide +kernel
theorem d_Mod_rowFor_27 : decode b_Mod_rowFor 27 = .ok (.iload 4, 2) := by decide +kernel
theorem d_Mod_rowFor_29 : decode b_Mod_rowFor 29 = .ok (.iaload, 1) := by decide +kernel
theorem d_Mod_rowFor_30 : decode b_Mod_rowFor 30 = .ok (.ifCond .lt 14, 3) := by decide +kernel
theorem d_Mod_rowFor_33 : decode b_Mod_rowFor 33 = .ok (.aload_n 0, 1) := by decide +kernel
theorem d_Mod_rowFor_34 : decode b_Mod_rowFor 34 = .ok (.getfield 13, 3) := by decide +kernel
theorem d_Mod_rowFor_37 : decode b_Mod_rowFor 37 = .ok (.iload 4, 2) := by decide +kernel
theorem d_Mod_rowFor_39 : decode b_Mod_rowFor 39 = .ok (.iaload, 1) := by decide +kernel
theorem d_Mod_rowFor_40 : decode b_Mod_rowFor 40 = .ok (.iload_n 2, 1) := by decide +kernel
theorem d_Mod_rowFor_41 : decode b_Mod_rowFor 41 = .ok (.if_icmp .ne 24, 3) := by decide +kernel
theorem d_Mod_rowFor_44 : decode b_Mod_rowFor 44 = .ok (.aload_n 0, 1) := by decide +kernel
theorem d_Mod_rowFor_45 : decode b_Mod_rowFor 45 = .ok (.getfield 16, 3) := by decide +kernel
theorem d_Mod_rowFor_48 : decode b_Mod_rowFor 48 = .ok (.iload 4, 2) := by decide +kernel
theorem d_Mod_rowFor_50 : decode b_Mod_rowFor 50 = .ok (.iaload, 1) := by decide +kernel
theorem d_Mod_rowFor_51 : decode b_Mod_rowFor 51 = .ok (.ifCond .lt 20, 3) := by decide +kernel
theorem d_Mod_rowFor_54 : decode b_Mod_rowFor 54 = .ok (.aload_n 0, 1) := by decide +kernel
theorem d_Mod_rowFor_55 : decode b_Mod_rowFor 55 = .ok (.getfield 16, 3) := by decide +kernel
theorem d_Mod_rowFor_58 : decode b_Mod_rowFor 58 = .ok (.iload 4, 2) := by decide +kernel
theorem d_Mod_rowFor_60 : decode b_Mod_rowFor 60 = .ok (.iaload, 1) := by decide +kernel
theorem d_Mod_rowFor_61 : decode b_Mod_rowFor 61 = .ok (.iload_n 3, 1) := by decide +kernel
theorem d_Mod_rowFor_62 : decode b_Mod_rowFor 62 = .ok (.if_icmp .eq 9, 3) := by decide +kernel
theorem d_Mod_rowFor_65 : decode b_Mod_rowFor 65 = .ok (.iinc 4 1, 3) := by decide +kernel
theorem d_Mod_rowFor_68 : decode b_Mod_rowFor 68 = .ok (.goto (-65), 3) := by decide +kernel
theorem d_Mod_rowFor_71 : decode b_Mod_rowFor 71 = .ok (.iload 4, 2) := by decide +kernel
theorem d_Mod_rowFor_73 : decode b_Mod_rowFor 73 = .ok (.aload_n 0, 1) := by decide +kernel
theorem d_Mod_rowFor_74 : decode b_Mod_rowFor 74 = .ok (.getfield 90, 3) := by decide +kernel
theorem d_Mod_rowFor_77 : decode b_Mod_rowFor 77 = .ok (.if_icmp .gt 8, 3) := by decide +kernel
theorem d_Mod_rowFor_80 : decode b_Mod_rowFor 80 = .ok (.iload 4, 2) := by decide +kernel
theorem d_Mod_rowFor_82 : decode b_Mod_rowFor 82 = .ok (.goto 4, 3) := by decide +kernel
theorem d_Mod_rowFor_85 : decode b_Mod_rowFor 85 = .ok (.iconst 0, 1) := by decide +kernel
theorem d_Mod_rowFor_86 : decode b_Mod_rowFor 86 = .ok (.ireturn, 1) := by decide +kernel
theorem d_Mod_fails_0 : decode b_Mod_fails 0 = .ok (.iconst 0, 1) := by decide +kernel
theorem d_Mod_fails_1 : decode b_Mod_fails 1 = .ok (.istore_n 2, 1) := by decide +kernel
theorem d_Mod_fails_2 : decode b_Mod_fails 2 = .ok (.iconst 0, 1) := by decide +kernel
theorem d_Mod_fails_3 : decode b_Mod_fails 3 = .ok (.istore_n 3, 1) := by decide +kernel
theorem d_Mod_fails_4 : decode b_Mod_fails 4 = .ok (.iload_n 3, 1) := by decide +kernel
theorem d_Mod_fails_5 : decode b_Mod_fails 5 = .ok (.aload_n 0, 1) := by decide +kernel
theorem d_Mod_fails_6 : decode b_Mod_fails 6 = .ok (.getfield 99, 3) := by decide +kernel
theorem d_Mod_fails_9 : decode b_Mod_fails 9 = .ok (.if_icmp .ge 29, 3) := by decide +kernel
theorem d_Mod_fails_12 : decode b_Mod_fails 12 = .ok (.iload_n 2, 1) := by decide +kernel
theorem d_Mod_fails_13 : decode b_Mod_fails 13 = .ok (.ifCond .ne 13, 3) := by decide +kernel
theorem d_Mod_fails_16 : decode b_Mod_fails 16 = .ok (.aload_n 0, 1) := by decide +kernel
theorem d_Mod_fails_17 : decode b_Mod_fails 17 = .ok (.getfield 69, 3) := by decide +kernel
theorem d_Mod_fails_20 : decode b_Mod_fails 20 = .ok (.iload_n 3, 1) := by decide +kernel
theorem d_Mod_fails_21 : decode b_Mod_fails 21 = .ok (.iaload, 1) := by decide +kernel
theorem d_Mod_fails_22 : decode b_Mod_fails 22 = .ok (.iload_n 1, 1) := by decide +kernel
theorem d_Mod_fails_23 : decode b_Mod_fails 23 = .ok (.if_icmp .ne 7, 3) := by decide +kernel
theorem d_Mod_fails_26 : decode b_Mod_fails 26 = .ok (.iconst 1, 1) := by decide +kernel
theorem d_Mod_fails_27 : decode b_Mod_fails 27 = .ok (.goto 4, 3) := by decide +kernel
theorem d_Mod_fails_30 : decode b_Mod_fails 30 = .ok (.iconst 0, 1) := by decide +kernel
theorem d_Mod_fails_31 : decode b_Mod_fails 31 = .ok (.istore_n 2, 1) := by decide +kernel
theorem d_Mod_fails_32 : decode b_Mod_fails 32 = .ok (.iinc 3 1, 3) := by decide +kernel
theorem d_Mod_fails_35 : decode b_Mod_fails 35 = .ok (.goto (-31), 3) := by decide +kernel
theorem d_Mod_fails_38 : decode b_Mod_fails 38 = .ok (.iload_n 2, 1) := by decide +kernel
theorem d_Mod_fails_39 : decode b_Mod_fails 39 = .ok (.ifCond .ne 23, 3) := by decide +kernel
theorem d_Mod_fails_42 : decode b_Mod_fails 42 = .ok (.aload_n 0, 1) := by decide +kernel
theorem d_Mod_fails_43 : decode b_Mod_fails 43 = .ok (.getfield 69, 3) := by decide +kernel
theorem d_Mod_fails_46 : decode b_Mod_fails 46 = .ok (.aload_n 0, 1) := by decide +kernel
theorem d_Mod_fails_47 : decode b_Mod_fails 47 = .ok (.getfield 99, 3) := by decide +kernel
theorem d_Mod_fails_50 : decode b_Mod_fails 50 = .ok (.iload_n 1, 1) := by decide +kernel
theorem d_Mod_fails_51 : decode b_Mod_fails 51 = .ok (.iastore, 1) := by decide +kernel
theorem d_Mod_fails_52 : decode b_Mod_fails 52 = .ok (.aload_n 0, 1) := by decide +kernel
theorem d_Mod_fails_53 : decode b_Mod_fails 53 = .ok (.dup, 1) := by decide +kernel
theorem d_Mod_fails_54 : decode b_Mod_fails 54 = .ok (.getfield 99, 3) := by decide +kernel
theorem d_Mod_fails_57 : decode b_Mod_fails 57 = .ok (.iconst 1, 1) := by decide +kernel
theorem d_Mod_fails_58 : decode b_Mod_fails 58 = .ok (.iadd, 1) := by decide +kernel
theorem d_Mod_fails_59 : decode b_Mod_fails 59 = .ok (.putfield 99, 3) := by decide +kernel
theorem d_Mod_fails_62 : decode b_Mod_fails 62 = .ok (.return_, 1) := by decide +kernel
theorem d_Mod_behind_0 : decode b_Mod_behind 0 = .ok (.lload_n 1, 1) := by decide +kernel
theorem d_Mod_behind_1 : decode b_Mod_behind 1 = .ok (.lstore 5, 2) := by decide +kernel
theorem d_Mod_behind_3 : decode b_Mod_behind 3 = .ok (.lload_n 3, 1) := by decide +kernel
theorem d_Mod_behind_4 : decode b_Mod_behind 4 = .ok (.lstore 7, 2) := by decide +kernel
theorem d_Mod_behind_6 : decode b_Mod_behind 6 = .ok (.lload 7, 2) := by decide +kernel
theorem d_Mod_behind_8 : decode b_Mod_behind 8 = .ok (.lconst 0, 1) := by decide +kernel
theorem d_Mod_behind_9 : decode b_Mod_behind 9 = .ok (.lcmp, 1) := by decide +kernel
theorem d_Mod_behind_10 : decode b_Mod_behind 10 = .ok (.ifCond .le 88, 3) := by decide +kernel
theorem d_Mod_behind_13 : decode b_Mod_behind 13 = .ok (.lload 5, 2) := by decide +kernel
theorem d_Mod_behind_15 : decode b_Mod_behind 15 = .ok (.ldc2_w 93, 3) := by decide +kernel
theorem d_Mod_behind_18 : decode b_Mod_behind 18 = .ok (.ldiv, 1) := by decide +kernel
theorem d_Mod_behind_19 : decode b_Mod_behind 19 = .ok (.lstore 9, 2) := by decide +kernel
theorem d_Mod_behind_21 : decode b_Mod_behind 21 = .ok (.ldc2_w 93, 3) := by decide +kernel
theorem d_Mod_behind_24 : decode b_Mod_behind 24 = .ok (.lload 9, 2) := by decide +kernel
theorem d_Mod_behind_26 : decode b_Mod_behind 26 = .ok (.lconst 1, 1) := by decide +kernel
theorem d_Mod_behind_27 : decode b_Mod_behind 27 = .ok (.ladd, 1) := by decide +kernel
theorem d_Mod_behind_28 : decode b_Mod_behind 28 = .ok (.lmul, 1) := by decide +kernel
theorem d_Mod_behind_29 : decode b_Mod_behind 29 = .ok (.lload 5, 2) := by decide +kernel
theorem d_Mod_behind_31 : decode b_Mod_behind 31 = .ok (.lsub, 1) := by decide +kernel
theorem d_Mod_behind_32 : decode b_Mod_behind 32 = .ok (.lstore 11, 2) := by decide +kernel
theorem d_Mod_behind_34 : decode b_Mod_behind 34 = .ok (.lload 9, 2) := by decide +kernel
theorem d_Mod_behind_36 : decode b_Mod_behind 36 = .ok (.ldc2_w 95, 3) := by decide +kernel
theorem d_Mod_behind_39 : decode b_Mod_behind 39 = .ok (.lcmp, 1) := by decide +kernel
theorem d_Mod_behind_40 : decode b_Mod_behind 40 = .ok (.ifCond .gt 24, 3) := by decide +kernel
theorem d_Mod_behind_43 : decode b_Mod_behind 43 = .ok (.aload_n 0, 1) := by decide +kernel
theorem d_Mod_behind_44 : decode b_Mod_behind 44 = .ok (.getfield 51, 3) := by decide +kernel
theorem d_Mod_behind_47 : decode b_Mod_behind 47 = .ok (.lload 9, 2) := by decide +kernel
theorem d_Mod_behind_49 : decode b_Mod_behind 49 = .ok (.l2i, 1) := by decide +kernel
theorem d_Mod_behind_50 : decode b_Mod_behind 50 = .ok (.baload, 1) := by decide +kernel
theorem d_Mod_behind_51 : decode b_Mod_behind 51 = .ok (.ifCond .eq 13, 3) := by decide +kernel
theorem d_Mod_behind_54 : decode b_Mod_behind 54 = .ok (.lload 5, 2) := by decide +kernel
theorem d_Mod_behind_56 : decode b_Mod_behind 56 = .ok (.lload 11, 2) := by decide +kernel
theorem d_Mod_behind_58 : decode b_Mod_behind 58 = .ok (.ladd, 1) := by decide +kernel
theorem d_Mod_behind_59 : decode b_Mod_behind 59 = .ok (.lstore 5, 2) := by decide +kernel
theorem d_Mod_behind_61 : decode b_Mod_behind 61 = .ok (.goto 34, 3) := by decide +kernel
theorem d_Mod_behind_64 : decode b_Mod_behind 64 = .ok (.lload 11, 2) := by decide +kernel
theorem d_Mod_behind_66 : decode b_Mod_behind 66 = .ok (.lload 7, 2) := by decide +kernel
theorem d_Mod_behind_68 : decode b_Mod_behind 68 = .ok (.lcmp, 1) := by decide +kernel
theorem d_Mod_behind_69 : decode b_Mod_behind 69 = .ok (.ifCond .ge 8, 3) := by decide +kernel
theorem d_Mod_behind_72 : decode b_Mod_behind 72 = .ok (.lload 11, 2) := by decide +kernel
theorem d_Mod_behind_74 : decode b_Mod_behind 74 = .ok (.goto 5, 3) := by decide +kernel
theorem d_Mod_behind_77 : decode b_Mod_behind 77 = .ok (.lload 7, 2) := by decide +kernel
theorem d_Mod_behind_79 : decode b_Mod_behind 79 = .ok (.lstore 13, 2) := by decide +kernel
theorem d_Mod_behind_81 : decode b_Mod_behind 81 = .ok (.lload 5, 2) := by decide +kernel
theorem d_Mod_behind_83 : decode b_Mod_behind 83 = .ok (.lload 13, 2) := by decide +kernel
theorem d_Mod_behind_85 : decode b_Mod_behind 85 = .ok (.ladd, 1) := by decide +kernel
theorem d_Mod_behind_86 : decode b_Mod_behind 86 = .ok (.lstore 5, 2) := by decide +kernel
theorem d_Mod_behind_88 : decode b_Mod_behind 88 = .ok (.lload 7, 2) := by decide +kernel
theorem d_Mod_behind_90 : decode b_Mod_behind 90 = .ok (.lload 13, 2) := by decide +kernel
theorem d_Mod_behind_92 : decode b_Mod_behind 92 = .ok (.lsub, 1) := by decide +kernel
theorem d_Mod_behind_93 : decode b_Mod_behind 93 = .ok (.lstore 7, 2) := by decide +kernel
theorem d_Mod_behind_95 : decode b_Mod_behind 95 = .ok (.goto (-89), 3) := by decide +kernel
theorem d_Mod_behind_98 : decode b_Mod_behind 98 = .ok (.lload 5, 2) := by decide +kernel
theorem d_Mod_behind_100 : decode b_Mod_behind 100 = .ok (.lreturn, 1) := by decide +kernel
theorem d_Mod_tick_0 : decode b_Mod_tick 0 = .ok (.aload_n 0, 1) := by decide +kernel
theorem d_Mod_tick_1 : decode b_Mod_tick 1 = .ok (.iconst 0, 1) := by decide +kernel
theorem d_Mod_tick_2 : decode b_Mod_tick 2 = .ok (.putfield 72, 3) := by decide +kernel
theorem d_Mod_tick_5 : decode b_Mod_tick 5 = .ok (.lload_n 1, 1) := by decide +kernel
theorem d_Mod_tick_6 : decode b_Mod_tick 6 = .ok (.aload_n 0, 1) := by decide +kernel
theorem d_Mod_tick_7 : decode b_Mod_tick 7 = .ok (.getfield 128, 3) := by decide +kernel
theorem d_Mod_tick_10 : decode b_Mod_tick 10 = .ok (.ldc2_w 132, 3) := by decide +kernel
theorem d_Mod_tick_13 : decode b_Mod_tick 13 = .ok (.invokestatic 78, 3) := by decide +kernel
theorem d_Mod_tick_16 : decode b_Mod_tick 16 = .ok (.ifCond .ne 6, 3) := by decide +kernel
theorem d_Mod_tick_19 : decode b_Mod_tick 19 = .ok (.bipush (-102), 2) := by decide +kernel
theorem d_Mod_tick_21 : decode b_Mod_tick 21 = .ok (.ireturn, 1) := by decide +kernel
theorem d_Mod_tick_22 : decode b_Mod_tick 22 = .ok (.aload_n 0, 1) := by decide +kernel
theorem d_Mod_tick_23 : decode b_Mod_tick 23 = .ok (.lload_n 1, 1) := by decide +kernel
theorem d_Mod_tick_24 : decode b_Mod_tick 24 = .ok (.putfield 128, 3) := by decide +kernel
theorem d_Mod_tick_27 : decode b_Mod_tick 27 = .ok (.aload_n 0, 1) := by decide +kernel
theorem d_Mod_tick_28 : decode b_Mod_tick 28 = .ok (.getfield 125, 3) := by decide +kernel
theorem d_Mod_tick_31 : decode b_Mod_tick 31 = .ok (.istore_n 3, 1) := by decide +kernel
theorem d_Mod_tick_32 : decode b_Mod_tick 32 = .ok (.iconst 0, 1) := by decide +kernel
theorem d_Mod_tick_33 : decode b_Mod_tick 33 = .ok (.istore 4, 2) := by decide +kernel
theorem d_Mod_tick_35 : decode b_Mod_tick 35 = .ok (.iload 4, 2) := by decide +kernel
theorem d_Mod_tick_37 : decode b_Mod_tick 37 = .ok (.sipush 200, 3) := by decide +kernel
theorem d_Mod_tick_40 : decode b_Mod_tick 40 = .ok (.if_icmp .ge 129, 3) := by decide +kernel
theorem d_Mod_tick_43 : decode b_Mod_tick 43 = .ok (.aload_n 0, 1) := by decide +kernel
theorem d_Mod_tick_44 : decode b_Mod_tick 44 = .ok (.getfield 36, 3) := by decide +kernel
theorem d_Mod_tick_47 : decode b_Mod_tick 47 = .ok (.iload 4, 2) := by decide +kernel
theorem d_Mod_tick_49 : decode b_Mod_tick 49 = .ok (.iaload, 1) := by decide +kernel
theorem d_Mod_tick_50 : decode b_Mod_tick 50 = .ok (.ifCond .le 59, 3) := by decide +kernel
theorem d_Mod_tick_53 : decode b_Mod_tick 53 = .ok (.aload_n 0, 1) := by decide +kernel
theorem d_Mod_tick_54 : decode b_Mod_tick 54 = .ok (.getfield 42, 3) := by decide +kernel
theorem d_Mod_tick_57 : decode b_Mod_tick 57 = .ok (.iload 4, 2) := by decide +kernel
theorem d_Mod_tick_59 : decode b_Mod_tick 59 = .ok (.laload, 1) := by decide +kernel
theorem d_Mod_tick_60 : decode b_Mod_tick 60 = .ok (.aload_n 0, 1) := by decide +kernel
theorem d_Mod_tick_61 : decode b_Mod_tick 61 = .ok (.getfield 128, 3) := by decide +kernel
theorem d_Mod_tick_64 : decode b_Mod_tick 64 = .ok (.lcmp, 1) := by decide +kernel
theorem d_Mod_tick_65 : decode b_Mod_tick 65 = .ok (.ifCond .ge 44, 3) := by decide +kernel
theorem d_Mod_tick_68 : decode b_Mod_tick 68 = .ok (.aload_n 0, 1) := by decide +kernel
theorem d_Mod_tick_69 : decode b_Mod_tick 69 = .ok (.getfield 45, 3) := by decide +kernel
theorem d_Mod_tick_72 : decode b_Mod_tick 72 = .ok (.iload 4, 2) := by decide +kernel
theorem d_Mod_tick_74 : decode b_Mod_tick 74 = .ok (.baload, 1) := by decide +kernel
theorem d_Mod_tick_75 : decode b_Mod_tick 75 = .ok (.ifCond .ne 34, 3) := by decide +kernel
theorem d_Mod_tick_78 : decode b_Mod_tick 78 = .ok (.aload_n 0, 1) := by decide +kernel
theorem d_Mod_tick_79 : decode b_Mod_tick 79 = .ok (.getfield 45, 3) := by decide +kernel
theorem d_Mod_tick_82 : decode b_Mod_tick 82 = .ok (.iload 4, 2) := by decide +kernel
theorem d_Mod_tick_84 : decode b_Mod_tick 84 = .ok (.iconst 1, 1) := by decide +kernel
theorem d_Mod_tick_85 : decode b_Mod_tick 85 = .ok (.bastore, 1) := by decide +kernel
theorem d_Mod_tick_86 : decode b_Mod_tick 86 = .ok (.aload_n 0, 1) := by decide +kernel
theorem d_Mod_tick_87 : decode b_Mod_tick 87 = .ok (.getfield 60, 3) := by decide +kernel
theorem d_Mod_tick_90 : decode b_Mod_tick 90 = .ok (.aload_n 0, 1) := by decide +kernel
theorem d_Mod_tick_91 : decode b_Mod_tick 91 = .ok (.getfield 39, 3) := by decide +kernel
theorem d_Mod_tick_94 : decode b_Mod_tick 94 = .ok (.iload 4, 2) := by decide +kernel
theorem d_Mod_tick_96 : decode b_Mod_tick 96 = .ok (.iaload, 1) := by decide +kernel
theorem d_Mod_tick_97 : decode b_Mod_tick 97 = .ok (.dup2, 1) := by decide +kernel
theorem d_Mod_tick_98 : decode b_Mod_tick 98 = .ok (.iaload, 1) := by decide +kernel
theorem d_Mod_tick_99 : decode b_Mod_tick 99 = .ok (.iconst 1, 1) := by decide +kernel
theorem d_Mod_tick_100 : decode b_Mod_tick 100 = .ok (.iadd, 1) := by decide +kernel
theorem d_Mod_tick_101 : decode b_Mod_tick 101 = .ok (.iastore, 1) := by decide +kernel
theorem d_Mod_tick_102 : decode b_Mod_tick 102 = .ok (.aload_n 0, 1) := by decide +kernel
theorem d_Mod_tick_103 : decode b_Mod_tick 103 = .ok (.iload 4, 2) := by decide +kernel
theorem d_Mod_tick_105 : decode b_Mod_tick 105 = .ok (.iconst 1, 1) := by decide +kernel
theorem d_Mod_tick_106 : decode b_Mod_tick 106 = .ok (.invokevirtual 134, 3) := by decide +kernel
theorem d_Mod_tick_109 : decode b_Mod_tick 109 = .ok (.aload_n 0, 1) := by decide +kernel
theorem d_Mod_tick_110 : decode b_Mod_tick 110 = .ok (.getfield 36, 3) := by decide +kernel
theorem d_Mod_tick_113 : decode b_Mod_tick 113 = .ok (.iload 4, 2) := by decide +kernel
theorem d_Mod_tick_115 : decode b_Mod_tick 115 = .ok (.iaload, 1) := by decide +kernel
theorem d_Mod_tick_116 : decode b_Mod_tick 116 = .ok (.ifCond .le 47, 3) := by decide +kernel
theorem d_Mod_tick_119 : decode b_Mod_tick 119 = .ok (.aload_n 0, 1) := by decide +kernel
theorem d_Mod_tick_120 : decode b_Mod_tick 120 = .ok (.getfield 42, 3) := by decide +kernel
theorem d_Mod_tick_123 : decode b_Mod_tick 123 = .ok (.iload 4, 2) := by decide +kernel
theorem d_Mod_tick_125 : decode b_Mod_tick 125 = .ok (.laload, 1) := by decide +kernel
theorem d_Mod_tick_126 : decode b_Mod_tick 126 = .ok (.ldc2_w 138, 3) := by decide +kernel
theorem d_Mod_tick_129 : decode b_Mod_tick 129 = .ok (.ladd, 1) := by decide +kernel
theorem d_Mod_tick_130 : decode b_Mod_tick 130 = .ok (.aload_n 0, 1) := by decide +kernel
theorem d_Mod_tick_131 : decode b_Mod_tick 131 = .ok (.getfield 128, 3) := by decide +kernel
theorem d_Mod_tick_134 : decode b_Mod_tick 134 = .ok (.lcmp, 1) := by decide +kernel
theorem d_Mod_tick_135 : decode b_Mod_tick 135 = .ok (.ifCond .ge 28, 3) := by decide +kernel
theorem d_Mod_tick_138 : decode b_Mod_tick 138 = .ok (.aload_n 0, 1) := by decide +kernel
theorem d_Mod_tick_139 : decode b_Mod_tick 139 = .ok (.getfield 48, 3) := by decide +kernel
theorem d_Mod_tick_142 : decode b_Mod_tick 142 = .ok (.iload 4, 2) := by decide +kernel
theorem d_Mod_tick_144 : decode b_Mod_tick 144 = .ok (.baload, 1) := by decide +kernel
theorem d_Mod_tick_145 : decode b_Mod_tick 145 = .ok (.ifCond .ne 18, 3) := by decide +kernel
theorem d_Mod_tick_148 : decode b_Mod_tick 148 = .ok (.aload_n 0, 1) := by decide +kernel
theorem d_Mod_tick_149 : decode b_Mod_tick 149 = .ok (.getfield 48, 3) := by decide +kernel
theorem d_Mod_tick_152 : decode b_Mod_tick 152 = .ok (.iload 4, 2) := by decide +kernel
theorem d_Mod_tick_154 : decode b_Mod_tick 154 = .ok (.iconst 1, 1) := by decide +kernel
theorem d_Mod_tick_155 : decode b_Mod_tick 155 = .ok (.bastore, 1) := by decide +kernel
theorem d_Mod_tick_156 : decode b_Mod_tick 156 = .ok (.aload_n 0, 1) := by decide +kernel
theorem d_Mod_tick_157 : decode b_Mod_tick 157 = .ok (.iload 4, 2) := by decide +kernel
theorem d_Mod_tick_159 : decode b_Mod_tick 159 = .ok (.iconst 2, 1) := by decide +kernel
theorem d_Mod_tick_160 : decode b_Mod_tick 160 = .ok (.invokevirtual 134, 3) := by decide +kernel
theorem d_Mod_tick_163 : decode b_Mod_tick 163 = .ok (.iinc 4 1, 3) := by decide +kernel
theorem d_Mod_tick_166 : decode b_Mod_tick 166 = .ok (.goto (-131), 3) := by decide +kernel
theorem d_Mod_tick_169 : decode b_Mod_tick 169 = .ok (.aload_n 0, 1) := by decide +kernel
theorem d_Mod_tick_170 : decode b_Mod_tick 170 = .ok (.getfield 125, 3) := by decide +kernel
theorem d_Mod_tick_173 : decode b_Mod_tick 173 = .ok (.iload_n 3, 1) := by decide +kernel
theorem d_Mod_tick_174 : decode b_Mod_tick 174 = .ok (.isub, 1) := by decide +kernel
theorem d_Mod_tick_175 : decode b_Mod_tick 175 = .ok (.ireturn, 1) := by decide +kernel
theorem d_Mod_tell_0 : decode b_Mod_tell 0 = .ok (.aload_n 0, 1) := by decide +kernel
theorem d_Mod_tell_1 : decode b_Mod_tell 1 = .ok (.getfield 125, 3) := by decide +kernel
theorem d_Mod_tell_4 : decode b_Mod_tell 4 = .ok (.sipush 400, 3) := by decide +kernel
theorem d_Mod_tell_7 : decode b_Mod_tell 7 = .ok (.if_icmp .ge 90, 3) := by decide +kernel
theorem d_Mod_tell_10 : decode b_Mod_tell 10 = .ok (.aload_n 0, 1) := by decide +kernel
theorem d_Mod_tell_11 : decode b_Mod_tell 11 = .ok (.getfield 54, 3) := by decide +kernel
theorem d_Mod_tell_14 : decode b_Mod_tell 14 = .ok (.iconst 5, 1) := by decide +kernel
theorem d_Mod_tell_15 : decode b_Mod_tell 15 = .ok (.aload_n 0, 1) := by decide +kernel
theorem d_Mod_tell_16 : decode b_Mod_tell 16 = .ok (.getfield 125, 3) := by decide +kernel
theorem d_Mod_tell_19 : decode b_Mod_tell 19 = .ok (.imul, 1) := by decide +kernel
theorem d_Mod_tell_20 : decode b_Mod_tell 20 = .ok (.iload_n 1, 1) := by decide +kernel
theorem d_Mod_tell_21 : decode b_Mod_tell 21 = .ok (.i2l, 1) := by decide +kernel
theorem d_Mod_tell_22 : decode b_Mod_tell 22 = .ok (.lastore, 1) := by decide +kernel
theorem d_Mod_tell_23 : decode b_Mod_tell 23 = .ok (.aload_n 0, 1) := by decide +kernel
theorem d_Mod_tell_24 : decode b_Mod_tell 24 = .ok (.getfield 54, 3) := by decide +kernel
theorem d_Mod_tell_27 : decode b_Mod_tell 27 = .ok (.iconst 5, 1) := by decide +kernel
theorem d_Mod_tell_28 : decode b_Mod_tell 28 = .ok (.aload_n 0, 1) := by decide +kernel
theorem d_Mod_tell_29 : decode b_Mod_tell 29 = .ok (.getfield 125, 3) := by decide +kernel
theorem d_Mod_tell_32 : decode b_Mod_tell 32 = .ok (.imul, 1) := by decide +kernel
theorem d_Mod_tell_33 : decode b_Mod_tell 33 = .ok (.iconst 1, 1) := by decide +kernel
theorem d_Mod_tell_34 : decode b_Mod_tell 34 = .ok (.iadd, 1) := by decide +kernel
theorem d_Mod_tell_35 : decode b_Mod_tell 35 = .ok (.iload_n 2, 1) := by decide +kernel
theorem d_Mod_tell_36 : decode b_Mod_tell 36 = .ok (.i2l, 1) := by decide +kernel
theorem d_Mod_tell_37 : decode b_Mod_tell 37 = .ok (.lastore, 1) := by decide +kernel
theorem d_Mod_tell_38 : decode b_Mod_tell 38 = .ok (.aload_n 0, 1) := by decide +kernel
theorem d_Mod_tell_39 : decode b_Mod_tell 39 = .ok (.getfield 54, 3) := by decide +kernel
theorem d_Mod_tell_42 : decode b_Mod_tell 42 = .ok (.iconst 5, 1) := by decide +kernel
theorem d_Mod_tell_43 : decode b_Mod_tell 43 = .ok (.aload_n 0, 1) := by decide +kernel
theorem d_Mod_tell_44 : decode b_Mod_tell 44 = .ok (.getfield 125, 3) := by decide +kernel
theorem d_Mod_tell_47 : decode b_Mod_tell 47 = .ok (.imul, 1) := by decide +kernel
theorem d_Mod_tell_48 : decode b_Mod_tell 48 = .ok (.iconst 2, 1) := by decide +kernel
theorem d_Mod_tell_49 : decode b_Mod_tell 49 = .ok (.iadd, 1) := by decide +kernel
theorem d_Mod_tell_50 : decode b_Mod_tell 50 = .ok (.aload_n 0, 1) := by decide +kernel
theorem d_Mod_tell_51 : decode b_Mod_tell 51 = .ok (.getfield 36, 3) := by decide +kernel
theorem d_Mod_tell_54 : decode b_Mod_tell 54 = .ok (.iload_n 1, 1) := by decide +kernel
theorem d_Mod_tell_55 : decode b_Mod_tell 55 = .ok (.iaload, 1) := by decide +kernel
theorem d_Mod_tell_56 : decode b_Mod_tell 56 = .ok (.i2l, 1) := by decide +kernel
theorem d_Mod_tell_57 : decode b_Mod_tell 57 = .ok (.lastore, 1) := by decide +kernel
theorem d_Mod_tell_58 : decode b_Mod_tell 58 = .ok (.aload_n 0, 1) := by decide +kernel
theorem d_Mod_tell_59 : decode b_Mod_tell 59 = .ok (.getfield 54, 3) := by decide +kernel
theorem d_Mod_tell_62 : decode b_Mod_tell 62 = .ok (.iconst 5, 1) := by decide +kernel
theorem d_Mod_tell_63 : decode b_Mod_tell 63 = .ok (.aload_n 0, 1) := by decide +kernel
theorem d_Mod_tell_64 : decode b_Mod_tell 64 = .ok (.getfield 125, 3) := by decide +kernel
theorem d_Mod_tell_67 : decode b_Mod_tell 67 = .ok (.imul, 1) := by decide +kernel
theorem d_Mod_tell_68 : decode b_Mod_tell 68 = .ok (.iconst 3, 1) := by decide +kernel
theorem d_Mod_tell_69 : decode b_Mod_tell 69 = .ok (.iadd, 1) := by decide +kernel
theorem d_Mod_tell_70 : decode b_Mod_tell 70 = .ok (.aload_n 0, 1) := by decide +kernel
theorem d_Mod_tell_71 : decode b_Mod_tell 71 = .ok (.getfield 39, 3) := by decide +kernel
theorem d_Mod_tell_74 : decode b_Mod_tell 74 = .ok (.iload_n 1, 1) := by decide +kernel
theorem d_Mod_tell_75 : decode b_Mod_tell 75 = .ok (.iaload, 1) := by decide +kernel
theorem d_Mod_tell_76 : decode b_Mod_tell 76 = .ok (.i2l, 1) := by decide +kernel
theorem d_Mod_tell_77 : decode b_Mod_tell 77 = .ok (.lastore, 1) := by decide +kernel
theorem d_Mod_tell_78 : decode b_Mod_tell 78 = .ok (.aload_n 0, 1) := by decide +kernel
theorem d_Mod_tell_79 : decode b_Mod_tell 79 = .ok (.getfield 54, 3) := by decide +kernel
theorem d_Mod_tell_82 : decode b_Mod_tell 82 = .ok (.iconst 5, 1) := by decide +kernel
theorem d_Mod_tell_83 : decode b_Mod_tell 83 = .ok (.aload_n 0, 1) := by decide +kernel
theorem d_Mod_tell_84 : decode b_Mod_tell 84 = .ok (.getfield 125, 3) := by decide +kernel
theorem d_Mod_tell_87 : decode b_Mod_tell 87 = .ok (.imul, 1) := by decide +kernel
theorem d_Mod_tell_88 : decode b_Mod_tell 88 = .ok (.iconst 4, 1) := by decide +kernel
theorem d_Mod_tell_89 : decode b_Mod_tell 89 = .ok (.iadd, 1) := by decide +kernel
theorem d_Mod_tell_90 : decode b_Mod_tell 90 = .ok (.aload_n 0, 1) := by decide +kernel
theorem d_Mod_tell_91 : decode b_Mod_tell 91 = .ok (.getfield 42, 3) := by decide +kernel
theorem d_Mod_tell_94 : decode b_Mod_tell 94 = .ok (.iload_n 1, 1) := by decide +kernel
theorem d_Mod_tell_95 : decode b_Mod_tell 95 = .ok (.laload, 1) := by decide +kernel
theorem d_Mod_tell_96 : decode b_Mod_tell 96 = .ok (.lastore, 1) := by decide +kernel
theorem d_Mod_tell_97 : decode b_Mod_tell 97 = .ok (.aload_n 0, 1) := by decide +kernel
theorem d_Mod_tell_98 : decode b_Mod_tell 98 = .ok (.dup, 1) := by decide +kernel
theorem d_Mod_tell_99 : decode b_Mod_tell 99 = .ok (.getfield 125, 3) := by decide +kernel
theorem d_Mod_tell_102 : decode b_Mod_tell 102 = .ok (.iconst 1, 1) := by decide +kernel
theorem d_Mod_tell_103 : decode b_Mod_tell 103 = .ok (.iadd, 1) := by decide +kernel
theorem d_Mod_tell_104 : decode b_Mod_tell 104 = .ok (.putfield 125, 3) := by decide +kernel
theorem d_Mod_tell_107 : decode b_Mod_tell 107 = .ok (.return_, 1) := by decide +kernel
theorem d_Mod_alarm_0 : decode b_Mod_alarm 0 = .ok (.aload_n 0, 1) := by decide +kernel
theorem d_Mod_alarm_1 : decode b_Mod_alarm 1 = .ok (.iconst 0, 1) := by decide +kernel
theorem d_Mod_alarm_2 : decode b_Mod_alarm 2 = .ok (.putfield 72, 3) := by decide +kernel
theorem d_Mod_alarm_5 : decode b_Mod_alarm 5 = .ok (.iload_n 1, 1) := by decide +kernel
theorem d_Mod_alarm_6 : decode b_Mod_alarm 6 = .ok (.ifCond .lt 27, 3) := by decide +kernel
theorem d_Mod_alarm_9 : decode b_Mod_alarm 9 = .ok (.iload_n 1, 1) := by decide +kernel
theorem d_Mod_alarm_10 : decode b_Mod_alarm 10 = .ok (.aload_n 0, 1) := by decide +kernel
theorem d_Mod_alarm_11 : decode b_Mod_alarm 11 = .ok (.getfield 125, 3) := by decide +kernel
theorem d_Mod_alarm_14 : decode b_Mod_alarm 14 = .ok (.if_icmp .ge 19, 3) := by decide +kernel
theorem d_Mod_alarm_17 : decode b_Mod_alarm 17 = .ok (.iload_n 1, 1) := by decide +kernel
theorem d_Mod_alarm_18 : decode b_Mod_alarm 18 = .ok (.sipush 399, 3) := by decide +kernel
theorem d_Mod_alarm_21 : decode b_Mod_alarm 21 = .ok (.if_icmp .gt 12, 3) := by decide +kernel
theorem d_Mod_alarm_24 : decode b_Mod_alarm 24 = .ok (.iload_n 2, 1) := by decide +kernel
theorem d_Mod_alarm_25 : decode b_Mod_alarm 25 = .ok (.ifCond .lt 8, 3) := by decide +kernel
theorem d_Mod_alarm_28 : decode b_Mod_alarm 28 = .ok (.iload_n 2, 1) := by decide +kernel
theorem d_Mod_alarm_29 : decode b_Mod_alarm 29 = .ok (.iconst 4, 1) := by decide +kernel
theorem d_Mod_alarm_30 : decode b_Mod_alarm 30 = .ok (.if_icmp .le 7, 3) := by decide +kernel
theorem d_Mod_alarm_33 : decode b_Mod_alarm 33 = .ok (.iconst (-1), 1) := by decide +kernel
theorem d_Mod_alarm_34 : decode b_Mod_alarm 34 = .ok (.goto 14, 3) := by decide +kernel
theorem d_Mod_alarm_37 : decode b_Mod_alarm 37 = .ok (.aload_n 0, 1) := by decide +kernel
theorem d_Mod_alarm_38 : decode b_Mod_alarm 38 = .ok (.getfield 54, 3) := by decide +kernel
theorem d_Mod_alarm_41 : decode b_Mod_alarm 41 = .ok (.iconst 5, 1) := by decide +kernel
theorem d_Mod_alarm_42 : decode b_Mod_alarm 42 = .ok (.iload_n 1, 1) := by decide +kernel
theorem d_Mod_alarm_43 : decode b_Mod_alarm 43 = .ok (.imul, 1) := by decide +kernel
theorem d_Mod_alarm_44 : decode b_Mod_alarm 44 = .ok (.iload_n 2, 1) := by decide +kernel
theorem d_Mod_alarm_45 : decode b_Mod_alarm 45 = .ok (.iadd, 1) := by decide +kernel
theorem d_Mod_alarm_46 : decode b_Mod_alarm 46 = .ok (.laload, 1) := by decide +kernel
theorem d_Mod_alarm_47 : decode b_Mod_alarm 47 = .ok (.l2i, 1) := by decide +kernel
theorem d_Mod_alarm_48 : decode b_Mod_alarm 48 = .ok (.ireturn, 1) := by decide +kernel
theorem d_Mod_state_0 : decode b_Mod_state 0 = .ok (.aload_n 0, 1) := by decide +kernel
theorem d_Mod_state_1 : decode b_Mod_state 1 = .ok (.iconst 0, 1) := by decide +kernel
theorem d_Mod_state_2 : decode b_Mod_state 2 = .ok (.putfield 72, 3) := by decide +kernel
theorem d_Mod_state_5 : decode b_Mod_state 5 = .ok (.iload_n 1, 1) := by decide +kernel
theorem d_Mod_state_6 : decode b_Mod_state 6 = .ok (.i2l, 1) := by decide +kernel
theorem d_Mod_state_7 : decode b_Mod_state 7 = .ok (.lconst 0, 1) := by decide +kernel
theorem d_Mod_state_8 : decode b_Mod_state 8 = .ok (.ldc2_w 102, 3) := by decide +kernel
theorem d_Mod_state_11 : decode b_Mod_state 11 = .ok (.invokestatic 78, 3) := by decide +kernel
theorem d_Mod_state_14 : decode b_Mod_state 14 = .ok (.ifCond .ne 6, 3) := by decide +kernel
theorem d_Mod_state_17 : decode b_Mod_state 17 = .ok (.bipush (-101), 2) := by decide +kernel
theorem d_Mod_state_19 : decode b_Mod_state 19 = .ok (.ireturn, 1) := by decide +kernel
theorem d_Mod_state_20 : decode b_Mod_state 20 = .ok (.aload_n 0, 1) := by decide +kernel
theorem d_Mod_state_21 : decode b_Mod_state 21 = .ok (.getfield 27, 3) := by decide +kernel
theorem d_Mod_state_24 : decode b_Mod_state 24 = .ok (.iload_n 1, 1) := by decide +kernel
theorem d_Mod_state_25 : decode b_Mod_state 25 = .ok (.iaload, 1) := by decide +kernel
theorem d_Mod_state_26 : decode b_Mod_state 26 = .ok (.aload_n 0, 1) := by decide +kernel
theorem d_Mod_state_27 : decode b_Mod_state 27 = .ok (.getfield 48, 3) := by decide +kernel
theorem d_Mod_state_30 : decode b_Mod_state 30 = .ok (.iload_n 1, 1) := by decide +kernel
theorem d_Mod_state_31 : decode b_Mod_state 31 = .ok (.baload, 1) := by decide +kernel
theorem d_Mod_state_32 : decode b_Mod_state 32 = .ok (.ifCond .eq 9, 3) := by decide +kernel
theorem d_Mod_state_35 : decode b_Mod_state 35 = .ok (.sipush 200, 3) := by decide +kernel
theorem d_Mod_state_38 : decode b_Mod_state 38 = .ok (.goto 18, 3) := by decide +kernel
theorem d_Mod_state_41 : decode b_Mod_state 41 = .ok (.aload_n 0, 1) := by decide +kernel
theorem d_Mod_state_42 : decode b_Mod_state 42 = .ok (.getfield 45, 3) := by decide +kernel
theorem d_Mod_state_45 : decode b_Mod_state 45 = .ok (.iload_n 1, 1) := by decide +kernel
theorem d_Mod_state_46 : decode b_Mod_state 46 = .ok (.baload, 1) := by decide +kernel
theorem d_Mod_state_47 : decode b_Mod_state 47 = .ok (.ifCond .eq 8, 3) := by decide +kernel
theorem d_Mod_state_50 : decode b_Mod_state 50 = .ok (.bipush 100, 2) := by decide +kernel
theorem d_Mod_state_52 : decode b_Mod_state 52 = .ok (.goto 4, 3) := by decide +kernel
theorem d_Mod_state_55 : decode b_Mod_state 55 = .ok (.iconst 0, 1) := by decide +kernel
theorem d_Mod_state_56 : decode b_Mod_state 56 = .ok (.iadd, 1) := by decide +kernel
theorem d_Mod_state_57 : decode b_Mod_state 57 = .ok (.ireturn, 1) := by decide +kernel
theorem d_Mod_holiday_0 : decode b_Mod_holiday 0 = .ok (.aload_n 0, 1) := by decide +kernel
theorem d_Mod_holiday_1 : decode b_Mod_holiday 1 = .ok (.iconst 0, 1) := by decide +kernel
theorem d_Mod_holiday_2 : decode b_Mod_holiday 2 = .ok (.putfield 72, 3) := by decide +kernel
theorem d_Mod_holiday_5 : decode b_Mod_holiday 5 = .ok (.lload_n 1, 1) := by decide +kernel
theorem d_Mod_holiday_6 : decode b_Mod_holiday 6 = .ok (.lconst 0, 1) := by decide +kernel
theorem d_Mod_holiday_7 : decode b_Mod_holiday 7 = .ok (.ldc2_w 95, 3) := by decide +kernel
theorem d_Mod_holiday_10 : decode b_Mod_holiday 10 = .ok (.invokestatic 78, 3) := by decide +kernel
theorem d_Mod_holiday_13 : decode b_Mod_holiday 13 = .ok (.ifCond .ne 6, 3) := by decide +kernel
theorem d_Mod_holiday_16 : decode b_Mod_holiday 16 = .ok (.bipush (-102), 2) := by decide +kernel
theorem d_Mod_holiday_18 : decode b_Mod_holiday 18 = .ok (.ireturn, 1) := by decide +kernel
theorem d_Mod_holiday_19 : decode b_Mod_holiday 19 = .ok (.aload_n 0, 1) := by decide +kernel
theorem d_Mod_holiday_20 : decode b_Mod_holiday 20 = .ok (.getfield 51, 3) := by decide +kernel
theorem d_Mod_holiday_23 : decode b_Mod_holiday 23 = .ok (.lload_n 1, 1) := by decide +kernel
theorem d_Mod_holiday_24 : decode b_Mod_holiday 24 = .ok (.l2i, 1) := by decide +kernel
theorem d_Mod_holiday_25 : decode b_Mod_holiday 25 = .ok (.baload, 1) := by decide +kernel
theorem d_Mod_holiday_26 : decode b_Mod_holiday 26 = .ok (.ifCond .eq 5, 3) := by decide +kernel
theorem d_Mod_holiday_29 : decode b_Mod_holiday 29 = .ok (.iconst 0, 1) := by decide +kernel
theorem d_Mod_holiday_30 : decode b_Mod_holiday 30 = .ok (.ireturn, 1) := by decide +kernel
theorem d_Mod_holiday_31 : decode b_Mod_holiday 31 = .ok (.aload_n 0, 1) := by decide +kernel
theorem d_Mod_holiday_32 : decode b_Mod_holiday 32 = .ok (.getfield 140, 3) := by decide +kernel
theorem d_Mod_holiday_35 : decode b_Mod_holiday 35 = .ok (.bipush 100, 2) := by decide +kernel
theorem d_Mod_holiday_37 : decode b_Mod_holiday 37 = .ok (.if_icmp .ne 6, 3) := by decide +kernel
theorem d_Mod_holiday_40 : decode b_Mod_holiday 40 = .ok (.bipush (-104), 2) := by decide +kernel
theorem d_Mod_holiday_42 : decode b_Mod_holiday 42 = .ok (.ireturn, 1) := by decide +kernel
theorem d_Mod_holiday_43 : decode b_Mod_holiday 43 = .ok (.aload_n 0, 1) := by decide +kernel
theorem d_Mod_holiday_44 : decode b_Mod_holiday 44 = .ok (.getfield 51, 3) := by decide +kernel
theorem d_Mod_holiday_47 : decode b_Mod_holiday 47 = .ok (.lload_n 1, 1) := by decide +kernel
theorem d_Mod_holiday_48 : decode b_Mod_holiday 48 = .ok (.l2i, 1) := by decide +kernel
theorem d_Mod_holiday_49 : decode b_Mod_holiday 49 = .ok (.iconst 1, 1) := by decide +kernel
theorem d_Mod_holiday_50 : decode b_Mod_holiday 50 = .ok (.bastore, 1) := by decide +kernel
theorem d_Mod_holiday_51 : decode b_Mod_holiday 51 = .ok (.aload_n 0, 1) := by decide +kernel
theorem d_Mod_holiday_52 : decode b_Mod_holiday 52 = .ok (.dup, 1) := by decide +kernel
theorem d_Mod_holiday_53 : decode b_Mod_holiday 53 = .ok (.getfield 140, 3) := by decide +kernel
theorem d_Mod_holiday_56 : decode b_Mod_holiday 56 = .ok (.iconst 1, 1) := by decide +kernel
theorem d_Mod_holiday_57 : decode b_Mod_holiday 57 = .ok (.iadd, 1) := by decide +kernel
theorem d_Mod_holiday_58 : decode b_Mod_holiday 58 = .ok (.putfield 140, 3) := by decide +kernel
theorem d_Mod_holiday_61 : decode b_Mod_holiday 61 = .ok (.iconst 1, 1) := by decide +kernel
theorem d_Mod_holiday_62 : decode b_Mod_holiday 62 = .ok (.ireturn, 1) := by decide +kernel
theorem d_Mod_share_0 : decode b_Mod_share 0 = .ok (.aload_n 0, 1) := by decide +kernel
theorem d_Mod_share_1 : decode b_Mod_share 1 = .ok (.iconst 0, 1) := by decide +kernel
theorem d_Mod_share_2 : decode b_Mod_share 2 = .ok (.putfield 72, 3) := by decide +kernel
theorem d_Mod_share_5 : decode b_Mod_share 5 = .ok (.iload_n 1, 1) := by decide +kernel
theorem d_Mod_share_6 : decode b_Mod_share 6 = .ok (.i2l, 1) := by decide +kernel
theorem d_Mod_share_7 : decode b_Mod_share 7 = .ok (.lconst 0, 1) := by decide +kernel
theorem d_Mod_share_8 : decode b_Mod_share 8 = .ok (.ldc2_w 84, 3) := by decide +kernel
theorem d_Mod_share_11 : decode b_Mod_share 11 = .ok (.invokestatic 78, 3) := by decide +kernel
theorem d_Mod_share_14 : decode b_Mod_share 14 = .ok (.ifCond .ne 7, 3) := by decide +kernel
theorem d_Mod_share_17 : decode b_Mod_share 17 = .ok (.ldc2_w 143, 3) := by decide +kernel
theorem d_Mod_share_20 : decode b_Mod_share 20 = .ok (.lreturn, 1) := by decide +kernel
theorem d_Mod_share_21 : decode b_Mod_share 21 = .ok (.iload_n 2, 1) := by decide +kernel
theorem d_Mod_share_22 : decode b_Mod_share 22 = .ok (.ifCond .lt 8, 3) := by decide +kernel
theorem d_Mod_share_25 : decode b_Mod_share 25 = .ok (.iload_n 2, 1) := by decide +kernel
theorem d_Mod_share_26 : decode b_Mod_share 26 = .ok (.iconst 1, 1) := by decide +kernel
theorem d_Mod_share_27 : decode b_Mod_share 27 = .ok (.if_icmp .le 7, 3) := by decide +kernel
theorem d_Mod_share_30 : decode b_Mod_share 30 = .ok (.ldc2_w 145, 3) := by decide +kernel
theorem d_Mod_share_33 : decode b_Mod_share 33 = .ok (.lreturn, 1) := by decide +kernel
theorem d_Mod_share_34 : decode b_Mod_share 34 = .ok (.aload_n 0, 1) := by decide +kernel
theorem d_Mod_share_35 : decode b_Mod_share 35 = .ok (.getfield 57, 3) := by decide +kernel
theorem d_Mod_share_38 : decode b_Mod_share 38 = .ok (.iload_n 1, 1) := by decide +kernel
theorem d_Mod_share_39 : decode b_Mod_share 39 = .ok (.iaload, 1) := by decide +kernel
theorem d_Mod_share_40 : decode b_Mod_share 40 = .ok (.ifCond .ne 10, 3) := by decide +kernel
theorem d_Mod_share_43 : decode b_Mod_share 43 = .ok (.aload_n 0, 1) := by decide +kernel
theorem d_Mod_share_44 : decode b_Mod_share 44 = .ok (.iconst 1, 1) := by decide +kernel
theorem d_Mod_share_45 : decode b_Mod_share 45 = .ok (.putfield 72, 3) := by decide +kernel
theorem d_Mod_share_48 : decode b_Mod_share 48 = .ok (.lconst 0, 1) := by decide +kernel
theorem d_Mod_share_49 : decode b_Mod_share 49 = .ok (.lreturn, 1) := by decide +kernel
theorem d_Mod_share_50 : decode b_Mod_share 50 = .ok (.aload_n 0, 1) := by decide +kernel
theorem d_Mod_share_51 : decode b_Mod_share 51 = .ok (.getfield 57, 3) := by decide +kernel
theorem d_Mod_share_54 : decode b_Mod_share 54 = .ok (.iload_n 1, 1) := by decide +kernel
theorem d_Mod_share_55 : decode b_Mod_share 55 = .ok (.iaload, 1) := by decide +kernel
theorem d_Mod_share_56 : decode b_Mod_share 56 = .ok (.istore_n 3, 1) := by decide +kernel
theorem d_Mod_share_57 : decode b_Mod_share 57 = .ok (.aload_n 0, 1) := by decide +kernel
theorem d_Mod_share_58 : decode b_Mod_share 58 = .ok (.getfield 57, 3) := by decide +kernel
theorem d_Mod_share_61 : decode b_Mod_share 61 = .ok (.iload_n 1, 1) := by decide +kernel
theorem d_Mod_share_62 : decode b_Mod_share 62 = .ok (.iaload, 1) := by decide +kernel
theorem d_Mod_share_63 : decode b_Mod_share 63 = .ok (.iload_n 3, 1) := by decide +kernel
theorem d_Mod_share_64 : decode b_Mod_share 64 = .ok (.irem, 1) := by decide +kernel
theorem d_Mod_share_65 : decode b_Mod_share 65 = .ok (.ifCond .ne 14, 3) := by decide +kernel
theorem d_Mod_share_68 : decode b_Mod_share 68 = .ok (.aload_n 0, 1) := by decide +kernel
theorem d_Mod_share_69 : decode b_Mod_share 69 = .ok (.getfield 60, 3) := by decide +kernel
theorem d_Mod_share_72 : decode b_Mod_share 72 = .ok (.iload_n 1, 1) := by decide +kernel
theorem d_Mod_share_73 : decode b_Mod_share 73 = .ok (.iaload, 1) := by decide +kernel
theorem d_Mod_share_74 : decode b_Mod_share 74 = .ok (.iload_n 3, 1) := by decide +kernel
theorem d_Mod_share_75 : decode b_Mod_share 75 = .ok (.irem, 1) := by decide +kernel
theorem d_Mod_share_76 : decode b_Mod_share 76 = .ok (.ifCond .eq 9, 3) := by decide +kernel
theorem d_Mod_share_79 : decode b_Mod_share 79 = .ok (.iinc 3 (-1), 3) := by decide +kernel
theorem d_Mod_share_82 : decode b_Mod_share 82 = .ok (.goto (-25), 3) := by decide +kernel
theorem d_Mod_share_85 : decode b_Mod_share 85 = .ok (.iload_n 2, 1) := by decide +kernel
theorem d_Mod_share_86 : decode b_Mod_share 86 = .ok (.ifCond .ne 12, 3) := by decide +kernel
theorem d_Mod_share_89 : decode b_Mod_share 89 = .ok (.aload_n 0, 1) := by decide +kernel
theorem d_Mod_share_90 : decode b_Mod_share 90 = .ok (.getfield 60, 3) := by decide +kernel
theorem d_Mod_share_93 : decode b_Mod_share 93 = .ok (.iload_n 1, 1) := by decide +kernel
theorem d_Mod_share_94 : decode b_Mod_share 94 = .ok (.iaload, 1) := by decide +kernel
theorem d_Mod_share_95 : decode b_Mod_share 95 = .ok (.goto 9, 3) := by decide +kernel
theorem d_Mod_share_98 : decode b_Mod_share 98 = .ok (.aload_n 0, 1) := by decide +kernel
theorem d_Mod_share_99 : decode b_Mod_share 99 = .ok (.getfield 57, 3) := by decide +kernel
theorem d_Mod_share_102 : decode b_Mod_share 102 = .ok (.iload_n 1, 1) := by decide +kernel
theorem d_Mod_share_103 : decode b_Mod_share 103 = .ok (.iaload, 1) := by decide +kernel
theorem d_Mod_share_104 : decode b_Mod_share 104 = .ok (.iload_n 3, 1) := by decide +kernel
theorem d_Mod_share_105 : decode b_Mod_share 105 = .ok (.idiv, 1) := by decide +kernel
theorem d_Mod_share_106 : decode b_Mod_share 106 = .ok (.i2l, 1) := by decide +kernel
theorem d_Mod_share_107 : decode b_Mod_share 107 = .ok (.lreturn, 1) := by decide +kernel
theorem d_Mod_percentile_0 : decode b_Mod_percentile 0 = .ok (.aload_n 0, 1) := by decide +kernel
theorem d_Mod_percentile_1 : decode b_Mod_percentile 1 = .ok (.iconst 0, 1) := by decide +kernel
theorem d_Mod_percentile_2 : decode b_Mod_percentile 2 = .ok (.putfield 72, 3) := by decide +kernel
theorem d_Mod_percentile_5 : decode b_Mod_percentile 5 = .ok (.iload_n 1, 1) := by decide +kernel
theorem d_Mod_percentile_6 : decode b_Mod_percentile 6 = .ok (.i2l, 1) := by decide +kernel
theorem d_Mod_percentile_7 : decode b_Mod_percentile 7 = .ok (.lconst 0, 1) := by decide +kernel
theorem d_Mod_percentile_8 : decode b_Mod_percentile 8 = .ok (.ldc2_w 86, 3) := by decide +kernel
theorem d_Mod_percentile_11 : decode b_Mod_percentile 11 = .ok (.invokestatic 78, 3) := by decide +kernel
theorem d_Mod_percentile_14 : decode b_Mod_percentile 14 = .ok (.ifCond .eq 15, 3) := by decide +kernel
theorem d_Mod_percentile_17 : decode b_Mod_percentile 17 = .ok (.iload_n 2, 1) := by decide +kernel
theorem d_Mod_percentile_18 : decode b_Mod_percentile 18 = .ok (.i2l, 1) := by decide +kernel
theorem d_Mod_percentile_19 : decode b_Mod_percentile 19 = .ok (.lconst 0, 1) := by decide +kernel
theorem d_Mod_percentile_20 : decode b_Mod_percentile 20 = .ok (.ldc2_w 147, 3) := by decide +kernel
theorem d_Mod_percentile_23 : decode b_Mod_percentile 23 = .ok (.invokestatic 78, 3) := by decide +kernel
theorem d_Mod_percentile_26 : decode b_Mod_percentile 26 = .ok (.ifCond .ne 7, 3) := by decide +kernel
theorem d_Mod_percentile_29 : decode b_Mod_percentile 29 = .ok (.ldc2_w 145, 3) := by decide +kernel
theorem d_Mod_percentile_32 : decode b_Mod_percentile 32 = .ok (.lreturn, 1) := by decide +kernel
theorem d_Mod_percentile_33 : decode b_Mod_percentile 33 = .ok (.aload_n 0, 1) := by decide +kernel
theorem d_Mod_percentile_34 : decode b_Mod_percentile 34 = .ok (.getfield 63, 3) := by decide +kernel
theorem d_Mod_percentile_37 : decode b_Mod_percentile 37 = .ok (.iload_n 1, 1) := by decide +kernel
theorem d_Mod_percentile_38 : decode b_Mod_percentile 38 = .ok (.iaload, 1) := by decide +kernel
theorem d_Mod_percentile_39 : decode b_Mod_percentile 39 = .ok (.istore_n 3, 1) := by decide +kernel
theorem d_Mod_percentile_40 : decode b_Mod_percentile 40 = .ok (.iload_n 3, 1) := by decide +kernel
theorem d_Mod_percentile_41 : decode b_Mod_percentile 41 = .ok (.ifCond .ne 7, 3) := by decide +kernel
theorem d_Mod_percentile_44 : decode b_Mod_percentile 44 = .ok (.ldc2_w 82, 3) := by decide +kernel
theorem d_Mod_percentile_47 : decode b_Mod_percentile 47 = .ok (.lreturn, 1) := by decide +kernel
theorem d_Mod_percentile_48 : decode b_Mod_percentile 48 = .ok (.iload_n 3, 1) := by decide +kernel
theorem d_Mod_percentile_49 : decode b_Mod_percentile 49 = .ok (.iload_n 2, 1) := by decide +kernel
theorem d_Mod_percentile_50 : decode b_Mod_percentile 50 = .ok (.imul, 1) := by decide +kernel
theorem d_Mod_percentile_51 : decode b_Mod_percentile 51 = .ok (.sipush 999, 3) := by decide +kernel
theorem d_Mod_percentile_54 : decode b_Mod_percentile 54 = .ok (.iadd, 1) := by decide +kernel
theorem d_Mod_percentile_55 : decode b_Mod_percentile 55 = .ok (.sipush 1000, 3) := by decide +kernel
theorem d_Mod_percentile_58 : decode b_Mod_percentile 58 = .ok (.idiv, 1) := by decide +kernel
theorem d_Mod_percentile_59 : decode b_Mod_percentile 59 = .ok (.istore 4, 2) := by decide +kernel
theorem d_Mod_percentile_61 : decode b_Mod_percentile 61 = .ok (.iload 4, 2) := by decide +kernel
theorem d_Mod_percentile_63 : decode b_Mod_percentile 63 = .ok (.iconst 1, 1) := by decide +kernel
theorem d_Mod_percentile_64 : decode b_Mod_percentile 64 = .ok (.if_icmp .ge 7, 3) := by decide +kernel
theorem d_Mod_percentile_67 : decode b_Mod_percentile 67 = .ok (.iconst 1, 1) := by decide +kernel
theorem d_Mod_percentile_68 : decode b_Mod_percentile 68 = .ok (.goto 5, 3) := by decide +kernel
theorem d_Mod_percentile_71 : decode b_Mod_percentile 71 = .ok (.iload 4, 2) := by decide +kernel
theorem d_Mod_percentile_73 : decode b_Mod_percentile 73 = .ok (.istore 4, 2) := by decide +kernel
theorem d_Mod_percentile_75 : decode b_Mod_percentile 75 = .ok (.ldc 149, 2) := by decide +kernel
theorem d_Mod_percentile_77 : decode b_Mod_percentile 77 = .ok (.istore 5, 2) := by decide +kernel
theorem d_Mod_percentile_79 : decode b_Mod_percentile 79 = .ok (.iconst 0, 1) := by decide +kernel
theorem d_Mod_percentile_80 : decode b_Mod_percentile 80 = .ok (.istore 6, 2) := by decide +kernel
theorem d_Mod_percentile_82 : decode b_Mod_percentile 82 = .ok (.iload 6, 2) := by decide +kernel
theorem d_Mod_percentile_84 : decode b_Mod_percentile 84 = .ok (.iload_n 3, 1) := by decide +kernel
theorem d_Mod_percentile_85 : decode b_Mod_percentile 85 = .ok (.if_icmp .ge 94, 3) := by decide +kernel
theorem d_Mod_percentile_88 : decode b_Mod_percentile 88 = .ok (.aload_n 0, 1) := by decide +kernel
theorem d_Mod_percentile_89 : decode b_Mod_percentile 89 = .ok (.getfield 66, 3) := by decide +kernel
theorem d_Mod_percentile_92 : decode b_Mod_percentile 92 = .ok (.sipush 4200, 3) := by decide +kernel
theorem d_Mod_percentile_95 : decode b_Mod_percentile 95 = .ok (.iload_n 1, 1) := by decide +kernel
theorem d_Mod_percentile_96 : decode b_Mod_percentile 96 = .ok (.imul, 1) := by decide +kernel
theorem d_Mod_percentile_97 : decode b_Mod_percentile 97 = .ok (.iload 6, 2) := by decide +kernel
theorem d_Mod_percentile_99 : decode b_Mod_percentile 99 = .ok (.iadd, 1) := by decide +kernel
theorem d_Mod_percentile_100 : decode b_Mod_percentile 100 = .ok (.iaload, 1) := by decide +kernel
theorem d_Mod_percentile_101 : decode b_Mod_percentile 101 = .ok (.istore 7, 2) := by decide +kernel
theorem d_Mod_percentile_103 : decode b_Mod_percentile 103 = .ok (.iconst 0, 1) := by decide +kernel
theorem d_Mod_percentile_104 : decode b_Mod_percentile 104 = .ok (.istore 8, 2) := by decide +kernel
theorem d_Mod_percentile_106 : decode b_Mod_percentile 106 = .ok (.iconst 0, 1) := by decide +kernel
theorem d_Mod_percentile_107 : decode b_Mod_percentile 107 = .ok (.istore 9, 2) := by decide +kernel
theorem d_Mod_percentile_109 : decode b_Mod_percentile 109 = .ok (.iload 9, 2) := by decide +kernel
theorem d_Mod_percentile_111 : decode b_Mod_percentile 111 = .ok (.iload_n 3, 1) := by decide +kernel
theorem d_Mod_percentile_112 : decode b_Mod_percentile 112 = .ok (.if_icmp .ge 38, 3) := by decide +kernel
theorem d_Mod_percentile_115 : decode b_Mod_percentile 115 = .ok (.aload_n 0, 1) := by decide +kernel
theorem d_Mod_percentile_116 : decode b_Mod_percentile 116 = .ok (.getfield 66, 3) := by decide +kernel
theorem d_Mod_percentile_119 : decode b_Mod_percentile 119 = .ok (.sipush 4200, 3) := by decide +kernel
theorem d_Mod_percentile_122 : decode b_Mod_percentile 122 = .ok (.iload_n 1, 1) := by decide +kernel
theorem d_Mod_percentile_123 : decode b_Mod_percentile 123 = .ok (.imul, 1) := by decide +kernel
theorem d_Mod_percentile_124 : decode b_Mod_percentile 124 = .ok (.iload 9, 2) := by decide +kernel
theorem d_Mod_percentile_126 : decode b_Mod_percentile 126 = .ok (.iadd, 1) := by decide +kernel
theorem d_Mod_percentile_127 : decode b_Mod_percentile 127 = .ok (.iaload, 1) := by decide +kernel
theorem d_Mod_percentile_128 : decode b_Mod_percentile 128 = .ok (.iload 7, 2) := by decide +kernel
theorem d_Mod_percentile_130 : decode b_Mod_percentile 130 = .ok (.if_icmp .gt 10, 3) := by decide +kernel
theorem d_Mod_percentile_133 : decode b_Mod_percentile 133 = .ok (.iload 8, 2) := by decide +kernel
theorem d_Mod_percentile_135 : decode b_Mod_percentile 135 = .ok (.iconst 1, 1) := by decide +kernel
theorem d_Mod_percentile_136 : decode b_Mod_percentile 136 = .ok (.iadd, 1) := by decide +kernel
theorem d_Mod_percentile_137 : decode b_Mod_percentile 137 = .ok (.goto 5, 3) := by decide +kernel
theorem d_Mod_percentile_140 : decode b_Mod_percentile 140 = .ok (.iload 8, 2) := by decide +kernel
theorem d_Mod_percentile_142 : decode b_Mod_percentile 142 = .ok (.istore 8, 2) := by decide +kernel
theorem d_Mod_percentile_144 : decode b_Mod_percentile 144 = .ok (.iinc 9 1, 3) := by decide +kernel
theorem d_Mod_percentile_147 : decode b_Mod_percentile 147 = .ok (.goto (-38), 3) := by decide +kernel
theorem d_Mod_percentile_150 : decode b_Mod_percentile 150 = .ok (.iload 8, 2) := by decide +kernel
theorem d_Mod_percentile_152 : decode b_Mod_percentile 152 = .ok (.iload 4, 2) := by decide +kernel
theorem d_Mod_percentile_154 : decode b_Mod_percentile 154 = .ok (.if_icmp .lt 15, 3) := by decide +kernel
theorem d_Mod_percentile_157 : decode b_Mod_percentile 157 = .ok (.iload 7, 2) := by decide +kernel
theorem d_Mod_percentile_159 : decode b_Mod_percentile 159 = .ok (.iload 5, 2) := by decide +kernel
theorem d_Mod_percentile_161 : decode b_Mod_percentile 161 = .ok (.if_icmp .ge 8, 3) := by decide +kernel
theorem d_Mod_percentile_164 : decode b_Mod_percentile 164 = .ok (.iload 7, 2) := by decide +kernel
theorem d_Mod_percentile_166 : decode b_Mod_percentile 166 = .ok (.goto 5, 3) := by decide +kernel
theorem d_Mod_percentile_169 : decode b_Mod_percentile 169 = .ok (.iload 5, 2) := by decide +kernel
theorem d_Mod_percentile_171 : decode b_Mod_percentile 171 = .ok (.istore 5, 2) := by decide +kernel
theorem d_Mod_percentile_173 : decode b_Mod_percentile 173 = .ok (.iinc 6 1, 3) := by decide +kernel
theorem d_Mod_percentile_176 : decode b_Mod_percentile 176 = .ok (.goto (-94), 3) := by decide +kernel
theorem d_Mod_percentile_179 : decode b_Mod_percentile 179 = .ok (.iload 5, 2) := by decide +kernel
theorem d_Mod_percentile_181 : decode b_Mod_percentile 181 = .ok (.i2l, 1) := by decide +kernel
theorem d_Mod_percentile_182 : decode b_Mod_percentile 182 = .ok (.lreturn, 1) := by decide +kernel
theorem d_Mod_found_0 : decode b_Mod_found 0 = .ok (.aload_n 0, 1) := by decide +kernel
theorem d_Mod_found_1 : decode b_Mod_found 1 = .ok (.iconst 0, 1) := by decide +kernel
theorem d_Mod_found_2 : decode b_Mod_found 2 = .ok (.putfield 72, 3) := by decide +kernel
theorem d_Mod_found_5 : decode b_Mod_found 5 = .ok (.iload_n 1, 1) := by decide +kernel
theorem d_Mod_found_6 : decode b_Mod_found 6 = .ok (.i2l, 1) := by decide +kernel
theorem d_Mod_found_7 : decode b_Mod_found 7 = .ok (.lconst 0, 1) := by decide +kernel
theorem d_Mod_found_8 : decode b_Mod_found 8 = .ok (.ldc2_w 102, 3) := by decide +kernel
theorem d_Mod_found_11 : decode b_Mod_found 11 = .ok (.invokestatic 78, 3) := by decide +kernel
theorem d_Mod_found_14 : decode b_Mod_found 14 = .ok (.ifCond .ne 6, 3) := by decide +kernel
theorem d_Mod_found_17 : decode b_Mod_found 17 = .ok (.bipush (-101), 2) := by decide +kernel
theorem d_Mod_found_19 : decode b_Mod_found 19 = .ok (.ireturn, 1) := by decide +kernel
theorem d_Mod_found_20 : decode b_Mod_found 20 = .ok (.aload_n 0, 1) := by decide +kernel
theorem d_Mod_found_21 : decode b_Mod_found 21 = .ok (.iload_n 1, 1) := by decide +kernel
theorem d_Mod_found_22 : decode b_Mod_found 22 = .ok (.lload_n 2, 1) := by decide +kernel
theorem d_Mod_found_23 : decode b_Mod_found 23 = .ok (.invokevirtual 106, 3) := by decide +kernel
theorem d_Mod_found_26 : decode b_Mod_found 26 = .ok (.ifCond .ne 6, 3) := by decide +kernel
theorem d_Mod_found_29 : decode b_Mod_found 29 = .ok (.bipush (-102), 2) := by decide +kernel
theorem d_Mod_found_31 : decode b_Mod_found 31 = .ok (.ireturn, 1) := by decide +kernel
theorem d_Mod_found_32 : decode b_Mod_found 32 = .ok (.aload_n 0, 1) := by decide +kernel
theorem d_Mod_found_33 : decode b_Mod_found 33 = .ok (.getfield 48, 3) := by decide +kernel
theorem d_Mod_found_36 : decode b_Mod_found 36 = .ok (.iload_n 1, 1) := by decide +kernel
theorem d_Mod_found_37 : decode b_Mod_found 37 = .ok (.baload, 1) := by decide +kernel
theorem d_Mod_found_38 : decode b_Mod_found 38 = .ok (.ifCond .ne 5, 3) := by decide +kernel
theorem d_Mod_found_41 : decode b_Mod_found 41 = .ok (.iconst 0, 1) := by decide +kernel
theorem d_Mod_found_42 : decode b_Mod_found 42 = .ok (.ireturn, 1) := by decide +kernel
theorem d_Mod_found_43 : decode b_Mod_found 43 = .ok (.aload_n 0, 1) := by decide +kernel
theorem d_Mod_found_44 : decode b_Mod_found 44 = .ok (.iload_n 1, 1) := by decide +kernel
theorem d_Mod_found_45 : decode b_Mod_found 45 = .ok (.invokevirtual 110, 3) := by decide +kernel
theorem d_Mod_found_48 : decode b_Mod_found 48 = .ok (.aload_n 0, 1) := by decide +kernel
theorem d_Mod_found_49 : decode b_Mod_found 49 = .ok (.getfield 33, 3) := by decide +kernel
theorem d_Mod_found_52 : decode b_Mod_found 52 = .ok (.iload_n 1, 1) := by decide +kernel
theorem d_Mod_found_53 : decode b_Mod_found 53 = .ok (.lload_n 2, 1) := by decide +kernel
theorem d_Mod_found_54 : decode b_Mod_found 54 = .ok (.lastore, 1) := by decide +kernel
theorem d_Mod_found_55 : decode b_Mod_found 55 = .ok (.iconst 1, 1) := by decide +kernel
theorem d_Mod_found_56 : decode b_Mod_found 56 = .ok (.ireturn, 1) := by decide +kernel
theorem d_Mod_cluster_0 : decode b_Mod_cluster 0 = .ok (.aload_n 0, 1) := by decide +kernel
theorem d_Mod_cluster_1 : decode b_Mod_cluster 1 = .ok (.iconst 0, 1) := by decide +kernel
theorem d_Mod_cluster_2 : decode b_Mod_cluster 2 = .ok (.putfield 72, 3) := by decide +kernel
theorem d_Mod_cluster_5 : decode b_Mod_cluster 5 = .ok (.iconst (-1), 1) := by decide +kernel
theorem d_Mod_cluster_6 : decode b_Mod_cluster 6 = .ok (.istore_n 3, 1) := by decide +kernel
theorem d_Mod_cluster_7 : decode b_Mod_cluster 7 = .ok (.iconst 0, 1) := by decide +kernel
theorem d_Mod_cluster_8 : decode b_Mod_cluster 8 = .ok (.istore 4, 2) := by decide +kernel
theorem d_Mod_cluster_10 : decode b_Mod_cluster 10 = .ok (.iload 4, 2) := by decide +kernel
theorem d_Mod_cluster_12 : decode b_Mod_cluster 12 = .ok (.iload_n 1, 1) := by decide +kernel
theorem d_Mod_cluster_13 : decode b_Mod_cluster 13 = .ok (.if_icmp .gt 111, 3) := by decide +kernel
theorem d_Mod_cluster_16 : decode b_Mod_cluster 16 = .ok (.iload_n 2, 1) := by decide +kernel
theorem d_Mod_cluster_17 : decode b_Mod_cluster 17 = .ok (.ifCond .lt 107, 3) := by decide +kernel
theorem d_Mod_cluster_20 : decode b_Mod_cluster 20 = .ok (.iload_n 2, 1) := by decide +kernel
theorem d_Mod_cluster_21 : decode b_Mod_cluster 21 = .ok (.iconst 3, 1) := by decide +kernel
theorem d_Mod_cluster_22 : decode b_Mod_cluster 22 = .ok (.if_icmp .ge 102, 3) := by decide +kernel
theorem d_Mod_cluster_25 : decode b_Mod_cluster 25 = .ok (.iload 4, 2) := by decide +kernel
theorem d_Mod_cluster_27 : decode b_Mod_cluster 27 = .ok (.ifCond .eq 7, 3) := by decide +kernel
theorem d_Mod_cluster_30 : decode b_Mod_cluster 30 = .ok (.iload_n 3, 1) := by decide +kernel
theorem d_Mod_cluster_31 : decode b_Mod_cluster 31 = .ok (.ifCond .lt 93, 3) := by decide +kernel
theorem d_Mod_cluster_34 : decode b_Mod_cluster 34 = .ok (.iconst (-1), 1) := by decide +kernel
theorem d_Mod_cluster_35 : decode b_Mod_cluster 35 = .ok (.istore 5, 2) := by decide +kernel
theorem d_Mod_cluster_37 : decode b_Mod_cluster 37 = .ok (.iconst 0, 1) := by decide +kernel
theorem d_Mod_cluster_38 : decode b_Mod_cluster 38 = .ok (.istore 6, 2) := by decide +kernel
theorem d_Mod_cluster_40 : decode b_Mod_cluster 40 = .ok (.iload 6, 2) := by decide +kernel
theorem d_Mod_cluster_42 : decode b_Mod_cluster 42 = .ok (.bipush 50, 2) := by decide +kernel
theorem d_Mod_cluster_44 : decode b_Mod_cluster 44 = .ok (.if_icmp .ge 71, 3) := by decide +kernel
theorem d_Mod_cluster_47 : decode b_Mod_cluster 47 = .ok (.aload_n 0, 1) := by decide +kernel
theorem d_Mod_cluster_48 : decode b_Mod_cluster 48 = .ok (.getfield 60, 3) := by decide +kernel
theorem d_Mod_cluster_51 : decode b_Mod_cluster 51 = .ok (.iload 6, 2) := by decide +kernel
theorem d_Mod_cluster_53 : decode b_Mod_cluster 53 = .ok (.iaload, 1) := by decide +kernel
theorem d_Mod_cluster_54 : decode b_Mod_cluster 54 = .ok (.iconst 2, 1) := by decide +kernel
theorem d_Mod_cluster_55 : decode b_Mod_cluster 55 = .ok (.if_icmp .le 21, 3) := by decide +kernel
theorem d_Mod_cluster_58 : decode b_Mod_cluster 58 = .ok (.iload_n 3, 1) := by decide +kernel
theorem d_Mod_cluster_59 : decode b_Mod_cluster 59 = .ok (.ifCond .lt 13, 3) := by decide +kernel
theorem d_Mod_cluster_62 : decode b_Mod_cluster 62 = .ok (.aload_n 0, 1) := by decide +kernel
theorem d_Mod_cluster_63 : decode b_Mod_cluster 63 = .ok (.iload_n 3, 1) := by decide +kernel
theorem d_Mod_cluster_64 : decode b_Mod_cluster 64 = .ok (.iload 6, 2) := by decide +kernel
theorem d_Mod_cluster_66 : decode b_Mod_cluster 66 = .ok (.invokevirtual 150, 3) := by decide +kernel
theorem d_Mod_cluster_69 : decode b_Mod_cluster 69 = .ok (.ifCond .eq 7, 3) := by decide +kernel
theorem d_Mod_cluster_72 : decode b_Mod_cluster 72 = .ok (.iconst 1, 1) := by decide +kernel
theorem d_Mod_cluster_73 : decode b_Mod_cluster 73 = .ok (.goto 4, 3) := by decide +kernel
theorem d_Mod_cluster_76 : decode b_Mod_cluster 76 = .ok (.iconst 0, 1) := by decide +kernel
theorem d_Mod_cluster_77 : decode b_Mod_cluster 77 = .ok (.istore 7, 2) := by decide +kernel
theorem d_Mod_cluster_79 : decode b_Mod_cluster 79 = .ok (.iload 7, 2) := by decide +kernel
theorem d_Mod_cluster_81 : decode b_Mod_cluster 81 = .ok (.ifCond .eq 24, 3) := by decide +kernel
theorem d_Mod_cluster_84 : decode b_Mod_cluster 84 = .ok (.iload 5, 2) := by decide +kernel
theorem d_Mod_cluster_86 : decode b_Mod_cluster 86 = .ok (.ifCond .lt 14, 3) := by decide +kernel
theorem d_Mod_cluster_89 : decode b_Mod_cluster 89 = .ok (.aload_n 0, 1) := by decide +kernel
theorem d_Mod_cluster_90 : decode b_Mod_cluster 90 = .ok (.iload 6, 2) := by decide +kernel
theorem d_Mod_cluster_92 : decode b_Mod_cluster 92 = .ok (.iload 5, 2) := by decide +kernel
theorem d_Mod_cluster_94 : decode b_Mod_cluster 94 = .ok (.invokevirtual 150, 3) := by decide +kernel
theorem d_Mod_cluster_97 : decode b_Mod_cluster 97 = .ok (.ifCond .eq 8, 3) := by decide +kernel
theorem d_Mod_cluster_100 : decode b_Mod_cluster 100 = .ok (.iload 6, 2) := by decide +kernel
theorem d_Mod_cluster_102 : decode b_Mod_cluster 102 = .ok (.goto 5, 3) := by decide +kernel
theorem d_Mod_cluster_105 : decode b_Mod_cluster 105 = .ok (.iload 5, 2) := by decide +kernel
theorem d_Mod_cluster_107 : decode b_Mod_cluster 107 = .ok (.istore 5, 2) := by decide +kernel
theorem d_Mod_cluster_109 : decode b_Mod_cluster 109 = .ok (.iinc 6 1, 3) := by decide +kernel
theorem d_Mod_cluster_112 : decode b_Mod_cluster 112 = .ok (.goto (-72), 3) := by decide +kernel
theorem d_Mod_cluster_115 : decode b_Mod_cluster 115 = .ok (.iload 5, 2) := by decide +kernel
theorem d_Mod_cluster_117 : decode b_Mod_cluster 117 = .ok (.istore_n 3, 1) := by decide +kernel
theorem d_Mod_cluster_118 : decode b_Mod_cluster 118 = .ok (.iinc 4 1, 3) := by decide +kernel
theorem d_Mod_cluster_121 : decode b_Mod_cluster 121 = .ok (.goto (-111), 3) := by decide +kernel
theorem d_Mod_cluster_124 : decode b_Mod_cluster 124 = .ok (.iload_n 3, 1) := by decide +kernel
theorem d_Mod_cluster_125 : decode b_Mod_cluster 125 = .ok (.ifCond .ge 7, 3) := by decide +kernel
theorem d_Mod_cluster_128 : decode b_Mod_cluster 128 = .ok (.iconst (-1), 1) := by decide +kernel
theorem d_Mod_cluster_129 : decode b_Mod_cluster 129 = .ok (.goto 31, 3) := by decide +kernel
theorem d_Mod_cluster_132 : decode b_Mod_cluster 132 = .ok (.iload_n 2, 1) := by decide +kernel
theorem d_Mod_cluster_133 : decode b_Mod_cluster 133 = .ok (.ifCond .ne 7, 3) := by decide +kernel
theorem d_Mod_cluster_136 : decode b_Mod_cluster 136 = .ok (.iload_n 3, 1) := by decide +kernel
theorem d_Mod_cluster_137 : decode b_Mod_cluster 137 = .ok (.goto 23, 3) := by decide +kernel
theorem d_Mod_cluster_140 : decode b_Mod_cluster 140 = .ok (.iload_n 2, 1) := by decide +kernel
theorem d_Mod_cluster_141 : decode b_Mod_cluster 141 = .ok (.iconst 1, 1) := by decide +kernel
theorem d_Mod_cluster_142 : decode b_Mod_cluster 142 = .ok (.if_icmp .ne 12, 3) := by decide +kernel
theorem d_Mod_cluster_145 : decode b_Mod_cluster 145 = .ok (.aload_n 0, 1) := by decide +kernel
theorem d_Mod_cluster_146 : decode b_Mod_cluster 146 = .ok (.getfield 60, 3) := by decide +kernel
theorem d_Mod_cluster_149 : decode b_Mod_cluster 149 = .ok (.iload_n 3, 1) := by decide +kernel
theorem d_Mod_cluster_150 : decode b_Mod_cluster 150 = .ok (.iaload, 1) := by decide +kernel
theorem d_Mod_cluster_151 : decode b_Mod_cluster 151 = .ok (.goto 9, 3) := by decide +kernel
theorem d_Mod_cluster_154 : decode b_Mod_cluster 154 = .ok (.aload_n 0, 1) := by decide +kernel
theorem d_Mod_cluster_155 : decode b_Mod_cluster 155 = .ok (.getfield 57, 3) := by decide +kernel
theorem d_Mod_cluster_158 : decode b_Mod_cluster 158 = .ok (.iload_n 3, 1) := by decide +kernel
theorem d_Mod_cluster_159 : decode b_Mod_cluster 159 = .ok (.iaload, 1) := by decide +kernel
theorem d_Mod_cluster_160 : decode b_Mod_cluster 160 = .ok (.ireturn, 1) := by decide +kernel
theorem d_Mod_isBefore_0 : decode b_Mod_isBefore 0 = .ok (.aload_n 0, 1) := by decide +kernel
theorem d_Mod_isBefore_1 : decode b_Mod_isBefore 1 = .ok (.getfield 60, 3) := by decide +kernel
theorem d_Mod_isBefore_4 : decode b_Mod_isBefore 4 = .ok (.iload_n 1, 1) := by decide +kernel
theorem d_Mod_isBefore_5 : decode b_Mod_isBefore 5 = .ok (.iaload, 1) := by decide +kernel
theorem d_Mod_isBefore_6 : decode b_Mod_isBefore 6 = .ok (.i2l, 1) := by decide +kernel
theorem d_Mod_isBefore_7 : decode b_Mod_isBefore 7 = .ok (.aload_n 0, 1) := by decide +kernel
theorem d_Mod_isBefore_8 : decode b_Mod_isBefore 8 = .ok (.getfield 57, 3) := by decide +kernel
theorem d_Mod_isBefore_11 : decode b_Mod_isBefore 11 = .ok (.iload_n 2, 1) := by decide +kernel
theorem d_Mod_isBefore_12 : decode b_Mod_isBefore 12 = .ok (.iaload, 1) := by decide +kernel
theorem d_Mod_isBefore_13 : decode b_Mod_isBefore 13 = .ok (.i2l, 1) := by decide +kernel
theorem d_Mod_isBefore_14 : decode b_Mod_isBefore 14 = .ok (.lmul, 1) := by decide +kernel
theorem d_Mod_isBefore_15 : decode b_Mod_isBefore 15 = .ok (.lstore_n 3, 1) := by decide +kernel
theorem d_Mod_isBefore_16 : decode b_Mod_isBefore 16 = .ok (.aload_n 0, 1) := by decide +kernel
theorem d_Mod_isBefore_17 : decode b_Mod_isBefore 17 = .ok (.getfield 60, 3) := by decide +kernel
theorem d_Mod_isBefore_20 : decode b_Mod_isBefore 20 = .ok (.iload_n 2, 1) := by decide +kernel
theorem d_Mod_isBefore_21 : decode b_Mod_isBefore 21 = .ok (.iaload, 1) := by decide +kernel
theorem d_Mod_isBefore_22 : decode b_Mod_isBefore 22 = .ok (.i2l, 1) := by decide +kernel
theorem d_Mod_isBefore_23 : decode b_Mod_isBefore 23 = .ok (.aload_n 0, 1) := by decide +kernel
theorem d_Mod_isBefore_24 : decode b_Mod_isBefore 24 = .ok (.getfield 57, 3) := by decide +kernel
theorem d_Mod_isBefore_27 : decode b_Mod_isBefore 27 = .ok (.iload_n 1, 1) := by decide +kernel
theorem d_Mod_isBefore_28 : decode b_Mod_isBefore 28 = .ok (.iaload, 1) := by decide +kernel
theorem d_Mod_isBefore_29 : decode b_Mod_isBefore 29 = .ok (.i2l, 1) := by decide +kernel
theorem d_Mod_isBefore_30 : decode b_Mod_isBefore 30 = .ok (.lmul, 1) := by decide +kernel
theorem d_Mod_isBefore_31 : decode b_Mod_isBefore 31 = .ok (.lstore 5, 2) := by decide +kernel
theorem d_Mod_isBefore_33 : decode b_Mod_isBefore 33 = .ok (.lload_n 3, 1) := by decide +kernel
theorem d_Mod_isBefore_34 : decode b_Mod_isBefore 34 = .ok (.lload 5, 2) := by decide +kernel
theorem d_Mod_isBefore_36 : decode b_Mod_isBefore 36 = .ok (.lcmp, 1) := by decide +kernel
theorem d_Mod_isBefore_37 : decode b_Mod_isBefore 37 = .ok (.ifCond .gt 15, 3) := by decide +kernel
theorem d_Mod_isBefore_40 : decode b_Mod_isBefore 40 = .ok (.lload_n 3, 1) := by decide +kernel
theorem d_Mod_isBefore_41 : decode b_Mod_isBefore 41 = .ok (.lload 5, 2) := by decide +kernel
theorem d_Mod_isBefore_43 : decode b_Mod_isBefore 43 = .ok (.lcmp, 1) := by decide +kernel
theorem d_Mod_isBefore_44 : decode b_Mod_isBefore 44 = .ok (.ifCond .ne 12, 3) := by decide +kernel
theorem d_Mod_isBefore_47 : decode b_Mod_isBefore 47 = .ok (.iload_n 1, 1) := by decide +kernel
theorem d_Mod_isBefore_48 : decode b_Mod_isBefore 48 = .ok (.iload_n 2, 1) := by decide +kernel
theorem d_Mod_isBefore_49 : decode b_Mod_isBefore 49 = .ok (.if_icmp .ge 7, 3) := by decide +kernel
theorem d_Mod_isBefore_52 : decode b_Mod_isBefore 52 = .ok (.iconst 1, 1) := by decide +kernel
theorem d_Mod_isBefore_53 : decode b_Mod_isBefore 53 = .ok (.goto 4, 3) := by decide +kernel
theorem d_Mod_isBefore_56 : decode b_Mod_isBefore 56 = .ok (.iconst 0, 1) := by decide +kernel
theorem d_Mod_isBefore_57 : decode b_Mod_isBefore 57 = .ok (.ireturn, 1) := by decide +kernel
theorem d_Mod_failing_0 : decode b_Mod_failing 0 = .ok (.aload_n 0, 1) := by decide +kernel
theorem d_Mod_failing_1 : decode b_Mod_failing 1 = .ok (.iconst 0, 1) := by decide +kernel
theorem d_Mod_failing_2 : decode b_Mod_failing 2 = .ok (.putfield 72, 3) := by decide +kernel
theorem d_Mod_failing_5 : decode b_Mod_failing 5 = .ok (.iload_n 1, 1) := by decide +kernel
theorem d_Mod_failing_6 : decode b_Mod_failing 6 = .ok (.ifCond .lt 20, 3) := by decide +kernel
theorem d_Mod_failing_9 : decode b_Mod_failing 9 = .ok (.iload_n 1, 1) := by decide +kernel
theorem d_Mod_failing_10 : decode b_Mod_failing 10 = .ok (.aload_n 0, 1) := by decide +kernel
theorem d_Mod_failing_11 : decode b_Mod_failing 11 = .ok (.getfield 99, 3) := by decide +kernel
theorem d_Mod_failing_14 : decode b_Mod_failing 14 = .ok (.if_icmp .ge 12, 3) := by decide +kernel
theorem d_Mod_failing_17 : decode b_Mod_failing 17 = .ok (.aload_n 0, 1) := by decide +kernel
theorem d_Mod_failing_18 : decode b_Mod_failing 18 = .ok (.getfield 69, 3) := by decide +kernel
theorem d_Mod_failing_21 : decode b_Mod_failing 21 = .ok (.iload_n 1, 1) := by decide +kernel
theorem d_Mod_failing_22 : decode b_Mod_failing 22 = .ok (.iaload, 1) := by decide +kernel
theorem d_Mod_failing_23 : decode b_Mod_failing 23 = .ok (.goto 4, 3) := by decide +kernel
theorem d_Mod_failing_26 : decode b_Mod_failing 26 = .ok (.iconst 0, 1) := by decide +kernel
theorem d_Mod_failing_27 : decode b_Mod_failing 27 = .ok (.ireturn, 1) := by decide +kernel
end
section
/-! DECODE ROWS, by program -/
theorem d_Obj_init_0 : decode b_Obj_init 0 = .ok (.return_, 1) := by decide +kernel
theorem d_AL_init_0 : decode b_AL_init 0 = .ok (.aload_n 0, 1) := by decide +kernel
theorem d_AL_init_1 : decode b_AL_init 1 = .ok (.invokespecial 1, 3) := by decide +kernel
theorem d_AL_init_4 : decode b_AL_init 4 = .ok (.aload_n 0, 1) := by decide +kernel
theorem d_AL_init_5 : decode b_AL_init 5 = .ok (.getstatic 39, 3) := by decide +kernel
theorem d_AL_init_8 : decode b_AL_init 8 = .ok (.putfield 9, 3) := by decide +kernel
theorem d_AL_init_11 : decode b_AL_init 11 = .ok (.return_, 1) := by decide +kernel
theorem d_AbL_init_0 : decode b_AbL_init 0 = .ok (.aload_n 0, 1) := by decide +kernel
theorem d_AbL_init_1 : decode b_AbL_init 1 = .ok (.invokespecial 1, 3) := by decide +kernel
theorem d_AbL_init_4 : decode b_AbL_init 4 = .ok (.aload_n 0, 1) := by decide +kernel
theorem d_AbL_init_5 : decode b_AbL_init 5 = .ok (.iconst 0, 1) := by decide +kernel
theorem d_AbL_init_6 : decode b_AbL_init 6 = .ok (.putfield 7, 3) := by decide +kernel
theorem d_AbL_init_9 : decode b_AbL_init 9 = .ok (.return_, 1) := by decide +kernel
theorem d_AbC_init_0 : decode b_AbC_init 0 = .ok (.aload_n 0, 1) := by decide +kernel
theorem d_AbC_init_1 : decode b_AbC_init 1 = .ok (.invokespecial 1, 3) := by decide +kernel
theorem d_AbC_init_4 : decode b_AbC_init 4 = .ok (.return_, 1) := by decide +kernel
theorem d_AL_size_0 : decode b_AL_size 0 = .ok (.aload_n 0, 1) := by decide +kernel
theorem d_AL_size_1 : decode b_AL_size 1 = .ok (.getfield 48, 3) := by decide +kernel
theorem d_AL_size_4 : decode b_AL_size 4 = .ok (.ireturn, 1) := by decide +kernel
theorem d_AL_add1_0 : decode b_AL_add1 0 = .ok (.aload_n 0, 1) := by decide +kernel
theorem d_AL_add1_1 : decode b_AL_add1 1 = .ok (.dup, 1) := by decide +kernel
theorem d_AL_add1_2 : decode b_AL_add1 2 = .ok (.getfield 63, 3) := by decide +kernel
theorem d_AL_add1_5 : decode b_AL_add1 5 = .ok (.iconst 1, 1) := by decide +kernel
theorem d_AL_add1_6 : decode b_AL_add1 6 = .ok (.iadd, 1) := by decide +kernel
theorem d_AL_add1_7 : decode b_AL_add1 7 = .ok (.putfield 63, 3) := by decide +kernel
theorem d_AL_add1_10 : decode b_AL_add1 10 = .ok (.aload_n 0, 1) := by decide +kernel
theorem d_AL_add1_11 : decode b_AL_add1 11 = .ok (.aload_n 1, 1) := by decide +kernel
theorem d_AL_add1_12 : decode b_AL_add1 12 = .ok (.aload_n 0, 1) := by decide +kernel
theorem d_AL_add1_13 : decode b_AL_add1 13 = .ok (.getfield 9, 3) := by decide +kernel
theorem d_AL_add1_16 : decode b_AL_add1 16 = .ok (.aload_n 0, 1) := by decide +kernel
theorem d_AL_add1_17 : decode b_AL_add1 17 = .ok (.getfield 48, 3) := by decide +kernel
theorem d_AL_add1_20 : decode b_AL_add1 20 = .ok (.invokevirtual 131, 3) := by decide +kernel
theorem d_AL_add1_23 : decode b_AL_add1 23 = .ok (.iconst 1, 1) := by decide +kernel
theorem d_AL_add1_24 : decode b_AL_add1 24 = .ok (.ireturn, 1) := by decide +kernel
theorem d_AL_add3_0 : decode b_AL_add3 0 = .ok (.iload_n 3, 1) := by decide +kernel
theorem d_AL_add3_1 : decode b_AL_add3 1 = .ok (.aload_n 2, 1) := by decide +kernel
theorem d_AL_add3_2 : decode b_AL_add3 2 = .ok (.arraylength, 1) := by decide +kernel
theorem d_AL_add3_3 : decode b_AL_add3 3 = .ok (.if_icmp .ne 8, 3) := by decide +kernel
theorem d_AL_add3_6 : decode b_AL_add3 6 = .ok (.aload_n 0, 1) := by decide +kernel
theorem d_AL_add3_7 : decode b_AL_add3 7 = .ok (.invokevirtual 129, 3) := by decide +kernel
theorem d_AL_add3_10 : decode b_AL_add3 10 = .ok (.astore_n 2, 1) := by decide +kernel
theorem d_AL_add3_11 : decode b_AL_add3 11 = .ok (.aload_n 2, 1) := by decide +kernel
theorem d_AL_add3_12 : decode b_AL_add3 12 = .ok (.iload_n 3, 1) := by decide +kernel
theorem d_AL_add3_13 : decode b_AL_add3 13 = .ok (.aload_n 1, 1) := by decide +kernel
theorem d_AL_add3_14 : decode b_AL_add3 14 = .ok (.aastore, 1) := by decide +kernel
theorem d_AL_add3_15 : decode b_AL_add3 15 = .ok (.aload_n 0, 1) := by decide +kernel
theorem d_AL_add3_16 : decode b_AL_add3 16 = .ok (.iload_n 3, 1) := by decide +kernel
theorem d_AL_add3_17 : decode b_AL_add3 17 = .ok (.iconst 1, 1) := by decide +kernel
theorem d_AL_add3_18 : decode b_AL_add3 18 = .ok (.iadd, 1) := by decide +kernel
theorem d_AL_add3_19 : decode b_AL_add3 19 = .ok (.putfield 48, 3) := by decide +kernel
theorem d_AL_add3_22 : decode b_AL_add3 22 = .ok (.return_, 1) := by decide +kernel
theorem d_AL_grow0_0 : decode b_AL_grow0 0 = .ok (.aload_n 0, 1) := by decide +kernel
theorem d_AL_grow0_1 : decode b_AL_grow0 1 = .ok (.aload_n 0, 1) := by decide +kernel
theorem d_AL_grow0_2 : decode b_AL_grow0 2 = .ok (.getfield 48, 3) := by decide +kernel
theorem d_AL_grow0_5 : decode b_AL_grow0 5 = .ok (.iconst 1, 1) := by decide +kernel
theorem d_AL_grow0_6 : decode b_AL_grow0 6 = .ok (.iadd, 1) := by decide +kernel
theorem d_AL_grow0_7 : decode b_AL_grow0 7 = .ok (.invokevirtual 69, 3) := by decide +kernel
theorem d_AL_grow0_10 : decode b_AL_grow0 10 = .ok (.areturn, 1) := by decide +kernel
theorem d_AL_grow1_0 : decode b_AL_grow1 0 = .ok (.aload_n 0, 1) := by decide +kernel
theorem d_AL_grow1_1 : decode b_AL_grow1 1 = .ok (.getfield 9, 3) := by decide +kernel
theorem d_AL_grow1_4 : decode b_AL_grow1 4 = .ok (.arraylength, 1) := by decide +kernel
theorem d_AL_grow1_5 : decode b_AL_grow1 5 = .ok (.istore_n 2, 1) := by decide +kernel
theorem d_AL_grow1_6 : decode b_AL_grow1 6 = .ok (.iload_n 2, 1) := by decide +kernel
theorem d_AL_grow1_7 : decode b_AL_grow1 7 = .ok (.ifCond .gt 13, 3) := by decide +kernel
theorem d_AL_grow1_10 : decode b_AL_grow1 10 = .ok (.aload_n 0, 1) := by decide +kernel
theorem d_AL_grow1_11 : decode b_AL_grow1 11 = .ok (.getfield 9, 3) := by decide +kernel
theorem d_AL_grow1_14 : decode b_AL_grow1 14 = .ok (.getstatic 39, 3) := by decide +kernel
theorem d_AL_grow1_17 : decode b_AL_grow1 17 = .ok (.if_acmp .eq 28, 3) := by decide +kernel
theorem d_AL_grow1_20 : decode b_AL_grow1 20 = .ok (.iload_n 2, 1) := by decide +kernel
theorem d_AL_grow1_21 : decode b_AL_grow1 21 = .ok (.iload_n 1, 1) := by decide +kernel
theorem d_AL_grow1_22 : decode b_AL_grow1 22 = .ok (.iload_n 2, 1) := by decide +kernel
theorem d_AL_grow1_23 : decode b_AL_grow1 23 = .ok (.isub, 1) := by decide +kernel
theorem d_AL_grow1_24 : decode b_AL_grow1 24 = .ok (.iload_n 2, 1) := by decide +kernel
theorem d_AL_grow1_25 : decode b_AL_grow1 25 = .ok (.iconst 1, 1) := by decide +kernel
theorem d_AL_grow1_26 : decode b_AL_grow1 26 = .ok (.ishr, 1) := by decide +kernel
theorem d_AL_grow1_27 : decode b_AL_grow1 27 = .ok (.invokestatic 73, 3) := by decide +kernel
theorem d_AL_grow1_30 : decode b_AL_grow1 30 = .ok (.istore_n 3, 1) := by decide +kernel
theorem d_AL_grow1_31 : decode b_AL_grow1 31 = .ok (.aload_n 0, 1) := by decide +kernel
theorem d_AL_grow1_32 : decode b_AL_grow1 32 = .ok (.aload_n 0, 1) := by decide +kernel
theorem d_AL_grow1_33 : decode b_AL_grow1 33 = .ok (.getfield 9, 3) := by decide +kernel
theorem d_AL_grow1_36 : decode b_AL_grow1 36 = .ok (.iload_n 3, 1) := by decide +kernel
theorem d_AL_grow1_37 : decode b_AL_grow1 37 = .ok (.invokestatic 66, 3) := by decide +kernel
theorem d_AL_grow1_40 : decode b_AL_grow1 40 = .ok (.dup_x1, 1) := by decide +kernel
theorem d_AL_grow1_41 : decode b_AL_grow1 41 = .ok (.putfield 9, 3) := by decide +kernel
theorem d_AL_grow1_44 : decode b_AL_grow1 44 = .ok (.areturn, 1) := by decide +kernel
theorem d_AL_grow1_45 : decode b_AL_grow1 45 = .ok (.aload_n 0, 1) := by decide +kernel
theorem d_AL_grow1_46 : decode b_AL_grow1 46 = .ok (.bipush 10, 2) := by decide +kernel
theorem d_AL_grow1_48 : decode b_AL_grow1 48 = .ok (.iload_n 1, 1) := by decide +kernel
theorem d_AL_grow1_49 : decode b_AL_grow1 49 = .ok (.invokestatic 79, 3) := by decide +kernel
theorem d_AL_grow1_52 : decode b_AL_grow1 52 = .ok (.anewarray 7, 3) := by decide +kernel
theorem d_AL_grow1_55 : decode b_AL_grow1 55 = .ok (.dup_x1, 1) := by decide +kernel
theorem d_AL_grow1_56 : decode b_AL_grow1 56 = .ok (.putfield 9, 3) := by decide +kernel
theorem d_AL_grow1_59 : decode b_AL_grow1 59 = .ok (.areturn, 1) := by decide +kernel
theorem d_ASup_newLength_0 : decode b_ASup_newLength 0 = .ok (.iload_n 0, 1) := by decide +kernel
theorem d_ASup_newLength_1 : decode b_ASup_newLength 1 = .ok (.iload_n 1, 1) := by decide +kernel
theorem d_ASup_newLength_2 : decode b_ASup_newLength 2 = .ok (.iload_n 2, 1) := by decide +kernel
theorem d_ASup_newLength_3 : decode b_ASup_newLength 3 = .ok (.invokestatic 194, 3) := by decide +kernel
theorem d_ASup_newLength_6 : decode b_ASup_newLength 6 = .ok (.iadd, 1) := by decide +kernel
theorem d_ASup_newLength_7 : decode b_ASup_newLength 7 = .ok (.istore_n 3, 1) := by decide +kernel
theorem d_ASup_newLength_8 : decode b_ASup_newLength 8 = .ok (.iconst 0, 1) := by decide +kernel
theorem d_ASup_newLength_9 : decode b_ASup_newLength 9 = .ok (.iload_n 3, 1) := by decide +kernel
theorem d_ASup_newLength_10 : decode b_ASup_newLength 10 = .ok (.if_icmp .ge 11, 3) := by decide +kernel
theorem d_ASup_newLength_13 : decode b_ASup_newLength 13 = .ok (.iload_n 3, 1) := by decide +kernel
theorem d_ASup_newLength_14 : decode b_ASup_newLength 14 = .ok (.ldc 200, 2) := by decide +kernel
theorem d_ASup_newLength_16 : decode b_ASup_newLength 16 = .ok (.if_icmp .gt 5, 3) := by decide +kernel
theorem d_ASup_newLength_19 : decode b_ASup_newLength 19 = .ok (.iload_n 3, 1) := by decide +kernel
theorem d_ASup_newLength_20 : decode b_ASup_newLength 20 = .ok (.ireturn, 1) := by decide +kernel
theorem d_ASup_newLength_21 : decode b_ASup_newLength 21 = .ok (.iload_n 0, 1) := by decide +kernel
theorem d_ASup_newLength_22 : decode b_ASup_newLength 22 = .ok (.iload_n 1, 1) := by decide +kernel
theorem d_ASup_newLength_23 : decode b_ASup_newLength 23 = .ok (.invokestatic 201, 3) := by decide +kernel
theorem d_ASup_newLength_26 : decode b_ASup_newLength 26 = .ok (.ireturn, 1) := by decide +kernel
theorem d_Math_max_0 : decode b_Math_max 0 = .ok (.iload_n 0, 1) := by decide +kernel
theorem d_Math_max_1 : decode b_Math_max 1 = .ok (.iload_n 1, 1) := by decide +kernel
theorem d_Math_max_2 : decode b_Math_max 2 = .ok (.if_icmp .lt 7, 3) := by decide +kernel
theorem d_Math_max_5 : decode b_Math_max 5 = .ok (.iload_n 0, 1) := by decide +kernel
theorem d_Math_max_6 : decode b_Math_max 6 = .ok (.goto 4, 3) := by decide +kernel
theorem d_Math_max_9 : decode b_Math_max 9 = .ok (.iload_n 1, 1) := by decide +kernel
theorem d_Math_max_10 : decode b_Math_max 10 = .ok (.ireturn, 1) := by decide +kernel
theorem d_ASup_hugeLength_0 : decode b_ASup_hugeLength 0 = .ok (.iload_n 0, 1) := by decide +kernel
theorem d_ASup_hugeLength_1 : decode b_ASup_hugeLength 1 = .ok (.iload_n 1, 1) := by decide +kernel
theorem d_ASup_hugeLength_2 : decode b_ASup_hugeLength 2 = .ok (.iadd, 1) := by decide +kernel
theorem d_ASup_hugeLength_3 : decode b_ASup_hugeLength 3 = .ok (.istore_n 2, 1) := by decide +kernel
theorem d_ASup_hugeLength_4 : decode b_ASup_hugeLength 4 = .ok (.iload_n 2, 1) := by decide +kernel
theorem d_ASup_hugeLength_5 : decode b_ASup_hugeLength 5 = .ok (.ifCond .ge 44, 3) := by decide +kernel
theorem d_ASup_hugeLength_8 : decode b_ASup_hugeLength 8 = .ok (.new 204, 3) := by decide +kernel
theorem d_ASup_hugeLength_11 : decode b_ASup_hugeLength 11 = .ok (.dup, 1) := by decide +kernel
theorem d_ASup_hugeLength_12 : decode b_ASup_hugeLength 12 = .ok (.new 89, 3) := by decide +kernel
theorem d_ASup_hugeLength_15 : decode b_ASup_hugeLength 15 = .ok (.dup, 1) := by decide +kernel
theorem d_ASup_hugeLength_16 : decode b_ASup_hugeLength 16 = .ok (.invokespecial 91, 3) := by decide +kernel
theorem d_ASup_hugeLength_19 : decode b_ASup_hugeLength 19 = .ok (.ldc 206, 2) := by decide +kernel
theorem d_ASup_hugeLength_21 : decode b_ASup_hugeLength 21 = .ok (.invokevirtual 94, 3) := by decide +kernel
theorem d_ASup_hugeLength_24 : decode b_ASup_hugeLength 24 = .ok (.iload_n 0, 1) := by decide +kernel
theorem d_ASup_hugeLength_25 : decode b_ASup_hugeLength 25 = .ok (.invokevirtual 98, 3) := by decide +kernel
theorem d_ASup_hugeLength_28 : decode b_ASup_hugeLength 28 = .ok (.ldc 208, 2) := by decide +kernel
theorem d_ASup_hugeLength_30 : decode b_ASup_hugeLength 30 = .ok (.invokevirtual 94, 3) := by decide +kernel
theorem d_ASup_hugeLength_33 : decode b_ASup_hugeLength 33 = .ok (.iload_n 1, 1) := by decide +kernel
theorem d_ASup_hugeLength_34 : decode b_ASup_hugeLength 34 = .ok (.invokevirtual 98, 3) := by decide +kernel
theorem d_ASup_hugeLength_37 : decode b_ASup_hugeLength 37 = .ok (.ldc 210, 2) := by decide +kernel
theorem d_ASup_hugeLength_39 : decode b_ASup_hugeLength 39 = .ok (.invokevirtual 94, 3) := by decide +kernel
theorem d_ASup_hugeLength_42 : decode b_ASup_hugeLength 42 = .ok (.invokevirtual 101, 3) := by decide +kernel
theorem d_ASup_hugeLength_45 : decode b_ASup_hugeLength 45 = .ok (.invokespecial 212, 3) := by decide +kernel
theorem d_ASup_hugeLength_48 : decode b_ASup_hugeLength 48 = .ok (.athrow, 1) := by decide +kernel
theorem d_ASup_hugeLength_49 : decode b_ASup_hugeLength 49 = .ok (.iload_n 2, 1) := by decide +kernel
theorem d_ASup_hugeLength_50 : decode b_ASup_hugeLength 50 = .ok (.ldc 200, 2) := by decide +kernel
theorem d_ASup_hugeLength_52 : decode b_ASup_hugeLength 52 = .ok (.if_icmp .gt 6, 3) := by decide +kernel
theorem d_ASup_hugeLength_55 : decode b_ASup_hugeLength 55 = .ok (.ldc 200, 2) := by decide +kernel
theorem d_ASup_hugeLength_57 : decode b_ASup_hugeLength 57 = .ok (.ireturn, 1) := by decide +kernel
theorem d_ASup_hugeLength_58 : decode b_ASup_hugeLength 58 = .ok (.iload_n 2, 1) := by decide +kernel
theorem d_ASup_hugeLength_59 : decode b_ASup_hugeLength 59 = .ok (.ireturn, 1) := by decide +kernel
theorem d_Arrs_copyOf2_0 : decode b_Arrs_copyOf2 0 = .ok (.aload_n 0, 1) := by decide +kernel
theorem d_Arrs_copyOf2_1 : decode b_Arrs_copyOf2 1 = .ok (.iload_n 1, 1) := by decide +kernel
theorem d_Arrs_copyOf2_2 : decode b_Arrs_copyOf2 2 = .ok (.aload_n 0, 1) := by decide +kernel
theorem d_Arrs_copyOf2_3 : decode b_Arrs_copyOf2 3 = .ok (.invokevirtual 86, 3) := by decide +kernel
theorem d_Arrs_copyOf2_6 : decode b_Arrs_copyOf2 6 = .ok (.invokestatic 300, 3) := by decide +kernel
theorem d_Arrs_copyOf2_9 : decode b_Arrs_copyOf2 9 = .ok (.areturn, 1) := by decide +kernel
theorem d_Arrs_copyOf3_0 : decode b_Arrs_copyOf3 0 = .ok (.aload_n 2, 1) := by decide +kernel
theorem d_Arrs_copyOf3_1 : decode b_Arrs_copyOf3 1 = .ok (.ldc 110, 2) := by decide +kernel
theorem d_Arrs_copyOf3_3 : decode b_Arrs_copyOf3 3 = .ok (.if_acmp .ne 10, 3) := by decide +kernel
theorem d_Arrs_copyOf3_6 : decode b_Arrs_copyOf3 6 = .ok (.iload_n 1, 1) := by decide +kernel
theorem d_Arrs_copyOf3_7 : decode b_Arrs_copyOf3 7 = .ok (.anewarray 2, 3) := by decide +kernel
theorem d_Arrs_copyOf3_10 : decode b_Arrs_copyOf3 10 = .ok (.goto 14, 3) := by decide +kernel
theorem d_Arrs_copyOf3_13 : decode b_Arrs_copyOf3 13 = .ok (.aload_n 2, 1) := by decide +kernel
theorem d_Arrs_copyOf3_14 : decode b_Arrs_copyOf3 14 = .ok (.invokevirtual 90, 3) := by decide +kernel
theorem d_Arrs_copyOf3_17 : decode b_Arrs_copyOf3 17 = .ok (.iload_n 1, 1) := by decide +kernel
theorem d_Arrs_copyOf3_18 : decode b_Arrs_copyOf3 18 = .ok (.invokestatic 95, 3) := by decide +kernel
theorem d_Arrs_copyOf3_21 : decode b_Arrs_copyOf3 21 = .ok (.checkcast 110, 3) := by decide +kernel
theorem d_Arrs_copyOf3_24 : decode b_Arrs_copyOf3 24 = .ok (.astore_n 3, 1) := by decide +kernel
theorem d_Arrs_copyOf3_25 : decode b_Arrs_copyOf3 25 = .ok (.aload_n 0, 1) := by decide +kernel
theorem d_Arrs_copyOf3_26 : decode b_Arrs_copyOf3 26 = .ok (.iconst 0, 1) := by decide +kernel
theorem d_Arrs_copyOf3_27 : decode b_Arrs_copyOf3 27 = .ok (.aload_n 3, 1) := by decide +kernel
theorem d_Arrs_copyOf3_28 : decode b_Arrs_copyOf3 28 = .ok (.iconst 0, 1) := by decide +kernel
theorem d_Arrs_copyOf3_29 : decode b_Arrs_copyOf3 29 = .ok (.aload_n 0, 1) := by decide +kernel
theorem d_Arrs_copyOf3_30 : decode b_Arrs_copyOf3 30 = .ok (.arraylength, 1) := by decide +kernel
theorem d_Arrs_copyOf3_31 : decode b_Arrs_copyOf3 31 = .ok (.iload_n 1, 1) := by decide +kernel
theorem d_Arrs_copyOf3_32 : decode b_Arrs_copyOf3 32 = .ok (.invokestatic 304, 3) := by decide +kernel
theorem d_Arrs_copyOf3_35 : decode b_Arrs_copyOf3 35 = .ok (.invokestatic 150, 3) := by decide +kernel
theorem d_Arrs_copyOf3_38 : decode b_Arrs_copyOf3 38 = .ok (.aload_n 3, 1) := by decide +kernel
theorem d_Arrs_copyOf3_39 : decode b_Arrs_copyOf3 39 = .ok (.areturn, 1) := by decide +kernel
theorem d_Math_min_0 : decode b_Math_min 0 = .ok (.iload_n 0, 1) := by decide +kernel
theorem d_Math_min_1 : decode b_Math_min 1 = .ok (.iload_n 1, 1) := by decide +kernel
theorem d_Math_min_2 : decode b_Math_min 2 = .ok (.if_icmp .gt 7, 3) := by decide +kernel
theorem d_Math_min_5 : decode b_Math_min 5 = .ok (.iload_n 0, 1) := by decide +kernel
theorem d_Math_min_6 : decode b_Math_min 6 = .ok (.goto 4, 3) := by decide +kernel
theorem d_Math_min_9 : decode b_Math_min 9 = .ok (.iload_n 1, 1) := by decide +kernel
theorem d_Math_min_10 : decode b_Math_min 10 = .ok (.ireturn, 1) := by decide +kernel
theorem d_AL_get_0 : decode b_AL_get 0 = .ok (.iload_n 1, 1) := by decide +kernel
theorem d_AL_get_1 : decode b_AL_get 1 = .ok (.aload_n 0, 1) := by decide +kernel
theorem d_AL_get_2 : decode b_AL_get 2 = .ok (.getfield 48, 3) := by decide +kernel
theorem d_AL_get_5 : decode b_AL_get 5 = .ok (.invokestatic 118, 3) := by decide +kernel
theorem d_AL_get_8 : decode b_AL_get 8 = .ok (.pop, 1) := by decide +kernel
theorem d_AL_get_9 : decode b_AL_get 9 = .ok (.aload_n 0, 1) := by decide +kernel
theorem d_AL_get_10 : decode b_AL_get 10 = .ok (.iload_n 1, 1) := by decide +kernel
theorem d_AL_get_11 : decode b_AL_get 11 = .ok (.invokevirtual 123, 3) := by decide +kernel
theorem d_AL_get_14 : decode b_AL_get 14 = .ok (.areturn, 1) := by decide +kernel
theorem d_Objs_checkIndex_0 : decode b_Objs_checkIndex 0 = .ok (.iload_n 0, 1) := by decide +kernel
theorem d_Objs_checkIndex_1 : decode b_Objs_checkIndex 1 = .ok (.iload_n 1, 1) := by decide +kernel
theorem d_Objs_checkIndex_2 : decode b_Objs_checkIndex 2 = .ok (.aconst_null, 1) := by decide +kernel
theorem d_Objs_checkIndex_3 : decode b_Objs_checkIndex 3 = .ok (.invokestatic 105, 3) := by decide +kernel
theorem d_Objs_checkIndex_6 : decode b_Objs_checkIndex 6 = .ok (.ireturn, 1) := by decide +kernel
theorem d_Prec_checkIndex_0 : decode b_Prec_checkIndex 0 = .ok (.iload_n 0, 1) := by decide +kernel
theorem d_Prec_checkIndex_1 : decode b_Prec_checkIndex 1 = .ok (.ifCond .lt 8, 3) := by decide +kernel
theorem d_Prec_checkIndex_4 : decode b_Prec_checkIndex 4 = .ok (.iload_n 0, 1) := by decide +kernel
theorem d_Prec_checkIndex_5 : decode b_Prec_checkIndex 5 = .ok (.iload_n 1, 1) := by decide +kernel
theorem d_Prec_checkIndex_6 : decode b_Prec_checkIndex 6 = .ok (.if_icmp .lt 10, 3) := by decide +kernel
theorem d_Prec_checkIndex_9 : decode b_Prec_checkIndex 9 = .ok (.aload_n 2, 1) := by decide +kernel
theorem d_Prec_checkIndex_10 : decode b_Prec_checkIndex 10 = .ok (.iload_n 0, 1) := by decide +kernel
theorem d_Prec_checkIndex_11 : decode b_Prec_checkIndex 11 = .ok (.iload_n 1, 1) := by decide +kernel
theorem d_Prec_checkIndex_12 : decode b_Prec_checkIndex 12 = .ok (.invokestatic 95, 3) := by decide +kernel
theorem d_Prec_checkIndex_15 : decode b_Prec_checkIndex 15 = .ok (.athrow, 1) := by decide +kernel
theorem d_Prec_checkIndex_16 : decode b_Prec_checkIndex 16 = .ok (.iload_n 0, 1) := by decide +kernel
theorem d_Prec_checkIndex_17 : decode b_Prec_checkIndex 17 = .ok (.ireturn, 1) := by decide +kernel
theorem d_AL_elementData_0 : decode b_AL_elementData 0 = .ok (.aload_n 0, 1) := by decide +kernel
theorem d_AL_elementData_1 : decode b_AL_elementData 1 = .ok (.getfield 9, 3) := by decide +kernel
theorem d_AL_elementData_4 : decode b_AL_elementData 4 = .ok (.iload_n 1, 1) := by decide +kernel
theorem d_AL_elementData_5 : decode b_AL_elementData 5 = .ok (.aaload, 1) := by decide +kernel
theorem d_AL_elementData_6 : decode b_AL_elementData 6 = .ok (.areturn, 1) := by decide +kernel
theorem d_Math_maxl_0 : decode b_Math_maxl 0 = .ok (.lload_n 0, 1) := by decide +kernel
theorem d_Math_maxl_1 : decode b_Math_maxl 1 = .ok (.lload_n 2, 1) := by decide +kernel
theorem d_Math_maxl_2 : decode b_Math_maxl 2 = .ok (.lcmp, 1) := by decide +kernel
theorem d_Math_maxl_3 : decode b_Math_maxl 3 = .ok (.ifCond .lt 7, 3) := by decide +kernel
theorem d_Math_maxl_6 : decode b_Math_maxl 6 = .ok (.lload_n 0, 1) := by decide +kernel
theorem d_Math_maxl_7 : decode b_Math_maxl 7 = .ok (.goto 4, 3) := by decide +kernel
theorem d_Math_maxl_10 : decode b_Math_maxl 10 = .ok (.lload_n 2, 1) := by decide +kernel
theorem d_Math_maxl_11 : decode b_Math_maxl 11 = .ok (.lreturn, 1) := by decide +kernel
theorem d_Law_share_0 : decode b_Law_share 0 = .ok (.aload_n 3, 1) := by decide +kernel
theorem d_Law_share_1 : decode b_Law_share 1 = .ok (.iconst 0, 1) := by decide +kernel
theorem d_Law_share_2 : decode b_Law_share 2 = .ok (.aload_n 0, 1) := by decide +kernel
theorem d_Law_share_3 : decode b_Law_share 3 = .ok (.iload_n 1, 1) := by decide +kernel
theorem d_Law_share_4 : decode b_Law_share 4 = .ok (.iload_n 2, 1) := by decide +kernel
theorem d_Law_share_5 : decode b_Law_share 5 = .ok (.invokevirtual 7, 3) := by decide +kernel
theorem d_Law_share_8 : decode b_Law_share 8 = .ok (.lastore, 1) := by decide +kernel
theorem d_Law_share_9 : decode b_Law_share 9 = .ok (.goto 7, 3) := by decide +kernel
theorem d_Law_share_12 : decode b_Law_share 12 = .ok (.astore 4, 2) := by decide +kernel
theorem d_Law_share_14 : decode b_Law_share 14 = .ok (.iconst 1, 1) := by decide +kernel
theorem d_Law_share_15 : decode b_Law_share 15 = .ok (.ireturn, 1) := by decide +kernel
theorem d_Law_share_16 : decode b_Law_share 16 = .ok (.iconst 0, 1) := by decide +kernel
theorem d_Law_share_17 : decode b_Law_share 17 = .ok (.ireturn, 1) := by decide +kernel
theorem d_Thr_init0_0 : decode b_Thr_init0 0 = .ok (.aload_n 0, 1) := by decide +kernel
theorem d_Thr_init0_1 : decode b_Thr_init0 1 = .ok (.invokespecial 1, 3) := by decide +kernel
theorem d_Thr_init0_4 : decode b_Thr_init0 4 = .ok (.aload_n 0, 1) := by decide +kernel
theorem d_Thr_init0_5 : decode b_Thr_init0 5 = .ok (.aload_n 0, 1) := by decide +kernel
theorem d_Thr_init0_6 : decode b_Thr_init0 6 = .ok (.putfield 7, 3) := by decide +kernel
theorem d_Thr_init0_9 : decode b_Thr_init0 9 = .ok (.aload_n 0, 1) := by decide +kernel
theorem d_Thr_init0_10 : decode b_Thr_init0 10 = .ok (.getstatic 13, 3) := by decide +kernel
theorem d_Thr_init0_13 : decode b_Thr_init0 13 = .ok (.putfield 17, 3) := by decide +kernel
theorem d_Thr_init0_16 : decode b_Thr_init0 16 = .ok (.aload_n 0, 1) := by decide +kernel
theorem d_Thr_init0_17 : decode b_Thr_init0 17 = .ok (.getstatic 20, 3) := by decide +kernel
theorem d_Thr_init0_20 : decode b_Thr_init0 20 = .ok (.putfield 24, 3) := by decide +kernel
theorem d_Thr_init0_23 : decode b_Thr_init0 23 = .ok (.aload_n 0, 1) := by decide +kernel
theorem d_Thr_init0_24 : decode b_Thr_init0 24 = .ok (.invokevirtual 27, 3) := by decide +kernel
theorem d_Thr_init0_27 : decode b_Thr_init0 27 = .ok (.pop, 1) := by decide +kernel
theorem d_Thr_init0_28 : decode b_Thr_init0 28 = .ok (.return_, 1) := by decide +kernel
theorem d_Thr_fillInStackTrace_0 : decode b_Thr_fillInStackTrace 0 = .ok (.aload_n 0, 1) := by decide +kernel
theorem d_Thr_fillInStackTrace_1 : decode b_Thr_fillInStackTrace 1 = .ok (.getfield 17, 3) := by decide +kernel
theorem d_Thr_fillInStackTrace_4 : decode b_Thr_fillInStackTrace 4 = .ok (.ifnonnull 10, 3) := by decide +kernel
theorem d_Thr_fillInStackTrace_7 : decode b_Thr_fillInStackTrace 7 = .ok (.aload_n 0, 1) := by decide +kernel
theorem d_Thr_fillInStackTrace_8 : decode b_Thr_fillInStackTrace 8 = .ok (.getfield 198, 3) := by decide +kernel
theorem d_Thr_fillInStackTrace_11 : decode b_Thr_fillInStackTrace 11 = .ok (.ifnull 16, 3) := by decide +kernel
theorem d_Thr_fillInStackTrace_14 : decode b_Thr_fillInStackTrace 14 = .ok (.aload_n 0, 1) := by decide +kernel
theorem d_Thr_fillInStackTrace_15 : decode b_Thr_fillInStackTrace 15 = .ok (.iconst 0, 1) := by decide +kernel
theorem d_Thr_fillInStackTrace_16 : decode b_Thr_fillInStackTrace 16 = .ok (.invokevirtual 202, 3) := by decide +kernel
theorem d_Thr_fillInStackTrace_19 : decode b_Thr_fillInStackTrace 19 = .ok (.pop, 1) := by decide +kernel
theorem d_Thr_fillInStackTrace_20 : decode b_Thr_fillInStackTrace 20 = .ok (.aload_n 0, 1) := by decide +kernel
theorem d_Thr_fillInStackTrace_21 : decode b_Thr_fillInStackTrace 21 = .ok (.getstatic 13, 3) := by decide +kernel
theorem d_Thr_fillInStackTrace_24 : decode b_Thr_fillInStackTrace 24 = .ok (.putfield 17, 3) := by decide +kernel
theorem d_Thr_fillInStackTrace_27 : decode b_Thr_fillInStackTrace 27 = .ok (.aload_n 0, 1) := by decide +kernel
theorem d_Thr_fillInStackTrace_28 : decode b_Thr_fillInStackTrace 28 = .ok (.areturn, 1) := by decide +kernel
theorem d_ArE_init_0 : decode b_ArE_init 0 = .ok (.aload_n 0, 1) := by decide +kernel
theorem d_ArE_init_1 : decode b_ArE_init 1 = .ok (.aload_n 1, 1) := by decide +kernel
theorem d_ArE_init_2 : decode b_ArE_init 2 = .ok (.invokespecial 7, 3) := by decide +kernel
theorem d_ArE_init_5 : decode b_ArE_init 5 = .ok (.return_, 1) := by decide +kernel
theorem d_RtE_init_0 : decode b_RtE_init 0 = .ok (.aload_n 0, 1) := by decide +kernel
theorem d_RtE_init_1 : decode b_RtE_init 1 = .ok (.aload_n 1, 1) := by decide +kernel
theorem d_RtE_init_2 : decode b_RtE_init 2 = .ok (.invokespecial 7, 3) := by decide +kernel
theorem d_RtE_init_5 : decode b_RtE_init 5 = .ok (.return_, 1) := by decide +kernel
theorem d_Exc_init_0 : decode b_Exc_init 0 = .ok (.aload_n 0, 1) := by decide +kernel
theorem d_Exc_init_1 : decode b_Exc_init 1 = .ok (.aload_n 1, 1) := by decide +kernel
theorem d_Exc_init_2 : decode b_Exc_init 2 = .ok (.invokespecial 7, 3) := by decide +kernel
theorem d_Exc_init_5 : decode b_Exc_init 5 = .ok (.return_, 1) := by decide +kernel
theorem d_Thr_initS_0 : decode b_Thr_initS 0 = .ok (.aload_n 0, 1) := by decide +kernel
theorem d_Thr_initS_1 : decode b_Thr_initS 1 = .ok (.invokespecial 1, 3) := by decide +kernel
theorem d_Thr_initS_4 : decode b_Thr_initS 4 = .ok (.aload_n 0, 1) := by decide +kernel
theorem d_Thr_initS_5 : decode b_Thr_initS 5 = .ok (.aload_n 0, 1) := by decide +kernel
theorem d_Thr_initS_6 : decode b_Thr_initS 6 = .ok (.putfield 7, 3) := by decide +kernel
theorem d_Thr_initS_9 : decode b_Thr_initS 9 = .ok (.aload_n 0, 1) := by decide +kernel
theorem d_Thr_initS_10 : decode b_Thr_initS 10 = .ok (.getstatic 13, 3) := by decide +kernel
theorem d_Thr_initS_13 : decode b_Thr_initS 13 = .ok (.putfield 17, 3) := by decide +kernel
theorem d_Thr_initS_16 : decode b_Thr_initS 16 = .ok (.aload_n 0, 1) := by decide +kernel
theorem d_Thr_initS_17 : decode b_Thr_initS 17 = .ok (.getstatic 20, 3) := by decide +kernel
theorem d_Thr_initS_20 : decode b_Thr_initS 20 = .ok (.putfield 24, 3) := by decide +kernel
theorem d_Thr_initS_23 : decode b_Thr_initS 23 = .ok (.aload_n 0, 1) := by decide +kernel
theorem d_Thr_initS_24 : decode b_Thr_initS 24 = .ok (.invokevirtual 27, 3) := by decide +kernel
theorem d_Thr_initS_27 : decode b_Thr_initS 27 = .ok (.pop, 1) := by decide +kernel
theorem d_Thr_initS_28 : decode b_Thr_initS 28 = .ok (.aload_n 0, 1) := by decide +kernel
theorem d_Thr_initS_29 : decode b_Thr_initS 29 = .ok (.aload_n 1, 1) := by decide +kernel
theorem d_Thr_initS_30 : decode b_Thr_initS 30 = .ok (.putfield 31, 3) := by decide +kernel
theorem d_Thr_initS_33 : decode b_Thr_initS 33 = .ok (.return_, 1) := by decide +kernel
end
section
/-! DECODE ROWS, by program -/
theorem d_Law_law_0 : decode code 0 = .ok (.new 8, 3) := by decide +kernel
theorem d_Law_law_3 : decode code 3 = .ok (.dup, 1) := by decide +kernel
theorem d_Law_law_4 : decode code 4 = .ok (.invokespecial 15, 3) := by decide +kernel
theorem d_Law_law_7 : decode code 7 = .ok (.astore_n 1, 1) := by decide +kernel
theorem d_Law_law_8 : decode code 8 = .ok (.new 16, 3) := by decide +kernel
theorem d_Law_law_11 : decode code 11 = .ok (.dup, 1) := by decide +kernel
theorem d_Law_law_12 : decode code 12 = .ok (.invokespecial 18, 3) := by decide +kernel
theorem d_Law_law_15 : decode code 15 = .ok (.astore_n 2, 1) := by decide +kernel
theorem d_Law_law_16 : decode code 16 = .ok (.iconst 1, 1) := by decide +kernel
theorem d_Law_law_17 : decode code 17 = .ok (.newarray .long, 2) := by decide +kernel
theorem d_Law_law_19 : decode code 19 = .ok (.astore_n 3, 1) := by decide +kernel
theorem d_Law_law_20 : decode code 20 = .ok (.iconst 0, 1) := by decide +kernel
theorem d_Law_law_21 : decode code 21 = .ok (.istore 4, 2) := by decide +kernel
theorem d_Law_law_23 : decode code 23 = .ok (.iload 4, 2) := by decide +kernel
theorem d_Law_law_25 : decode code 25 = .ok (.aload_n 0, 1) := by decide +kernel
theorem d_Law_law_26 : decode code 26 = .ok (.arraylength, 1) := by decide +kernel
theorem d_Law_law_27 : decode code 27 = .ok (.bipush 7, 2) := by decide +kernel
theorem d_Law_law_29 : decode code 29 = .ok (.isub, 1) := by decide +kernel
theorem d_Law_law_30 : decode code 30 = .ok (.if_icmp .gt 718, 3) := by decide +kernel
theorem d_Law_law_33 : decode code 33 = .ok (.aload_n 0, 1) := by decide +kernel
theorem d_Law_law_34 : decode code 34 = .ok (.iload 4, 2) := by decide +kernel
theorem d_Law_law_36 : decode code 36 = .ok (.iaload, 1) := by decide +kernel
theorem d_Law_law_37 : decode code 37 = .ok (.bipush 15, 2) := by decide +kernel
theorem d_Law_law_39 : decode code 39 = .ok (.iand, 1) := by decide +kernel
theorem d_Law_law_40 : decode code 40 = .ok (.tableswitch 702 0 10 #[60, 183, 290, 347, 384, 409, 466, 533, 571, 640, 677], 60) := by decide +kernel
theorem d_Law_law_100 : decode code 100 = .ok (.aload_n 1, 1) := by decide +kernel
theorem d_Law_law_101 : decode code 101 = .ok (.aload_n 0, 1) := by decide +kernel
theorem d_Law_law_102 : decode code 102 = .ok (.iload 4, 2) := by decide +kernel
theorem d_Law_law_104 : decode code 104 = .ok (.iconst 1, 1) := by decide +kernel
theorem d_Law_law_105 : decode code 105 = .ok (.iadd, 1) := by decide +kernel
theorem d_Law_law_106 : decode code 106 = .ok (.iaload, 1) := by decide +kernel
theorem d_Law_law_107 : decode code 107 = .ok (.aload_n 0, 1) := by decide +kernel
theorem d_Law_law_108 : decode code 108 = .ok (.iload 4, 2) := by decide +kernel
theorem d_Law_law_110 : decode code 110 = .ok (.iconst 2, 1) := by decide +kernel
theorem d_Law_law_111 : decode code 111 = .ok (.iadd, 1) := by decide +kernel
theorem d_Law_law_112 : decode code 112 = .ok (.iaload, 1) := by decide +kernel
theorem d_Law_law_113 : decode code 113 = .ok (.aload_n 0, 1) := by decide +kernel
theorem d_Law_law_114 : decode code 114 = .ok (.iload 4, 2) := by decide +kernel
theorem d_Law_law_116 : decode code 116 = .ok (.iconst 3, 1) := by decide +kernel
theorem d_Law_law_117 : decode code 117 = .ok (.iadd, 1) := by decide +kernel
theorem d_Law_law_118 : decode code 118 = .ok (.iaload, 1) := by decide +kernel
theorem d_Law_law_119 : decode code 119 = .ok (.aload_n 0, 1) := by decide +kernel
theorem d_Law_law_120 : decode code 120 = .ok (.iload 4, 2) := by decide +kernel
theorem d_Law_law_122 : decode code 122 = .ok (.iconst 4, 1) := by decide +kernel
theorem d_Law_law_123 : decode code 123 = .ok (.iadd, 1) := by decide +kernel
theorem d_Law_law_124 : decode code 124 = .ok (.iaload, 1) := by decide +kernel
theorem d_Law_law_125 : decode code 125 = .ok (.i2l, 1) := by decide +kernel
theorem d_Law_law_126 : decode code 126 = .ok (.bipush 32, 2) := by decide +kernel
theorem d_Law_law_128 : decode code 128 = .ok (.lshl, 1) := by decide +kernel
theorem d_Law_law_129 : decode code 129 = .ok (.aload_n 0, 1) := by decide +kernel
theorem d_Law_law_130 : decode code 130 = .ok (.iload 4, 2) := by decide +kernel
theorem d_Law_law_132 : decode code 132 = .ok (.iconst 5, 1) := by decide +kernel
theorem d_Law_law_133 : decode code 133 = .ok (.iadd, 1) := by decide +kernel
theorem d_Law_law_134 : decode code 134 = .ok (.iaload, 1) := by decide +kernel
theorem d_Law_law_135 : decode code 135 = .ok (.i2l, 1) := by decide +kernel
theorem d_Law_law_136 : decode code 136 = .ok (.ldc2_w 19, 3) := by decide +kernel
theorem d_Law_law_139 : decode code 139 = .ok (.land, 1) := by decide +kernel
theorem d_Law_law_140 : decode code 140 = .ok (.lor, 1) := by decide +kernel
theorem d_Law_law_141 : decode code 141 = .ok (.aload_n 0, 1) := by decide +kernel
theorem d_Law_law_142 : decode code 142 = .ok (.iload 4, 2) := by decide +kernel
theorem d_Law_law_144 : decode code 144 = .ok (.bipush 6, 2) := by decide +kernel
theorem d_Law_law_146 : decode code 146 = .ok (.iadd, 1) := by decide +kernel
theorem d_Law_law_147 : decode code 147 = .ok (.iaload, 1) := by decide +kernel
theorem d_Law_law_148 : decode code 148 = .ok (.ifCond .eq 7, 3) := by decide +kernel
theorem d_Law_law_151 : decode code 151 = .ok (.iconst 1, 1) := by decide +kernel
theorem d_Law_law_152 : decode code 152 = .ok (.goto 4, 3) := by decide +kernel
theorem d_Law_law_155 : decode code 155 = .ok (.iconst 0, 1) := by decide +kernel
theorem d_Law_law_156 : decode code 156 = .ok (.invokevirtual 21, 3) := by decide +kernel
theorem d_Law_law_159 : decode code 159 = .ok (.aload_n 2, 1) := by decide +kernel
theorem d_Law_law_160 : decode code 160 = .ok (.aload_n 0, 1) := by decide +kernel
theorem d_Law_law_161 : decode code 161 = .ok (.iload 4, 2) := by decide +kernel
theorem d_Law_law_163 : decode code 163 = .ok (.iconst 1, 1) := by decide +kernel
theorem d_Law_law_164 : decode code 164 = .ok (.iadd, 1) := by decide +kernel
theorem d_Law_law_165 : decode code 165 = .ok (.iaload, 1) := by decide +kernel
theorem d_Law_law_166 : decode code 166 = .ok (.aload_n 0, 1) := by decide +kernel
theorem d_Law_law_167 : decode code 167 = .ok (.iload 4, 2) := by decide +kernel
theorem d_Law_law_169 : decode code 169 = .ok (.iconst 2, 1) := by decide +kernel
theorem d_Law_law_170 : decode code 170 = .ok (.iadd, 1) := by decide +kernel
theorem d_Law_law_171 : decode code 171 = .ok (.iaload, 1) := by decide +kernel
theorem d_Law_law_172 : decode code 172 = .ok (.aload_n 0, 1) := by decide +kernel
theorem d_Law_law_173 : decode code 173 = .ok (.iload 4, 2) := by decide +kernel
theorem d_Law_law_175 : decode code 175 = .ok (.iconst 3, 1) := by decide +kernel
theorem d_Law_law_176 : decode code 176 = .ok (.iadd, 1) := by decide +kernel
theorem d_Law_law_177 : decode code 177 = .ok (.iaload, 1) := by decide +kernel
theorem d_Law_law_178 : decode code 178 = .ok (.aload_n 0, 1) := by decide +kernel
theorem d_Law_law_179 : decode code 179 = .ok (.iload 4, 2) := by decide +kernel
theorem d_Law_law_181 : decode code 181 = .ok (.iconst 4, 1) := by decide +kernel
theorem d_Law_law_182 : decode code 182 = .ok (.iadd, 1) := by decide +kernel
theorem d_Law_law_183 : decode code 183 = .ok (.iaload, 1) := by decide +kernel
theorem d_Law_law_184 : decode code 184 = .ok (.i2l, 1) := by decide +kernel
theorem d_Law_law_185 : decode code 185 = .ok (.bipush 32, 2) := by decide +kernel
theorem d_Law_law_187 : decode code 187 = .ok (.lshl, 1) := by decide +kernel
theorem d_Law_law_188 : decode code 188 = .ok (.aload_n 0, 1) := by decide +kernel
theorem d_Law_law_189 : decode code 189 = .ok (.iload 4, 2) := by decide +kernel
theorem d_Law_law_191 : decode code 191 = .ok (.iconst 5, 1) := by decide +kernel
theorem d_Law_law_192 : decode code 192 = .ok (.iadd, 1) := by decide +kernel
theorem d_Law_law_193 : decode code 193 = .ok (.iaload, 1) := by decide +kernel
theorem d_Law_law_194 : decode code 194 = .ok (.i2l, 1) := by decide +kernel
theorem d_Law_law_195 : decode code 195 = .ok (.ldc2_w 19, 3) := by decide +kernel
theorem d_Law_law_198 : decode code 198 = .ok (.land, 1) := by decide +kernel
theorem d_Law_law_199 : decode code 199 = .ok (.lor, 1) := by decide +kernel
theorem d_Law_law_200 : decode code 200 = .ok (.aload_n 0, 1) := by decide +kernel
theorem d_Law_law_201 : decode code 201 = .ok (.iload 4, 2) := by decide +kernel
theorem d_Law_law_203 : decode code 203 = .ok (.bipush 6, 2) := by decide +kernel
theorem d_Law_law_205 : decode code 205 = .ok (.iadd, 1) := by decide +kernel
theorem d_Law_law_206 : decode code 206 = .ok (.iaload, 1) := by decide +kernel
theorem d_Law_law_207 : decode code 207 = .ok (.ifCond .eq 7, 3) := by decide +kernel
theorem d_Law_law_210 : decode code 210 = .ok (.iconst 1, 1) := by decide +kernel
theorem d_Law_law_211 : decode code 211 = .ok (.goto 4, 3) := by decide +kernel
theorem d_Law_law_214 : decode code 214 = .ok (.iconst 0, 1) := by decide +kernel
theorem d_Law_law_215 : decode code 215 = .ok (.invokevirtual 25, 3) := by decide +kernel
theorem d_Law_law_218 : decode code 218 = .ok (.if_icmp .eq 524, 3) := by decide +kernel
theorem d_Law_law_221 : decode code 221 = .ok (.iconst 0, 1) := by decide +kernel
theorem d_Law_law_222 : decode code 222 = .ok (.ireturn, 1) := by decide +kernel
theorem d_Law_law_223 : decode code 223 = .ok (.aload_n 1, 1) := by decide +kernel
theorem d_Law_law_224 : decode code 224 = .ok (.aload_n 0, 1) := by decide +kernel
theorem d_Law_law_225 : decode code 225 = .ok (.iload 4, 2) := by decide +kernel
theorem d_Law_law_227 : decode code 227 = .ok (.iconst 1, 1) := by decide +kernel
theorem d_Law_law_228 : decode code 228 = .ok (.iadd, 1) := by decide +kernel
theorem d_Law_law_229 : decode code 229 = .ok (.iaload, 1) := by decide +kernel
theorem d_Law_law_230 : decode code 230 = .ok (.aload_n 0, 1) := by decide +kernel
theorem d_Law_law_231 : decode code 231 = .ok (.iload 4, 2) := by decide +kernel
theorem d_Law_law_233 : decode code 233 = .ok (.iconst 2, 1) := by decide +kernel
theorem d_Law_law_234 : decode code 234 = .ok (.iadd, 1) := by decide +kernel
theorem d_Law_law_235 : decode code 235 = .ok (.iaload, 1) := by decide +kernel
theorem d_Law_law_236 : decode code 236 = .ok (.aload_n 0, 1) := by decide +kernel
theorem d_Law_law_237 : decode code 237 = .ok (.iload 4, 2) := by decide +kernel
theorem d_Law_law_239 : decode code 239 = .ok (.iconst 3, 1) := by decide +kernel
theorem d_Law_law_240 : decode code 240 = .ok (.iadd, 1) := by decide +kernel
theorem d_Law_law_241 : decode code 241 = .ok (.iaload, 1) := by decide +kernel
theorem d_Law_law_242 : decode code 242 = .ok (.aload_n 0, 1) := by decide +kernel
theorem d_Law_law_243 : decode code 243 = .ok (.iload 4, 2) := by decide +kernel
theorem d_Law_law_245 : decode code 245 = .ok (.iconst 4, 1) := by decide +kernel
theorem d_Law_law_246 : decode code 246 = .ok (.iadd, 1) := by decide +kernel
theorem d_Law_law_247 : decode code 247 = .ok (.iaload, 1) := by decide +kernel
theorem d_Law_law_248 : decode code 248 = .ok (.aload_n 0, 1) := by decide +kernel
theorem d_Law_law_249 : decode code 249 = .ok (.iload 4, 2) := by decide +kernel
theorem d_Law_law_251 : decode code 251 = .ok (.iconst 5, 1) := by decide +kernel
theorem d_Law_law_252 : decode code 252 = .ok (.iadd, 1) := by decide +kernel
theorem d_Law_law_253 : decode code 253 = .ok (.iaload, 1) := by decide +kernel
theorem d_Law_law_254 : decode code 254 = .ok (.i2l, 1) := by decide +kernel
theorem d_Law_law_255 : decode code 255 = .ok (.bipush 32, 2) := by decide +kernel
theorem d_Law_law_257 : decode code 257 = .ok (.lshl, 1) := by decide +kernel
theorem d_Law_law_258 : decode code 258 = .ok (.aload_n 0, 1) := by decide +kernel
theorem d_Law_law_259 : decode code 259 = .ok (.iload 4, 2) := by decide +kernel
theorem d_Law_law_261 : decode code 261 = .ok (.bipush 6, 2) := by decide +kernel
theorem d_Law_law_263 : decode code 263 = .ok (.iadd, 1) := by decide +kernel
theorem d_Law_law_264 : decode code 264 = .ok (.iaload, 1) := by decide +kernel
theorem d_Law_law_265 : decode code 265 = .ok (.i2l, 1) := by decide +kernel
theorem d_Law_law_266 : decode code 266 = .ok (.ldc2_w 19, 3) := by decide +kernel
theorem d_Law_law_269 : decode code 269 = .ok (.land, 1) := by decide +kernel
theorem d_Law_law_270 : decode code 270 = .ok (.lor, 1) := by decide +kernel
theorem d_Law_law_271 : decode code 271 = .ok (.invokevirtual 26, 3) := by decide +kernel
theorem d_Law_law_274 : decode code 274 = .ok (.aload_n 2, 1) := by decide +kernel
theorem d_Law_law_275 : decode code 275 = .ok (.aload_n 0, 1) := by decide +kernel
theorem d_Law_law_276 : decode code 276 = .ok (.iload 4, 2) := by decide +kernel
theorem d_Law_law_278 : decode code 278 = .ok (.iconst 1, 1) := by decide +kernel
theorem d_Law_law_279 : decode code 279 = .ok (.iadd, 1) := by decide +kernel
theorem d_Law_law_280 : decode code 280 = .ok (.iaload, 1) := by decide +kernel
theorem d_Law_law_281 : decode code 281 = .ok (.aload_n 0, 1) := by decide +kernel
theorem d_Law_law_282 : decode code 282 = .ok (.iload 4, 2) := by decide +kernel
theorem d_Law_law_284 : decode code 284 = .ok (.iconst 2, 1) := by decide +kernel
theorem d_Law_law_285 : decode code 285 = .ok (.iadd, 1) := by decide +kernel
theorem d_Law_law_286 : decode code 286 = .ok (.iaload, 1) := by decide +kernel
theorem d_Law_law_287 : decode code 287 = .ok (.aload_n 0, 1) := by decide +kernel
theorem d_Law_law_288 : decode code 288 = .ok (.iload 4, 2) := by decide +kernel
theorem d_Law_law_290 : decode code 290 = .ok (.iconst 3, 1) := by decide +kernel
theorem d_Law_law_291 : decode code 291 = .ok (.iadd, 1) := by decide +kernel
theorem d_Law_law_292 : decode code 292 = .ok (.iaload, 1) := by decide +kernel
theorem d_Law_law_293 : decode code 293 = .ok (.aload_n 0, 1) := by decide +kernel
theorem d_Law_law_294 : decode code 294 = .ok (.iload 4, 2) := by decide +kernel
theorem d_Law_law_296 : decode code 296 = .ok (.iconst 4, 1) := by decide +kernel
theorem d_Law_law_297 : decode code 297 = .ok (.iadd, 1) := by decide +kernel
theorem d_Law_law_298 : decode code 298 = .ok (.iaload, 1) := by decide +kernel
theorem d_Law_law_299 : decode code 299 = .ok (.aload_n 0, 1) := by decide +kernel
theorem d_Law_law_300 : decode code 300 = .ok (.iload 4, 2) := by decide +kernel
theorem d_Law_law_302 : decode code 302 = .ok (.iconst 5, 1) := by decide +kernel
theorem d_Law_law_303 : decode code 303 = .ok (.iadd, 1) := by decide +kernel
theorem d_Law_law_304 : decode code 304 = .ok (.iaload, 1) := by decide +kernel
theorem d_Law_law_305 : decode code 305 = .ok (.i2l, 1) := by decide +kernel
theorem d_Law_law_306 : decode code 306 = .ok (.bipush 32, 2) := by decide +kernel
theorem d_Law_law_308 : decode code 308 = .ok (.lshl, 1) := by decide +kernel
theorem d_Law_law_309 : decode code 309 = .ok (.aload_n 0, 1) := by decide +kernel
theorem d_Law_law_310 : decode code 310 = .ok (.iload 4, 2) := by decide +kernel
theorem d_Law_law_312 : decode code 312 = .ok (.bipush 6, 2) := by decide +kernel
theorem d_Law_law_314 : decode code 314 = .ok (.iadd, 1) := by decide +kernel
theorem d_Law_law_315 : decode code 315 = .ok (.iaload, 1) := by decide +kernel
theorem d_Law_law_316 : decode code 316 = .ok (.i2l, 1) := by decide +kernel
theorem d_Law_law_317 : decode code 317 = .ok (.ldc2_w 19, 3) := by decide +kernel
theorem d_Law_law_320 : decode code 320 = .ok (.land, 1) := by decide +kernel
theorem d_Law_law_321 : decode code 321 = .ok (.lor, 1) := by decide +kernel
theorem d_Law_law_322 : decode code 322 = .ok (.invokevirtual 30, 3) := by decide +kernel
theorem d_Law_law_325 : decode code 325 = .ok (.if_icmp .eq 417, 3) := by decide +kernel
theorem d_Law_law_328 : decode code 328 = .ok (.iconst 0, 1) := by decide +kernel
theorem d_Law_law_329 : decode code 329 = .ok (.ireturn, 1) := by decide +kernel
theorem d_Law_law_330 : decode code 330 = .ok (.aload_n 1, 1) := by decide +kernel
theorem d_Law_law_331 : decode code 331 = .ok (.aload_n 0, 1) := by decide +kernel
theorem d_Law_law_332 : decode code 332 = .ok (.iload 4, 2) := by decide +kernel
theorem d_Law_law_334 : decode code 334 = .ok (.iconst 1, 1) := by decide +kernel
theorem d_Law_law_335 : decode code 335 = .ok (.iadd, 1) := by decide +kernel
theorem d_Law_law_336 : decode code 336 = .ok (.iaload, 1) := by decide +kernel
theorem d_Law_law_337 : decode code 337 = .ok (.i2l, 1) := by decide +kernel
theorem d_Law_law_338 : decode code 338 = .ok (.bipush 32, 2) := by decide +kernel
theorem d_Law_law_340 : decode code 340 = .ok (.lshl, 1) := by decide +kernel
theorem d_Law_law_341 : decode code 341 = .ok (.aload_n 0, 1) := by decide +kernel
theorem d_Law_law_342 : decode code 342 = .ok (.iload 4, 2) := by decide +kernel
theorem d_Law_law_344 : decode code 344 = .ok (.iconst 2, 1) := by decide +kernel
theorem d_Law_law_345 : decode code 345 = .ok (.iadd, 1) := by decide +kernel
theorem d_Law_law_346 : decode code 346 = .ok (.iaload, 1) := by decide +kernel
theorem d_Law_law_347 : decode code 347 = .ok (.i2l, 1) := by decide +kernel
theorem d_Law_law_348 : decode code 348 = .ok (.ldc2_w 19, 3) := by decide +kernel
theorem d_Law_law_351 : decode code 351 = .ok (.land, 1) := by decide +kernel
theorem d_Law_law_352 : decode code 352 = .ok (.lor, 1) := by decide +kernel
theorem d_Law_law_353 : decode code 353 = .ok (.invokevirtual 31, 3) := by decide +kernel
theorem d_Law_law_356 : decode code 356 = .ok (.aload_n 2, 1) := by decide +kernel
theorem d_Law_law_357 : decode code 357 = .ok (.aload_n 0, 1) := by decide +kernel
theorem d_Law_law_358 : decode code 358 = .ok (.iload 4, 2) := by decide +kernel
theorem d_Law_law_360 : decode code 360 = .ok (.iconst 1, 1) := by decide +kernel
theorem d_Law_law_361 : decode code 361 = .ok (.iadd, 1) := by decide +kernel
theorem d_Law_law_362 : decode code 362 = .ok (.iaload, 1) := by decide +kernel
theorem d_Law_law_363 : decode code 363 = .ok (.i2l, 1) := by decide +kernel
theorem d_Law_law_364 : decode code 364 = .ok (.bipush 32, 2) := by decide +kernel
theorem d_Law_law_366 : decode code 366 = .ok (.lshl, 1) := by decide +kernel
theorem d_Law_law_367 : decode code 367 = .ok (.aload_n 0, 1) := by decide +kernel
theorem d_Law_law_368 : decode code 368 = .ok (.iload 4, 2) := by decide +kernel
theorem d_Law_law_370 : decode code 370 = .ok (.iconst 2, 1) := by decide +kernel
theorem d_Law_law_371 : decode code 371 = .ok (.iadd, 1) := by decide +kernel
theorem d_Law_law_372 : decode code 372 = .ok (.iaload, 1) := by decide +kernel
theorem d_Law_law_373 : decode code 373 = .ok (.i2l, 1) := by decide +kernel
theorem d_Law_law_374 : decode code 374 = .ok (.ldc2_w 19, 3) := by decide +kernel
theorem d_Law_law_377 : decode code 377 = .ok (.land, 1) := by decide +kernel
theorem d_Law_law_378 : decode code 378 = .ok (.lor, 1) := by decide +kernel
theorem d_Law_law_379 : decode code 379 = .ok (.invokevirtual 35, 3) := by decide +kernel
theorem d_Law_law_382 : decode code 382 = .ok (.if_icmp .eq 360, 3) := by decide +kernel
theorem d_Law_law_385 : decode code 385 = .ok (.iconst 0, 1) := by decide +kernel
theorem d_Law_law_386 : decode code 386 = .ok (.ireturn, 1) := by decide +kernel
theorem d_Law_law_387 : decode code 387 = .ok (.aload_n 1, 1) := by decide +kernel
theorem d_Law_law_388 : decode code 388 = .ok (.aload_n 0, 1) := by decide +kernel
theorem d_Law_law_389 : decode code 389 = .ok (.iload 4, 2) := by decide +kernel
theorem d_Law_law_391 : decode code 391 = .ok (.iconst 1, 1) := by decide +kernel
theorem d_Law_law_392 : decode code 392 = .ok (.iadd, 1) := by decide +kernel
theorem d_Law_law_393 : decode code 393 = .ok (.iaload, 1) := by decide +kernel
theorem d_Law_law_394 : decode code 394 = .ok (.aload_n 0, 1) := by decide +kernel
theorem d_Law_law_395 : decode code 395 = .ok (.iload 4, 2) := by decide +kernel
theorem d_Law_law_397 : decode code 397 = .ok (.iconst 2, 1) := by decide +kernel
theorem d_Law_law_398 : decode code 398 = .ok (.iadd, 1) := by decide +kernel
theorem d_Law_law_399 : decode code 399 = .ok (.iaload, 1) := by decide +kernel
theorem d_Law_law_400 : decode code 400 = .ok (.invokevirtual 36, 3) := by decide +kernel
theorem d_Law_law_403 : decode code 403 = .ok (.aload_n 2, 1) := by decide +kernel
theorem d_Law_law_404 : decode code 404 = .ok (.aload_n 0, 1) := by decide +kernel
theorem d_Law_law_405 : decode code 405 = .ok (.iload 4, 2) := by decide +kernel
theorem d_Law_law_407 : decode code 407 = .ok (.iconst 1, 1) := by decide +kernel
theorem d_Law_law_408 : decode code 408 = .ok (.iadd, 1) := by decide +kernel
theorem d_Law_law_409 : decode code 409 = .ok (.iaload, 1) := by decide +kernel
theorem d_Law_law_410 : decode code 410 = .ok (.aload_n 0, 1) := by decide +kernel
theorem d_Law_law_411 : decode code 411 = .ok (.iload 4, 2) := by decide +kernel
theorem d_Law_law_413 : decode code 413 = .ok (.iconst 2, 1) := by decide +kernel
theorem d_Law_law_414 : decode code 414 = .ok (.iadd, 1) := by decide +kernel
theorem d_Law_law_415 : decode code 415 = .ok (.iaload, 1) := by decide +kernel
theorem d_Law_law_416 : decode code 416 = .ok (.invokevirtual 40, 3) := by decide +kernel
theorem d_Law_law_419 : decode code 419 = .ok (.if_icmp .eq 323, 3) := by decide +kernel
theorem d_Law_law_422 : decode code 422 = .ok (.iconst 0, 1) := by decide +kernel
theorem d_Law_law_423 : decode code 423 = .ok (.ireturn, 1) := by decide +kernel
theorem d_Law_law_424 : decode code 424 = .ok (.aload_n 1, 1) := by decide +kernel
theorem d_Law_law_425 : decode code 425 = .ok (.aload_n 0, 1) := by decide +kernel
theorem d_Law_law_426 : decode code 426 = .ok (.iload 4, 2) := by decide +kernel
theorem d_Law_law_428 : decode code 428 = .ok (.iconst 1, 1) := by decide +kernel
theorem d_Law_law_429 : decode code 429 = .ok (.iadd, 1) := by decide +kernel
theorem d_Law_law_430 : decode code 430 = .ok (.iaload, 1) := by decide +kernel
theorem d_Law_law_431 : decode code 431 = .ok (.invokevirtual 41, 3) := by decide +kernel
theorem d_Law_law_434 : decode code 434 = .ok (.aload_n 2, 1) := by decide +kernel
theorem d_Law_law_435 : decode code 435 = .ok (.aload_n 0, 1) := by decide +kernel
theorem d_Law_law_436 : decode code 436 = .ok (.iload 4, 2) := by decide +kernel
theorem d_Law_law_438 : decode code 438 = .ok (.iconst 1, 1) := by decide +kernel
theorem d_Law_law_439 : decode code 439 = .ok (.iadd, 1) := by decide +kernel
theorem d_Law_law_440 : decode code 440 = .ok (.iaload, 1) := by decide +kernel
theorem d_Law_law_441 : decode code 441 = .ok (.invokevirtual 45, 3) := by decide +kernel
theorem d_Law_law_444 : decode code 444 = .ok (.if_icmp .eq 298, 3) := by decide +kernel
theorem d_Law_law_447 : decode code 447 = .ok (.iconst 0, 1) := by decide +kernel
theorem d_Law_law_448 : decode code 448 = .ok (.ireturn, 1) := by decide +kernel
theorem d_Law_law_449 : decode code 449 = .ok (.aload_n 1, 1) := by decide +kernel
theorem d_Law_law_450 : decode code 450 = .ok (.aload_n 0, 1) := by decide +kernel
theorem d_Law_law_451 : decode code 451 = .ok (.iload 4, 2) := by decide +kernel
theorem d_Law_law_453 : decode code 453 = .ok (.iconst 1, 1) := by decide +kernel
theorem d_Law_law_454 : decode code 454 = .ok (.iadd, 1) := by decide +kernel
theorem d_Law_law_455 : decode code 455 = .ok (.iaload, 1) := by decide +kernel
theorem d_Law_law_456 : decode code 456 = .ok (.i2l, 1) := by decide +kernel
theorem d_Law_law_457 : decode code 457 = .ok (.bipush 32, 2) := by decide +kernel
theorem d_Law_law_459 : decode code 459 = .ok (.lshl, 1) := by decide +kernel
theorem d_Law_law_460 : decode code 460 = .ok (.aload_n 0, 1) := by decide +kernel
theorem d_Law_law_461 : decode code 461 = .ok (.iload 4, 2) := by decide +kernel
theorem d_Law_law_463 : decode code 463 = .ok (.iconst 2, 1) := by decide +kernel
theorem d_Law_law_464 : decode code 464 = .ok (.iadd, 1) := by decide +kernel
theorem d_Law_law_465 : decode code 465 = .ok (.iaload, 1) := by decide +kernel
theorem d_Law_law_466 : decode code 466 = .ok (.i2l, 1) := by decide +kernel
theorem d_Law_law_467 : decode code 467 = .ok (.ldc2_w 19, 3) := by decide +kernel
theorem d_Law_law_470 : decode code 470 = .ok (.land, 1) := by decide +kernel
theorem d_Law_law_471 : decode code 471 = .ok (.lor, 1) := by decide +kernel
theorem d_Law_law_472 : decode code 472 = .ok (.invokevirtual 46, 3) := by decide +kernel
theorem d_Law_law_475 : decode code 475 = .ok (.aload_n 2, 1) := by decide +kernel
theorem d_Law_law_476 : decode code 476 = .ok (.aload_n 0, 1) := by decide +kernel
theorem d_Law_law_477 : decode code 477 = .ok (.iload 4, 2) := by decide +kernel
theorem d_Law_law_479 : decode code 479 = .ok (.iconst 1, 1) := by decide +kernel
theorem d_Law_law_480 : decode code 480 = .ok (.iadd, 1) := by decide +kernel
theorem d_Law_law_481 : decode code 481 = .ok (.iaload, 1) := by decide +kernel
theorem d_Law_law_482 : decode code 482 = .ok (.i2l, 1) := by decide +kernel
theorem d_Law_law_483 : decode code 483 = .ok (.bipush 32, 2) := by decide +kernel
theorem d_Law_law_485 : decode code 485 = .ok (.lshl, 1) := by decide +kernel
theorem d_Law_law_486 : decode code 486 = .ok (.aload_n 0, 1) := by decide +kernel
theorem d_Law_law_487 : decode code 487 = .ok (.iload 4, 2) := by decide +kernel
theorem d_Law_law_489 : decode code 489 = .ok (.iconst 2, 1) := by decide +kernel
theorem d_Law_law_490 : decode code 490 = .ok (.iadd, 1) := by decide +kernel
theorem d_Law_law_491 : decode code 491 = .ok (.iaload, 1) := by decide +kernel
theorem d_Law_law_492 : decode code 492 = .ok (.i2l, 1) := by decide +kernel
theorem d_Law_law_493 : decode code 493 = .ok (.ldc2_w 19, 3) := by decide +kernel
theorem d_Law_law_496 : decode code 496 = .ok (.land, 1) := by decide +kernel
theorem d_Law_law_497 : decode code 497 = .ok (.lor, 1) := by decide +kernel
theorem d_Law_law_498 : decode code 498 = .ok (.invokevirtual 49, 3) := by decide +kernel
theorem d_Law_law_501 : decode code 501 = .ok (.if_icmp .eq 241, 3) := by decide +kernel
theorem d_Law_law_504 : decode code 504 = .ok (.iconst 0, 1) := by decide +kernel
theorem d_Law_law_505 : decode code 505 = .ok (.ireturn, 1) := by decide +kernel
theorem d_Law_law_506 : decode code 506 = .ok (.aload_n 1, 1) := by decide +kernel
theorem d_Law_law_507 : decode code 507 = .ok (.aload_n 0, 1) := by decide +kernel
theorem d_Law_law_508 : decode code 508 = .ok (.iload 4, 2) := by decide +kernel
theorem d_Law_law_510 : decode code 510 = .ok (.iconst 1, 1) := by decide +kernel
theorem d_Law_law_511 : decode code 511 = .ok (.iadd, 1) := by decide +kernel
theorem d_Law_law_512 : decode code 512 = .ok (.iaload, 1) := by decide +kernel
theorem d_Law_law_513 : decode code 513 = .ok (.aload_n 0, 1) := by decide +kernel
theorem d_Law_law_514 : decode code 514 = .ok (.iload 4, 2) := by decide +kernel
theorem d_Law_law_516 : decode code 516 = .ok (.iconst 2, 1) := by decide +kernel
theorem d_Law_law_517 : decode code 517 = .ok (.iadd, 1) := by decide +kernel
theorem d_Law_law_518 : decode code 518 = .ok (.iaload, 1) := by decide +kernel
theorem d_Law_law_519 : decode code 519 = .ok (.aload_n 3, 1) := by decide +kernel
theorem d_Law_law_520 : decode code 520 = .ok (.invokestatic 50, 3) := by decide +kernel
theorem d_Law_law_523 : decode code 523 = .ok (.istore 5, 2) := by decide +kernel
theorem d_Law_law_525 : decode code 525 = .ok (.aload_n 2, 1) := by decide +kernel
theorem d_Law_law_526 : decode code 526 = .ok (.aload_n 0, 1) := by decide +kernel
theorem d_Law_law_527 : decode code 527 = .ok (.iload 4, 2) := by decide +kernel
theorem d_Law_law_529 : decode code 529 = .ok (.iconst 1, 1) := by decide +kernel
theorem d_Law_law_530 : decode code 530 = .ok (.iadd, 1) := by decide +kernel
theorem d_Law_law_531 : decode code 531 = .ok (.iaload, 1) := by decide +kernel
theorem d_Law_law_532 : decode code 532 = .ok (.aload_n 0, 1) := by decide +kernel
theorem d_Law_law_533 : decode code 533 = .ok (.iload 4, 2) := by decide +kernel
theorem d_Law_law_535 : decode code 535 = .ok (.iconst 2, 1) := by decide +kernel
theorem d_Law_law_536 : decode code 536 = .ok (.iadd, 1) := by decide +kernel
theorem d_Law_law_537 : decode code 537 = .ok (.iaload, 1) := by decide +kernel
theorem d_Law_law_538 : decode code 538 = .ok (.invokevirtual 55, 3) := by decide +kernel
theorem d_Law_law_541 : decode code 541 = .ok (.lstore 6, 2) := by decide +kernel
theorem d_Law_law_543 : decode code 543 = .ok (.aload_n 2, 1) := by decide +kernel
theorem d_Law_law_544 : decode code 544 = .ok (.invokevirtual 56, 3) := by decide +kernel
theorem d_Law_law_547 : decode code 547 = .ok (.iload 5, 2) := by decide +kernel
theorem d_Law_law_549 : decode code 549 = .ok (.if_icmp .eq 5, 3) := by decide +kernel
theorem d_Law_law_552 : decode code 552 = .ok (.iconst 0, 1) := by decide +kernel
theorem d_Law_law_553 : decode code 553 = .ok (.ireturn, 1) := by decide +kernel
theorem d_Law_law_554 : decode code 554 = .ok (.iload 5, 2) := by decide +kernel
theorem d_Law_law_556 : decode code 556 = .ok (.ifCond .ne 14, 3) := by decide +kernel
theorem d_Law_law_559 : decode code 559 = .ok (.aload_n 3, 1) := by decide +kernel
theorem d_Law_law_560 : decode code 560 = .ok (.iconst 0, 1) := by decide +kernel
theorem d_Law_law_561 : decode code 561 = .ok (.laload, 1) := by decide +kernel
theorem d_Law_law_562 : decode code 562 = .ok (.lload 6, 2) := by decide +kernel
theorem d_Law_law_564 : decode code 564 = .ok (.lcmp, 1) := by decide +kernel
theorem d_Law_law_565 : decode code 565 = .ok (.ifCond .eq 5, 3) := by decide +kernel
theorem d_Law_law_568 : decode code 568 = .ok (.iconst 0, 1) := by decide +kernel
theorem d_Law_law_569 : decode code 569 = .ok (.ireturn, 1) := by decide +kernel
theorem d_Law_law_570 : decode code 570 = .ok (.goto 172, 3) := by decide +kernel
theorem d_Law_law_573 : decode code 573 = .ok (.aload_n 1, 1) := by decide +kernel
theorem d_Law_law_574 : decode code 574 = .ok (.aload_n 0, 1) := by decide +kernel
theorem d_Law_law_575 : decode code 575 = .ok (.iload 4, 2) := by decide +kernel
theorem d_Law_law_577 : decode code 577 = .ok (.iconst 1, 1) := by decide +kernel
theorem d_Law_law_578 : decode code 578 = .ok (.iadd, 1) := by decide +kernel
theorem d_Law_law_579 : decode code 579 = .ok (.iaload, 1) := by decide +kernel
theorem d_Law_law_580 : decode code 580 = .ok (.aload_n 0, 1) := by decide +kernel
theorem d_Law_law_581 : decode code 581 = .ok (.iload 4, 2) := by decide +kernel
theorem d_Law_law_583 : decode code 583 = .ok (.iconst 2, 1) := by decide +kernel
theorem d_Law_law_584 : decode code 584 = .ok (.iadd, 1) := by decide +kernel
theorem d_Law_law_585 : decode code 585 = .ok (.iaload, 1) := by decide +kernel
theorem d_Law_law_586 : decode code 586 = .ok (.invokevirtual 60, 3) := by decide +kernel
theorem d_Law_law_589 : decode code 589 = .ok (.aload_n 2, 1) := by decide +kernel
theorem d_Law_law_590 : decode code 590 = .ok (.aload_n 0, 1) := by decide +kernel
theorem d_Law_law_591 : decode code 591 = .ok (.iload 4, 2) := by decide +kernel
theorem d_Law_law_593 : decode code 593 = .ok (.iconst 1, 1) := by decide +kernel
theorem d_Law_law_594 : decode code 594 = .ok (.iadd, 1) := by decide +kernel
theorem d_Law_law_595 : decode code 595 = .ok (.iaload, 1) := by decide +kernel
theorem d_Law_law_596 : decode code 596 = .ok (.aload_n 0, 1) := by decide +kernel
theorem d_Law_law_597 : decode code 597 = .ok (.iload 4, 2) := by decide +kernel
theorem d_Law_law_599 : decode code 599 = .ok (.iconst 2, 1) := by decide +kernel
theorem d_Law_law_600 : decode code 600 = .ok (.iadd, 1) := by decide +kernel
theorem d_Law_law_601 : decode code 601 = .ok (.iaload, 1) := by decide +kernel
theorem d_Law_law_602 : decode code 602 = .ok (.invokevirtual 63, 3) := by decide +kernel
theorem d_Law_law_605 : decode code 605 = .ok (.lcmp, 1) := by decide +kernel
theorem d_Law_law_606 : decode code 606 = .ok (.ifCond .eq 136, 3) := by decide +kernel
theorem d_Law_law_609 : decode code 609 = .ok (.iconst 0, 1) := by decide +kernel
theorem d_Law_law_610 : decode code 610 = .ok (.ireturn, 1) := by decide +kernel
theorem d_Law_law_611 : decode code 611 = .ok (.aload_n 1, 1) := by decide +kernel
theorem d_Law_law_612 : decode code 612 = .ok (.aload_n 0, 1) := by decide +kernel
theorem d_Law_law_613 : decode code 613 = .ok (.iload 4, 2) := by decide +kernel
theorem d_Law_law_615 : decode code 615 = .ok (.iconst 1, 1) := by decide +kernel
theorem d_Law_law_616 : decode code 616 = .ok (.iadd, 1) := by decide +kernel
theorem d_Law_law_617 : decode code 617 = .ok (.iaload, 1) := by decide +kernel
theorem d_Law_law_618 : decode code 618 = .ok (.aload_n 0, 1) := by decide +kernel
theorem d_Law_law_619 : decode code 619 = .ok (.iload 4, 2) := by decide +kernel
theorem d_Law_law_621 : decode code 621 = .ok (.iconst 2, 1) := by decide +kernel
theorem d_Law_law_622 : decode code 622 = .ok (.iadd, 1) := by decide +kernel
theorem d_Law_law_623 : decode code 623 = .ok (.iaload, 1) := by decide +kernel
theorem d_Law_law_624 : decode code 624 = .ok (.i2l, 1) := by decide +kernel
theorem d_Law_law_625 : decode code 625 = .ok (.bipush 32, 2) := by decide +kernel
theorem d_Law_law_627 : decode code 627 = .ok (.lshl, 1) := by decide +kernel
theorem d_Law_law_628 : decode code 628 = .ok (.aload_n 0, 1) := by decide +kernel
theorem d_Law_law_629 : decode code 629 = .ok (.iload 4, 2) := by decide +kernel
theorem d_Law_law_631 : decode code 631 = .ok (.iconst 3, 1) := by decide +kernel
theorem d_Law_law_632 : decode code 632 = .ok (.iadd, 1) := by decide +kernel
theorem d_Law_law_633 : decode code 633 = .ok (.iaload, 1) := by decide +kernel
theorem d_Law_law_634 : decode code 634 = .ok (.i2l, 1) := by decide +kernel
theorem d_Law_law_635 : decode code 635 = .ok (.ldc2_w 19, 3) := by decide +kernel
theorem d_Law_law_638 : decode code 638 = .ok (.land, 1) := by decide +kernel
theorem d_Law_law_639 : decode code 639 = .ok (.lor, 1) := by decide +kernel
theorem d_Law_law_640 : decode code 640 = .ok (.invokevirtual 64, 3) := by decide +kernel
theorem d_Law_law_643 : decode code 643 = .ok (.aload_n 2, 1) := by decide +kernel
theorem d_Law_law_644 : decode code 644 = .ok (.aload_n 0, 1) := by decide +kernel
theorem d_Law_law_645 : decode code 645 = .ok (.iload 4, 2) := by decide +kernel
theorem d_Law_law_647 : decode code 647 = .ok (.iconst 1, 1) := by decide +kernel
theorem d_Law_law_648 : decode code 648 = .ok (.iadd, 1) := by decide +kernel
theorem d_Law_law_649 : decode code 649 = .ok (.iaload, 1) := by decide +kernel
theorem d_Law_law_650 : decode code 650 = .ok (.aload_n 0, 1) := by decide +kernel
theorem d_Law_law_651 : decode code 651 = .ok (.iload 4, 2) := by decide +kernel
theorem d_Law_law_653 : decode code 653 = .ok (.iconst 2, 1) := by decide +kernel
theorem d_Law_law_654 : decode code 654 = .ok (.iadd, 1) := by decide +kernel
theorem d_Law_law_655 : decode code 655 = .ok (.iaload, 1) := by decide +kernel
theorem d_Law_law_656 : decode code 656 = .ok (.i2l, 1) := by decide +kernel
theorem d_Law_law_657 : decode code 657 = .ok (.bipush 32, 2) := by decide +kernel
theorem d_Law_law_659 : decode code 659 = .ok (.lshl, 1) := by decide +kernel
theorem d_Law_law_660 : decode code 660 = .ok (.aload_n 0, 1) := by decide +kernel
theorem d_Law_law_661 : decode code 661 = .ok (.iload 4, 2) := by decide +kernel
theorem d_Law_law_663 : decode code 663 = .ok (.iconst 3, 1) := by decide +kernel
theorem d_Law_law_664 : decode code 664 = .ok (.iadd, 1) := by decide +kernel
theorem d_Law_law_665 : decode code 665 = .ok (.iaload, 1) := by decide +kernel
theorem d_Law_law_666 : decode code 666 = .ok (.i2l, 1) := by decide +kernel
theorem d_Law_law_667 : decode code 667 = .ok (.ldc2_w 19, 3) := by decide +kernel
theorem d_Law_law_670 : decode code 670 = .ok (.land, 1) := by decide +kernel
theorem d_Law_law_671 : decode code 671 = .ok (.lor, 1) := by decide +kernel
theorem d_Law_law_672 : decode code 672 = .ok (.invokevirtual 68, 3) := by decide +kernel
theorem d_Law_law_675 : decode code 675 = .ok (.if_icmp .eq 67, 3) := by decide +kernel
theorem d_Law_law_678 : decode code 678 = .ok (.iconst 0, 1) := by decide +kernel
theorem d_Law_law_679 : decode code 679 = .ok (.ireturn, 1) := by decide +kernel
theorem d_Law_law_680 : decode code 680 = .ok (.aload_n 1, 1) := by decide +kernel
theorem d_Law_law_681 : decode code 681 = .ok (.aload_n 0, 1) := by decide +kernel
theorem d_Law_law_682 : decode code 682 = .ok (.iload 4, 2) := by decide +kernel
theorem d_Law_law_684 : decode code 684 = .ok (.iconst 1, 1) := by decide +kernel
theorem d_Law_law_685 : decode code 685 = .ok (.iadd, 1) := by decide +kernel
theorem d_Law_law_686 : decode code 686 = .ok (.iaload, 1) := by decide +kernel
theorem d_Law_law_687 : decode code 687 = .ok (.aload_n 0, 1) := by decide +kernel
theorem d_Law_law_688 : decode code 688 = .ok (.iload 4, 2) := by decide +kernel
theorem d_Law_law_690 : decode code 690 = .ok (.iconst 2, 1) := by decide +kernel
theorem d_Law_law_691 : decode code 691 = .ok (.iadd, 1) := by decide +kernel
theorem d_Law_law_692 : decode code 692 = .ok (.iaload, 1) := by decide +kernel
theorem d_Law_law_693 : decode code 693 = .ok (.invokevirtual 69, 3) := by decide +kernel
theorem d_Law_law_696 : decode code 696 = .ok (.aload_n 2, 1) := by decide +kernel
theorem d_Law_law_697 : decode code 697 = .ok (.aload_n 0, 1) := by decide +kernel
theorem d_Law_law_698 : decode code 698 = .ok (.iload 4, 2) := by decide +kernel
theorem d_Law_law_700 : decode code 700 = .ok (.iconst 1, 1) := by decide +kernel
theorem d_Law_law_701 : decode code 701 = .ok (.iadd, 1) := by decide +kernel
theorem d_Law_law_702 : decode code 702 = .ok (.iaload, 1) := by decide +kernel
theorem d_Law_law_703 : decode code 703 = .ok (.aload_n 0, 1) := by decide +kernel
theorem d_Law_law_704 : decode code 704 = .ok (.iload 4, 2) := by decide +kernel
theorem d_Law_law_706 : decode code 706 = .ok (.iconst 2, 1) := by decide +kernel
theorem d_Law_law_707 : decode code 707 = .ok (.iadd, 1) := by decide +kernel
theorem d_Law_law_708 : decode code 708 = .ok (.iaload, 1) := by decide +kernel
theorem d_Law_law_709 : decode code 709 = .ok (.invokevirtual 72, 3) := by decide +kernel
theorem d_Law_law_712 : decode code 712 = .ok (.if_icmp .eq 30, 3) := by decide +kernel
theorem d_Law_law_715 : decode code 715 = .ok (.iconst 0, 1) := by decide +kernel
theorem d_Law_law_716 : decode code 716 = .ok (.ireturn, 1) := by decide +kernel
theorem d_Law_law_717 : decode code 717 = .ok (.aload_n 1, 1) := by decide +kernel
theorem d_Law_law_718 : decode code 718 = .ok (.aload_n 0, 1) := by decide +kernel
theorem d_Law_law_719 : decode code 719 = .ok (.iload 4, 2) := by decide +kernel
theorem d_Law_law_721 : decode code 721 = .ok (.iconst 1, 1) := by decide +kernel
theorem d_Law_law_722 : decode code 722 = .ok (.iadd, 1) := by decide +kernel
theorem d_Law_law_723 : decode code 723 = .ok (.iaload, 1) := by decide +kernel
theorem d_Law_law_724 : decode code 724 = .ok (.invokevirtual 73, 3) := by decide +kernel
theorem d_Law_law_727 : decode code 727 = .ok (.aload_n 2, 1) := by decide +kernel
theorem d_Law_law_728 : decode code 728 = .ok (.aload_n 0, 1) := by decide +kernel
theorem d_Law_law_729 : decode code 729 = .ok (.iload 4, 2) := by decide +kernel
theorem d_Law_law_731 : decode code 731 = .ok (.iconst 1, 1) := by decide +kernel
theorem d_Law_law_732 : decode code 732 = .ok (.iadd, 1) := by decide +kernel
theorem d_Law_law_733 : decode code 733 = .ok (.iaload, 1) := by decide +kernel
theorem d_Law_law_734 : decode code 734 = .ok (.invokevirtual 76, 3) := by decide +kernel
theorem d_Law_law_737 : decode code 737 = .ok (.if_icmp .eq 5, 3) := by decide +kernel
theorem d_Law_law_740 : decode code 740 = .ok (.iconst 0, 1) := by decide +kernel
theorem d_Law_law_741 : decode code 741 = .ok (.ireturn, 1) := by decide +kernel
theorem d_Law_law_742 : decode code 742 = .ok (.iinc 4 7, 3) := by decide +kernel
theorem d_Law_law_745 : decode code 745 = .ok (.goto (-722), 3) := by decide +kernel
theorem d_Law_law_748 : decode code 748 = .ok (.iconst 1, 1) := by decide +kernel
theorem d_Law_law_749 : decode code 749 = .ok (.ireturn, 1) := by decide +kernel
end
section
/-! SMALL METHODS: what stays within one object -/
def b32 (p : Prop) [Decidable p] : Int32 := if p then 1 else 0
theorem b32_t {p : Prop} [Decidable p] (h : p) : 1 = b32 p := by simp [b32, h]
theorem b32_f {p : Prop} [Decidable p] (h : ¬ p) : 0 = b32 p := by simp [b32, h]
def bo (x : Int32) : Prop := x = 0 ∨ x = 1
theorem bo_0 : bo 0 := Or.inl rfl
theorem bo_1 : bo 1 := Or.inr rfl
theorem bo_n {x : Int32} (h : bo x) : narrow .boolean (.int x) = .int x := by rcases h with rfl | rfl <;> rfl
theorem bo_f {x : Int32} (h : bo x) : fits .boolean (.int x) = true := by rcases h with rfl | rfl <;> rfl
theorem b32_bo (p : Prop) [Decidable p] : bo (b32 p) := by
  by_cases h : p
  · exact Or.inr (b32_t h).symm
  · exact Or.inl (b32_f h).symm
theorem b32_eq0 {p : Prop} [Decidable p] : b32 p = 0 ↔ ¬ p := by
  by_cases h : p <;> simp [b32, h]
theorem b32_ne0 {p : Prop} [Decidable p] (h : ¬ b32 p = 0) : p := Decidable.byContradiction (fun q => h (b32_eq0.mpr q))
set_option maxHeartbeats 4000000 in
set_option maxRecDepth 100000 in
theorem c_X_isItem (l : Launch) (g : mm_G) (M : mm_M) (x : Int32) : Ci l g y_X_isItem b_X_isItem 1 .boolean (rk 0 0 0 0) M [.int x] (fun r M' => M' = M ∧ r = b32 (0 ≤ x ∧ x < 200)) := by
  refine mm_enter (by decide) (Nat.le_of_ble_eq_true rfl) (fun pG eV s m args below meth cdx ls Q E hml hr hlk hnm hZ hl eQ => ?_)
  have hx := E.1
  have hb := E.2.1
  have hl : lv_has ls 1 [(0, .int x)] := hl
  refine lv_iload_n hx hb d_X_isItem_0 rfl (lv_at hl 0 rfl) ?_
  refine lv_if_lt (tgt := 15) hx hb d_X_isItem_1 (by decide) (fun c1 => ?_) (fun c1 => ?_)
  · refine lv_iconst (v := 0) hx hb d_X_isItem_15 (by decide) ?_
    exact mm_zret (v := 0) E hr hlk eQ hZ rfl d_X_isItem_16 ⟨_, rfl, rfl, b32_f (fun q => absurd q.1 (Int32.not_le.mpr c1))⟩
  · refine lv_iload_n hx hb d_X_isItem_4 rfl (lv_at hl 0 rfl) ?_
    refine lv_sipush (v := 200) hx hb d_X_isItem_5 (by decide) ?_
    refine lv_icmp_ge (tgt := 15) hx hb d_X_isItem_8 (by decide) (fun c8 => ?_) (fun c8 => ?_)
    · refine lv_iconst (v := 0) hx hb d_X_isItem_15 (by decide) ?_
      exact mm_zret (v := 0) E hr hlk eQ hZ rfl d_X_isItem_16 ⟨_, rfl, rfl, b32_f (fun q => absurd q.2 (Int32.not_lt.mpr c8))⟩
    · refine lv_iconst (v := 1) hx hb d_X_isItem_11 (by decide) ?_
      refine lv_goto (tgt := 16) hx hb d_X_isItem_12 (by decide) ?_
      exact mm_zret (v := 1) E hr hlk eQ hZ rfl d_X_isItem_16 ⟨_, rfl, rfl, b32_t ⟨Int32.not_lt.mp c1, Int32.not_le.mp c8⟩⟩
set_option maxHeartbeats 4000000 in
set_option maxRecDepth 100000 in
theorem c_X_isPlace (l : Launch) (g : mm_G) (M : mm_M) (x : Int32) : Ci l g y_X_isPlace b_X_isPlace 1 .boolean (rk 0 0 0 0) M [.int x] (fun r M' => M' = M ∧ r = b32 (0 ≤ x ∧ x < 50)) := by
  refine mm_enter (by decide) (Nat.le_of_ble_eq_true rfl) (fun pG eV s m args below meth cdx ls Q E hml hr hlk hnm hZ hl eQ => ?_)
  have hx := E.1
  have hb := E.2.1
  have hl : lv_has ls 1 [(0, .int x)] := hl
  refine lv_iload_n hx hb d_X_isPlace_0 rfl (lv_at hl 0 rfl) ?_
  refine lv_if_lt (tgt := 14) hx hb d_X_isPlace_1 (by decide) (fun c1 => ?_) (fun c1 => ?_)
  · refine lv_iconst (v := 0) hx hb d_X_isPlace_14 (by decide) ?_
    exact mm_zret (v := 0) E hr hlk eQ hZ rfl d_X_isPlace_15 ⟨_, rfl, rfl, b32_f (fun q => absurd q.1 (Int32.not_le.mpr c1))⟩
  · refine lv_iload_n hx hb d_X_isPlace_4 rfl (lv_at hl 0 rfl) ?_
    refine lv_bipush (v := 50) hx hb d_X_isPlace_5 (by decide) ?_
    refine lv_icmp_ge (tgt := 14) hx hb d_X_isPlace_7 (by decide) (fun c7 => ?_) (fun c7 => ?_)
    · refine lv_iconst (v := 0) hx hb d_X_isPlace_14 (by decide) ?_
      exact mm_zret (v := 0) E hr hlk eQ hZ rfl d_X_isPlace_15 ⟨_, rfl, rfl, b32_f (fun q => absurd q.2 (Int32.not_lt.mpr c7))⟩
    · refine lv_iconst (v := 1) hx hb d_X_isPlace_10 (by decide) ?_
      refine lv_goto (tgt := 15) hx hb d_X_isPlace_11 (by decide) ?_
      exact mm_zret (v := 1) E hr hlk eQ hZ rfl d_X_isPlace_15 ⟨_, rfl, rfl, b32_t ⟨Int32.not_lt.mp c1, Int32.not_le.mp c7⟩⟩
set_option maxHeartbeats 4000000 in
set_option maxRecDepth 100000 in
theorem c_X_isService (l : Launch) (g : mm_G) (M : mm_M) (x : Int32) : Ci l g y_X_isService b_X_isService 1 .boolean (rk 0 0 0 0) M [.int x] (fun r M' => M' = M ∧ r = b32 (0 ≤ x ∧ x < 5)) := by
  refine mm_enter (by decide) (Nat.le_of_ble_eq_true rfl) (fun pG eV s m args below meth cdx ls Q E hml hr hlk hnm hZ hl eQ => ?_)
  have hx := E.1
  have hb := E.2.1
  have hl : lv_has ls 1 [(0, .int x)] := hl
  refine lv_iload_n hx hb d_X_isService_0 rfl (lv_at hl 0 rfl) ?_
  refine lv_if_lt (tgt := 13) hx hb d_X_isService_1 (by decide) (fun c1 => ?_) (fun c1 => ?_)
  · refine lv_iconst (v := 0) hx hb d_X_isService_13 (by decide) ?_
    exact mm_zret (v := 0) E hr hlk eQ hZ rfl d_X_isService_14 ⟨_, rfl, rfl, b32_f (fun q => absurd q.1 (Int32.not_le.mpr c1))⟩
  · refine lv_iload_n hx hb d_X_isService_4 rfl (lv_at hl 0 rfl) ?_
    refine lv_iconst (v := 5) hx hb d_X_isService_5 (by decide) ?_
    refine lv_icmp_ge (tgt := 13) hx hb d_X_isService_6 (by decide) (fun c6 => ?_) (fun c6 => ?_)
    · refine lv_iconst (v := 0) hx hb d_X_isService_13 (by decide) ?_
      exact mm_zret (v := 0) E hr hlk eQ hZ rfl d_X_isService_14 ⟨_, rfl, rfl, b32_f (fun q => absurd q.2 (Int32.not_lt.mpr c6))⟩
    · refine lv_iconst (v := 1) hx hb d_X_isService_9 (by decide) ?_
      refine lv_goto (tgt := 14) hx hb d_X_isService_10 (by decide) ?_
      exact mm_zret (v := 1) E hr hlk eQ hZ rfl d_X_isService_14 ⟨_, rfl, rfl, b32_t ⟨Int32.not_lt.mp c1, Int32.not_le.mp c6⟩⟩
end
section
/-! THE REFERENCE's STATE: its object (tag 20) and its arrays (field k: tag 21 + k). I: the arrays of ints and booleans by fields, L: those of longs, S: the int fields, ck: the clock -/
def rI : Nat → Bool := fun k => match k with
  | 2 => true
  | 3 => true
  | 4 => true
  | 6 => true
  | 7 => true
  | 10 => true
  | 11 => true
  | 13 => true
  | 14 => true
  | 15 => true
  | 20 => true
  | 21 => true
  | 22 => true
  | 23 => true
  | 25 => true
  | _ => false
def rL : Nat → Bool := fun k => match k with
  | 5 => true
  | 8 => true
  | 9 => true
  | 12 => true
  | 19 => true
  | _ => false
def rT : Nat → Nat := fun k => match k with
  | 6 => 2
  | 13 => 2
  | 14 => 2
  | 15 => 2
  | _ => 0
def rN : Nat → Nat := fun k => match k with
  | 2 => 41
  | 3 => 41
  | 4 => 41
  | 5 => 41
  | 6 => 41
  | 7 => 200
  | 8 => 200
  | 9 => 200
  | 10 => 200
  | 11 => 200
  | 12 => 200
  | 13 => 200
  | 14 => 200
  | 15 => 20001
  | 19 => 2000
  | 20 => 50
  | 21 => 50
  | 22 => 5
  | 23 => 21000
  | 25 => 40
  | _ => 0
abbrev rf_fs (ad : Nat → Nat) (S : Nat → Int32) (ck : Int64) : List Value := [.int (S 0), .int (S 1), .ref (ad 2), .ref (ad 3), .ref (ad 4), .ref (ad 5), .ref (ad 6), .ref (ad 7), .ref (ad 8), .ref (ad 9), .ref (ad 10), .ref (ad 11), .ref (ad 12), .ref (ad 13), .ref (ad 14), .ref (ad 15), .int (S 16), .long ck, .int (S 18), .ref (ad 19), .ref (ad 20), .ref (ad 21), .ref (ad 22), .ref (ad 23), .int (S 24), .ref (ad 25)]
def up2 {α : Type} (I : Nat → Nat → α) (k j : Nat) (x : α) : Nat → Nat → α := va_up I k (va_up (I k) j x)
def Rs (g : mm_G) (M : mm_M) (q : Nat) (ad : Nat → Nat) (I : Nat → Nat → Int32) (L : Nat → Nat → Int64) (S : Nat → Int32) (ck : Int64) : Prop :=
  M q = some (ob 20 9 (rf_fs ad S ck)) ∧ (∀ k, rI k = true → M (ad k) = some (21 + k, .inl (g.2.2 (rT k), rN k, .inl (I k)))) ∧ (∀ k, rL k = true → M (ad k) = some (21 + k, .inl (g.2.2 1, rN k, .inr (.inl (L k)))))
/-- the reference's state, in a memory that came from M0 by writing the reference's cells alone -/
def Rq (g : mm_G) (M0 M : mm_M) (q : Nat) (ad : Nat → Nat) (I : Nat → Nat → Int32) (L : Nat → Nat → Int64) (S : Nat → Int32) (ck : Int64) : Prop := Rs g M q ad I L S ck ∧ ∀ t, (t < 20 ∨ 47 ≤ t) → mm_same t M0 M
theorem Rs.q {g : mm_G} {M : mm_M} {q : Nat} {ad : Nat → Nat} {I : Nat → Nat → Int32} {L : Nat → Nat → Int64} {S : Nat → Int32} {ck : Int64} (h : Rs g M q ad I L S ck) : Rq g M M q ad I L S ck := ⟨h, fun _ _ => mm_same.rf⟩
/-- other cells than the reference's have changed: its state stays -/
theorem Rs.kept {g : mm_G} {M M' : mm_M} {q : Nat} {ad : Nat → Nat} {I : Nat → Nat → Int32} {L : Nat → Nat → Int64} {S : Nat → Int32} {ck : Int64} (h : Rs g M q ad I L S ck) (hs : ∀ t, 20 ≤ t → t < 47 → mm_same t M M') : Rs g M' q ad I L S ck := by
  refine ⟨hs 20 (by omega) (by omega) _ _ h.1, fun k hk => ?_, fun k hk => ?_⟩
  · have : k < 26 := by
      rcases Nat.lt_or_ge k 26 with q | q
      · exact q
      · exfalso; revert hk; unfold rI; split <;> first | omega | simp
    exact hs (21 + k) (by omega) (by omega) _ _ (h.2.1 k hk)
  · have : k < 26 := by
      rcases Nat.lt_or_ge k 26 with q | q
      · exact q
      · exfalso; revert hk; unfold rL; split <;> first | omega | simp
    exact hs (21 + k) (by omega) (by omega) _ _ (h.2.2 k hk)
section RR
variable {p : Program} {l : Launch} {e : Env} {R : Room} {s : State} {m : MethodId} {args : Array Value} {below : List Frame} {meth : Method} {c : Code} {H : Heap} {locs : List Loc} {cells slots : Nat} {Q : State → Prop} {cc : ByteArray} {pc : Nat} {ls : Array Slot} {rest st0 : List Value} {g : mm_G} {M M0 : mm_M} {own : String} {q : Nat} {ad : Nat → Nat} {I : Nat → Nat → Int32} {L : Nat → Nat → Int64} {S : Nat → Int32} {ck : Int64}
theorem rI_len {k : Nat} : rN k < 2 ^ 31 := by unfold rN; split <;> decide
theorem Rq.puti {k : Nat} (hk : rI k = true) (h : Rq g M0 M q ad I L S ck) (f : Nat → Int32) : Rq g M0 (mm_up M (ad k) (21 + k, .inl (g.2.2 (rT k), rN k, .inl f))) q ad (va_up I k f) L S ck := by
  have hk0 := h.1.2.1 k hk
  refine ⟨⟨(mm_ne _ _ (mm_tag h.1.1 hk0 (by omega))).trans h.1.1, fun j hj => ?_, fun j hj => ?_⟩, fun t ht => (h.2 t ht).tr (mm_same.up hk0 (by
      have : k < 26 := by
        rcases Nat.lt_or_ge k 26 with q | q
        · exact q
        · exfalso; revert hk; unfold rI; split <;> first | omega | simp
      omega) _)⟩
  · by_cases e : j = k
    · subst e
      rw [va_up_self]
      exact mm_self _ _ _
    · rw [va_up_ne _ _ e]
      exact (mm_ne _ _ (mm_tag (h.1.2.1 j hj) hk0 (by omega))).trans (h.1.2.1 j hj)
  · have e : j ≠ k := fun x => by subst x; revert hk hj; unfold rI rL; split <;> simp
    exact (mm_ne _ _ (mm_tag (h.1.2.2 j hj) hk0 (by omega))).trans (h.1.2.2 j hj)
theorem Rq.putl {k : Nat} (hk : rL k = true) (h : Rq g M0 M q ad I L S ck) (f : Nat → Int64) : Rq g M0 (mm_up M (ad k) (21 + k, .inl (g.2.2 1, rN k, .inr (.inl f)))) q ad I (va_up L k f) S ck := by
  have hk0 := h.1.2.2 k hk
  refine ⟨⟨(mm_ne _ _ (mm_tag h.1.1 hk0 (by omega))).trans h.1.1, fun j hj => ?_, fun j hj => ?_⟩, fun t ht => (h.2 t ht).tr (mm_same.up hk0 (by
      have : k < 26 := by
        rcases Nat.lt_or_ge k 26 with q | q
        · exact q
        · exfalso; revert hk; unfold rL; split <;> first | omega | simp
      omega) _)⟩
  · have e : j ≠ k := fun x => by subst x; revert hk hj; unfold rI rL; split <;> simp
    exact (mm_ne _ _ (mm_tag (h.1.2.1 j hj) hk0 (by omega))).trans (h.1.2.1 j hj)
  · by_cases e : j = k
    · subst e
      rw [va_up_self]
      exact mm_self _ _ _
    · rw [va_up_ne _ _ e]
      exact (mm_ne _ _ (mm_tag (h.1.2.2 j hj) hk0 (by omega))).trans (h.1.2.2 j hj)
theorem Rq.putf (h : Rq g M0 M q ad I L S ck) (S' : Nat → Int32) (ck' : Int64) : Rq g M0 (mm_up M q (ob 20 9 (rf_fs ad S' ck'))) q ad I L S' ck' :=
  ⟨⟨mm_self _ _ _, fun j hj => (mm_ne _ _ (mm_tag (h.1.2.1 j hj) h.1.1 (by omega))).trans (h.1.2.1 j hj), fun j hj => (mm_ne _ _ (mm_tag (h.1.2.2 j hj) h.1.1 (by omega))).trans (h.1.2.2 j hj)⟩, fun t ht => (h.2 t ht).tr (mm_same.up h.1.1 (by omega) _)⟩
theorem rr_iald (k : Nat) (hk : rI k = true) (hT : rT k = 0) (E : mm_C g p s m args c cc own) (hZ : mm_S g s M H locs) (hR : Rq g M0 M q ad I L S ck) {i : Int32} {j : Nat} (hi : i = nI j) (hj : j < rN k) (hdg : decode cc pc = .ok (.iaload, 1))
    (kk : W p l e R s m args below meth c H locs cells slots Q (F0 m (pc + 1) ls (.int (I k j) :: rest))) : W p l e R s m args below meth c H locs cells slots Q (F0 m pc ls (.int i :: .ref (ad k) :: rest)) :=
  mm_iald (t0 := 0) E hZ (hR.1.2.1 k hk) (by rw [hT]; rfl) hi hj rI_len hdg kk
theorem rr_zald (k : Nat) (hk : rI k = true) (hT : rT k = 2) (E : mm_C g p s m args c cc own) (hZ : mm_S g s M H locs) (hR : Rq g M0 M q ad I L S ck) {i : Int32} {j : Nat} (hi : i = nI j) (hj : j < rN k) (hdg : decode cc pc = .ok (.baload, 1))
    (kk : W p l e R s m args below meth c H locs cells slots Q (F0 m (pc + 1) ls (.int (I k j) :: rest))) : W p l e R s m args below meth c H locs cells slots Q (F0 m pc ls (.int i :: .ref (ad k) :: rest)) :=
  mm_zald (t0 := 2) E hZ (hR.1.2.1 k hk) (by rw [hT]; rfl) hi hj rI_len hdg kk
theorem rr_lald (k : Nat) (hk : rL k = true) (E : mm_C g p s m args c cc own) (hZ : mm_S g s M H locs) (hR : Rq g M0 M q ad I L S ck) {i : Int32} {j : Nat} (hi : i = nI j) (hj : j < rN k) (hdg : decode cc pc = .ok (.laload, 1))
    (kk : W p l e R s m args below meth c H locs cells slots Q (F0 m (pc + 1) ls (.long (L k j) :: rest))) : W p l e R s m args below meth c H locs cells slots Q (F0 m pc ls (.int i :: .ref (ad k) :: rest)) :=
  mm_lald (t0 := 1) E hZ (hR.1.2.2 k hk) rfl hi hj rI_len hdg kk
theorem rr_iast (k : Nat) (hk : rI k = true) (hT : rT k = 0) (E : mm_C g p s m args c cc own) (hZ : mm_S g s M H locs) (hR : Rq g M0 M q ad I L S ck) {i x : Int32} {j : Nat} (hi : i = nI j) (hj : j < rN k) (hdg : decode cc pc = .ok (.iastore, 1))
    (kk : ∀ (M1 : mm_M) (H1 : Heap) (locs1 : List Loc), mm_S g s M1 H1 locs1 → Rq g M0 M1 q ad (up2 I k j x) L S ck → W p l e R s m args below meth c H1 locs1 cells slots Q (F0 m (pc + 1) ls rest)) : W p l e R s m args below meth c H locs cells slots Q (F0 m pc ls (.int x :: .int i :: .ref (ad k) :: rest)) :=
  mm_iast (t0 := 0) E hZ (hR.1.2.1 k hk) (by rw [hT]; rfl) (by omega) hi hj rI_len hdg (fun H1 locs1 hZ1 => kk _ H1 locs1 hZ1 (hR.puti hk _))
theorem rr_zast (k : Nat) (hk : rI k = true) (hT : rT k = 2) (E : mm_C g p s m args c cc own) (hZ : mm_S g s M H locs) (hR : Rq g M0 M q ad I L S ck) {i x : Int32} (hx : bo x) {j : Nat} (hi : i = nI j) (hj : j < rN k) (hdg : decode cc pc = .ok (.bastore, 1))
    (kk : ∀ (M1 : mm_M) (H1 : Heap) (locs1 : List Loc), mm_S g s M1 H1 locs1 → Rq g M0 M1 q ad (up2 I k j x) L S ck → W p l e R s m args below meth c H1 locs1 cells slots Q (F0 m (pc + 1) ls rest)) : W p l e R s m args below meth c H locs cells slots Q (F0 m pc ls (.int x :: .int i :: .ref (ad k) :: rest)) :=
  mm_zast (t0 := 2) E hZ (hR.1.2.1 k hk) (by rw [hT]; rfl) (by omega) (bo_n hx) hi hj rI_len hdg (fun H1 locs1 hZ1 => kk _ H1 locs1 hZ1 (hR.puti hk _))
theorem rr_last (k : Nat) (hk : rL k = true) (E : mm_C g p s m args c cc own) (hZ : mm_S g s M H locs) (hR : Rq g M0 M q ad I L S ck) {i : Int32} {x : Int64} {j : Nat} (hi : i = nI j) (hj : j < rN k) (hdg : decode cc pc = .ok (.lastore, 1))
    (kk : ∀ (M1 : mm_M) (H1 : Heap) (locs1 : List Loc), mm_S g s M1 H1 locs1 → Rq g M0 M1 q ad I (up2 L k j x) S ck → W p l e R s m args below meth c H1 locs1 cells slots Q (F0 m (pc + 1) ls rest)) : W p l e R s m args below meth c H locs cells slots Q (F0 m pc ls (.long x :: .int i :: .ref (ad k) :: rest)) :=
  mm_last (t0 := 1) E hZ (hR.1.2.2 k hk) rfl (by omega) hi hj rI_len hdg (fun H1 locs1 hZ1 => kk _ H1 locs1 hZ1 (hR.putl hk _))
theorem rr_put0 (E : mm_C g p s m args c cc own) (hZ : mm_S g s M H locs) (hR : Rq g M0 M q ad I L S ck) {index : Nat} (hf : mm_fl own index F_Mod 0) {x : Int32} (hdg : decode cc pc = .ok (.putfield index, 3))
    (kk : ∀ (M1 : mm_M) (H1 : Heap) (locs1 : List Loc), mm_S g s M1 H1 locs1 → Rq g M0 M1 q ad I L (va_up S 0 x) ck → W p l e R s m args below meth c H1 locs1 cells slots Q (F0 m (pc + 3) ls rest)) : W p l e R s m args below meth c H locs cells slots Q (F0 m pc ls (.int x :: .ref q :: rest)) :=
  mm_put E hZ cl_Mod hf (by decide) rfl hR.1.1 (by decide) rfl rfl (Nat.le_of_ble_eq_true rfl) hdg (fun H1 locs1 hZ1 => kk _ H1 locs1 hZ1 (hR.putf (va_up S 0 x) ck))
theorem rr_put1 (E : mm_C g p s m args c cc own) (hZ : mm_S g s M H locs) (hR : Rq g M0 M q ad I L S ck) {index : Nat} (hf : mm_fl own index F_Mod 1) {x : Int32} (hdg : decode cc pc = .ok (.putfield index, 3))
    (kk : ∀ (M1 : mm_M) (H1 : Heap) (locs1 : List Loc), mm_S g s M1 H1 locs1 → Rq g M0 M1 q ad I L (va_up S 1 x) ck → W p l e R s m args below meth c H1 locs1 cells slots Q (F0 m (pc + 3) ls rest)) : W p l e R s m args below meth c H locs cells slots Q (F0 m pc ls (.int x :: .ref q :: rest)) :=
  mm_put E hZ cl_Mod hf (by decide) rfl hR.1.1 (by decide) rfl rfl (Nat.le_of_ble_eq_true rfl) hdg (fun H1 locs1 hZ1 => kk _ H1 locs1 hZ1 (hR.putf (va_up S 1 x) ck))
theorem rr_put16 (E : mm_C g p s m args c cc own) (hZ : mm_S g s M H locs) (hR : Rq g M0 M q ad I L S ck) {index : Nat} (hf : mm_fl own index F_Mod 16) {x : Int32} (hdg : decode cc pc = .ok (.putfield index, 3))
    (kk : ∀ (M1 : mm_M) (H1 : Heap) (locs1 : List Loc), mm_S g s M1 H1 locs1 → Rq g M0 M1 q ad I L (va_up S 16 x) ck → W p l e R s m args below meth c H1 locs1 cells slots Q (F0 m (pc + 3) ls rest)) : W p l e R s m args below meth c H locs cells slots Q (F0 m pc ls (.int x :: .ref q :: rest)) :=
  mm_put E hZ cl_Mod hf (by decide) rfl hR.1.1 (by decide) rfl rfl (Nat.le_of_ble_eq_true rfl) hdg (fun H1 locs1 hZ1 => kk _ H1 locs1 hZ1 (hR.putf (va_up S 16 x) ck))
theorem rr_put18 (E : mm_C g p s m args c cc own) (hZ : mm_S g s M H locs) (hR : Rq g M0 M q ad I L S ck) {index : Nat} (hf : mm_fl own index F_Mod 18) {x : Int32} (hdg : decode cc pc = .ok (.putfield index, 3))
    (kk : ∀ (M1 : mm_M) (H1 : Heap) (locs1 : List Loc), mm_S g s M1 H1 locs1 → Rq g M0 M1 q ad I L (va_up S 18 x) ck → W p l e R s m args below meth c H1 locs1 cells slots Q (F0 m (pc + 3) ls rest)) : W p l e R s m args below meth c H locs cells slots Q (F0 m pc ls (.int x :: .ref q :: rest)) :=
  mm_put E hZ cl_Mod hf (by decide) rfl hR.1.1 (by decide) rfl rfl (Nat.le_of_ble_eq_true rfl) hdg (fun H1 locs1 hZ1 => kk _ H1 locs1 hZ1 (hR.putf (va_up S 18 x) ck))
theorem rr_put24 (E : mm_C g p s m args c cc own) (hZ : mm_S g s M H locs) (hR : Rq g M0 M q ad I L S ck) {index : Nat} (hf : mm_fl own index F_Mod 24) {x : Int32} (hdg : decode cc pc = .ok (.putfield index, 3))
    (kk : ∀ (M1 : mm_M) (H1 : Heap) (locs1 : List Loc), mm_S g s M1 H1 locs1 → Rq g M0 M1 q ad I L (va_up S 24 x) ck → W p l e R s m args below meth c H1 locs1 cells slots Q (F0 m (pc + 3) ls rest)) : W p l e R s m args below meth c H locs cells slots Q (F0 m pc ls (.int x :: .ref q :: rest)) :=
  mm_put E hZ cl_Mod hf (by decide) rfl hR.1.1 (by decide) rfl rfl (Nat.le_of_ble_eq_true rfl) hdg (fun H1 locs1 hZ1 => kk _ H1 locs1 hZ1 (hR.putf (va_up S 24 x) ck))
theorem rr_put17 (E : mm_C g p s m args c cc own) (hZ : mm_S g s M H locs) (hR : Rq g M0 M q ad I L S ck) {index : Nat} (hf : mm_fl own index F_Mod 17) {x : Int64} (hdg : decode cc pc = .ok (.putfield index, 3))
    (kk : ∀ (M1 : mm_M) (H1 : Heap) (locs1 : List Loc), mm_S g s M1 H1 locs1 → Rq g M0 M1 q ad I L S x → W p l e R s m args below meth c H1 locs1 cells slots Q (F0 m (pc + 3) ls rest)) : W p l e R s m args below meth c H locs cells slots Q (F0 m pc ls (.long x :: .ref q :: rest)) :=
  mm_put E hZ cl_Mod hf (by decide) rfl hR.1.1 (by decide) rfl rfl (Nat.le_of_ble_eq_true rfl) hdg (fun H1 locs1 hZ1 => kk _ H1 locs1 hZ1 (hR.putf S x))
end RR
end
section
/-! THE REFERENCE: its small methods -/
theorem i64_0 : (0 : Int32).toInt64 = 0 := by decide
/-- an int in a range of longs -/
theorem in_nat {x : Int32} {n : Nat} {lo hi : Int64} (hlo : lo = 0) (hhi : hi.toInt = n) (h : lo ≤ x.toInt64 ∧ x.toInt64 ≤ hi) : ∃ j : Nat, j ≤ n ∧ x = nI j := by
  have h1 := Int64.le_iff_toInt_le.mp h.1
  have h2 := Int64.le_iff_toInt_le.mp h.2
  rw [hlo, Int32.toInt_toInt64] at h1
  rw [Int32.toInt_toInt64, hhi] at h2
  have h3 : (0 : Int64).toInt = 0 := by decide
  rw [h3] at h1
  refine ⟨x.toInt.toNat, by omega, ?_⟩
  apply Int32.toInt_inj.mp
  have h4 := Int32.toInt_lt x
  rw [nI_toInt (by omega)]
  omega
theorem nat_in {n j : Nat} {hi : Int64} (hj : j ≤ n) (hn : n < 2 ^ 31) (hhi : hi.toInt = n) : (0 : Int64) ≤ (nI j).toInt64 ∧ (nI j).toInt64 ≤ hi := by
  constructor
  · apply Int64.le_iff_toInt_le.mpr
    rw [Int32.toInt_toInt64, nI_toInt (by omega), show (0 : Int64).toInt = 0 by decide]
    omega
  · apply Int64.le_iff_toInt_le.mpr
    rw [Int32.toInt_toInt64, nI_toInt (by omega), hhi]
    omega
theorem out_nat {x : Int32} {n : Nat} {hi : Int64} (hn : n < 2 ^ 31) (hhi : hi.toInt = n) (h : ¬ ((0 : Int64) ≤ x.toInt64 ∧ x.toInt64 ≤ hi)) : ∀ j, j ≤ n → x ≠ nI j := fun j hj e => h (e ▸ nat_in hj hn hhi)
theorem lnat_in {n j : Nat} {hi : Int64} (hj : j ≤ n) (hn : n < 2 ^ 63) (hhi : hi.toInt = n) : (0 : Int64) ≤ lN j ∧ lN j ≤ hi := by
  constructor
  · apply Int64.le_iff_toInt_le.mpr
    rw [pk_lT (by omega), show (0 : Int64).toInt = 0 by decide]
    omega
  · apply Int64.le_iff_toInt_le.mpr
    rw [pk_lT (by omega), hhi]
    omega
/-- may an event of item j come at t -/
abbrev rTime (I : Nat → Nat → Int32) (L : Nat → Nat → Int64) (j : Nat) (t : Int64) : Prop := (if I 7 j < 0 then 0 else L 9 j) ≤ t ∧ t ≤ 1000000000
/-- nothing is expected of item j -/
abbrev rEnd (I : Nat → Nat → Int32) (j : Nat) : Nat → Nat → Int32 := up2 (up2 (up2 I 10 j 0) 13 j 0) 14 j 0
theorem Rq.step {g : mm_G} {M0 M M1 : mm_M} {q : Nat} {ad : Nat → Nat} {I I' : Nat → Nat → Int32} {L L' : Nat → Nat → Int64} {S S' : Nat → Int32} {ck ck' : Int64} (h : Rq g M0 M q ad I L S ck) (h' : Rq g M M1 q ad I' L' S' ck') : Rq g M0 M1 q ad I' L' S' ck' := ⟨h'.1, fun t ht => (h.2 t ht).tr (h'.2 t ht)⟩
theorem lin_nat {x hi : Int64} {n : Nat} (hhi : hi.toInt = n) (h : (0 : Int64) ≤ x ∧ x ≤ hi) : ∃ j : Nat, j ≤ n ∧ x = lN j := by
  have h1 := Int64.le_iff_toInt_le.mp h.1
  have h2 := Int64.le_iff_toInt_le.mp h.2
  rw [hhi] at h2
  rw [show (0 : Int64).toInt = 0 by decide] at h1
  refine ⟨x.toInt.toNat, by omega, ?_⟩
  apply Int64.toInt_inj.mp
  have h4 := Int64.toInt_lt x
  rw [pk_lT (by omega)]
  omega
set_option maxHeartbeats 4000000 in
set_option maxRecDepth 100000 in
theorem c_Mod_isIn (l : Launch) (g : mm_G) (M : mm_M) (v lo hi : Int64) : Ci l g y_Mod_isIn b_Mod_isIn 6 .boolean (rk 0 0 0 0) M [.long v, .long lo, .long hi] (fun r M' => M' = M ∧ r = b32 (lo ≤ v ∧ v ≤ hi)) := by
  refine mm_enter (by decide) (Nat.le_of_ble_eq_true rfl) (fun pG eV s m args below meth cdx ls Q E hml hr hlk hnm hZ hl eQ => ?_)
  have hx := E.1
  have hb := E.2.1
  have hl : lv_has ls 6 [(0, .long v), (2, .long lo), (4, .long hi)] := hl
  refine lv_lload_n hx hb d_Mod_isIn_0 rfl (lv_at hl 0 rfl) ?_
  refine lv_lload_n hx hb d_Mod_isIn_1 rfl (lv_at hl 1 rfl) ?_
  refine W.lcmp hx hb d_Mod_isIn_2 ?_
  refine lv_if_lt (tgt := 17) hx hb d_Mod_isIn_3 (by decide) (fun c3 => ?_) (fun c3 => ?_)
  · have c3 := (lg_cmp_lt _ _).mp c3
    refine lv_iconst (v := 0) hx hb d_Mod_isIn_17 (by decide) ?_
    exact mm_zret (v := 0) E hr hlk eQ hZ rfl d_Mod_isIn_18 ⟨_, rfl, rfl, b32_f (fun q => absurd q.1 (Int64.not_le.mpr c3))⟩
  · have c3 := mt (lg_cmp_lt _ _).mpr c3
    refine lv_lload_n hx hb d_Mod_isIn_6 rfl (lv_at hl 0 rfl) ?_
    refine lv_lload hx hb d_Mod_isIn_7 (lv_at hl 2 rfl) ?_
    refine W.lcmp hx hb d_Mod_isIn_9 ?_
    refine lv_if_gt (tgt := 17) hx hb d_Mod_isIn_10 (by decide) (fun c10 => ?_) (fun c10 => ?_)
    · have c10 := (lg_cmp_gt _ _).mp c10
      refine lv_iconst (v := 0) hx hb d_Mod_isIn_17 (by decide) ?_
      exact mm_zret (v := 0) E hr hlk eQ hZ rfl d_Mod_isIn_18 ⟨_, rfl, rfl, b32_f (fun q => absurd q.2 (Int64.not_le.mpr c10))⟩
    · have c10 := mt (lg_cmp_gt _ _).mpr c10
      refine lv_iconst (v := 1) hx hb d_Mod_isIn_13 (by decide) ?_
      refine lv_goto (tgt := 18) hx hb d_Mod_isIn_14 (by decide) ?_
      exact mm_zret (v := 1) E hr hlk eQ hZ rfl d_Mod_isIn_18 ⟨_, rfl, rfl, b32_t ⟨Int64.not_lt.mp c3, Int64.not_lt.mp c10⟩⟩
set_option maxHeartbeats 4000000 in
set_option maxRecDepth 100000 in
theorem c_Mod_thrown (l : Launch) (g : mm_G) {M : mm_M} {q : Nat} {ad : Nat → Nat} {I : Nat → Nat → Int32} {L : Nat → Nat → Int64} {S : Nat → Int32} {ck : Int64} (h0 : Rs g M q ad I L S ck)  : Ci l g y_Mod_thrown b_Mod_thrown 1 .int (rk 0 0 0 0) M [.ref q] (fun r M' => M' = M ∧ r = S 0) := by
  refine mm_enter (by decide) (Nat.le_of_ble_eq_true rfl) (fun pG eV s m args below meth cdx ls Q E hml hr hlk hnm hZ hl eQ => ?_)
  have hx := E.1
  have hb := E.2.1
  have hl : lv_has ls 1 [(0, .ref q)] := hl
  have hR := h0.q
  refine lv_aload_n hx hb d_Mod_thrown_0 rfl (lv_at hl 0 rfl) ?_
  refine mm_get (v := .int (S 0)) E hZ cl_Mod fl_Mod_72 (by decide) hR.1.1 rfl d_Mod_thrown_1 ?_
  exact mm_iret (v := S 0) E hr hlk eQ hZ d_Mod_thrown_4 ⟨_, rfl, rfl, rfl⟩
set_option maxHeartbeats 4000000 in
set_option maxRecDepth 100000 in
theorem c_Mod_end (l : Launch) (g : mm_G) {M : mm_M} {q : Nat} {ad : Nat → Nat} {I : Nat → Nat → Int32} {L : Nat → Nat → Int64} {S : Nat → Int32} {ck : Int64} (h0 : Rs g M q ad I L S ck) {i : Nat} (hi : i < 200) : Cv l g y_Mod_end b_Mod_end 2 (rk 0 0 0 0) M [.ref q, .int (nI i)] (fun M' => Rq g M M' q ad (up2 (up2 (up2 I 10 i 0) 13 i 0) 14 i 0) L S ck) := by
  refine mm_enter (by decide) (Nat.le_of_ble_eq_true rfl) (fun pG eV s m args below meth cdx ls Q E hml hr hlk hnm hZ hl eQ => ?_)
  have hx := E.1
  have hb := E.2.1
  have hl : lv_has ls 2 [(0, .ref q), (1, .int (nI i))] := hl
  have hR := h0.q
  refine lv_aload_n hx hb d_Mod_end_0 rfl (lv_at hl 0 rfl) ?_
  refine mm_get (v := .ref (ad 10)) E hZ cl_Mod fl_Mod_36 (by decide) hR.1.1 rfl d_Mod_end_1 ?_
  refine lv_iload_n hx hb d_Mod_end_4 rfl (lv_at hl 1 rfl) ?_
  refine lv_iconst (v := 0) hx hb d_Mod_end_5 (by decide) ?_
  refine rr_iast 10 rfl rfl E hZ hR rfl (show i < 200 by omega) d_Mod_end_6 (fun M H locs hZ hR => ?_)
  refine lv_aload_n hx hb d_Mod_end_7 rfl (lv_at hl 0 rfl) ?_
  refine mm_get (v := .ref (ad 13)) E hZ cl_Mod fl_Mod_45 (by decide) hR.1.1 rfl d_Mod_end_8 ?_
  refine lv_iload_n hx hb d_Mod_end_11 rfl (lv_at hl 1 rfl) ?_
  refine lv_iconst (v := 0) hx hb d_Mod_end_12 (by decide) ?_
  refine rr_zast 13 rfl rfl E hZ hR bo_0 rfl (show i < 200 by omega) d_Mod_end_13 (fun M H locs hZ hR => ?_)
  refine lv_aload_n hx hb d_Mod_end_14 rfl (lv_at hl 0 rfl) ?_
  refine mm_get (v := .ref (ad 14)) E hZ cl_Mod fl_Mod_48 (by decide) hR.1.1 rfl d_Mod_end_15 ?_
  refine lv_iload_n hx hb d_Mod_end_18 rfl (lv_at hl 1 rfl) ?_
  refine lv_iconst (v := 0) hx hb d_Mod_end_19 (by decide) ?_
  refine rr_zast 14 rfl rfl E hZ hR bo_0 rfl (show i < 200 by omega) d_Mod_end_20 (fun M H locs hZ hR => ?_)
  exact mm_vret E hr hlk eQ hZ d_Mod_end_21 ⟨rfl, hR⟩
set_option maxHeartbeats 4000000 in
set_option maxRecDepth 100000 in
theorem c_Mod_isTime (l : Launch) (g : mm_G) {M : mm_M} {q : Nat} {ad : Nat → Nat} {I : Nat → Nat → Int32} {L : Nat → Nat → Int64} {S : Nat → Int32} {ck : Int64} (h0 : Rs g M q ad I L S ck) {i : Nat} (hi : i < 200) (t : Int64) : Ci l g y_Mod_isTime b_Mod_isTime 4 .boolean (rk 1 25 0 0) M [.ref q, .int (nI i), .long t] (fun r M' => M' = M ∧ r = b32 ((if I 7 i < 0 then 0 else L 9 i) ≤ t ∧ t ≤ 1000000000)) := by
  refine mm_enter (by decide) (Nat.le_of_ble_eq_true rfl) (fun pG eV s m args below meth cdx ls Q E hml hr hlk hnm hZ hl eQ => ?_)
  have hx := E.1
  have hb := E.2.1
  have hl : lv_has ls 4 [(0, .ref q), (1, .int (nI i)), (2, .long t)] := hl
  have hR := h0.q
  refine lv_lload_n hx hb d_Mod_isTime_0 rfl (lv_at hl 2 rfl) ?_
  refine lv_aload_n hx hb d_Mod_isTime_1 rfl (lv_at hl 0 rfl) ?_
  refine mm_get (v := .ref (ad 7)) E hZ cl_Mod fl_Mod_27 (by decide) hR.1.1 rfl d_Mod_isTime_2 ?_
  refine lv_iload_n hx hb d_Mod_isTime_5 rfl (lv_at hl 1 rfl) ?_
  refine rr_iald 7 rfl rfl E hZ hR rfl (show i < 200 by omega) d_Mod_isTime_6 ?_
  refine lv_if_ge (tgt := 14) hx hb d_Mod_isTime_7 (by decide) (fun c7 => ?_) (fun c7 => ?_)
  · refine lv_aload_n hx hb d_Mod_isTime_14 rfl (lv_at hl 0 rfl) ?_
    refine mm_get (v := .ref (ad 9)) E hZ cl_Mod fl_Mod_33 (by decide) hR.1.1 rfl d_Mod_isTime_15 ?_
    refine lv_iload_n hx hb d_Mod_isTime_18 rfl (lv_at hl 1 rfl) ?_
    refine rr_lald 9 rfl E hZ hR rfl (show i < 200 by omega) d_Mod_isTime_19 ?_
    refine lv_ldc2 (v := 1000000000) hx hb E.2.2.1 (E.2.2.2.1 _ w_719) d_Mod_isTime_20 ?_
    refine mm_calli (mm_runS (As := [.long t, .long (L 9 i), .long 1000000000]) (rest := []) E hZ hml hl.1 lk_Mod_78 me_Mod_isIn st_Mod_isIn (c_Mod_isIn l g _ t (L 9 i) 1000000000) ⟨Nat.le_of_ble_eq_true rfl, Nat.le_of_ble_eq_true rfl⟩ rfl (Nat.le_of_ble_eq_true rfl) d_Mod_isTime_23 ⟨Nat.le_of_ble_eq_true rfl, Nat.le_of_ble_eq_true rfl⟩) hZ (fun r1 M1 H locs hp hZ => ?_)
    rw [hp.1] at hZ
    replace hp := hp.2
    exact mm_zret (v := r1) E hr hlk eQ hZ (by rw [hp]; exact bo_n (b32_bo _)) d_Mod_isTime_26 ⟨_, rfl, rfl, by rw [hp, if_neg (Int32.not_lt.mpr c7)]⟩
  · refine lv_lconst (v := 0) hx hb d_Mod_isTime_10 (by decide) ?_
    refine lv_goto (tgt := 20) hx hb d_Mod_isTime_11 (by decide) ?_
    refine lv_ldc2 (v := 1000000000) hx hb E.2.2.1 (E.2.2.2.1 _ w_719) d_Mod_isTime_20 ?_
    refine mm_calli (mm_runS (As := [.long t, .long 0, .long 1000000000]) (rest := []) E hZ hml hl.1 lk_Mod_78 me_Mod_isIn st_Mod_isIn (c_Mod_isIn l g _ t (0) 1000000000) ⟨Nat.le_of_ble_eq_true rfl, Nat.le_of_ble_eq_true rfl⟩ rfl (Nat.le_of_ble_eq_true rfl) d_Mod_isTime_23 ⟨Nat.le_of_ble_eq_true rfl, Nat.le_of_ble_eq_true rfl⟩) hZ (fun r2 M1 H locs hp hZ => ?_)
    rw [hp.1] at hZ
    replace hp := hp.2
    exact mm_zret (v := r2) E hr hlk eQ hZ (by rw [hp]; exact bo_n (b32_bo _)) d_Mod_isTime_26 ⟨_, rfl, rfl, by rw [hp, if_pos (Int32.not_le.mp c7)]⟩
set_option maxHeartbeats 4000000 in
set_option maxRecDepth 100000 in
theorem c_Mod_failing (l : Launch) (g : mm_G) {M : mm_M} {q : Nat} {ad : Nat → Nat} {I : Nat → Nat → Int32} {L : Nat → Nat → Int64} {S : Nat → Int32} {ck : Int64} (h0 : Rs g M q ad I L S ck) (i : Int32) {f : Nat} (hf : S 24 = nI f) (hf4 : f ≤ 40) : Ci l g y_Mod_failing b_Mod_failing 2 .int (rk 0 0 0 0) M [.ref q, .int i] (fun r M' => Rq g M M' q ad I L (va_up S 0 0) ck ∧ (((∀ j, j < f → i ≠ nI j) ∧ r = 0) ∨ ∃ j, j < f ∧ i = nI j ∧ r = I 25 j)) := by
  refine mm_enter (by decide) (Nat.le_of_ble_eq_true rfl) (fun pG eV s m args below meth cdx ls Q E hml hr hlk hnm hZ hl eQ => ?_)
  have hx := E.1
  have hb := E.2.1
  have hl : lv_has ls 2 [(0, .ref q), (1, .int i)] := hl
  have hR := h0.q
  refine lv_aload_n hx hb d_Mod_failing_0 rfl (lv_at hl 0 rfl) ?_
  refine lv_iconst (v := 0) hx hb d_Mod_failing_1 (by decide) ?_
  refine rr_put0 E hZ hR fl_Mod_72 d_Mod_failing_2 (fun M H locs hZ hR => ?_)
  refine lv_iload_n hx hb d_Mod_failing_5 rfl (lv_at hl 1 rfl) ?_
  refine lv_if_lt (tgt := 26) hx hb d_Mod_failing_6 (by decide) (fun c6 => ?_) (fun c6 => ?_)
  · refine lv_iconst (v := 0) hx hb d_Mod_failing_26 (by decide) ?_
    exact mm_iret (v := 0) E hr hlk eQ hZ d_Mod_failing_27 ⟨_, rfl, hR, Or.inl ⟨fun j hj e => absurd (e ▸ c6) (nI_pos (by omega)), rfl⟩⟩
  · refine lv_iload_n hx hb d_Mod_failing_9 rfl (lv_at hl 1 rfl) ?_
    refine lv_aload_n hx hb d_Mod_failing_10 rfl (lv_at hl 0 rfl) ?_
    refine mm_get (v := .int ((va_up S 0 0) 24)) E hZ cl_Mod fl_Mod_99 (by decide) hR.1.1 rfl d_Mod_failing_11 ?_
    rw [show (va_up S 0 0) 24 = nI f from (va_up_ne _ _ (by decide)).trans (hf)]
    refine lv_icmp_ge (tgt := 26) hx hb d_Mod_failing_14 (by decide) (fun c14 => ?_) (fun c14 => ?_)
    · refine lv_iconst (v := 0) hx hb d_Mod_failing_26 (by decide) ?_
      exact mm_iret (v := 0) E hr hlk eQ hZ d_Mod_failing_27 ⟨_, rfl, hR, Or.inl ⟨fun j hj e => absurd c14 (Int32.not_le.mpr (e ▸ nI_lt hj (by omega))), rfl⟩⟩
    · obtain ⟨j, hj, rfl⟩ : ∃ j : Nat, j < f ∧ i = nI j := by
        rcases pk_ix i (show f < 2 ^ 31 by omega) with z | z | z
        · exact absurd z c6
        · exact absurd z c14
        · exact z
      refine lv_aload_n hx hb d_Mod_failing_17 rfl (lv_at hl 0 rfl) ?_
      refine mm_get (v := .ref (ad 25)) E hZ cl_Mod fl_Mod_69 (by decide) hR.1.1 rfl d_Mod_failing_18 ?_
      refine lv_iload_n hx hb d_Mod_failing_21 rfl (lv_at hl 1 rfl) ?_
      refine rr_iald 25 rfl rfl E hZ hR rfl (show j < 40 by omega) d_Mod_failing_22 ?_
      refine lv_goto (tgt := 27) hx hb d_Mod_failing_23 (by decide) ?_
      exact mm_iret (v := I 25 j) E hr hlk eQ hZ d_Mod_failing_27 ⟨_, rfl, hR, Or.inr ⟨j, hj, rfl, rfl⟩⟩
set_option maxHeartbeats 4000000 in
set_option maxRecDepth 100000 in
theorem c_Mod_state (l : Launch) (g : mm_G) {M : mm_M} {q : Nat} {ad : Nat → Nat} {I : Nat → Nat → Int32} {L : Nat → Nat → Int64} {S : Nat → Int32} {ck : Int64} (h0 : Rs g M q ad I L S ck) (i : Int32) : Ci l g y_Mod_state b_Mod_state 2 .int (rk 1 25 0 0) M [.ref q, .int i] (fun r M' => Rq g M M' q ad I L (va_up S 0 0) ck ∧ (((∀ j, j ≤ 199 → i ≠ nI j) ∧ r = (-101)) ∨ ∃ j, j ≤ 199 ∧ i = nI j ∧ r = I 7 j + (if ¬ I 14 j = 0 then 200 else if ¬ I 13 j = 0 then 100 else 0))) := by
  refine mm_enter (by decide) (Nat.le_of_ble_eq_true rfl) (fun pG eV s m args below meth cdx ls Q E hml hr hlk hnm hZ hl eQ => ?_)
  have hx := E.1
  have hb := E.2.1
  have hl : lv_has ls 2 [(0, .ref q), (1, .int i)] := hl
  have hR := h0.q
  refine lv_aload_n hx hb d_Mod_state_0 rfl (lv_at hl 0 rfl) ?_
  refine lv_iconst (v := 0) hx hb d_Mod_state_1 (by decide) ?_
  refine rr_put0 E hZ hR fl_Mod_72 d_Mod_state_2 (fun M H locs hZ hR => ?_)
  refine lv_iload_n hx hb d_Mod_state_5 rfl (lv_at hl 1 rfl) ?_
  refine lv_i2l hx hb d_Mod_state_6 rfl ?_
  refine lv_lconst (v := 0) hx hb d_Mod_state_7 (by decide) ?_
  refine lv_ldc2 (v := 199) hx hb E.2.2.1 (E.2.2.2.1 _ w_713) d_Mod_state_8 ?_
  refine mm_calli (mm_runS (As := [.long i.toInt64, .long 0, .long 199]) (rest := []) E hZ hml hl.1 lk_Mod_78 me_Mod_isIn st_Mod_isIn (c_Mod_isIn l g _ i.toInt64 0 199) ⟨Nat.le_of_ble_eq_true rfl, Nat.le_of_ble_eq_true rfl⟩ rfl (Nat.le_of_ble_eq_true rfl) d_Mod_state_11 ⟨Nat.le_of_ble_eq_true rfl, Nat.le_of_ble_eq_true rfl⟩) hZ (fun r1 M1 H locs hp hZ => ?_)
  rw [hp.1] at hZ
  replace hp := hp.2
  refine lv_if_ne (tgt := 20) hx hb d_Mod_state_14 (by decide) (fun c14 => ?_) (fun c14 => ?_)
  · obtain ⟨j, hj, rfl⟩ := in_nat (n := 199) rfl (by decide) (b32_ne0 (hp ▸ c14))
    refine lv_aload_n hx hb d_Mod_state_20 rfl (lv_at hl 0 rfl) ?_
    refine mm_get (v := .ref (ad 7)) E hZ cl_Mod fl_Mod_27 (by decide) hR.1.1 rfl d_Mod_state_21 ?_
    refine lv_iload_n hx hb d_Mod_state_24 rfl (lv_at hl 1 rfl) ?_
    refine rr_iald 7 rfl rfl E hZ hR rfl (show j < 200 by omega) d_Mod_state_25 ?_
    refine lv_aload_n hx hb d_Mod_state_26 rfl (lv_at hl 0 rfl) ?_
    refine mm_get (v := .ref (ad 14)) E hZ cl_Mod fl_Mod_48 (by decide) hR.1.1 rfl d_Mod_state_27 ?_
    refine lv_iload_n hx hb d_Mod_state_30 rfl (lv_at hl 1 rfl) ?_
    refine rr_zald 14 rfl rfl E hZ hR rfl (show j < 200 by omega) d_Mod_state_31 ?_
    refine lv_if_eq (tgt := 41) hx hb d_Mod_state_32 (by decide) (fun c32 => ?_) (fun c32 => ?_)
    · refine lv_aload_n hx hb d_Mod_state_41 rfl (lv_at hl 0 rfl) ?_
      refine mm_get (v := .ref (ad 13)) E hZ cl_Mod fl_Mod_45 (by decide) hR.1.1 rfl d_Mod_state_42 ?_
      refine lv_iload_n hx hb d_Mod_state_45 rfl (lv_at hl 1 rfl) ?_
      refine rr_zald 13 rfl rfl E hZ hR rfl (show j < 200 by omega) d_Mod_state_46 ?_
      refine lv_if_eq (tgt := 55) hx hb d_Mod_state_47 (by decide) (fun c47 => ?_) (fun c47 => ?_)
      · refine lv_iconst (v := 0) hx hb d_Mod_state_55 (by decide) ?_
        refine lv_iadd hx hb d_Mod_state_56 ?_
        exact mm_iret (v := (I 7 j) + 0) E hr hlk eQ hZ d_Mod_state_57 ⟨_, rfl, hR, Or.inr ⟨j, hj, rfl, by rw [if_neg (fun q => q c32), if_neg (fun q => q c47)]⟩⟩
      · refine lv_bipush (v := 100) hx hb d_Mod_state_50 (by decide) ?_
        refine lv_goto (tgt := 56) hx hb d_Mod_state_52 (by decide) ?_
        refine lv_iadd hx hb d_Mod_state_56 ?_
        exact mm_iret (v := (I 7 j) + 100) E hr hlk eQ hZ d_Mod_state_57 ⟨_, rfl, hR, Or.inr ⟨j, hj, rfl, by rw [if_neg (fun q => q c32), if_pos c47]⟩⟩
    · refine lv_sipush (v := 200) hx hb d_Mod_state_35 (by decide) ?_
      refine lv_goto (tgt := 56) hx hb d_Mod_state_38 (by decide) ?_
      refine lv_iadd hx hb d_Mod_state_56 ?_
      exact mm_iret (v := (I 7 j) + 200) E hr hlk eQ hZ d_Mod_state_57 ⟨_, rfl, hR, Or.inr ⟨j, hj, rfl, by rw [if_pos c32]⟩⟩
  · refine lv_bipush (v := (-101)) hx hb d_Mod_state_17 (by decide) ?_
    exact mm_iret (v := (-101)) E hr hlk eQ hZ d_Mod_state_19 ⟨_, rfl, hR, Or.inl ⟨out_nat (by decide) (by decide) (b32_eq0.mp (hp ▸ c14)), rfl⟩⟩
set_option maxHeartbeats 4000000 in
set_option maxRecDepth 100000 in
theorem c_Mod_found (l : Launch) (g : mm_G) {M : mm_M} {q : Nat} {ad : Nat → Nat} {I : Nat → Nat → Int32} {L : Nat → Nat → Int64} {S : Nat → Int32} {ck : Int64} (h0 : Rs g M q ad I L S ck) (i : Int32) (t : Int64) : Ci l g y_Mod_found b_Mod_found 4 .int (rk 2 48 0 0) M [.ref q, .int i, .long t] (fun r M' => ((∀ j, j ≤ 199 → i ≠ nI j) ∧ r = (-101) ∧ Rq g M M' q ad I L (va_up S 0 0) ck) ∨ ∃ j, j ≤ 199 ∧ i = nI j ∧ ((¬ rTime I L j t ∧ r = (-102) ∧ Rq g M M' q ad I L (va_up S 0 0) ck) ∨ (rTime I L j t ∧ I 14 j = 0 ∧ r = 0 ∧ Rq g M M' q ad I L (va_up S 0 0) ck) ∨ (rTime I L j t ∧ ¬ I 14 j = 0 ∧ r = 1 ∧ Rq g M M' q ad (rEnd I j) (up2 L 9 j t) (va_up S 0 0) ck))) := by
  refine mm_enter (by decide) (Nat.le_of_ble_eq_true rfl) (fun pG eV s m args below meth cdx ls Q E hml hr hlk hnm hZ hl eQ => ?_)
  have hx := E.1
  have hb := E.2.1
  have hl : lv_has ls 4 [(0, .ref q), (1, .int i), (2, .long t)] := hl
  have hR := h0.q
  refine lv_aload_n hx hb d_Mod_found_0 rfl (lv_at hl 0 rfl) ?_
  refine lv_iconst (v := 0) hx hb d_Mod_found_1 (by decide) ?_
  refine rr_put0 E hZ hR fl_Mod_72 d_Mod_found_2 (fun M H locs hZ hR => ?_)
  refine lv_iload_n hx hb d_Mod_found_5 rfl (lv_at hl 1 rfl) ?_
  refine lv_i2l hx hb d_Mod_found_6 rfl ?_
  refine lv_lconst (v := 0) hx hb d_Mod_found_7 (by decide) ?_
  refine lv_ldc2 (v := 199) hx hb E.2.2.1 (E.2.2.2.1 _ w_713) d_Mod_found_8 ?_
  refine mm_calli (mm_runS (As := [.long i.toInt64, .long 0, .long 199]) (rest := []) E hZ hml hl.1 lk_Mod_78 me_Mod_isIn st_Mod_isIn (c_Mod_isIn l g _ i.toInt64 0 199) ⟨Nat.le_of_ble_eq_true rfl, Nat.le_of_ble_eq_true rfl⟩ rfl (Nat.le_of_ble_eq_true rfl) d_Mod_found_11 ⟨Nat.le_of_ble_eq_true rfl, Nat.le_of_ble_eq_true rfl⟩) hZ (fun r1 M1 H locs hp hZ => ?_)
  rw [hp.1] at hZ
  replace hp := hp.2
  refine lv_if_ne (tgt := 20) hx hb d_Mod_found_14 (by decide) (fun c14 => ?_) (fun c14 => ?_)
  · obtain ⟨j, hj, rfl⟩ := in_nat (n := 199) rfl (by decide) (b32_ne0 (hp ▸ c14))
    clear hp
    refine lv_aload_n hx hb d_Mod_found_20 rfl (lv_at hl 0 rfl) ?_
    refine lv_iload_n hx hb d_Mod_found_21 rfl (lv_at hl 1 rfl) ?_
    refine lv_lload_n hx hb d_Mod_found_22 rfl (lv_at hl 2 rfl) ?_
    refine mm_calli (mm_runV (As := [.int (nI j), .long t]) (rest := []) E hZ hml hl.1 lk_Mod_106 me_Mod_isTime in_Mod_isTime (c_Mod_isTime l g hR.1 (i := j) (by omega) t) hR.1.1 cl_Mod.1 ⟨Nat.le_of_ble_eq_true rfl, Nat.le_of_ble_eq_true rfl⟩ rfl (Nat.le_of_ble_eq_true rfl) d_Mod_found_23 ⟨Nat.le_of_ble_eq_true rfl, Nat.le_of_ble_eq_true rfl⟩) hZ (fun r2 M1 H locs hp hZ => ?_)
    rw [hp.1] at hZ
    replace hp := hp.2
    refine lv_if_ne (tgt := 32) hx hb d_Mod_found_26 (by decide) (fun c26 => ?_) (fun c26 => ?_)
    · have hT : rTime I L j t := b32_ne0 (hp ▸ c26)
      clear hp
      refine lv_aload_n hx hb d_Mod_found_32 rfl (lv_at hl 0 rfl) ?_
      refine mm_get (v := .ref (ad 14)) E hZ cl_Mod fl_Mod_48 (by decide) hR.1.1 rfl d_Mod_found_33 ?_
      refine lv_iload_n hx hb d_Mod_found_36 rfl (lv_at hl 1 rfl) ?_
      refine rr_zald 14 rfl rfl E hZ hR rfl (show j < 200 by omega) d_Mod_found_37 ?_
      refine lv_if_ne (tgt := 43) hx hb d_Mod_found_38 (by decide) (fun c38 => ?_) (fun c38 => ?_)
      · refine lv_aload_n hx hb d_Mod_found_43 rfl (lv_at hl 0 rfl) ?_
        refine lv_iload_n hx hb d_Mod_found_44 rfl (lv_at hl 1 rfl) ?_
        refine mm_callv (mm_runV (As := [.int (nI j)]) (rest := []) E hZ hml hl.1 lk_Mod_110 me_Mod_end in_Mod_end (c_Mod_end l g hR.1 (i := j) (by omega)) hR.1.1 cl_Mod.1 ⟨Nat.le_of_ble_eq_true rfl, Nat.le_of_ble_eq_true rfl⟩ rfl (Nat.le_of_ble_eq_true rfl) d_Mod_found_45 ⟨Nat.le_of_ble_eq_true rfl, Nat.le_of_ble_eq_true rfl⟩) hZ (fun M1 H locs hp hZ => ?_)
        replace hR := hR.step hp
        generalize M1 = M at hZ hR
        refine lv_aload_n hx hb d_Mod_found_48 rfl (lv_at hl 0 rfl) ?_
        refine mm_get (v := .ref (ad 9)) E hZ cl_Mod fl_Mod_33 (by decide) hR.1.1 rfl d_Mod_found_49 ?_
        refine lv_iload_n hx hb d_Mod_found_52 rfl (lv_at hl 1 rfl) ?_
        refine lv_lload_n hx hb d_Mod_found_53 rfl (lv_at hl 2 rfl) ?_
        refine rr_last 9 rfl E hZ hR rfl (show j < 200 by omega) d_Mod_found_54 (fun M H locs hZ hR => ?_)
        refine lv_iconst (v := 1) hx hb d_Mod_found_55 (by decide) ?_
        exact mm_iret (v := 1) E hr hlk eQ hZ d_Mod_found_56 ⟨_, rfl, Or.inr ⟨j, hj, rfl, Or.inr (Or.inr ⟨hT, c38, rfl, hR⟩)⟩⟩
      · refine lv_iconst (v := 0) hx hb d_Mod_found_41 (by decide) ?_
        exact mm_iret (v := 0) E hr hlk eQ hZ d_Mod_found_42 ⟨_, rfl, Or.inr ⟨j, hj, rfl, Or.inr (Or.inl ⟨hT, c38, rfl, hR⟩)⟩⟩
    · refine lv_bipush (v := (-102)) hx hb d_Mod_found_29 (by decide) ?_
      exact mm_iret (v := (-102)) E hr hlk eQ hZ d_Mod_found_31 ⟨_, rfl, Or.inr ⟨j, hj, rfl, Or.inl ⟨b32_eq0.mp (hp ▸ c26), rfl, hR⟩⟩⟩
  · refine lv_bipush (v := (-101)) hx hb d_Mod_found_17 (by decide) ?_
    exact mm_iret (v := (-101)) E hr hlk eQ hZ d_Mod_found_19 ⟨_, rfl, Or.inl ⟨out_nat (by decide) (by decide) (b32_eq0.mp (hp ▸ c14)), rfl, hR⟩⟩
set_option maxHeartbeats 4000000 in
set_option maxRecDepth 100000 in
theorem c_Mod_holiday (l : Launch) (g : mm_G) {M : mm_M} {q : Nat} {ad : Nat → Nat} {I : Nat → Nat → Int32} {L : Nat → Nat → Int64} {S : Nat → Int32} {ck : Int64} (h0 : Rs g M q ad I L S ck) (t : Int64) {n : Nat} (hn : S 16 = nI n) : Ci l g y_Mod_holiday b_Mod_holiday 3 .int (rk 1 25 0 0) M [.ref q, .long t] (fun r M' => ((∀ j, j ≤ 20000 → t ≠ lN j) ∧ r = (-102) ∧ Rq g M M' q ad I L (va_up S 0 0) ck) ∨ ∃ j, j ≤ 20000 ∧ t = lN j ∧ ((¬ I 15 j = 0 ∧ r = 0 ∧ Rq g M M' q ad I L (va_up S 0 0) ck) ∨ (I 15 j = 0 ∧ nI n = 100 ∧ r = (-104) ∧ Rq g M M' q ad I L (va_up S 0 0) ck) ∨ (I 15 j = 0 ∧ ¬ nI n = 100 ∧ r = 1 ∧ Rq g M M' q ad (up2 I 15 j 1) L (va_up (va_up S 0 0) 16 (nI (n + 1))) ck))) := by
  refine mm_enter (by decide) (Nat.le_of_ble_eq_true rfl) (fun pG eV s m args below meth cdx ls Q E hml hr hlk hnm hZ hl eQ => ?_)
  have hx := E.1
  have hb := E.2.1
  have hl : lv_has ls 3 [(0, .ref q), (1, .long t)] := hl
  have hR := h0.q
  refine lv_aload_n hx hb d_Mod_holiday_0 rfl (lv_at hl 0 rfl) ?_
  refine lv_iconst (v := 0) hx hb d_Mod_holiday_1 (by decide) ?_
  refine rr_put0 E hZ hR fl_Mod_72 d_Mod_holiday_2 (fun M H locs hZ hR => ?_)
  refine lv_lload_n hx hb d_Mod_holiday_5 rfl (lv_at hl 1 rfl) ?_
  refine lv_lconst (v := 0) hx hb d_Mod_holiday_6 (by decide) ?_
  refine lv_ldc2 (v := 20000) hx hb E.2.2.1 (E.2.2.2.1 _ w_737) d_Mod_holiday_7 ?_
  refine mm_calli (mm_runS (As := [.long t, .long 0, .long 20000]) (rest := []) E hZ hml hl.1 lk_Mod_78 me_Mod_isIn st_Mod_isIn (c_Mod_isIn l g _ t 0 20000) ⟨Nat.le_of_ble_eq_true rfl, Nat.le_of_ble_eq_true rfl⟩ rfl (Nat.le_of_ble_eq_true rfl) d_Mod_holiday_10 ⟨Nat.le_of_ble_eq_true rfl, Nat.le_of_ble_eq_true rfl⟩) hZ (fun r1 M1 H locs hp hZ => ?_)
  rw [hp.1] at hZ
  replace hp := hp.2
  refine lv_if_ne (tgt := 19) hx hb d_Mod_holiday_13 (by decide) (fun c13 => ?_) (fun c13 => ?_)
  · obtain ⟨j, hj, rfl⟩ := lin_nat (n := 20000) (by decide) (b32_ne0 (hp ▸ c13))
    refine lv_aload_n hx hb d_Mod_holiday_19 rfl (lv_at hl 0 rfl) ?_
    refine mm_get (v := .ref (ad 15)) E hZ cl_Mod fl_Mod_51 (by decide) hR.1.1 rfl d_Mod_holiday_20 ?_
    refine lv_lload_n hx hb d_Mod_holiday_23 rfl (lv_at hl 1 rfl) ?_
    refine lv_l2i hx hb d_Mod_holiday_24 rfl ?_
    refine rr_zald 15 rfl rfl E hZ hR (lN_i j) (show j < 20001 by omega) d_Mod_holiday_25 ?_
    refine lv_if_eq (tgt := 31) hx hb d_Mod_holiday_26 (by decide) (fun c26 => ?_) (fun c26 => ?_)
    · refine lv_aload_n hx hb d_Mod_holiday_31 rfl (lv_at hl 0 rfl) ?_
      refine mm_get (v := .int ((va_up S 0 0) 16)) E hZ cl_Mod fl_Mod_140 (by decide) hR.1.1 rfl d_Mod_holiday_32 ?_
      rw [show (va_up S 0 0) 16 = nI n from (va_up_ne _ _ (by decide)).trans (hn)]
      refine lv_bipush (v := 100) hx hb d_Mod_holiday_35 (by decide) ?_
      refine lv_icmp_ne (tgt := 43) hx hb d_Mod_holiday_37 (by decide) (fun c37 => ?_) (fun c37 => ?_)
      · refine lv_aload_n hx hb d_Mod_holiday_43 rfl (lv_at hl 0 rfl) ?_
        refine mm_get (v := .ref (ad 15)) E hZ cl_Mod fl_Mod_51 (by decide) hR.1.1 rfl d_Mod_holiday_44 ?_
        refine lv_lload_n hx hb d_Mod_holiday_47 rfl (lv_at hl 1 rfl) ?_
        refine lv_l2i hx hb d_Mod_holiday_48 rfl ?_
        refine lv_iconst (v := 1) hx hb d_Mod_holiday_49 (by decide) ?_
        refine rr_zast 15 rfl rfl E hZ hR bo_1 (lN_i j) (show j < 20001 by omega) d_Mod_holiday_50 (fun M H locs hZ hR => ?_)
        refine lv_aload_n hx hb d_Mod_holiday_51 rfl (lv_at hl 0 rfl) ?_
        refine lv_dup hx hb d_Mod_holiday_52 rfl ?_
        refine mm_get (v := .int ((va_up S 0 0) 16)) E hZ cl_Mod fl_Mod_140 (by decide) hR.1.1 rfl d_Mod_holiday_53 ?_
        rw [show (va_up S 0 0) 16 = nI n from (va_up_ne _ _ (by decide)).trans (hn)]
        refine lv_iconst (v := 1) hx hb d_Mod_holiday_56 (by decide) ?_
        refine lv_iadd hx hb d_Mod_holiday_57 ?_
        refine rr_put16 E hZ hR fl_Mod_140 d_Mod_holiday_58 (fun M H locs hZ hR => ?_)
        refine lv_iconst (v := 1) hx hb d_Mod_holiday_61 (by decide) ?_
        exact mm_iret (v := 1) E hr hlk eQ hZ d_Mod_holiday_62 ⟨_, rfl, Or.inr ⟨j, hj, rfl, Or.inr (Or.inr ⟨c26, c37, rfl, by rw [nI_1] at hR; exact hR⟩)⟩⟩
      · refine lv_bipush (v := (-104)) hx hb d_Mod_holiday_40 (by decide) ?_
        exact mm_iret (v := (-104)) E hr hlk eQ hZ d_Mod_holiday_42 ⟨_, rfl, Or.inr ⟨j, hj, rfl, Or.inr (Or.inl ⟨c26, c37, rfl, hR⟩)⟩⟩
    · refine lv_iconst (v := 0) hx hb d_Mod_holiday_29 (by decide) ?_
      exact mm_iret (v := 0) E hr hlk eQ hZ d_Mod_holiday_30 ⟨_, rfl, Or.inr ⟨j, hj, rfl, Or.inl ⟨c26, rfl, hR⟩⟩⟩
  · refine lv_bipush (v := (-102)) hx hb d_Mod_holiday_16 (by decide) ?_
    exact mm_iret (v := (-102)) E hr hlk eQ hZ d_Mod_holiday_18 ⟨_, rfl, Or.inl ⟨fun j hj e => b32_eq0.mp (hp ▸ c13) (e ▸ lnat_in hj (by decide) (by decide)), rfl, hR⟩⟩
end
section
/-! THE REFERENCE: alarm, rule, tell, fails, rowFor -/
theorem nI_5 (j u : Nat) : 5 * nI j + nI u = nI (5 * j + u) := by rw [show (5 : Int32) = nI 5 from rfl, pk_mul, nI_add]
theorem nI_50 (j : Nat) : 5 * nI j = nI (5 * j) := by rw [show (5 : Int32) = nI 5 from rfl, pk_mul]
/-- what a row may be -/
abbrev rCond (st pl sv : Int32) (wi : Int64) : Prop := (0 ≤ st.toInt64 ∧ st.toInt64 ≤ 8) ∧ ((-1) ≤ pl.toInt64 ∧ pl.toInt64 ≤ 49) ∧ ((-1) ≤ sv.toInt64 ∧ sv.toInt64 ≤ 4) ∧ (0 ≤ wi ∧ wi ≤ 10000000)
/-- the row k is for these -/
abbrev rowOk (I : Nat → Nat → Int32) (st pl sv : Int32) (k : Nat) : Prop := I 2 k = st ∧ (I 3 k < 0 ∨ I 3 k = pl) ∧ (I 4 k < 0 ∨ I 4 k = sv)
set_option maxHeartbeats 4000000 in
set_option maxRecDepth 100000 in
theorem c_Mod_alarm (l : Launch) (g : mm_G) {M : mm_M} {q : Nat} {ad : Nat → Nat} {I : Nat → Nat → Int32} {L : Nat → Nat → Int64} {S : Nat → Int32} {ck : Int64} (h0 : Rs g M q ad I L S ck) (i u : Int32) {n : Nat} (hn : S 18 = nI n) (hn2 : n < 2 ^ 31) : Ci l g y_Mod_alarm b_Mod_alarm 3 .int (rk 0 0 0 0) M [.ref q, .int i, .int u] (fun r M' => Rq g M M' q ad I L (va_up S 0 0) ck ∧ (((∀ j v, j < n → j < 400 → v < 5 → ¬ (i = nI j ∧ u = nI v)) ∧ r = (-1)) ∨ ∃ j v, j < n ∧ j < 400 ∧ v < 5 ∧ i = nI j ∧ u = nI v ∧ r = (L 19 (5 * j + v)).toInt32)) := by
  refine mm_enter (by decide) (Nat.le_of_ble_eq_true rfl) (fun pG eV s m args below meth cdx ls Q E hml hr hlk hnm hZ hl eQ => ?_)
  have hx := E.1
  have hb := E.2.1
  have hl : lv_has ls 3 [(0, .ref q), (1, .int i), (2, .int u)] := hl
  have hR := h0.q
  refine lv_aload_n hx hb d_Mod_alarm_0 rfl (lv_at hl 0 rfl) ?_
  refine lv_iconst (v := 0) hx hb d_Mod_alarm_1 (by decide) ?_
  refine rr_put0 E hZ hR fl_Mod_72 d_Mod_alarm_2 (fun M H locs hZ hR => ?_)
  refine lv_iload_n hx hb d_Mod_alarm_5 rfl (lv_at hl 1 rfl) ?_
  refine lv_if_lt (tgt := 33) hx hb d_Mod_alarm_6 (by decide) (fun c6 => ?_) (fun c6 => ?_)
  · refine lv_iconst (v := (-1)) hx hb d_Mod_alarm_33 (by decide) ?_
    refine lv_goto (tgt := 48) hx hb d_Mod_alarm_34 (by decide) ?_
    exact mm_iret (v := (-1)) E hr hlk eQ hZ d_Mod_alarm_48 ⟨_, rfl, hR, Or.inl ⟨fun j v hj h4 hv e => absurd (e.1 ▸ c6) (nI_pos (by omega)), rfl⟩⟩
  · refine lv_iload_n hx hb d_Mod_alarm_9 rfl (lv_at hl 1 rfl) ?_
    refine lv_aload_n hx hb d_Mod_alarm_10 rfl (lv_at hl 0 rfl) ?_
    refine mm_get (v := .int ((va_up S 0 0) 18)) E hZ cl_Mod fl_Mod_125 (by decide) hR.1.1 rfl d_Mod_alarm_11 ?_
    rw [show (va_up S 0 0) 18 = nI n from (va_up_ne _ _ (by decide)).trans (hn)]
    refine lv_icmp_ge (tgt := 33) hx hb d_Mod_alarm_14 (by decide) (fun c14 => ?_) (fun c14 => ?_)
    · refine lv_iconst (v := (-1)) hx hb d_Mod_alarm_33 (by decide) ?_
      refine lv_goto (tgt := 48) hx hb d_Mod_alarm_34 (by decide) ?_
      exact mm_iret (v := (-1)) E hr hlk eQ hZ d_Mod_alarm_48 ⟨_, rfl, hR, Or.inl ⟨fun j v hj h4 hv e => absurd c14 (Int32.not_le.mpr (e.1 ▸ nI_lt hj (by omega))), rfl⟩⟩
    · refine lv_iload_n hx hb d_Mod_alarm_17 rfl (lv_at hl 1 rfl) ?_
      refine lv_sipush (v := 399) hx hb d_Mod_alarm_18 (by decide) ?_
      refine lv_icmp_gt (tgt := 33) hx hb d_Mod_alarm_21 (by decide) (fun c21 => ?_) (fun c21 => ?_)
      · refine lv_iconst (v := (-1)) hx hb d_Mod_alarm_33 (by decide) ?_
        refine lv_goto (tgt := 48) hx hb d_Mod_alarm_34 (by decide) ?_
        exact mm_iret (v := (-1)) E hr hlk eQ hZ d_Mod_alarm_48 ⟨_, rfl, hR, Or.inl ⟨fun j v hj h4 hv e => absurd (show nI 399 < nI j from e.1 ▸ c21) (nI_nlt (by omega) (by omega)), rfl⟩⟩
      · refine lv_iload_n hx hb d_Mod_alarm_24 rfl (lv_at hl 2 rfl) ?_
        refine lv_if_lt (tgt := 33) hx hb d_Mod_alarm_25 (by decide) (fun c25 => ?_) (fun c25 => ?_)
        · refine lv_iconst (v := (-1)) hx hb d_Mod_alarm_33 (by decide) ?_
          refine lv_goto (tgt := 48) hx hb d_Mod_alarm_34 (by decide) ?_
          exact mm_iret (v := (-1)) E hr hlk eQ hZ d_Mod_alarm_48 ⟨_, rfl, hR, Or.inl ⟨fun j v hj h4 hv e => absurd (e.2 ▸ c25) (nI_pos (by omega)), rfl⟩⟩
        · refine lv_iload_n hx hb d_Mod_alarm_28 rfl (lv_at hl 2 rfl) ?_
          refine lv_iconst (v := 4) hx hb d_Mod_alarm_29 (by decide) ?_
          refine lv_icmp_le (tgt := 37) hx hb d_Mod_alarm_30 (by decide) (fun c30 => ?_) (fun c30 => ?_)
          · obtain ⟨j, hj, rfl⟩ : ∃ j : Nat, j < n ∧ i = nI j := by
              rcases pk_ix i hn2 with z | z | z
              · exact absurd z c6
              · exact absurd z c14
              · exact z
            obtain ⟨v, hv, rfl⟩ : ∃ v : Nat, v < 5 ∧ u = nI v := by
              rcases pk_ix u (show 5 < 2 ^ 31 by decide) with z | z | z
              · exact absurd z c25
              · exact absurd (show nI 5 ≤ 4 from Int32.le_trans z c30) (by decide)
              · exact z
            have h4 : j < 400 := by
              rcases Nat.lt_or_ge j 400 with z | z
              · exact z
              · exact absurd (show nI 399 < nI j from nI_lt (by omega) (by omega)) c21
            refine lv_aload_n hx hb d_Mod_alarm_37 rfl (lv_at hl 0 rfl) ?_
            refine mm_get (v := .ref (ad 19)) E hZ cl_Mod fl_Mod_54 (by decide) hR.1.1 rfl d_Mod_alarm_38 ?_
            refine lv_iconst (v := 5) hx hb d_Mod_alarm_41 (by decide) ?_
            refine lv_iload_n hx hb d_Mod_alarm_42 rfl (lv_at hl 1 rfl) ?_
            refine lv_imul hx hb d_Mod_alarm_43 ?_
            refine lv_iload_n hx hb d_Mod_alarm_44 rfl (lv_at hl 2 rfl) ?_
            refine lv_iadd hx hb d_Mod_alarm_45 ?_
            refine rr_lald 19 rfl E hZ hR (nI_5 j v) (show (5 * j + v) < 2000 by omega) d_Mod_alarm_46 ?_
            refine lv_l2i hx hb d_Mod_alarm_47 rfl ?_
            exact mm_iret (v := (L 19 (5 * j + v)).toInt32) E hr hlk eQ hZ d_Mod_alarm_48 ⟨_, rfl, hR, Or.inr ⟨j, v, hj, h4, hv, rfl, rfl, rfl⟩⟩
          · refine lv_iconst (v := (-1)) hx hb d_Mod_alarm_33 (by decide) ?_
            refine lv_goto (tgt := 48) hx hb d_Mod_alarm_34 (by decide) ?_
            exact mm_iret (v := (-1)) E hr hlk eQ hZ d_Mod_alarm_48 ⟨_, rfl, hR, Or.inl ⟨fun j v hj h4 hv e => absurd (show nI v ≤ nI 4 from nI_le (by omega) (by decide)) (e.2 ▸ c30), rfl⟩⟩
set_option maxHeartbeats 4000000 in
set_option maxRecDepth 100000 in
theorem c_Mod_rule (l : Launch) (g : mm_G) {M : mm_M} {q : Nat} {ad : Nat → Nat} {I : Nat → Nat → Int32} {L : Nat → Nat → Int64} {S : Nat → Int32} {ck : Int64} (h0 : Rs g M q ad I L S ck) (st pl sv : Int32) (wi : Int64) {fl : Int32} (hfl : bo fl) {n : Nat} (hn : S 1 = nI n) (hn4 : n ≤ 40) : Ci l g y_Mod_rule b_Mod_rule 7 .int (rk 1 25 0 0) M [.ref q, .int st, .int pl, .int sv, .long wi, .int fl] (fun r M' => (¬ rCond st pl sv wi ∧ r = (-102) ∧ Rq g M M' q ad I L (va_up S 0 0) ck) ∨ (rCond st pl sv wi ∧ nI n = 40 ∧ r = (-104) ∧ Rq g M M' q ad I L (va_up S 0 0) ck) ∨ (rCond st pl sv wi ∧ n < 40 ∧ r = nI (n + 1) ∧ Rq g M M' q ad (up2 (up2 (up2 (up2 I 2 (n + 1) st) 3 (n + 1) pl) 4 (n + 1) sv) 6 (n + 1) fl) (up2 L 5 (n + 1) wi) (va_up (va_up S 0 0) 1 (nI (n + 1))) ck)) := by
  refine mm_enter (by decide) (Nat.le_of_ble_eq_true rfl) (fun pG eV s m args below meth cdx ls Q E hml hr hlk hnm hZ hl eQ => ?_)
  have hx := E.1
  have hb := E.2.1
  have hl : lv_has ls 7 [(0, .ref q), (1, .int st), (2, .int pl), (3, .int sv), (4, .long wi), (6, .int fl)] := hl
  have hR := h0.q
  refine lv_aload_n hx hb d_Mod_rule_0 rfl (lv_at hl 0 rfl) ?_
  refine lv_iconst (v := 0) hx hb d_Mod_rule_1 (by decide) ?_
  refine rr_put0 E hZ hR fl_Mod_72 d_Mod_rule_2 (fun M H locs hZ hR => ?_)
  refine lv_iload_n hx hb d_Mod_rule_5 rfl (lv_at hl 1 rfl) ?_
  refine lv_i2l hx hb d_Mod_rule_6 rfl ?_
  refine lv_lconst (v := 0) hx hb d_Mod_rule_7 (by decide) ?_
  refine lv_ldc2 (v := 8) hx hb E.2.2.1 (E.2.2.2.1 _ w_701) d_Mod_rule_8 ?_
  refine mm_calli (mm_runS (As := [.long st.toInt64, .long 0, .long 8]) (rest := []) E hZ hml hl.1 lk_Mod_78 me_Mod_isIn st_Mod_isIn (c_Mod_isIn l g _ st.toInt64 0 8) ⟨Nat.le_of_ble_eq_true rfl, Nat.le_of_ble_eq_true rfl⟩ rfl (Nat.le_of_ble_eq_true rfl) d_Mod_rule_11 ⟨Nat.le_of_ble_eq_true rfl, Nat.le_of_ble_eq_true rfl⟩) hZ (fun r1 M1 H locs hp hZ => ?_)
  rw [hp.1] at hZ
  replace hp := hp.2
  have hp1 := hp
  clear hp
  refine lv_if_eq (tgt := 57) hx hb d_Mod_rule_14 (by decide) (fun c14 => ?_) (fun c14 => ?_)
  · refine lv_bipush (v := (-102)) hx hb d_Mod_rule_57 (by decide) ?_
    exact mm_iret (v := (-102)) E hr hlk eQ hZ d_Mod_rule_59 ⟨_, rfl, Or.inl ⟨fun z => b32_eq0.mp (hp1 ▸ c14) z.1, rfl, hR⟩⟩
  · refine lv_iload_n hx hb d_Mod_rule_17 rfl (lv_at hl 2 rfl) ?_
    refine lv_i2l hx hb d_Mod_rule_18 rfl ?_
    refine lv_ldc2 (v := (-1)) hx hb E.2.2.1 (E.2.2.2.1 _ w_705) d_Mod_rule_19 ?_
    refine lv_ldc2 (v := 49) hx hb E.2.2.1 (E.2.2.2.1 _ w_706) d_Mod_rule_22 ?_
    refine mm_calli (mm_runS (As := [.long pl.toInt64, .long (-1), .long 49]) (rest := []) E hZ hml hl.1 lk_Mod_78 me_Mod_isIn st_Mod_isIn (c_Mod_isIn l g _ pl.toInt64 (-1) 49) ⟨Nat.le_of_ble_eq_true rfl, Nat.le_of_ble_eq_true rfl⟩ rfl (Nat.le_of_ble_eq_true rfl) d_Mod_rule_25 ⟨Nat.le_of_ble_eq_true rfl, Nat.le_of_ble_eq_true rfl⟩) hZ (fun r2 M1 H locs hp hZ => ?_)
    rw [hp.1] at hZ
    replace hp := hp.2
    have hp2 := hp
    clear hp
    refine lv_if_eq (tgt := 57) hx hb d_Mod_rule_28 (by decide) (fun c28 => ?_) (fun c28 => ?_)
    · refine lv_bipush (v := (-102)) hx hb d_Mod_rule_57 (by decide) ?_
      exact mm_iret (v := (-102)) E hr hlk eQ hZ d_Mod_rule_59 ⟨_, rfl, Or.inl ⟨fun z => b32_eq0.mp (hp2 ▸ c28) z.2.1, rfl, hR⟩⟩
    · refine lv_iload_n hx hb d_Mod_rule_31 rfl (lv_at hl 3 rfl) ?_
      refine lv_i2l hx hb d_Mod_rule_32 rfl ?_
      refine lv_ldc2 (v := (-1)) hx hb E.2.2.1 (E.2.2.2.1 _ w_705) d_Mod_rule_33 ?_
      refine lv_ldc2 (v := 4) hx hb E.2.2.1 (E.2.2.2.1 _ w_707) d_Mod_rule_36 ?_
      refine mm_calli (mm_runS (As := [.long sv.toInt64, .long (-1), .long 4]) (rest := []) E hZ hml hl.1 lk_Mod_78 me_Mod_isIn st_Mod_isIn (c_Mod_isIn l g _ sv.toInt64 (-1) 4) ⟨Nat.le_of_ble_eq_true rfl, Nat.le_of_ble_eq_true rfl⟩ rfl (Nat.le_of_ble_eq_true rfl) d_Mod_rule_39 ⟨Nat.le_of_ble_eq_true rfl, Nat.le_of_ble_eq_true rfl⟩) hZ (fun r3 M1 H locs hp hZ => ?_)
      rw [hp.1] at hZ
      replace hp := hp.2
      have hp3 := hp
      clear hp
      refine lv_if_eq (tgt := 57) hx hb d_Mod_rule_42 (by decide) (fun c42 => ?_) (fun c42 => ?_)
      · refine lv_bipush (v := (-102)) hx hb d_Mod_rule_57 (by decide) ?_
        exact mm_iret (v := (-102)) E hr hlk eQ hZ d_Mod_rule_59 ⟨_, rfl, Or.inl ⟨fun z => b32_eq0.mp (hp3 ▸ c42) z.2.2.1, rfl, hR⟩⟩
      · refine lv_lload hx hb d_Mod_rule_45 (lv_at hl 4 rfl) ?_
        refine lv_lconst (v := 0) hx hb d_Mod_rule_47 (by decide) ?_
        refine lv_ldc2 (v := 10000000) hx hb E.2.2.1 (E.2.2.2.1 _ w_708) d_Mod_rule_48 ?_
        refine mm_calli (mm_runS (As := [.long wi, .long 0, .long 10000000]) (rest := []) E hZ hml hl.1 lk_Mod_78 me_Mod_isIn st_Mod_isIn (c_Mod_isIn l g _ wi 0 10000000) ⟨Nat.le_of_ble_eq_true rfl, Nat.le_of_ble_eq_true rfl⟩ rfl (Nat.le_of_ble_eq_true rfl) d_Mod_rule_51 ⟨Nat.le_of_ble_eq_true rfl, Nat.le_of_ble_eq_true rfl⟩) hZ (fun r4 M1 H locs hp hZ => ?_)
        rw [hp.1] at hZ
        replace hp := hp.2
        have hp4 := hp
        clear hp
        refine lv_if_ne (tgt := 60) hx hb d_Mod_rule_54 (by decide) (fun c54 => ?_) (fun c54 => ?_)
        · have hC : rCond st pl sv wi := ⟨b32_ne0 (hp1 ▸ c14), b32_ne0 (hp2 ▸ c28), b32_ne0 (hp3 ▸ c42), b32_ne0 (hp4 ▸ c54)⟩
          refine lv_aload_n hx hb d_Mod_rule_60 rfl (lv_at hl 0 rfl) ?_
          refine mm_get (v := .int ((va_up S 0 0) 1)) E hZ cl_Mod fl_Mod_90 (by decide) hR.1.1 rfl d_Mod_rule_61 ?_
          rw [show (va_up S 0 0) 1 = nI n from (va_up_ne _ _ (by decide)).trans (hn)]
          refine lv_bipush (v := 40) hx hb d_Mod_rule_64 (by decide) ?_
          refine lv_icmp_ne (tgt := 72) hx hb d_Mod_rule_66 (by decide) (fun c66 => ?_) (fun c66 => ?_)
          · have hn4 : n < 40 := by
              rcases Nat.lt_or_ge n 40 with z | z
              · exact z
              · exact absurd (show nI n = nI 40 by rw [show n = 40 by omega]) c66
            refine lv_aload_n hx hb d_Mod_rule_72 rfl (lv_at hl 0 rfl) ?_
            refine lv_dup hx hb d_Mod_rule_73 rfl ?_
            refine mm_get (v := .int ((va_up S 0 0) 1)) E hZ cl_Mod fl_Mod_90 (by decide) hR.1.1 rfl d_Mod_rule_74 ?_
            rw [show (va_up S 0 0) 1 = nI n from (va_up_ne _ _ (by decide)).trans (hn)]
            refine lv_iconst (v := 1) hx hb d_Mod_rule_77 (by decide) ?_
            refine lv_iadd hx hb d_Mod_rule_78 ?_
            refine rr_put1 E hZ hR fl_Mod_90 d_Mod_rule_79 (fun M H locs hZ hR => ?_)
            refine lv_aload_n hx hb d_Mod_rule_82 rfl (lv_at hl 0 rfl) ?_
            refine mm_get (v := .ref (ad 2)) E hZ cl_Mod fl_Mod_7 (by decide) hR.1.1 rfl d_Mod_rule_83 ?_
            refine lv_aload_n hx hb d_Mod_rule_86 rfl (lv_at hl 0 rfl) ?_
            refine mm_get (v := .int ((va_up (va_up S 0 0) 1 ((nI n) + 1)) 1)) E hZ cl_Mod fl_Mod_90 (by decide) hR.1.1 rfl d_Mod_rule_87 ?_
            rw [show (va_up (va_up S 0 0) 1 ((nI n) + 1)) 1 = (nI n) + 1 from va_up_self _ _ _]
            refine lv_iload_n hx hb d_Mod_rule_90 rfl (lv_at hl 1 rfl) ?_
            refine rr_iast 2 rfl rfl E hZ hR (nI_1 n) (show (n + 1) < 41 by omega) d_Mod_rule_91 (fun M H locs hZ hR => ?_)
            refine lv_aload_n hx hb d_Mod_rule_92 rfl (lv_at hl 0 rfl) ?_
            refine mm_get (v := .ref (ad 3)) E hZ cl_Mod fl_Mod_13 (by decide) hR.1.1 rfl d_Mod_rule_93 ?_
            refine lv_aload_n hx hb d_Mod_rule_96 rfl (lv_at hl 0 rfl) ?_
            refine mm_get (v := .int ((va_up (va_up S 0 0) 1 ((nI n) + 1)) 1)) E hZ cl_Mod fl_Mod_90 (by decide) hR.1.1 rfl d_Mod_rule_97 ?_
            rw [show (va_up (va_up S 0 0) 1 ((nI n) + 1)) 1 = (nI n) + 1 from va_up_self _ _ _]
            refine lv_iload_n hx hb d_Mod_rule_100 rfl (lv_at hl 2 rfl) ?_
            refine rr_iast 3 rfl rfl E hZ hR (nI_1 n) (show (n + 1) < 41 by omega) d_Mod_rule_101 (fun M H locs hZ hR => ?_)
            refine lv_aload_n hx hb d_Mod_rule_102 rfl (lv_at hl 0 rfl) ?_
            refine mm_get (v := .ref (ad 4)) E hZ cl_Mod fl_Mod_16 (by decide) hR.1.1 rfl d_Mod_rule_103 ?_
            refine lv_aload_n hx hb d_Mod_rule_106 rfl (lv_at hl 0 rfl) ?_
            refine mm_get (v := .int ((va_up (va_up S 0 0) 1 ((nI n) + 1)) 1)) E hZ cl_Mod fl_Mod_90 (by decide) hR.1.1 rfl d_Mod_rule_107 ?_
            rw [show (va_up (va_up S 0 0) 1 ((nI n) + 1)) 1 = (nI n) + 1 from va_up_self _ _ _]
            refine lv_iload_n hx hb d_Mod_rule_110 rfl (lv_at hl 3 rfl) ?_
            refine rr_iast 4 rfl rfl E hZ hR (nI_1 n) (show (n + 1) < 41 by omega) d_Mod_rule_111 (fun M H locs hZ hR => ?_)
            refine lv_aload_n hx hb d_Mod_rule_112 rfl (lv_at hl 0 rfl) ?_
            refine mm_get (v := .ref (ad 5)) E hZ cl_Mod fl_Mod_19 (by decide) hR.1.1 rfl d_Mod_rule_113 ?_
            refine lv_aload_n hx hb d_Mod_rule_116 rfl (lv_at hl 0 rfl) ?_
            refine mm_get (v := .int ((va_up (va_up S 0 0) 1 ((nI n) + 1)) 1)) E hZ cl_Mod fl_Mod_90 (by decide) hR.1.1 rfl d_Mod_rule_117 ?_
            rw [show (va_up (va_up S 0 0) 1 ((nI n) + 1)) 1 = (nI n) + 1 from va_up_self _ _ _]
            refine lv_lload hx hb d_Mod_rule_120 (lv_at hl 4 rfl) ?_
            refine rr_last 5 rfl E hZ hR (nI_1 n) (show (n + 1) < 41 by omega) d_Mod_rule_122 (fun M H locs hZ hR => ?_)
            refine lv_aload_n hx hb d_Mod_rule_123 rfl (lv_at hl 0 rfl) ?_
            refine mm_get (v := .ref (ad 6)) E hZ cl_Mod fl_Mod_23 (by decide) hR.1.1 rfl d_Mod_rule_124 ?_
            refine lv_aload_n hx hb d_Mod_rule_127 rfl (lv_at hl 0 rfl) ?_
            refine mm_get (v := .int ((va_up (va_up S 0 0) 1 ((nI n) + 1)) 1)) E hZ cl_Mod fl_Mod_90 (by decide) hR.1.1 rfl d_Mod_rule_128 ?_
            rw [show (va_up (va_up S 0 0) 1 ((nI n) + 1)) 1 = (nI n) + 1 from va_up_self _ _ _]
            refine lv_iload hx hb d_Mod_rule_131 (lv_at hl 5 rfl) ?_
            refine rr_zast 6 rfl rfl E hZ hR hfl (nI_1 n) (show (n + 1) < 41 by omega) d_Mod_rule_133 (fun M H locs hZ hR => ?_)
            refine lv_aload_n hx hb d_Mod_rule_134 rfl (lv_at hl 0 rfl) ?_
            refine mm_get (v := .int ((va_up (va_up S 0 0) 1 ((nI n) + 1)) 1)) E hZ cl_Mod fl_Mod_90 (by decide) hR.1.1 rfl d_Mod_rule_135 ?_
            rw [show (va_up (va_up S 0 0) 1 ((nI n) + 1)) 1 = (nI n) + 1 from va_up_self _ _ _]
            exact mm_iret (v := (nI n) + 1) E hr hlk eQ hZ d_Mod_rule_138 ⟨_, rfl, Or.inr (Or.inr ⟨hC, hn4, nI_1 n, by rw [nI_1] at hR; exact hR⟩)⟩
          · refine lv_bipush (v := (-104)) hx hb d_Mod_rule_69 (by decide) ?_
            exact mm_iret (v := (-104)) E hr hlk eQ hZ d_Mod_rule_71 ⟨_, rfl, Or.inr (Or.inl ⟨hC, c66, rfl, hR⟩)⟩
        · refine lv_bipush (v := (-102)) hx hb d_Mod_rule_57 (by decide) ?_
          exact mm_iret (v := (-102)) E hr hlk eQ hZ d_Mod_rule_59 ⟨_, rfl, Or.inl ⟨fun z => b32_eq0.mp (hp4 ▸ c54) z.2.2.2, rfl, hR⟩⟩
set_option maxHeartbeats 4000000 in
set_option maxRecDepth 100000 in
theorem c_Mod_tell (l : Launch) (g : mm_G) {M : mm_M} {q : Nat} {ad : Nat → Nat} {I : Nat → Nat → Int32} {L : Nat → Nat → Int64} {S : Nat → Int32} {ck : Int64} (h0 : Rs g M q ad I L S ck) {i : Nat} (hi : i < 200) (k : Int32) {n : Nat} (hn : S 18 = nI n) (hn2 : n < 2 ^ 30) : Cv l g y_Mod_tell b_Mod_tell 3 (rk 0 0 0 0) M [.ref q, .int (nI i), .int k] (fun M' => (n < 400 ∧ Rq g M M' q ad I (up2 (up2 (up2 (up2 (up2 L 19 (5 * n) (nI i).toInt64) 19 (5 * n + 1) k.toInt64) 19 (5 * n + 2) (I 10 i).toInt64) 19 (5 * n + 3) (I 11 i).toInt64) 19 (5 * n + 4) (up2 (up2 (up2 (up2 L 19 (5 * n) (nI i).toInt64) 19 (5 * n + 1) k.toInt64) 19 (5 * n + 2) (I 10 i).toInt64) 19 (5 * n + 3) (I 11 i).toInt64 12 i)) (va_up S 18 (nI (n + 1))) ck) ∨ (400 ≤ n ∧ Rq g M M' q ad I L (va_up S 18 (nI (n + 1))) ck)) := by
  refine mm_enter (by decide) (Nat.le_of_ble_eq_true rfl) (fun pG eV s m args below meth cdx ls Q E hml hr hlk hnm hZ hl eQ => ?_)
  have hx := E.1
  have hb := E.2.1
  have hl : lv_has ls 3 [(0, .ref q), (1, .int (nI i)), (2, .int k)] := hl
  have hR := h0.q
  refine lv_aload_n hx hb d_Mod_tell_0 rfl (lv_at hl 0 rfl) ?_
  refine mm_get (v := .int (S 18)) E hZ cl_Mod fl_Mod_125 (by decide) hR.1.1 rfl d_Mod_tell_1 ?_
  rw [hn]
  refine lv_sipush (v := 400) hx hb d_Mod_tell_4 (by decide) ?_
  refine lv_icmp_ge (tgt := 97) hx hb d_Mod_tell_7 (by decide) (fun c7 => ?_) (fun c7 => ?_)
  · have h4 : 400 ≤ n := by
      rcases Nat.lt_or_ge n 400 with z | z
      · exact absurd (show nI 400 ≤ nI n from c7) (nI_ge z (by decide))
      · exact z
    refine lv_aload_n hx hb d_Mod_tell_97 rfl (lv_at hl 0 rfl) ?_
    refine lv_dup hx hb d_Mod_tell_98 rfl ?_
    refine mm_get (v := .int (S 18)) E hZ cl_Mod fl_Mod_125 (by decide) hR.1.1 rfl d_Mod_tell_99 ?_
    rw [hn]
    refine lv_iconst (v := 1) hx hb d_Mod_tell_102 (by decide) ?_
    refine lv_iadd hx hb d_Mod_tell_103 ?_
    refine rr_put18 E hZ hR fl_Mod_125 d_Mod_tell_104 (fun M H locs hZ hR => ?_)
    exact mm_vret E hr hlk eQ hZ d_Mod_tell_107 ⟨rfl, Or.inr ⟨h4, by rw [nI_1] at hR; exact hR⟩⟩
  · have h4 : n < 400 := by
      rcases Nat.lt_or_ge n 400 with z | z
      · exact z
      · exact absurd (show nI 400 ≤ nI n from nI_le z (by omega)) c7
    refine lv_aload_n hx hb d_Mod_tell_10 rfl (lv_at hl 0 rfl) ?_
    refine mm_get (v := .ref (ad 19)) E hZ cl_Mod fl_Mod_54 (by decide) hR.1.1 rfl d_Mod_tell_11 ?_
    refine lv_iconst (v := 5) hx hb d_Mod_tell_14 (by decide) ?_
    refine lv_aload_n hx hb d_Mod_tell_15 rfl (lv_at hl 0 rfl) ?_
    refine mm_get (v := .int (S 18)) E hZ cl_Mod fl_Mod_125 (by decide) hR.1.1 rfl d_Mod_tell_16 ?_
    rw [hn]
    refine lv_imul hx hb d_Mod_tell_19 ?_
    refine lv_iload_n hx hb d_Mod_tell_20 rfl (lv_at hl 1 rfl) ?_
    refine lv_i2l hx hb d_Mod_tell_21 rfl ?_
    refine rr_last 19 rfl E hZ hR (nI_50 n) (show (5 * n) < 2000 by omega) d_Mod_tell_22 (fun M H locs hZ hR => ?_)
    refine lv_aload_n hx hb d_Mod_tell_23 rfl (lv_at hl 0 rfl) ?_
    refine mm_get (v := .ref (ad 19)) E hZ cl_Mod fl_Mod_54 (by decide) hR.1.1 rfl d_Mod_tell_24 ?_
    refine lv_iconst (v := 5) hx hb d_Mod_tell_27 (by decide) ?_
    refine lv_aload_n hx hb d_Mod_tell_28 rfl (lv_at hl 0 rfl) ?_
    refine mm_get (v := .int (S 18)) E hZ cl_Mod fl_Mod_125 (by decide) hR.1.1 rfl d_Mod_tell_29 ?_
    rw [hn]
    refine lv_imul hx hb d_Mod_tell_32 ?_
    refine lv_iconst (v := 1) hx hb d_Mod_tell_33 (by decide) ?_
    refine lv_iadd hx hb d_Mod_tell_34 ?_
    refine lv_iload_n hx hb d_Mod_tell_35 rfl (lv_at hl 2 rfl) ?_
    refine lv_i2l hx hb d_Mod_tell_36 rfl ?_
    refine rr_last 19 rfl E hZ hR (nI_5 n 1) (show (5 * n + 1) < 2000 by omega) d_Mod_tell_37 (fun M H locs hZ hR => ?_)
    refine lv_aload_n hx hb d_Mod_tell_38 rfl (lv_at hl 0 rfl) ?_
    refine mm_get (v := .ref (ad 19)) E hZ cl_Mod fl_Mod_54 (by decide) hR.1.1 rfl d_Mod_tell_39 ?_
    refine lv_iconst (v := 5) hx hb d_Mod_tell_42 (by decide) ?_
    refine lv_aload_n hx hb d_Mod_tell_43 rfl (lv_at hl 0 rfl) ?_
    refine mm_get (v := .int (S 18)) E hZ cl_Mod fl_Mod_125 (by decide) hR.1.1 rfl d_Mod_tell_44 ?_
    rw [hn]
    refine lv_imul hx hb d_Mod_tell_47 ?_
    refine lv_iconst (v := 2) hx hb d_Mod_tell_48 (by decide) ?_
    refine lv_iadd hx hb d_Mod_tell_49 ?_
    refine lv_aload_n hx hb d_Mod_tell_50 rfl (lv_at hl 0 rfl) ?_
    refine mm_get (v := .ref (ad 10)) E hZ cl_Mod fl_Mod_36 (by decide) hR.1.1 rfl d_Mod_tell_51 ?_
    refine lv_iload_n hx hb d_Mod_tell_54 rfl (lv_at hl 1 rfl) ?_
    refine rr_iald 10 rfl rfl E hZ hR rfl (show i < 200 by omega) d_Mod_tell_55 ?_
    refine lv_i2l hx hb d_Mod_tell_56 rfl ?_
    refine rr_last 19 rfl E hZ hR (nI_5 n 2) (show (5 * n + 2) < 2000 by omega) d_Mod_tell_57 (fun M H locs hZ hR => ?_)
    refine lv_aload_n hx hb d_Mod_tell_58 rfl (lv_at hl 0 rfl) ?_
    refine mm_get (v := .ref (ad 19)) E hZ cl_Mod fl_Mod_54 (by decide) hR.1.1 rfl d_Mod_tell_59 ?_
    refine lv_iconst (v := 5) hx hb d_Mod_tell_62 (by decide) ?_
    refine lv_aload_n hx hb d_Mod_tell_63 rfl (lv_at hl 0 rfl) ?_
    refine mm_get (v := .int (S 18)) E hZ cl_Mod fl_Mod_125 (by decide) hR.1.1 rfl d_Mod_tell_64 ?_
    rw [hn]
    refine lv_imul hx hb d_Mod_tell_67 ?_
    refine lv_iconst (v := 3) hx hb d_Mod_tell_68 (by decide) ?_
    refine lv_iadd hx hb d_Mod_tell_69 ?_
    refine lv_aload_n hx hb d_Mod_tell_70 rfl (lv_at hl 0 rfl) ?_
    refine mm_get (v := .ref (ad 11)) E hZ cl_Mod fl_Mod_39 (by decide) hR.1.1 rfl d_Mod_tell_71 ?_
    refine lv_iload_n hx hb d_Mod_tell_74 rfl (lv_at hl 1 rfl) ?_
    refine rr_iald 11 rfl rfl E hZ hR rfl (show i < 200 by omega) d_Mod_tell_75 ?_
    refine lv_i2l hx hb d_Mod_tell_76 rfl ?_
    refine rr_last 19 rfl E hZ hR (nI_5 n 3) (show (5 * n + 3) < 2000 by omega) d_Mod_tell_77 (fun M H locs hZ hR => ?_)
    refine lv_aload_n hx hb d_Mod_tell_78 rfl (lv_at hl 0 rfl) ?_
    refine mm_get (v := .ref (ad 19)) E hZ cl_Mod fl_Mod_54 (by decide) hR.1.1 rfl d_Mod_tell_79 ?_
    refine lv_iconst (v := 5) hx hb d_Mod_tell_82 (by decide) ?_
    refine lv_aload_n hx hb d_Mod_tell_83 rfl (lv_at hl 0 rfl) ?_
    refine mm_get (v := .int (S 18)) E hZ cl_Mod fl_Mod_125 (by decide) hR.1.1 rfl d_Mod_tell_84 ?_
    rw [hn]
    refine lv_imul hx hb d_Mod_tell_87 ?_
    refine lv_iconst (v := 4) hx hb d_Mod_tell_88 (by decide) ?_
    refine lv_iadd hx hb d_Mod_tell_89 ?_
    refine lv_aload_n hx hb d_Mod_tell_90 rfl (lv_at hl 0 rfl) ?_
    refine mm_get (v := .ref (ad 12)) E hZ cl_Mod fl_Mod_42 (by decide) hR.1.1 rfl d_Mod_tell_91 ?_
    refine lv_iload_n hx hb d_Mod_tell_94 rfl (lv_at hl 1 rfl) ?_
    refine rr_lald 12 rfl E hZ hR rfl (show i < 200 by omega) d_Mod_tell_95 ?_
    refine rr_last 19 rfl E hZ hR (nI_5 n 4) (show (5 * n + 4) < 2000 by omega) d_Mod_tell_96 (fun M H locs hZ hR => ?_)
    refine lv_aload_n hx hb d_Mod_tell_97 rfl (lv_at hl 0 rfl) ?_
    refine lv_dup hx hb d_Mod_tell_98 rfl ?_
    refine mm_get (v := .int (S 18)) E hZ cl_Mod fl_Mod_125 (by decide) hR.1.1 rfl d_Mod_tell_99 ?_
    rw [hn]
    refine lv_iconst (v := 1) hx hb d_Mod_tell_102 (by decide) ?_
    refine lv_iadd hx hb d_Mod_tell_103 ?_
    refine rr_put18 E hZ hR fl_Mod_125 d_Mod_tell_104 (fun M H locs hZ hR => ?_)
    exact mm_vret E hr hlk eQ hZ d_Mod_tell_107 ⟨rfl, Or.inl ⟨h4, by rw [nI_1] at hR; exact hR⟩⟩
theorem lt_of_ne_last {I : Nat → Int32} {j k : Nat} {row : Int32} (h : j < k + 1) (hj : I j = row) (hk : ¬ I k = row) : j < k := by
  rcases Nat.lt_or_ge j k with y | y
  · exact y
  · exact absurd (by rw [show k = j by omega]; exact hj) hk
set_option maxHeartbeats 4000000 in
set_option maxRecDepth 100000 in
theorem c_Mod_fails (l : Launch) (g : mm_G) {M : mm_M} {q : Nat} {ad : Nat → Nat} {I : Nat → Nat → Int32} {L : Nat → Nat → Int64} {S : Nat → Int32} {ck : Int64} (h0 : Rs g M q ad I L S ck) (row : Int32) {f : Nat} (hf : S 24 = nI f) (hf4 : f ≤ 40) (h4 : (¬ ∃ j, j < f ∧ I 25 j = row) → f < 40) : Cv l g y_Mod_fails b_Mod_fails 4 (rk 0 0 0 0) M [.ref q, .int row] (fun M' => ((∃ j, j < f ∧ I 25 j = row) ∧ Rq g M M' q ad I L S ck) ∨ ((¬ ∃ j, j < f ∧ I 25 j = row) ∧ Rq g M M' q ad (up2 I 25 f row) L (va_up S 24 (nI (f + 1))) ck)) := by
  refine mm_enter (by decide) (Nat.le_of_ble_eq_true rfl) (fun pG eV s m args below meth cdx ls Q E hml hr hlk hnm hZ hl eQ => ?_)
  have hx := E.1
  have hb := E.2.1
  have hl : lv_has ls 4 [(0, .ref q), (1, .int row)] := hl
  have hR := h0.q
  refine lv_iconst (v := 0) hx hb d_Mod_fails_0 (by decide) ?_
  refine lv_istore_n (lv' := [(2, .int 0), (0, .ref q), (1, .int row)]) hx hb d_Mod_fails_1 rfl hl (by decide) rfl (fun ls hl => ?_)
  refine lv_iconst (v := 0) hx hb d_Mod_fails_2 (by decide) ?_
  refine lv_istore_n (lv' := [(3, .int 0), (2, .int 0), (0, .ref q), (1, .int row)]) hx hb d_Mod_fails_3 rfl hl (by decide) rfl (fun ls hl => ?_)
  have loop : ∀ (n : Nat) (k : Nat) (has : Int32) (ls : Array Slot), k ≤ f → bo has → ((¬ has = 0) ↔ ∃ j, j < k ∧ I 25 j = row) → f + 1 ≤ k + n → lv_has ls 4 [(0, .ref q), (1, .int row), (2, .int has), (3, .int (nI k))] → W pG l eV (rk 0 0 0 0) s m args below meth cdx s.heap [] 0 0 Q (F0 m 4 ls []) := by
    intro n
    induction n with
    | zero => exact fun k has ls hkf hbo hh hfu _ => absurd hfu (by omega)
    | succ n ih =>
      intro k has ls hkf hbo hh hfu hl
      refine lv_iload_n hx hb d_Mod_fails_4 rfl (lv_at hl 3 rfl) ?_
      refine lv_aload_n hx hb d_Mod_fails_5 rfl (lv_at hl 0 rfl) ?_
      refine mm_get (v := .int (S 24)) E hZ cl_Mod fl_Mod_99 (by decide) hR.1.1 rfl d_Mod_fails_6 ?_
      rw [hf]
      refine lv_icmp_ge (tgt := 38) hx hb d_Mod_fails_9 (by decide) (fun c9 => ?_) (fun c9 => ?_)
      · have hk : k = f := by
          rcases Nat.lt_or_ge k f with z | z
          · exact absurd c9 (nI_ge z (by omega))
          · omega
        rw [hk] at hh
        refine lv_iload_n hx hb d_Mod_fails_38 rfl (lv_at hl 2 rfl) ?_
        refine lv_if_ne (tgt := 62) hx hb d_Mod_fails_39 (by decide) (fun c39 => ?_) (fun c39 => ?_)
        · exact mm_vret E hr hlk eQ hZ d_Mod_fails_62 ⟨rfl, Or.inl ⟨hh.mp c39, hR⟩⟩
        · have hno : ¬ ∃ j, j < f ∧ I 25 j = row := fun z => absurd c39 (hh.mpr z)
          have hk4 := h4 hno
          refine lv_aload_n hx hb d_Mod_fails_42 rfl (lv_at hl 0 rfl) ?_
          refine mm_get (v := .ref (ad 25)) E hZ cl_Mod fl_Mod_69 (by decide) hR.1.1 rfl d_Mod_fails_43 ?_
          refine lv_aload_n hx hb d_Mod_fails_46 rfl (lv_at hl 0 rfl) ?_
          refine mm_get (v := .int (S 24)) E hZ cl_Mod fl_Mod_99 (by decide) hR.1.1 rfl d_Mod_fails_47 ?_
          rw [hf]
          refine lv_iload_n hx hb d_Mod_fails_50 rfl (lv_at hl 1 rfl) ?_
          refine rr_iast 25 rfl rfl E hZ hR rfl (show f < 40 by omega) d_Mod_fails_51 (fun M H locs hZ hR => ?_)
          refine lv_aload_n hx hb d_Mod_fails_52 rfl (lv_at hl 0 rfl) ?_
          refine lv_dup hx hb d_Mod_fails_53 rfl ?_
          refine mm_get (v := .int (S 24)) E hZ cl_Mod fl_Mod_99 (by decide) hR.1.1 rfl d_Mod_fails_54 ?_
          rw [hf]
          refine lv_iconst (v := 1) hx hb d_Mod_fails_57 (by decide) ?_
          refine lv_iadd hx hb d_Mod_fails_58 ?_
          refine rr_put24 E hZ hR fl_Mod_99 d_Mod_fails_59 (fun M H locs hZ hR => ?_)
          exact mm_vret E hr hlk eQ hZ d_Mod_fails_62 ⟨rfl, Or.inr ⟨hno, by rw [nI_1] at hR; exact hR⟩⟩
      · have hk : k < f := by
          rcases Nat.lt_or_ge k f with z | z
          · exact z
          · exact absurd (nI_le z (by omega)) c9
        refine lv_iload_n hx hb d_Mod_fails_12 rfl (lv_at hl 2 rfl) ?_
        refine lv_if_ne (tgt := 26) hx hb d_Mod_fails_13 (by decide) (fun c13 => ?_) (fun c13 => ?_)
        · refine lv_iconst (v := 1) hx hb d_Mod_fails_26 (by decide) ?_
          refine lv_goto (tgt := 31) hx hb d_Mod_fails_27 (by decide) ?_
          refine lv_istore_n (lv' := [(2, .int 1), (0, .ref q), (1, .int row), (3, .int (nI k))]) hx hb d_Mod_fails_31 rfl hl (by decide) rfl (fun ls hl => ?_)
          refine lv_iinc (v := (nI k) + 1) (lv' := [(3, .int ((nI k) + 1)), (2, .int 1), (0, .ref q), (1, .int row)]) hx hb d_Mod_fails_32 hl (k := 3) rfl rfl (by decide) rfl (fun ls hl => ?_)
          refine lv_goto (tgt := 4) hx hb d_Mod_fails_35 (by decide) ?_
          rw [nI_1] at hl
          exact ih (k + 1) 1 ls (by omega) bo_1 ⟨fun _ => (hh.mp c13).elim (fun j z => ⟨j, by omega, z.2⟩), fun _ => by decide⟩ (by omega) (lv_sub hl [2, 3, 1, 0] rfl)
        · refine lv_aload_n hx hb d_Mod_fails_16 rfl (lv_at hl 0 rfl) ?_
          refine mm_get (v := .ref (ad 25)) E hZ cl_Mod fl_Mod_69 (by decide) hR.1.1 rfl d_Mod_fails_17 ?_
          refine lv_iload_n hx hb d_Mod_fails_20 rfl (lv_at hl 3 rfl) ?_
          refine rr_iald 25 rfl rfl E hZ hR rfl (show k < 40 by omega) d_Mod_fails_21 ?_
          refine lv_iload_n hx hb d_Mod_fails_22 rfl (lv_at hl 1 rfl) ?_
          refine lv_icmp_ne (tgt := 30) hx hb d_Mod_fails_23 (by decide) (fun c23 => ?_) (fun c23 => ?_)
          · refine lv_iconst (v := 0) hx hb d_Mod_fails_30 (by decide) ?_
            refine lv_istore_n (lv' := [(2, .int 0), (0, .ref q), (1, .int row), (3, .int (nI k))]) hx hb d_Mod_fails_31 rfl hl (by decide) rfl (fun ls hl => ?_)
            refine lv_iinc (v := (nI k) + 1) (lv' := [(3, .int ((nI k) + 1)), (2, .int 0), (0, .ref q), (1, .int row)]) hx hb d_Mod_fails_32 hl (k := 3) rfl rfl (by decide) rfl (fun ls hl => ?_)
            refine lv_goto (tgt := 4) hx hb d_Mod_fails_35 (by decide) ?_
            rw [nI_1] at hl
            exact ih (k + 1) 0 ls (by omega) bo_0 ⟨fun z => absurd rfl z, fun ⟨j, z1, z2⟩ => absurd c13 (hh.mpr ⟨j, lt_of_ne_last z1 z2 c23, z2⟩)⟩ (by omega) (lv_sub hl [2, 3, 1, 0] rfl)
          · refine lv_iconst (v := 1) hx hb d_Mod_fails_26 (by decide) ?_
            refine lv_goto (tgt := 31) hx hb d_Mod_fails_27 (by decide) ?_
            refine lv_istore_n (lv' := [(2, .int 1), (0, .ref q), (1, .int row), (3, .int (nI k))]) hx hb d_Mod_fails_31 rfl hl (by decide) rfl (fun ls hl => ?_)
            refine lv_iinc (v := (nI k) + 1) (lv' := [(3, .int ((nI k) + 1)), (2, .int 1), (0, .ref q), (1, .int row)]) hx hb d_Mod_fails_32 hl (k := 3) rfl rfl (by decide) rfl (fun ls hl => ?_)
            refine lv_goto (tgt := 4) hx hb d_Mod_fails_35 (by decide) ?_
            rw [nI_1] at hl
            exact ih (k + 1) 1 ls (by omega) bo_1 ⟨fun _ => ⟨k, by omega, c23⟩, fun _ => by decide⟩ (by omega) (lv_sub hl [2, 3, 1, 0] rfl)
  exact loop (f + 1) 0 0 ls (Nat.zero_le _) bo_0 ⟨fun z => absurd rfl z, fun ⟨j, z, _⟩ => absurd z (Nat.not_lt_zero j)⟩ (by omega) (lv_sub hl [2, 3, 1, 0] rfl)
end
section
/-! THE REFERENCE: rowFor, isBefore, share, behind -/
/-- the place a comes before b: by shares, then by numbers -/
abbrev bf (I : Nat → Nat → Int32) (a b : Nat) : Prop := (I 21 b).toInt64 * (I 20 a).toInt64 < (I 21 a).toInt64 * (I 20 b).toInt64 ∨ ((I 21 a).toInt64 * (I 20 b).toInt64 = (I 21 b).toInt64 * (I 20 a).toInt64 ∧ nI a < nI b)
/-- the greatest number that divides both is the one at which the reference stops -/
theorem gcd_stop {a b d : Nat} (ha : a % d = 0) (hb : b % d = 0) (hd : 0 < d) (ha0 : 0 < a) (h : ∀ e, d < e → e ≤ a → ¬ (a % e = 0 ∧ b % e = 0)) : d = Nat.gcd a b := by
  have h1 : d ∣ Nat.gcd a b := Nat.dvd_gcd (Nat.dvd_of_mod_eq_zero ha) (Nat.dvd_of_mod_eq_zero hb)
  have h2 : 0 < Nat.gcd a b := Nat.gcd_pos_of_pos_left _ ha0
  have h3 := Nat.le_of_dvd h2 h1
  rcases Nat.lt_or_ge d (Nat.gcd a b) with z | z
  · exact absurd ⟨Nat.mod_eq_zero_of_dvd (Nat.gcd_dvd_left a b), Nat.mod_eq_zero_of_dvd (Nat.gcd_dvd_right a b)⟩ (h _ z (Nat.le_of_dvd ha0 (Nat.gcd_dvd_left a b)))
  · omega
/-- the seconds w from t on, those on holidays apart: day by day -/
def bh (h : Nat → Int32) : Nat → Nat → Nat → Nat
  | 0, t, _ => t
  | n + 1, t, w => if w = 0 then t else if t / 86400 ≤ 20000 ∧ ¬ h (t / 86400) = 0 then bh h n (86400 * (t / 86400 + 1)) w else if 86400 * (t / 86400 + 1) - t < w then bh h n (86400 * (t / 86400 + 1)) (w - (86400 * (t / 86400 + 1) - t)) else bh h n (t + w) 0
theorem l864 : (86400 : Int64) = lN 86400 := rfl
theorem lN_div864 {t : Nat} (h : t < 2 ^ 40) : lN t / 86400 = lN (t / 86400) := by rw [l864, pk_lDiv (by omega) (by omega) (by omega)]
theorem lN_rest {t : Nat} : 86400 * (lN (t / 86400) + 1) - lN t = lN (86400 * (t / 86400 + 1) - t) := by
  rw [l864, lN_1, lN_mul, lN_sub (by omega)]
set_option maxHeartbeats 4000000 in
set_option maxRecDepth 100000 in
theorem c_Mod_rowFor (l : Launch) (g : mm_G) {M : mm_M} {q : Nat} {ad : Nat → Nat} {I : Nat → Nat → Int32} {L : Nat → Nat → Int64} {S : Nat → Int32} {ck : Int64} (h0 : Rs g M q ad I L S ck) (st pl sv : Int32) {nr : Nat} (hn : S 1 = nI nr) (hn4 : nr ≤ 40) : Ci l g y_Mod_rowFor b_Mod_rowFor 5 .int (rk 0 0 0 0) M [.ref q, .int st, .int pl, .int sv] (fun r M' => M' = M ∧ ∃ k, k ≤ nr ∧ r = nI k ∧ ((k = 0 ∧ ∀ j, 1 ≤ j → j ≤ nr → ¬ rowOk I st pl sv j) ∨ (1 ≤ k ∧ rowOk I st pl sv k ∧ ∀ j, 1 ≤ j → j < k → ¬ rowOk I st pl sv j))) := by
  refine mm_enter (by decide) (Nat.le_of_ble_eq_true rfl) (fun pG eV s m args below meth cdx ls Q E hml hr hlk hnm hZ hl eQ => ?_)
  have hx := E.1
  have hb := E.2.1
  have hl : lv_has ls 5 [(0, .ref q), (1, .int st), (2, .int pl), (3, .int sv)] := hl
  have hR := h0.q
  refine lv_iconst (v := 1) hx hb d_Mod_rowFor_0 (by decide) ?_
  refine lv_istore (lv' := [(4, .int 1), (0, .ref q), (1, .int st), (2, .int pl), (3, .int sv)]) hx hb d_Mod_rowFor_1 hl (by decide) rfl (fun ls hl => ?_)
  have J71 : ∀ (k : Nat) (ls : Array Slot), 1 ≤ k → k ≤ nr + 1 → (k ≤ nr → rowOk I st pl sv k) → (∀ j, 1 ≤ j → j < k → ¬ rowOk I st pl sv j) → lv_has ls 5 [(0, .ref q), (1, .int st), (2, .int pl), (3, .int sv), (4, .int (nI k))] → W pG l eV (rk 0 0 0 0) s m args below meth cdx s.heap [] 0 0 Q (F0 m 71 ls []) := by
    intro k ls hk1 hk2 hok hno hl
    refine lv_iload hx hb d_Mod_rowFor_71 (lv_at hl 4 rfl) ?_
    refine lv_aload_n hx hb d_Mod_rowFor_73 rfl (lv_at hl 0 rfl) ?_
    refine mm_get (v := .int (S 1)) E hZ cl_Mod fl_Mod_90 (by decide) hR.1.1 rfl d_Mod_rowFor_74 ?_
    rw [hn]
    refine lv_icmp_gt (tgt := 85) hx hb d_Mod_rowFor_77 (by decide) (fun c77 => ?_) (fun c77 => ?_)
    · have hk : k = nr + 1 := by
        rcases Nat.lt_or_ge nr k with z | z
        · omega
        · exact absurd c77 (nI_nlt z (by omega))
      refine lv_iconst (v := 0) hx hb d_Mod_rowFor_85 (by decide) ?_
      exact mm_iret (v := 0) E hr hlk eQ hZ d_Mod_rowFor_86 ⟨_, rfl, rfl, 0, Nat.zero_le _, nI_0.symm, Or.inl ⟨rfl, fun j z1 z2 => hno j z1 (by omega)⟩⟩
    · have hk : k ≤ nr := by
        rcases Nat.lt_or_ge nr k with z | z
        · exact absurd (nI_lt z (by omega)) c77
        · exact z
      refine lv_iload hx hb d_Mod_rowFor_80 (lv_at hl 4 rfl) ?_
      refine lv_goto (tgt := 86) hx hb d_Mod_rowFor_82 (by decide) ?_
      exact mm_iret (v := nI k) E hr hlk eQ hZ d_Mod_rowFor_86 ⟨_, rfl, rfl, k, hk, rfl, Or.inr ⟨hk1, hok hk, hno⟩⟩
  have loop : ∀ (n : Nat) (k : Nat) (ls : Array Slot), 1 ≤ k → k ≤ nr + 1 → (∀ j, 1 ≤ j → j < k → ¬ rowOk I st pl sv j) → nr + 2 ≤ k + n → lv_has ls 5 [(0, .ref q), (1, .int st), (2, .int pl), (3, .int sv), (4, .int (nI k))] → W pG l eV (rk 0 0 0 0) s m args below meth cdx s.heap [] 0 0 Q (F0 m 3 ls []) := by
    intro n
    induction n with
    | zero => exact fun k ls hk1 hk2 hno hfu _ => absurd hfu (by omega)
    | succ n ih =>
      intro k ls hk1 hk2 hno hfu hl
      refine lv_iload hx hb d_Mod_rowFor_3 (lv_at hl 4 rfl) ?_
      refine lv_aload_n hx hb d_Mod_rowFor_5 rfl (lv_at hl 0 rfl) ?_
      refine mm_get (v := .int (S 1)) E hZ cl_Mod fl_Mod_90 (by decide) hR.1.1 rfl d_Mod_rowFor_6 ?_
      rw [hn]
      refine lv_icmp_gt (tgt := 71) hx hb d_Mod_rowFor_9 (by decide) (fun c9 => ?_) (fun c9 => ?_)
      · have hk : nr < k := by
          rcases Nat.lt_or_ge nr k with z | z
          · exact z
          · exact absurd c9 (nI_nlt z (by omega))
        exact J71 k ls hk1 hk2 (fun z => absurd z (by omega)) hno hl
      · have hk : k ≤ nr := by
          rcases Nat.lt_or_ge nr k with z | z
          · exact absurd (nI_lt z (by omega)) c9
          · exact z
        have J65 : ∀  (ls : Array Slot), ¬ rowOk I st pl sv k → lv_has ls 5 [(0, .ref q), (1, .int st), (2, .int pl), (3, .int sv), (4, .int (nI k))] → W pG l eV (rk 0 0 0 0) s m args below meth cdx s.heap [] 0 0 Q (F0 m 65 ls []) := by
          intro  ls hn0 hl
          refine lv_iinc (v := (nI k) + 1) (lv' := [(4, .int ((nI k) + 1)), (0, .ref q), (1, .int st), (2, .int pl), (3, .int sv)]) hx hb d_Mod_rowFor_65 hl (k := 4) rfl rfl (by decide) rfl (fun ls hl => ?_)
          refine lv_goto (tgt := 3) hx hb d_Mod_rowFor_68 (by decide) ?_
          rw [nI_1] at hl
          exact ih (k + 1) ls (by omega) (by omega) (fun j z1 z2 => by
            rcases Nat.lt_or_ge j k with y | y
            · exact hno j z1 y
            · rw [show j = k by omega]; exact hn0) (by omega) (lv_sub hl [1, 2, 3, 4, 0] rfl)
        refine lv_aload_n hx hb d_Mod_rowFor_12 rfl (lv_at hl 0 rfl) ?_
        refine mm_get (v := .ref (ad 2)) E hZ cl_Mod fl_Mod_7 (by decide) hR.1.1 rfl d_Mod_rowFor_13 ?_
        refine lv_iload hx hb d_Mod_rowFor_16 (lv_at hl 4 rfl) ?_
        refine rr_iald 2 rfl rfl E hZ hR rfl (show k < 41 by omega) d_Mod_rowFor_18 ?_
        refine lv_iload_n hx hb d_Mod_rowFor_19 rfl (lv_at hl 1 rfl) ?_
        refine lv_icmp_ne (tgt := 65) hx hb d_Mod_rowFor_20 (by decide) (fun c20 => ?_) (fun c20 => ?_)
        · exact J65 ls (fun z => c20 z.1) hl
        · refine lv_aload_n hx hb d_Mod_rowFor_23 rfl (lv_at hl 0 rfl) ?_
          refine mm_get (v := .ref (ad 3)) E hZ cl_Mod fl_Mod_13 (by decide) hR.1.1 rfl d_Mod_rowFor_24 ?_
          refine lv_iload hx hb d_Mod_rowFor_27 (lv_at hl 4 rfl) ?_
          refine rr_iald 3 rfl rfl E hZ hR rfl (show k < 41 by omega) d_Mod_rowFor_29 ?_
          refine lv_if_lt (tgt := 44) hx hb d_Mod_rowFor_30 (by decide) (fun c30 => ?_) (fun c30 => ?_)
          · refine lv_aload_n hx hb d_Mod_rowFor_44 rfl (lv_at hl 0 rfl) ?_
            refine mm_get (v := .ref (ad 4)) E hZ cl_Mod fl_Mod_16 (by decide) hR.1.1 rfl d_Mod_rowFor_45 ?_
            refine lv_iload hx hb d_Mod_rowFor_48 (lv_at hl 4 rfl) ?_
            refine rr_iald 4 rfl rfl E hZ hR rfl (show k < 41 by omega) d_Mod_rowFor_50 ?_
            refine lv_if_lt (tgt := 71) hx hb d_Mod_rowFor_51 (by decide) (fun c51 => ?_) (fun c51 => ?_)
            · exact J71 k ls hk1 (by omega) (fun _ => ⟨c20, Or.inl c30, Or.inl c51⟩) hno hl
            · refine lv_aload_n hx hb d_Mod_rowFor_54 rfl (lv_at hl 0 rfl) ?_
              refine mm_get (v := .ref (ad 4)) E hZ cl_Mod fl_Mod_16 (by decide) hR.1.1 rfl d_Mod_rowFor_55 ?_
              refine lv_iload hx hb d_Mod_rowFor_58 (lv_at hl 4 rfl) ?_
              refine rr_iald 4 rfl rfl E hZ hR rfl (show k < 41 by omega) d_Mod_rowFor_60 ?_
              refine lv_iload_n hx hb d_Mod_rowFor_61 rfl (lv_at hl 3 rfl) ?_
              refine lv_icmp_eq (tgt := 71) hx hb d_Mod_rowFor_62 (by decide) (fun c62 => ?_) (fun c62 => ?_)
              · exact J71 k ls hk1 (by omega) (fun _ => ⟨c20, Or.inl c30, Or.inr c62⟩) hno hl
              · exact J65 ls (fun z => z.2.2.elim c51 c62) hl
          · refine lv_aload_n hx hb d_Mod_rowFor_33 rfl (lv_at hl 0 rfl) ?_
            refine mm_get (v := .ref (ad 3)) E hZ cl_Mod fl_Mod_13 (by decide) hR.1.1 rfl d_Mod_rowFor_34 ?_
            refine lv_iload hx hb d_Mod_rowFor_37 (lv_at hl 4 rfl) ?_
            refine rr_iald 3 rfl rfl E hZ hR rfl (show k < 41 by omega) d_Mod_rowFor_39 ?_
            refine lv_iload_n hx hb d_Mod_rowFor_40 rfl (lv_at hl 2 rfl) ?_
            refine lv_icmp_ne (tgt := 65) hx hb d_Mod_rowFor_41 (by decide) (fun c41 => ?_) (fun c41 => ?_)
            · exact J65 ls (fun z => z.2.1.elim c30 c41) hl
            · refine lv_aload_n hx hb d_Mod_rowFor_44 rfl (lv_at hl 0 rfl) ?_
              refine mm_get (v := .ref (ad 4)) E hZ cl_Mod fl_Mod_16 (by decide) hR.1.1 rfl d_Mod_rowFor_45 ?_
              refine lv_iload hx hb d_Mod_rowFor_48 (lv_at hl 4 rfl) ?_
              refine rr_iald 4 rfl rfl E hZ hR rfl (show k < 41 by omega) d_Mod_rowFor_50 ?_
              refine lv_if_lt (tgt := 71) hx hb d_Mod_rowFor_51 (by decide) (fun c51 => ?_) (fun c51 => ?_)
              · exact J71 k ls hk1 (by omega) (fun _ => ⟨c20, Or.inr c41, Or.inl c51⟩) hno hl
              · refine lv_aload_n hx hb d_Mod_rowFor_54 rfl (lv_at hl 0 rfl) ?_
                refine mm_get (v := .ref (ad 4)) E hZ cl_Mod fl_Mod_16 (by decide) hR.1.1 rfl d_Mod_rowFor_55 ?_
                refine lv_iload hx hb d_Mod_rowFor_58 (lv_at hl 4 rfl) ?_
                refine rr_iald 4 rfl rfl E hZ hR rfl (show k < 41 by omega) d_Mod_rowFor_60 ?_
                refine lv_iload_n hx hb d_Mod_rowFor_61 rfl (lv_at hl 3 rfl) ?_
                refine lv_icmp_eq (tgt := 71) hx hb d_Mod_rowFor_62 (by decide) (fun c62 => ?_) (fun c62 => ?_)
                · exact J71 k ls hk1 (by omega) (fun _ => ⟨c20, Or.inr c41, Or.inr c62⟩) hno hl
                · exact J65 ls (fun z => z.2.2.elim c51 c62) hl
  exact loop (nr + 2) 1 ls (Nat.le_refl _) (by omega) (fun j z1 z2 => absurd z1 (by omega)) (by omega) (lv_sub hl [1, 2, 3, 4, 0] rfl)
set_option maxHeartbeats 4000000 in
set_option maxRecDepth 100000 in
theorem c_Mod_isBefore (l : Launch) (g : mm_G) {M : mm_M} {q : Nat} {ad : Nat → Nat} {I : Nat → Nat → Int32} {L : Nat → Nat → Int64} {S : Nat → Int32} {ck : Int64} (h0 : Rs g M q ad I L S ck) {a b : Nat} (ha : a < 50) (hb50 : b < 50) : Ci l g y_Mod_isBefore b_Mod_isBefore 7 .boolean (rk 0 0 0 0) M [.ref q, .int (nI a), .int (nI b)] (fun r M' => M' = M ∧ r = b32 (bf I a b)) := by
  refine mm_enter (by decide) (Nat.le_of_ble_eq_true rfl) (fun pG eV s m args below meth cdx ls Q E hml hr hlk hnm hZ hl eQ => ?_)
  have hx := E.1
  have hb := E.2.1
  have hl : lv_has ls 7 [(0, .ref q), (1, .int (nI a)), (2, .int (nI b))] := hl
  have hR := h0.q
  refine lv_aload_n hx hb d_Mod_isBefore_0 rfl (lv_at hl 0 rfl) ?_
  refine mm_get (v := .ref (ad 21)) E hZ cl_Mod fl_Mod_60 (by decide) hR.1.1 rfl d_Mod_isBefore_1 ?_
  refine lv_iload_n hx hb d_Mod_isBefore_4 rfl (lv_at hl 1 rfl) ?_
  refine rr_iald 21 rfl rfl E hZ hR rfl (show a < 50 by omega) d_Mod_isBefore_5 ?_
  refine lv_i2l hx hb d_Mod_isBefore_6 rfl ?_
  refine lv_aload_n hx hb d_Mod_isBefore_7 rfl (lv_at hl 0 rfl) ?_
  refine mm_get (v := .ref (ad 20)) E hZ cl_Mod fl_Mod_57 (by decide) hR.1.1 rfl d_Mod_isBefore_8 ?_
  refine lv_iload_n hx hb d_Mod_isBefore_11 rfl (lv_at hl 2 rfl) ?_
  refine rr_iald 20 rfl rfl E hZ hR rfl (show b < 50 by omega) d_Mod_isBefore_12 ?_
  refine lv_i2l hx hb d_Mod_isBefore_13 rfl ?_
  refine lv_lmul hx hb d_Mod_isBefore_14 ?_
  refine lv_lstore_n (lv' := [(3, .long (((I 21 a).toInt64) * ((I 20 b).toInt64))), (0, .ref q), (1, .int (nI a)), (2, .int (nI b))]) hx hb d_Mod_isBefore_15 rfl hl (by decide) rfl (fun ls hl => ?_)
  refine lv_aload_n hx hb d_Mod_isBefore_16 rfl (lv_at hl 1 rfl) ?_
  refine mm_get (v := .ref (ad 21)) E hZ cl_Mod fl_Mod_60 (by decide) hR.1.1 rfl d_Mod_isBefore_17 ?_
  refine lv_iload_n hx hb d_Mod_isBefore_20 rfl (lv_at hl 3 rfl) ?_
  refine rr_iald 21 rfl rfl E hZ hR rfl (show b < 50 by omega) d_Mod_isBefore_21 ?_
  refine lv_i2l hx hb d_Mod_isBefore_22 rfl ?_
  refine lv_aload_n hx hb d_Mod_isBefore_23 rfl (lv_at hl 1 rfl) ?_
  refine mm_get (v := .ref (ad 20)) E hZ cl_Mod fl_Mod_57 (by decide) hR.1.1 rfl d_Mod_isBefore_24 ?_
  refine lv_iload_n hx hb d_Mod_isBefore_27 rfl (lv_at hl 2 rfl) ?_
  refine rr_iald 20 rfl rfl E hZ hR rfl (show a < 50 by omega) d_Mod_isBefore_28 ?_
  refine lv_i2l hx hb d_Mod_isBefore_29 rfl ?_
  refine lv_lmul hx hb d_Mod_isBefore_30 ?_
  refine lv_lstore (lv' := [(5, .long (((I 21 b).toInt64) * ((I 20 a).toInt64))), (3, .long (((I 21 a).toInt64) * ((I 20 b).toInt64))), (0, .ref q), (1, .int (nI a)), (2, .int (nI b))]) hx hb d_Mod_isBefore_31 hl (by decide) rfl (fun ls hl => ?_)
  refine lv_lload_n hx hb d_Mod_isBefore_33 rfl (lv_at hl 1 rfl) ?_
  refine lv_lload hx hb d_Mod_isBefore_34 (lv_at hl 0 rfl) ?_
  refine W.lcmp hx hb d_Mod_isBefore_36 ?_
  refine lv_if_gt (tgt := 52) hx hb d_Mod_isBefore_37 (by decide) (fun c37 => ?_) (fun c37 => ?_)
  · have c37 := (lg_cmp_gt _ _).mp c37
    refine lv_iconst (v := 1) hx hb d_Mod_isBefore_52 (by decide) ?_
    refine lv_goto (tgt := 57) hx hb d_Mod_isBefore_53 (by decide) ?_
    exact mm_zret (v := 1) E hr hlk eQ hZ rfl d_Mod_isBefore_57 ⟨_, rfl, rfl, b32_t (Or.inl c37)⟩
  · have c37 := mt (lg_cmp_gt _ _).mpr c37
    refine lv_lload_n hx hb d_Mod_isBefore_40 rfl (lv_at hl 1 rfl) ?_
    refine lv_lload hx hb d_Mod_isBefore_41 (lv_at hl 0 rfl) ?_
    refine W.lcmp hx hb d_Mod_isBefore_43 ?_
    refine lv_if_ne (tgt := 56) hx hb d_Mod_isBefore_44 (by decide) (fun c44 => ?_) (fun c44 => ?_)
    · have c44 := mt (lg_cmp_eq _ _).mpr c44
      refine lv_iconst (v := 0) hx hb d_Mod_isBefore_56 (by decide) ?_
      exact mm_zret (v := 0) E hr hlk eQ hZ rfl d_Mod_isBefore_57 ⟨_, rfl, rfl, b32_f (fun z => z.elim c37 (fun y => c44 y.1))⟩
    · have c44 := (lg_cmp_eq _ _).mp c44
      refine lv_iload_n hx hb d_Mod_isBefore_47 rfl (lv_at hl 3 rfl) ?_
      refine lv_iload_n hx hb d_Mod_isBefore_48 rfl (lv_at hl 4 rfl) ?_
      refine lv_icmp_ge (tgt := 56) hx hb d_Mod_isBefore_49 (by decide) (fun c49 => ?_) (fun c49 => ?_)
      · refine lv_iconst (v := 0) hx hb d_Mod_isBefore_56 (by decide) ?_
        exact mm_zret (v := 0) E hr hlk eQ hZ rfl d_Mod_isBefore_57 ⟨_, rfl, rfl, b32_f (fun z => z.elim c37 (fun y => absurd y.2 (Int32.not_lt.mpr c49)))⟩
      · refine lv_iconst (v := 1) hx hb d_Mod_isBefore_52 (by decide) ?_
        refine lv_goto (tgt := 57) hx hb d_Mod_isBefore_53 (by decide) ?_
        exact mm_zret (v := 1) E hr hlk eQ hZ rfl d_Mod_isBefore_57 ⟨_, rfl, rfl, b32_t (Or.inr ⟨c44, Int32.not_le.mp c49⟩)⟩
theorem side01 {x : Int32} (h0 : ¬ x < 0) (h1 : x ≤ 1) : x = 0 ∨ x = 1 := by
  obtain ⟨j, hj, rfl⟩ := nI_of2 (n := 1) (by decide) h0 h1
  rcases (show j = 0 ∨ j = 1 by omega) with rfl | rfl
  · exact Or.inl rfl
  · exact Or.inr rfl
set_option maxHeartbeats 4000000 in
set_option maxRecDepth 100000 in
theorem c_Mod_share (l : Launch) (g : mm_G) {M : mm_M} {q : Nat} {ad : Nat → Nat} {I : Nat → Nat → Int32} {L : Nat → Nat → Int64} {S : Nat → Int32} {ck : Int64} (h0 : Rs g M q ad I L S ck) (i sd : Int32) {bg lt : Nat → Nat} (hc : ∀ j, j ≤ 49 → I 20 j = nI (bg j) ∧ I 21 j = nI (lt j) ∧ bg j < 2 ^ 20 ∧ lt j < 2 ^ 20) : Cl l g y_Mod_share b_Mod_share 4 (rk 1 25 0 0) M [.ref q, .int i, .int sd] (fun r M' => ((∀ j, j ≤ 49 → i ≠ nI j) ∧ r = (-101) ∧ Rq g M M' q ad I L (va_up S 0 0) ck) ∨ ∃ j, j ≤ 49 ∧ i = nI j ∧ ((¬ (sd = 0 ∨ sd = 1) ∧ r = (-102) ∧ Rq g M M' q ad I L (va_up S 0 0) ck) ∨ ((sd = 0 ∨ sd = 1) ∧ bg j = 0 ∧ r = 0 ∧ Rq g M M' q ad I L (va_up (va_up S 0 0) 0 1) ck) ∨ ((sd = 0 ∨ sd = 1) ∧ 0 < bg j ∧ r = (if sd = 0 then lN (lt j / Nat.gcd (bg j) (lt j)) else lN (bg j / Nat.gcd (bg j) (lt j))) ∧ Rq g M M' q ad I L (va_up S 0 0) ck))) := by
  refine mm_enter (by decide) (Nat.le_of_ble_eq_true rfl) (fun pG eV s m args below meth cdx ls Q E hml hr hlk hnm hZ hl eQ => ?_)
  have hx := E.1
  have hb := E.2.1
  have hl : lv_has ls 4 [(0, .ref q), (1, .int i), (2, .int sd)] := hl
  have hR := h0.q
  refine lv_aload_n hx hb d_Mod_share_0 rfl (lv_at hl 0 rfl) ?_
  refine lv_iconst (v := 0) hx hb d_Mod_share_1 (by decide) ?_
  refine rr_put0 E hZ hR fl_Mod_72 d_Mod_share_2 (fun M H locs hZ hR => ?_)
  refine lv_iload_n hx hb d_Mod_share_5 rfl (lv_at hl 1 rfl) ?_
  refine lv_i2l hx hb d_Mod_share_6 rfl ?_
  refine lv_lconst (v := 0) hx hb d_Mod_share_7 (by decide) ?_
  refine lv_ldc2 (v := 49) hx hb E.2.2.1 (E.2.2.2.1 _ w_706) d_Mod_share_8 ?_
  refine mm_calli (mm_runS (As := [.long i.toInt64, .long 0, .long 49]) (rest := []) E hZ hml hl.1 lk_Mod_78 me_Mod_isIn st_Mod_isIn (c_Mod_isIn l g _ i.toInt64 0 49) ⟨Nat.le_of_ble_eq_true rfl, Nat.le_of_ble_eq_true rfl⟩ rfl (Nat.le_of_ble_eq_true rfl) d_Mod_share_11 ⟨Nat.le_of_ble_eq_true rfl, Nat.le_of_ble_eq_true rfl⟩) hZ (fun r1 M1 H locs hp hZ => ?_)
  rw [hp.1] at hZ
  replace hp := hp.2
  refine lv_if_ne (tgt := 21) hx hb d_Mod_share_14 (by decide) (fun c14 => ?_) (fun c14 => ?_)
  · obtain ⟨j, hj, rfl⟩ := in_nat (n := 49) rfl (by decide) (b32_ne0 (hp ▸ c14))
    clear hp
    obtain ⟨hbg, hlt, hb2, hl2⟩ := hc j hj
    refine lv_iload_n hx hb d_Mod_share_21 rfl (lv_at hl 2 rfl) ?_
    refine lv_if_lt (tgt := 30) hx hb d_Mod_share_22 (by decide) (fun c22 => ?_) (fun c22 => ?_)
    · refine lv_ldc2 (v := (-102)) hx hb E.2.2.1 (E.2.2.2.1 _ w_765) d_Mod_share_30 ?_
      exact mm_lret (v := (-102)) E hr hlk eQ hZ d_Mod_share_33 ⟨_, rfl, Or.inr ⟨j, hj, rfl, Or.inl ⟨fun z => z.elim (fun y => absurd (y ▸ c22) (by decide)) (fun y => absurd (y ▸ c22) (by decide)), rfl, hR⟩⟩⟩
    · refine lv_iload_n hx hb d_Mod_share_25 rfl (lv_at hl 2 rfl) ?_
      refine lv_iconst (v := 1) hx hb d_Mod_share_26 (by decide) ?_
      refine lv_icmp_le (tgt := 34) hx hb d_Mod_share_27 (by decide) (fun c27 => ?_) (fun c27 => ?_)
      · have hsd : sd = 0 ∨ sd = 1 := side01 c22 c27
        refine lv_aload_n hx hb d_Mod_share_34 rfl (lv_at hl 0 rfl) ?_
        refine mm_get (v := .ref (ad 20)) E hZ cl_Mod fl_Mod_57 (by decide) hR.1.1 rfl d_Mod_share_35 ?_
        refine lv_iload_n hx hb d_Mod_share_38 rfl (lv_at hl 1 rfl) ?_
        refine rr_iald 20 rfl rfl E hZ hR rfl (show j < 50 by omega) d_Mod_share_39 ?_
        rw [hbg]
        refine lv_if_ne (tgt := 50) hx hb d_Mod_share_40 (by decide) (fun c40 => ?_) (fun c40 => ?_)
        · have hb0 : 0 < bg j := by
            rcases Nat.eq_zero_or_pos (bg j) with z | z
            · exact absurd (by rw [z]; rfl) c40
            · exact z
          refine lv_aload_n hx hb d_Mod_share_50 rfl (lv_at hl 0 rfl) ?_
          refine mm_get (v := .ref (ad 20)) E hZ cl_Mod fl_Mod_57 (by decide) hR.1.1 rfl d_Mod_share_51 ?_
          refine lv_iload_n hx hb d_Mod_share_54 rfl (lv_at hl 1 rfl) ?_
          refine rr_iald 20 rfl rfl E hZ hR rfl (show j < 50 by omega) d_Mod_share_55 ?_
          refine lv_istore_n (lv' := [(3, .int (I 20 j)), (0, .ref q), (1, .int (nI j)), (2, .int sd)]) hx hb d_Mod_share_56 rfl hl (by decide) rfl (fun ls hl => ?_)
          have loop : ∀ (n : Nat) (d : Nat) (ls : Array Slot), 0 < d → d ≤ bg j → (∀ e, d < e → e ≤ bg j → ¬ (bg j % e = 0 ∧ lt j % e = 0)) → d + 1 ≤ n → lv_has ls 4 [(0, .ref q), (1, .int (nI j)), (2, .int sd), (3, .int (nI d))] → W pG l eV (rk 1 25 0 0) s m args below meth cdx H locs 0 0 Q (F0 m 57 ls []) := by
            intro n
            induction n with
            | zero => exact fun d ls hd1 hdb hno hfu _ => absurd hfu (by omega)
            | succ n ih =>
              intro d ls hd1 hdb hno hfu hl
              have J85 : ∀  (ls : Array Slot), bg j % d = 0 → lt j % d = 0 → lv_has ls 4 [(0, .ref q), (1, .int (nI j)), (2, .int sd), (3, .int (nI d))] → W pG l eV (rk 1 25 0 0) s m args below meth cdx H locs 0 0 Q (F0 m 85 ls []) := by
                intro  ls hm1 hm2 hl
                have hg := gcd_stop hm1 hm2 hd1 hb0 hno
                refine lv_iload_n hx hb d_Mod_share_85 rfl (lv_at hl 2 rfl) ?_
                refine lv_if_ne (tgt := 98) hx hb d_Mod_share_86 (by decide) (fun c86 => ?_) (fun c86 => ?_)
                · refine lv_aload_n hx hb d_Mod_share_98 rfl (lv_at hl 0 rfl) ?_
                  refine mm_get (v := .ref (ad 20)) E hZ cl_Mod fl_Mod_57 (by decide) hR.1.1 rfl d_Mod_share_99 ?_
                  refine lv_iload_n hx hb d_Mod_share_102 rfl (lv_at hl 1 rfl) ?_
                  refine rr_iald 20 rfl rfl E hZ hR rfl (show j < 50 by omega) d_Mod_share_103 ?_
                  refine lv_iload_n hx hb d_Mod_share_104 rfl (lv_at hl 3 rfl) ?_
                  rw [hbg]
                  refine lv_idiv hx hb d_Mod_share_105 (nI_ne0 hd1 (by omega)) ?_
                  rw [pk_div (by omega) hd1 (by omega)]
                  refine lv_i2l hx hb d_Mod_share_106 rfl ?_
                  exact mm_lret (v := (nI (bg j / d)).toInt64) E hr hlk eQ hZ d_Mod_share_107 ⟨_, rfl, Or.inr ⟨j, hj, rfl, Or.inr (Or.inr ⟨hsd, hb0, by rw [if_neg c86, ← hg, nI_l (by exact Nat.lt_of_le_of_lt (Nat.div_le_self _ _) (by omega))], hR⟩)⟩⟩
                · refine lv_aload_n hx hb d_Mod_share_89 rfl (lv_at hl 0 rfl) ?_
                  refine mm_get (v := .ref (ad 21)) E hZ cl_Mod fl_Mod_60 (by decide) hR.1.1 rfl d_Mod_share_90 ?_
                  refine lv_iload_n hx hb d_Mod_share_93 rfl (lv_at hl 1 rfl) ?_
                  refine rr_iald 21 rfl rfl E hZ hR rfl (show j < 50 by omega) d_Mod_share_94 ?_
                  refine lv_goto (tgt := 104) hx hb d_Mod_share_95 (by decide) ?_
                  refine lv_iload_n hx hb d_Mod_share_104 rfl (lv_at hl 3 rfl) ?_
                  rw [hlt]
                  refine lv_idiv hx hb d_Mod_share_105 (nI_ne0 hd1 (by omega)) ?_
                  rw [pk_div (by omega) hd1 (by omega)]
                  refine lv_i2l hx hb d_Mod_share_106 rfl ?_
                  exact mm_lret (v := (nI (lt j / d)).toInt64) E hr hlk eQ hZ d_Mod_share_107 ⟨_, rfl, Or.inr ⟨j, hj, rfl, Or.inr (Or.inr ⟨hsd, hb0, by rw [if_pos c86, ← hg, nI_l (by exact Nat.lt_of_le_of_lt (Nat.div_le_self _ _) (by omega))], hR⟩)⟩⟩
              refine lv_aload_n hx hb d_Mod_share_57 rfl (lv_at hl 0 rfl) ?_
              refine mm_get (v := .ref (ad 20)) E hZ cl_Mod fl_Mod_57 (by decide) hR.1.1 rfl d_Mod_share_58 ?_
              refine lv_iload_n hx hb d_Mod_share_61 rfl (lv_at hl 1 rfl) ?_
              refine rr_iald 20 rfl rfl E hZ hR rfl (show j < 50 by omega) d_Mod_share_62 ?_
              refine lv_iload_n hx hb d_Mod_share_63 rfl (lv_at hl 3 rfl) ?_
              rw [hbg]
              refine lv_irem hx hb d_Mod_share_64 (nI_ne0 hd1 (by omega)) ?_
              rw [pk_rem (by omega) hd1 (by omega)]
              refine lv_if_ne (tgt := 79) hx hb d_Mod_share_65 (by decide) (fun c65 => ?_) (fun c65 => ?_)
              · have hd2 : 1 < d := by
                  rcases Nat.lt_or_ge 1 d with z | z
                  · exact z
                  · exfalso; have : d = 1 := by omega
                    subst this; exact c65 (by rw [Nat.mod_one]; rfl)
                refine lv_iinc (v := (nI d) + (-1)) (lv' := [(3, .int ((nI d) + (-1))), (0, .ref q), (1, .int (nI j)), (2, .int sd)]) hx hb d_Mod_share_79 hl (k := 3) rfl rfl (by decide) rfl (fun ls hl => ?_)
                refine lv_goto (tgt := 57) hx hb d_Mod_share_82 (by decide) ?_
                rw [show nI d + (-1) = nI (d - 1) from sb_m1 hd1] at hl
                exact ih (d - 1) ls (by omega) (by omega) (fun e z1 z2 => by
                  rcases Nat.lt_or_ge d e with y | y
                  · exact hno e y z2
                  · rw [show e = d by omega]; exact fun z => c65 (by rw [z.1]; rfl)) (by omega) (lv_sub hl [1, 2, 3, 0] rfl)
              · have hm1 : bg j % d = 0 := (nI_eq (Nat.lt_of_lt_of_le (Nat.mod_lt _ hd1) (by omega)) (by decide)).mp (show nI (bg j % d) = nI 0 from c65)
                refine lv_aload_n hx hb d_Mod_share_68 rfl (lv_at hl 0 rfl) ?_
                refine mm_get (v := .ref (ad 21)) E hZ cl_Mod fl_Mod_60 (by decide) hR.1.1 rfl d_Mod_share_69 ?_
                refine lv_iload_n hx hb d_Mod_share_72 rfl (lv_at hl 1 rfl) ?_
                refine rr_iald 21 rfl rfl E hZ hR rfl (show j < 50 by omega) d_Mod_share_73 ?_
                refine lv_iload_n hx hb d_Mod_share_74 rfl (lv_at hl 3 rfl) ?_
                rw [hlt]
                refine lv_irem hx hb d_Mod_share_75 (nI_ne0 hd1 (by omega)) ?_
                rw [pk_rem (by omega) hd1 (by omega)]
                refine lv_if_eq (tgt := 85) hx hb d_Mod_share_76 (by decide) (fun c76 => ?_) (fun c76 => ?_)
                · exact J85 ls hm1 ((nI_eq (Nat.lt_of_lt_of_le (Nat.mod_lt _ hd1) (by omega)) (by decide)).mp (show nI (lt j % d) = nI 0 from c76)) hl
                · have hd2 : 1 < d := by
                    rcases Nat.lt_or_ge 1 d with z | z
                    · exact z
                    · exfalso; have : d = 1 := by omega
                      subst this; exact c76 (by rw [Nat.mod_one]; rfl)
                  refine lv_iinc (v := (nI d) + (-1)) (lv' := [(3, .int ((nI d) + (-1))), (0, .ref q), (1, .int (nI j)), (2, .int sd)]) hx hb d_Mod_share_79 hl (k := 3) rfl rfl (by decide) rfl (fun ls hl => ?_)
                  refine lv_goto (tgt := 57) hx hb d_Mod_share_82 (by decide) ?_
                  rw [show nI d + (-1) = nI (d - 1) from sb_m1 hd1] at hl
                  exact ih (d - 1) ls (by omega) (by omega) (fun e z1 z2 => by
                    rcases Nat.lt_or_ge d e with y | y
                    · exact hno e y z2
                    · rw [show e = d by omega]; exact fun z => c76 (by rw [z.2]; rfl)) (by omega) (lv_sub hl [1, 2, 3, 0] rfl)
          rw [hbg] at hl
          exact loop (bg j + 1) (bg j) ls hb0 (Nat.le_refl _) (fun e z1 z2 => absurd z1 (by omega)) (Nat.le_refl _) (lv_sub hl [1, 2, 3, 0] rfl)
        · have hb0 : bg j = 0 := (nI_eq (by omega) (by decide)).mp (show nI (bg j) = nI 0 from c40)
          refine lv_aload_n hx hb d_Mod_share_43 rfl (lv_at hl 0 rfl) ?_
          refine lv_iconst (v := 1) hx hb d_Mod_share_44 (by decide) ?_
          refine rr_put0 E hZ hR fl_Mod_72 d_Mod_share_45 (fun M H locs hZ hR => ?_)
          refine lv_lconst (v := 0) hx hb d_Mod_share_48 (by decide) ?_
          exact mm_lret (v := 0) E hr hlk eQ hZ d_Mod_share_49 ⟨_, rfl, Or.inr ⟨j, hj, rfl, Or.inr (Or.inl ⟨hsd, hb0, rfl, hR⟩)⟩⟩
      · refine lv_ldc2 (v := (-102)) hx hb E.2.2.1 (E.2.2.2.1 _ w_765) d_Mod_share_30 ?_
        exact mm_lret (v := (-102)) E hr hlk eQ hZ d_Mod_share_33 ⟨_, rfl, Or.inr ⟨j, hj, rfl, Or.inl ⟨fun z => z.elim (fun y => c27 (by rw [y]; decide)) (fun y => c27 (by rw [y]; decide)), rfl, hR⟩⟩⟩
  · refine lv_ldc2 (v := (-101)) hx hb E.2.2.1 (E.2.2.2.1 _ w_764) d_Mod_share_17 ?_
    exact mm_lret (v := (-101)) E hr hlk eQ hZ d_Mod_share_20 ⟨_, rfl, Or.inl ⟨out_nat (by decide) (by decide) (b32_eq0.mp (hp ▸ c14)), rfl, hR⟩⟩
end
section
/-! THE REFERENCE: behind -/
set_option maxHeartbeats 4000000 in
set_option maxRecDepth 100000 in
theorem c_Mod_behind (l : Launch) (g : mm_G) {M : mm_M} {q : Nat} {ad : Nat → Nat} {I : Nat → Nat → Int32} {L : Nat → Nat → Int64} {S : Nat → Int32} {ck : Int64} (h0 : Rs g M q ad I L S ck) {t0 w0 : Nat} (ht0 : t0 ≤ 1000000000) (hw0 : w0 ≤ 10000000) : Cl l g y_Mod_behind b_Mod_behind 15 (rk 0 0 0 0) M [.ref q, .long (lN t0), .long (lN w0)] (fun r M' => M' = M ∧ r = lN (bh (I 15) (w0 + 20002) t0 w0)) := by
  refine mm_enter (by decide) (Nat.le_of_ble_eq_true rfl) (fun pG eV s m args below meth cdx ls Q E hml hr hlk hnm hZ hl eQ => ?_)
  have hx := E.1
  have hb := E.2.1
  have hl : lv_has ls 15 [(0, .ref q), (1, .long (lN t0)), (3, .long (lN w0))] := hl
  have hR := h0.q
  refine lv_lload_n hx hb d_Mod_behind_0 rfl (lv_at hl 1 rfl) ?_
  refine lv_lstore (lv' := [(5, .long (lN t0)), (0, .ref q), (1, .long (lN t0)), (3, .long (lN w0))]) hx hb d_Mod_behind_1 hl (by decide) rfl (fun ls hl => ?_)
  refine lv_lload_n hx hb d_Mod_behind_3 rfl (lv_at hl 3 rfl) ?_
  refine lv_lstore (lv' := [(7, .long (lN w0)), (5, .long (lN t0)), (0, .ref q), (1, .long (lN t0)), (3, .long (lN w0))]) hx hb d_Mod_behind_4 hl (by decide) rfl (fun ls hl => ?_)
  have loop : ∀ (n : Nat) (t : Nat) (w : Nat) (ls : Array Slot), t + w ≤ 1738086400 → w ≤ 10000000 → bh (I 15) n t w = bh (I 15) (w0 + 20002) t0 w0 → (20001 - t / 86400) + w + 1 ≤ n → lv_has ls 15 [(0, .ref q), (5, .long (lN t)), (7, .long (lN w))] → W pG l eV (rk 0 0 0 0) s m args below meth cdx s.heap [] 0 0 Q (F0 m 6 ls []) := by
    intro n
    induction n with
    | zero => exact fun t w ls htw hw7 hX hfu _ => absurd hfu (by omega)
    | succ n ih =>
      intro t w ls htw hw7 hX hfu hl
      refine lv_lload hx hb d_Mod_behind_6 (lv_at hl 2 rfl) ?_
      refine lv_lconst (v := 0) hx hb d_Mod_behind_8 (by decide) ?_
      refine W.lcmp hx hb d_Mod_behind_9 ?_
      refine lv_if_le (tgt := 98) hx hb d_Mod_behind_10 (by decide) (fun c10 => ?_) (fun c10 => ?_)
      · have c10 := (lg_cmp_le _ _).mp c10
        have hw : w = 0 := by
          have := (pk_lLE (a := w) (b := 0) (by omega) (by omega)).mp c10
          omega
        rw [bh, if_pos hw] at hX
        refine lv_lload hx hb d_Mod_behind_98 (lv_at hl 1 rfl) ?_
        exact mm_lret (v := lN t) E hr hlk eQ hZ d_Mod_behind_100 ⟨_, rfl, rfl, by rw [hX]⟩
      · have c10 := mt (lg_cmp_le _ _).mpr c10
        have hw : ¬ w = 0 := fun z => c10 (by rw [z]; decide)
        rw [bh, if_neg hw] at hX
        refine lv_lload hx hb d_Mod_behind_13 (lv_at hl 1 rfl) ?_
        refine lv_ldc2 (v := 86400) hx hb E.2.2.1 (E.2.2.2.1 _ w_724) d_Mod_behind_15 ?_
        refine lv_ldiv hx hb d_Mod_behind_18 (by decide) ?_
        rw [lN_div864 (by omega)]
        refine lv_lstore (lv' := [(9, .long (lN (t / 86400))), (0, .ref q), (5, .long (lN t)), (7, .long (lN w))]) hx hb d_Mod_behind_19 hl (by decide) rfl (fun ls hl => ?_)
        refine lv_ldc2 (v := 86400) hx hb E.2.2.1 (E.2.2.2.1 _ w_724) d_Mod_behind_21 ?_
        refine lv_lload hx hb d_Mod_behind_24 (lv_at hl 0 rfl) ?_
        refine lv_lconst (v := 1) hx hb d_Mod_behind_26 (by decide) ?_
        refine lv_ladd hx hb d_Mod_behind_27 ?_
        refine lv_lmul hx hb d_Mod_behind_28 ?_
        refine lv_lload hx hb d_Mod_behind_29 (lv_at hl 2 rfl) ?_
        refine lv_lsub hx hb d_Mod_behind_31 ?_
        rw [lN_rest]
        refine lv_lstore (lv' := [(11, .long (lN (86400 * (t / 86400 + 1) - t))), (9, .long (lN (t / 86400))), (0, .ref q), (5, .long (lN t)), (7, .long (lN w))]) hx hb d_Mod_behind_32 hl (by decide) rfl (fun ls hl => ?_)
        refine lv_lload hx hb d_Mod_behind_34 (lv_at hl 1 rfl) ?_
        refine lv_ldc2 (v := 20000) hx hb E.2.2.1 (E.2.2.2.1 _ w_737) d_Mod_behind_36 ?_
        refine W.lcmp hx hb d_Mod_behind_39 ?_
        refine lv_if_gt (tgt := 64) hx hb d_Mod_behind_40 (by decide) (fun c40 => ?_) (fun c40 => ?_)
        · have c40 := (lg_cmp_gt _ _).mp c40
          rw [if_neg (fun z => absurd (show lN 20000 < lN (t / 86400) from c40) (fun y => absurd ((pk_lLT (by omega) (by omega)).mp y) (by omega)))] at hX
          refine lv_lload hx hb d_Mod_behind_64 (lv_at hl 0 rfl) ?_
          refine lv_lload hx hb d_Mod_behind_66 (lv_at hl 4 rfl) ?_
          refine W.lcmp hx hb d_Mod_behind_68 ?_
          refine lv_if_ge (tgt := 77) hx hb d_Mod_behind_69 (by decide) (fun c69 => ?_) (fun c69 => ?_)
          · have c69 := (lg_cmp_ge _ _).mp c69
            have hr2 : ¬ 86400 * (t / 86400 + 1) - t < w := fun z => by
              have := (pk_lLE (by omega) (by omega)).mp c69
              omega
            rw [if_neg hr2] at hX
            refine lv_lload hx hb d_Mod_behind_77 (lv_at hl 4 rfl) ?_
            refine lv_lstore (lv' := [(13, .long (lN w)), (11, .long (lN (86400 * (t / 86400 + 1) - t))), (9, .long (lN (t / 86400))), (0, .ref q), (5, .long (lN t)), (7, .long (lN w))]) hx hb d_Mod_behind_79 hl (by decide) rfl (fun ls hl => ?_)
            refine lv_lload hx hb d_Mod_behind_81 (lv_at hl 4 rfl) ?_
            refine lv_lload hx hb d_Mod_behind_83 (lv_at hl 0 rfl) ?_
            refine lv_ladd hx hb d_Mod_behind_85 ?_
            refine lv_lstore (lv' := [(5, .long ((lN t) + (lN w))), (13, .long (lN w)), (11, .long (lN (86400 * (t / 86400 + 1) - t))), (9, .long (lN (t / 86400))), (0, .ref q), (7, .long (lN w))]) hx hb d_Mod_behind_86 hl (by decide) rfl (fun ls hl => ?_)
            refine lv_lload hx hb d_Mod_behind_88 (lv_at hl 5 rfl) ?_
            refine lv_lload hx hb d_Mod_behind_90 (lv_at hl 1 rfl) ?_
            refine lv_lsub hx hb d_Mod_behind_92 ?_
            refine lv_lstore (lv' := [(7, .long ((lN w) - (lN w))), (5, .long ((lN t) + (lN w))), (13, .long (lN w)), (11, .long (lN (86400 * (t / 86400 + 1) - t))), (9, .long (lN (t / 86400))), (0, .ref q)]) hx hb d_Mod_behind_93 hl (by decide) rfl (fun ls hl => ?_)
            refine lv_goto (tgt := 6) hx hb d_Mod_behind_95 (by decide) ?_
            rw [lN_add, lN_sub (Nat.le_refl w), Nat.sub_self] at hl
            exact ih (t + w) 0 ls (by omega) (by omega) hX (by omega) (lv_sub hl [5, 1, 0] rfl)
          · have c69 := mt (lg_cmp_ge _ _).mpr c69
            have hr2 : 86400 * (t / 86400 + 1) - t < w := by
              rcases Nat.lt_or_ge (86400 * (t / 86400 + 1) - t) w with z | z
              · exact z
              · exact absurd ((pk_lLE (by omega) (by omega)).mpr z) c69
            rw [if_pos hr2] at hX
            refine lv_lload hx hb d_Mod_behind_72 (lv_at hl 0 rfl) ?_
            refine lv_goto (tgt := 79) hx hb d_Mod_behind_74 (by decide) ?_
            refine lv_lstore (lv' := [(13, .long (lN (86400 * (t / 86400 + 1) - t))), (11, .long (lN (86400 * (t / 86400 + 1) - t))), (9, .long (lN (t / 86400))), (0, .ref q), (5, .long (lN t)), (7, .long (lN w))]) hx hb d_Mod_behind_79 hl (by decide) rfl (fun ls hl => ?_)
            refine lv_lload hx hb d_Mod_behind_81 (lv_at hl 4 rfl) ?_
            refine lv_lload hx hb d_Mod_behind_83 (lv_at hl 0 rfl) ?_
            refine lv_ladd hx hb d_Mod_behind_85 ?_
            refine lv_lstore (lv' := [(5, .long ((lN t) + (lN (86400 * (t / 86400 + 1) - t)))), (13, .long (lN (86400 * (t / 86400 + 1) - t))), (11, .long (lN (86400 * (t / 86400 + 1) - t))), (9, .long (lN (t / 86400))), (0, .ref q), (7, .long (lN w))]) hx hb d_Mod_behind_86 hl (by decide) rfl (fun ls hl => ?_)
            refine lv_lload hx hb d_Mod_behind_88 (lv_at hl 5 rfl) ?_
            refine lv_lload hx hb d_Mod_behind_90 (lv_at hl 1 rfl) ?_
            refine lv_lsub hx hb d_Mod_behind_92 ?_
            refine lv_lstore (lv' := [(7, .long ((lN w) - (lN (86400 * (t / 86400 + 1) - t)))), (5, .long ((lN t) + (lN (86400 * (t / 86400 + 1) - t)))), (13, .long (lN (86400 * (t / 86400 + 1) - t))), (11, .long (lN (86400 * (t / 86400 + 1) - t))), (9, .long (lN (t / 86400))), (0, .ref q)]) hx hb d_Mod_behind_93 hl (by decide) rfl (fun ls hl => ?_)
            refine lv_goto (tgt := 6) hx hb d_Mod_behind_95 (by decide) ?_
            rw [lN_add, lN_sub (by omega), show t + (86400 * (t / 86400 + 1) - t) = 86400 * (t / 86400 + 1) by omega] at hl
            exact ih (86400 * (t / 86400 + 1)) (w - (86400 * (t / 86400 + 1) - t)) ls (by omega) (by omega) hX (by have : 86400 * (t / 86400 + 1) / 86400 = t / 86400 + 1 := Nat.mul_div_cancel_left _ (by decide); omega) (lv_sub hl [5, 1, 0] rfl)
        · have c40 := mt (lg_cmp_gt _ _).mpr c40
          have hd : t / 86400 ≤ 20000 := by
            rcases Nat.lt_or_ge 20000 (t / 86400) with z | z
            · exact absurd (show lN 20000 < lN (t / 86400) from (pk_lLT (by omega) (by omega)).mpr z) c40
            · exact z
          refine lv_aload_n hx hb d_Mod_behind_43 rfl (lv_at hl 2 rfl) ?_
          refine mm_get (v := .ref (ad 15)) E hZ cl_Mod fl_Mod_51 (by decide) hR.1.1 rfl d_Mod_behind_44 ?_
          refine lv_lload hx hb d_Mod_behind_47 (lv_at hl 1 rfl) ?_
          refine lv_l2i hx hb d_Mod_behind_49 rfl ?_
          refine rr_zald 15 rfl rfl E hZ hR (lN_i _) (show (t / 86400) < 20001 by omega) d_Mod_behind_50 ?_
          refine lv_if_eq (tgt := 64) hx hb d_Mod_behind_51 (by decide) (fun c51 => ?_) (fun c51 => ?_)
          · rw [if_neg (fun z => z.2 c51)] at hX
            refine lv_lload hx hb d_Mod_behind_64 (lv_at hl 0 rfl) ?_
            refine lv_lload hx hb d_Mod_behind_66 (lv_at hl 4 rfl) ?_
            refine W.lcmp hx hb d_Mod_behind_68 ?_
            refine lv_if_ge (tgt := 77) hx hb d_Mod_behind_69 (by decide) (fun c69 => ?_) (fun c69 => ?_)
            · have c69 := (lg_cmp_ge _ _).mp c69
              have hr2 : ¬ 86400 * (t / 86400 + 1) - t < w := fun z => by
                have := (pk_lLE (by omega) (by omega)).mp c69
                omega
              rw [if_neg hr2] at hX
              refine lv_lload hx hb d_Mod_behind_77 (lv_at hl 4 rfl) ?_
              refine lv_lstore (lv' := [(13, .long (lN w)), (11, .long (lN (86400 * (t / 86400 + 1) - t))), (9, .long (lN (t / 86400))), (0, .ref q), (5, .long (lN t)), (7, .long (lN w))]) hx hb d_Mod_behind_79 hl (by decide) rfl (fun ls hl => ?_)
              refine lv_lload hx hb d_Mod_behind_81 (lv_at hl 4 rfl) ?_
              refine lv_lload hx hb d_Mod_behind_83 (lv_at hl 0 rfl) ?_
              refine lv_ladd hx hb d_Mod_behind_85 ?_
              refine lv_lstore (lv' := [(5, .long ((lN t) + (lN w))), (13, .long (lN w)), (11, .long (lN (86400 * (t / 86400 + 1) - t))), (9, .long (lN (t / 86400))), (0, .ref q), (7, .long (lN w))]) hx hb d_Mod_behind_86 hl (by decide) rfl (fun ls hl => ?_)
              refine lv_lload hx hb d_Mod_behind_88 (lv_at hl 5 rfl) ?_
              refine lv_lload hx hb d_Mod_behind_90 (lv_at hl 1 rfl) ?_
              refine lv_lsub hx hb d_Mod_behind_92 ?_
              refine lv_lstore (lv' := [(7, .long ((lN w) - (lN w))), (5, .long ((lN t) + (lN w))), (13, .long (lN w)), (11, .long (lN (86400 * (t / 86400 + 1) - t))), (9, .long (lN (t / 86400))), (0, .ref q)]) hx hb d_Mod_behind_93 hl (by decide) rfl (fun ls hl => ?_)
              refine lv_goto (tgt := 6) hx hb d_Mod_behind_95 (by decide) ?_
              rw [lN_add, lN_sub (Nat.le_refl w), Nat.sub_self] at hl
              exact ih (t + w) 0 ls (by omega) (by omega) hX (by omega) (lv_sub hl [5, 1, 0] rfl)
            · have c69 := mt (lg_cmp_ge _ _).mpr c69
              have hr2 : 86400 * (t / 86400 + 1) - t < w := by
                rcases Nat.lt_or_ge (86400 * (t / 86400 + 1) - t) w with z | z
                · exact z
                · exact absurd ((pk_lLE (by omega) (by omega)).mpr z) c69
              rw [if_pos hr2] at hX
              refine lv_lload hx hb d_Mod_behind_72 (lv_at hl 0 rfl) ?_
              refine lv_goto (tgt := 79) hx hb d_Mod_behind_74 (by decide) ?_
              refine lv_lstore (lv' := [(13, .long (lN (86400 * (t / 86400 + 1) - t))), (11, .long (lN (86400 * (t / 86400 + 1) - t))), (9, .long (lN (t / 86400))), (0, .ref q), (5, .long (lN t)), (7, .long (lN w))]) hx hb d_Mod_behind_79 hl (by decide) rfl (fun ls hl => ?_)
              refine lv_lload hx hb d_Mod_behind_81 (lv_at hl 4 rfl) ?_
              refine lv_lload hx hb d_Mod_behind_83 (lv_at hl 0 rfl) ?_
              refine lv_ladd hx hb d_Mod_behind_85 ?_
              refine lv_lstore (lv' := [(5, .long ((lN t) + (lN (86400 * (t / 86400 + 1) - t)))), (13, .long (lN (86400 * (t / 86400 + 1) - t))), (11, .long (lN (86400 * (t / 86400 + 1) - t))), (9, .long (lN (t / 86400))), (0, .ref q), (7, .long (lN w))]) hx hb d_Mod_behind_86 hl (by decide) rfl (fun ls hl => ?_)
              refine lv_lload hx hb d_Mod_behind_88 (lv_at hl 5 rfl) ?_
              refine lv_lload hx hb d_Mod_behind_90 (lv_at hl 1 rfl) ?_
              refine lv_lsub hx hb d_Mod_behind_92 ?_
              refine lv_lstore (lv' := [(7, .long ((lN w) - (lN (86400 * (t / 86400 + 1) - t)))), (5, .long ((lN t) + (lN (86400 * (t / 86400 + 1) - t)))), (13, .long (lN (86400 * (t / 86400 + 1) - t))), (11, .long (lN (86400 * (t / 86400 + 1) - t))), (9, .long (lN (t / 86400))), (0, .ref q)]) hx hb d_Mod_behind_93 hl (by decide) rfl (fun ls hl => ?_)
              refine lv_goto (tgt := 6) hx hb d_Mod_behind_95 (by decide) ?_
              rw [lN_add, lN_sub (by omega), show t + (86400 * (t / 86400 + 1) - t) = 86400 * (t / 86400 + 1) by omega] at hl
              exact ih (86400 * (t / 86400 + 1)) (w - (86400 * (t / 86400 + 1) - t)) ls (by omega) (by omega) hX (by have : 86400 * (t / 86400 + 1) / 86400 = t / 86400 + 1 := Nat.mul_div_cancel_left _ (by decide); omega) (lv_sub hl [5, 1, 0] rfl)
          · rw [if_pos ⟨hd, c51⟩] at hX
            refine lv_lload hx hb d_Mod_behind_54 (lv_at hl 3 rfl) ?_
            refine lv_lload hx hb d_Mod_behind_56 (lv_at hl 0 rfl) ?_
            refine lv_ladd hx hb d_Mod_behind_58 ?_
            refine lv_lstore (lv' := [(5, .long ((lN t) + (lN (86400 * (t / 86400 + 1) - t)))), (11, .long (lN (86400 * (t / 86400 + 1) - t))), (9, .long (lN (t / 86400))), (0, .ref q), (7, .long (lN w))]) hx hb d_Mod_behind_59 hl (by decide) rfl (fun ls hl => ?_)
            refine lv_goto (tgt := 95) hx hb d_Mod_behind_61 (by decide) ?_
            refine lv_goto (tgt := 6) hx hb d_Mod_behind_95 (by decide) ?_
            rw [lN_add, show t + (86400 * (t / 86400 + 1) - t) = 86400 * (t / 86400 + 1) by omega] at hl
            exact ih (86400 * (t / 86400 + 1)) w ls (by omega) hw7 hX (by have : 86400 * (t / 86400 + 1) / 86400 = t / 86400 + 1 := Nat.mul_div_cancel_left _ (by decide); omega) (lv_sub hl [3, 0, 4] rfl)
  exact loop (w0 + 20002) t0 w0 ls (by omega) (by omega) rfl (by omega) (lv_sub hl [2, 1, 0] rfl)
end
section
/-! THE REFERENCE: percentile, cluster -/
/-- how many of the first k are not above v -/
def mny (f : Nat → Int32) (v : Int32) : Nat → Nat
  | 0 => 0
  | k + 1 => if f k ≤ v then mny f v k + 1 else mny f v k
theorem mny_le (f : Nat → Int32) (v : Int32) (k : Nat) : mny f v k ≤ k := by
  induction k with
  | zero => exact Nat.le_refl _
  | succ k ih => unfold mny; split <;> omega
/-- the least of the first k that rk of all n are not above -/
def bst (f : Nat → Int32) (n rk : Nat) : Nat → Int32
  | 0 => 2147483647
  | k + 1 => if rk ≤ mny f (f k) n ∧ f k < bst f n rk k then f k else bst f n rk k
def rkv (n u : Nat) : Nat := if (n * u + 999) / 1000 < 1 then 1 else (n * u + 999) / 1000
theorem nI_42 (j k : Nat) : 4200 * nI j + nI k = nI (4200 * j + k) := by rw [show (4200 : Int32) = nI 4200 from rfl, pk_mul, nI_add]
def pv : Option Nat → Int32
  | none => -1
  | some p => nI p
def obf1 (I : Nat → Nat → Int32) : Option Nat → Nat → Bool
  | none, _ => true
  | some a, p => decide (bf I a p)
def obf2 (I : Nat → Nat → Int32) (p : Nat) : Option Nat → Bool
  | none => true
  | some b => decide (bf I p b)
/-- the first of the clusters below the place p that come behind pl -/
def sel (I : Nat → Nat → Int32) (pl : Option Nat) : Nat → Option Nat
  | 0 => none
  | p + 1 => if (¬ I 21 p ≤ 2) ∧ obf1 I pl p = true ∧ obf2 I p (sel I pl p) = true then some p else sel I pl p
theorem sel_lt {I : Nat → Nat → Int32} {pl : Option Nat} : ∀ {p b : Nat}, sel I pl p = some b → b < p
  | 0, b, h => by cases h
  | p + 1, b, h => by
    unfold sel at h
    split at h
    · cases h; omega
    · have := sel_lt h; omega
/-- the k-th of the clusters in their order (from 1 on) -/
def clp (I : Nat → Nat → Int32) : Nat → Option Nat
  | 0 => none
  | k + 1 => if k = 0 then sel I none 50 else match clp I k with
    | none => none
    | some a => sel I (some a) 50
theorem clp_lt {I : Nat → Nat → Int32} : ∀ {k p : Nat}, clp I k = some p → p < 50
  | 0, p, h => by cases h
  | k + 1, p, h => by
    unfold clp at h
    split at h
    · exact sel_lt h
    · split at h
      · cases h
      · exact sel_lt h
theorem clp_none {I : Nat → Nat → Int32} {k : Nat} (hk : 0 < k) (h : clp I k = none) : ∀ j, k ≤ j → clp I j = none := by
  intro j
  induction j with
  | zero => intro z; omega
  | succ j ih =>
    intro z
    rcases Nat.lt_or_ge k (j + 1) with y | y
    · unfold clp
      rw [if_neg (by omega), ih (by omega)]
    · rw [show j + 1 = k by omega]; exact h
/-- where the search for the i-th ends -/
def clFin (I : Nat → Nat → Int32) (i wh : Int32) (o : Option Nat) : Prop := ((¬ ∃ v : Nat, v < 3 ∧ wh = nI v) ∧ o = none) ∨ ((∃ v : Nat, v < 3 ∧ wh = nI v) ∧ ((i < 0 ∧ o = none) ∨ ∃ ii : Nat, ii < 2 ^ 31 ∧ i = nI ii ∧ o = clp I (ii + 1)))
def clA (I : Nat → Nat → Int32) (wh : Int32) : Option Nat → Int32
  | none => -1
  | some p => if wh = 0 then nI p else if wh = 1 then I 21 p else I 20 p
theorem pv_neg {o : Option Nat} (ho : ∀ p, o = some p → p < 50) (h : pv o < 0) : o = none := by
  cases o with
  | none => rfl
  | some p => exact absurd h (nI_pos (by have := ho p rfl; omega))
theorem pv_pos {o : Option Nat} (h : ¬ pv o < 0) : ∃ p, o = some p := by
  cases o with
  | none => exact absurd (by decide) h
  | some p => exact ⟨p, rfl⟩
set_option maxHeartbeats 4000000 in
set_option maxRecDepth 100000 in
theorem c_Mod_percentile (l : Launch) (g : mm_G) {M : mm_M} {q : Nat} {ad : Nat → Nat} {I : Nat → Nat → Int32} {L : Nat → Nat → Int64} {S : Nat → Int32} {ck : Int64} (h0 : Rs g M q ad I L S ck) (i th : Int32) {cn : Nat → Nat} (hc : ∀ j, j ≤ 4 → I 22 j = nI (cn j) ∧ cn j ≤ 512) : Cl l g y_Mod_percentile b_Mod_percentile 10 (rk 1 25 0 0) M [.ref q, .int i, .int th] (fun r M' => Rq g M M' q ad I L (va_up S 0 0) ck ∧ (((¬ ∃ j u, j ≤ 4 ∧ u ≤ 1000 ∧ i = nI j ∧ th = nI u) ∧ r = (-102)) ∨ ∃ j u, j ≤ 4 ∧ u ≤ 1000 ∧ i = nI j ∧ th = nI u ∧ ((cn j = 0 ∧ r = (-1)) ∨ (0 < cn j ∧ r = (bst (fun z => I 23 (4200 * j + z)) (cn j) (rkv (cn j) u) (cn j)).toInt64)))) := by
  refine mm_enter (by decide) (Nat.le_of_ble_eq_true rfl) (fun pG eV s m args below meth cdx ls Q E hml hr hlk hnm hZ hl eQ => ?_)
  have hx := E.1
  have hb := E.2.1
  have hl : lv_has ls 10 [(0, .ref q), (1, .int i), (2, .int th)] := hl
  have hR := h0.q
  refine lv_aload_n hx hb d_Mod_percentile_0 rfl (lv_at hl 0 rfl) ?_
  refine lv_iconst (v := 0) hx hb d_Mod_percentile_1 (by decide) ?_
  refine rr_put0 E hZ hR fl_Mod_72 d_Mod_percentile_2 (fun M H locs hZ hR => ?_)
  refine lv_iload_n hx hb d_Mod_percentile_5 rfl (lv_at hl 1 rfl) ?_
  refine lv_i2l hx hb d_Mod_percentile_6 rfl ?_
  refine lv_lconst (v := 0) hx hb d_Mod_percentile_7 (by decide) ?_
  refine lv_ldc2 (v := 4) hx hb E.2.2.1 (E.2.2.2.1 _ w_707) d_Mod_percentile_8 ?_
  refine mm_calli (mm_runS (As := [.long i.toInt64, .long 0, .long 4]) (rest := []) E hZ hml hl.1 lk_Mod_78 me_Mod_isIn st_Mod_isIn (c_Mod_isIn l g _ i.toInt64 0 4) ⟨Nat.le_of_ble_eq_true rfl, Nat.le_of_ble_eq_true rfl⟩ rfl (Nat.le_of_ble_eq_true rfl) d_Mod_percentile_11 ⟨Nat.le_of_ble_eq_true rfl, Nat.le_of_ble_eq_true rfl⟩) hZ (fun r1 M1 H locs hp hZ => ?_)
  rw [hp.1] at hZ
  replace hp := hp.2
  have hp1 := hp
  clear hp
  refine lv_if_eq (tgt := 29) hx hb d_Mod_percentile_14 (by decide) (fun c14 => ?_) (fun c14 => ?_)
  · refine lv_ldc2 (v := (-102)) hx hb E.2.2.1 (E.2.2.2.1 _ w_765) d_Mod_percentile_29 ?_
    exact mm_lret (v := (-102)) E hr hlk eQ hZ d_Mod_percentile_32 ⟨_, rfl, hR, Or.inl ⟨fun ⟨j, u, hj, _, e, _⟩ => out_nat (n := 4) (by decide) (by decide) (b32_eq0.mp (hp1 ▸ c14)) j hj e, rfl⟩⟩
  · refine lv_iload_n hx hb d_Mod_percentile_17 rfl (lv_at hl 2 rfl) ?_
    refine lv_i2l hx hb d_Mod_percentile_18 rfl ?_
    refine lv_lconst (v := 0) hx hb d_Mod_percentile_19 (by decide) ?_
    refine lv_ldc2 (v := 1000) hx hb E.2.2.1 (E.2.2.2.1 _ w_770) d_Mod_percentile_20 ?_
    refine mm_calli (mm_runS (As := [.long th.toInt64, .long 0, .long 1000]) (rest := []) E hZ hml hl.1 lk_Mod_78 me_Mod_isIn st_Mod_isIn (c_Mod_isIn l g _ th.toInt64 0 1000) ⟨Nat.le_of_ble_eq_true rfl, Nat.le_of_ble_eq_true rfl⟩ rfl (Nat.le_of_ble_eq_true rfl) d_Mod_percentile_23 ⟨Nat.le_of_ble_eq_true rfl, Nat.le_of_ble_eq_true rfl⟩) hZ (fun r2 M1 H locs hp hZ => ?_)
    rw [hp.1] at hZ
    replace hp := hp.2
    have hp2 := hp
    clear hp
    refine lv_if_ne (tgt := 33) hx hb d_Mod_percentile_26 (by decide) (fun c26 => ?_) (fun c26 => ?_)
    · obtain ⟨j, hj, rfl⟩ := in_nat (n := 4) rfl (by decide) (b32_ne0 (hp1 ▸ c14))
      obtain ⟨u, hu, rfl⟩ := in_nat (n := 1000) rfl (by decide) (b32_ne0 (hp2 ▸ c26))
      obtain ⟨hcj, hc5⟩ := hc j hj
      refine lv_aload_n hx hb d_Mod_percentile_33 rfl (lv_at hl 0 rfl) ?_
      refine mm_get (v := .ref (ad 22)) E hZ cl_Mod fl_Mod_63 (by decide) hR.1.1 rfl d_Mod_percentile_34 ?_
      refine lv_iload_n hx hb d_Mod_percentile_37 rfl (lv_at hl 1 rfl) ?_
      refine rr_iald 22 rfl rfl E hZ hR rfl (show j < 5 by omega) d_Mod_percentile_38 ?_
      rw [hcj]
      refine lv_istore_n (lv' := [(3, .int (nI (cn j))), (0, .ref q), (1, .int (nI j)), (2, .int (nI u))]) hx hb d_Mod_percentile_39 rfl hl (by decide) rfl (fun ls hl => ?_)
      refine lv_iload_n hx hb d_Mod_percentile_40 rfl (lv_at hl 0 rfl) ?_
      refine lv_if_ne (tgt := 48) hx hb d_Mod_percentile_41 (by decide) (fun c41 => ?_) (fun c41 => ?_)
      · have hz : 0 < cn j := by
          rcases Nat.eq_zero_or_pos (cn j) with z | z
          · exact absurd (by rw [z]; rfl) c41
          · exact z
        have hmu : cn j * u ≤ 512 * 1000 := Nat.mul_le_mul hc5 hu
        refine lv_iload_n hx hb d_Mod_percentile_48 rfl (lv_at hl 0 rfl) ?_
        refine lv_iload_n hx hb d_Mod_percentile_49 rfl (lv_at hl 3 rfl) ?_
        refine lv_imul hx hb d_Mod_percentile_50 ?_
        refine lv_sipush (v := 999) hx hb d_Mod_percentile_51 (by decide) ?_
        refine lv_iadd hx hb d_Mod_percentile_54 ?_
        refine lv_sipush (v := 1000) hx hb d_Mod_percentile_55 (by decide) ?_
        rw [pk_mul, show (999 : Int32) = nI 999 from rfl, nI_add, show (1000 : Int32) = nI 1000 from rfl]
        refine lv_idiv hx hb d_Mod_percentile_58 (by decide) ?_
        rw [pk_div (by omega) (by decide) (by decide)]
        refine lv_istore (lv' := [(4, .int (nI ((cn j * u + 999) / 1000))), (3, .int (nI (cn j))), (0, .ref q), (1, .int (nI j)), (2, .int (nI u))]) hx hb d_Mod_percentile_59 hl (by decide) rfl (fun ls hl => ?_)
        refine lv_iload hx hb d_Mod_percentile_61 (lv_at hl 0 rfl) ?_
        refine lv_iconst (v := 1) hx hb d_Mod_percentile_63 (by decide) ?_
        have J73 : ∀ (v : Int32) (ls : Array Slot), v = nI (rkv (cn j) u) → lv_has ls 10 [(0, .ref q), (1, .int (nI j)), (3, .int (nI (cn j)))] → W pG l eV (rk 1 25 0 0) s m args below meth cdx H locs 0 0 Q (F0 m 73 ls [.int v]) := by
          intro v ls hv hl
          subst hv
          refine lv_istore (lv' := [(4, .int (nI (rkv (cn j) u))), (0, .ref q), (1, .int (nI j)), (3, .int (nI (cn j)))]) hx hb d_Mod_percentile_73 hl (by decide) rfl (fun ls hl => ?_)
          refine lv_ldc (v := 2147483647) hx hb E.2.2.1 (E.2.2.2.1 _ w_771) d_Mod_percentile_75 ?_
          refine lv_istore (lv' := [(5, .int 2147483647), (4, .int (nI (rkv (cn j) u))), (0, .ref q), (1, .int (nI j)), (3, .int (nI (cn j)))]) hx hb d_Mod_percentile_77 hl (by decide) rfl (fun ls hl => ?_)
          refine lv_iconst (v := 0) hx hb d_Mod_percentile_79 (by decide) ?_
          refine lv_istore (lv' := [(6, .int 0), (5, .int 2147483647), (4, .int (nI (rkv (cn j) u))), (0, .ref q), (1, .int (nI j)), (3, .int (nI (cn j)))]) hx hb d_Mod_percentile_80 hl (by decide) rfl (fun ls hl => ?_)
          have loop : ∀ (n : Nat) (k : Nat) (be : Int32) (ls : Array Slot), k ≤ cn j → be = bst (fun z => I 23 (4200 * j + z)) (cn j) (rkv (cn j) u) k → cn j + 1 ≤ k + n → lv_has ls 10 [(0, .ref q), (1, .int (nI j)), (3, .int (nI (cn j))), (4, .int (nI (rkv (cn j) u))), (5, .int be), (6, .int (nI k))] → W pG l eV (rk 1 25 0 0) s m args below meth cdx H locs 0 0 Q (F0 m 82 ls []) := by
            intro n
            induction n with
            | zero => exact fun k be ls hkc hbe hfu _ => absurd hfu (by omega)
            | succ n ih =>
              intro k be ls hkc hbe hfu hl
              refine lv_iload hx hb d_Mod_percentile_82 (lv_at hl 5 rfl) ?_
              refine lv_iload_n hx hb d_Mod_percentile_84 rfl (lv_at hl 2 rfl) ?_
              refine lv_icmp_ge (tgt := 179) hx hb d_Mod_percentile_85 (by decide) (fun c85 => ?_) (fun c85 => ?_)
              · have hk : k = cn j := by
                  rcases Nat.lt_or_ge k (cn j) with z | z
                  · exact absurd c85 (nI_ge z (by omega))
                  · omega
                rw [hk] at hbe
                refine lv_iload hx hb d_Mod_percentile_179 (lv_at hl 4 rfl) ?_
                refine lv_i2l hx hb d_Mod_percentile_181 rfl ?_
                exact mm_lret (v := be.toInt64) E hr hlk eQ hZ d_Mod_percentile_182 ⟨_, rfl, hR, Or.inr ⟨j, u, hj, hu, rfl, rfl, Or.inr ⟨hz, by rw [hbe]⟩⟩⟩
              · have hk : k < cn j := by
                  rcases Nat.lt_or_ge k (cn j) with z | z
                  · exact z
                  · exact absurd (nI_le z (by omega)) c85
                refine lv_aload_n hx hb d_Mod_percentile_88 rfl (lv_at hl 0 rfl) ?_
                refine mm_get (v := .ref (ad 23)) E hZ cl_Mod fl_Mod_66 (by decide) hR.1.1 rfl d_Mod_percentile_89 ?_
                refine lv_sipush (v := 4200) hx hb d_Mod_percentile_92 (by decide) ?_
                refine lv_iload_n hx hb d_Mod_percentile_95 rfl (lv_at hl 1 rfl) ?_
                refine lv_imul hx hb d_Mod_percentile_96 ?_
                refine lv_iload hx hb d_Mod_percentile_97 (lv_at hl 5 rfl) ?_
                refine lv_iadd hx hb d_Mod_percentile_99 ?_
                refine rr_iald 23 rfl rfl E hZ hR (nI_42 j k) (show (4200 * j + k) < 21000 by omega) d_Mod_percentile_100 ?_
                refine lv_istore (lv' := [(7, .int (I 23 (4200 * j + k))), (0, .ref q), (1, .int (nI j)), (3, .int (nI (cn j))), (4, .int (nI (rkv (cn j) u))), (5, .int be), (6, .int (nI k))]) hx hb d_Mod_percentile_101 hl (by decide) rfl (fun ls hl => ?_)
                refine lv_iconst (v := 0) hx hb d_Mod_percentile_103 (by decide) ?_
                refine lv_istore (lv' := [(8, .int 0), (7, .int (I 23 (4200 * j + k))), (0, .ref q), (1, .int (nI j)), (3, .int (nI (cn j))), (4, .int (nI (rkv (cn j) u))), (5, .int be), (6, .int (nI k))]) hx hb d_Mod_percentile_104 hl (by decide) rfl (fun ls hl => ?_)
                refine lv_iconst (v := 0) hx hb d_Mod_percentile_106 (by decide) ?_
                refine lv_istore (lv' := [(9, .int 0), (8, .int 0), (7, .int (I 23 (4200 * j + k))), (0, .ref q), (1, .int (nI j)), (3, .int (nI (cn j))), (4, .int (nI (rkv (cn j) u))), (5, .int be), (6, .int (nI k))]) hx hb d_Mod_percentile_107 hl (by decide) rfl (fun ls hl => ?_)
                have J171 : ∀ (v : Int32) (ls : Array Slot), v = bst (fun z => I 23 (4200 * j + z)) (cn j) (rkv (cn j) u) (k + 1) → lv_has ls 10 [(0, .ref q), (1, .int (nI j)), (3, .int (nI (cn j))), (4, .int (nI (rkv (cn j) u))), (5, .int be), (6, .int (nI k))] → W pG l eV (rk 1 25 0 0) s m args below meth cdx H locs 0 0 Q (F0 m 171 ls [.int v]) := by
                  intro v ls hv hl
                  refine lv_istore (lv' := [(5, .int v), (0, .ref q), (1, .int (nI j)), (3, .int (nI (cn j))), (4, .int (nI (rkv (cn j) u))), (6, .int (nI k))]) hx hb d_Mod_percentile_171 hl (by decide) rfl (fun ls hl => ?_)
                  refine lv_iinc (v := (nI k) + 1) (lv' := [(6, .int ((nI k) + 1)), (5, .int v), (0, .ref q), (1, .int (nI j)), (3, .int (nI (cn j))), (4, .int (nI (rkv (cn j) u)))]) hx hb d_Mod_percentile_173 hl (k := 5) rfl rfl (by decide) rfl (fun ls hl => ?_)
                  refine lv_goto (tgt := 82) hx hb d_Mod_percentile_176 (by decide) ?_
                  rw [nI_1] at hl
                  exact ih (k + 1) v ls (by omega) hv (by omega) (lv_sub hl [2, 3, 4, 5, 1, 0] rfl)
                have loop2 : ∀ (n2 : Nat) (z : Nat) (ls : Array Slot), z ≤ cn j → cn j + 1 ≤ z + n2 → lv_has ls 10 [(0, .ref q), (1, .int (nI j)), (3, .int (nI (cn j))), (4, .int (nI (rkv (cn j) u))), (5, .int be), (6, .int (nI k)), (7, .int (I 23 (4200 * j + k))), (8, .int (nI (mny (fun z => I 23 (4200 * j + z)) (I 23 (4200 * j + k)) z))), (9, .int (nI z))] → W pG l eV (rk 1 25 0 0) s m args below meth cdx H locs 0 0 Q (F0 m 109 ls []) := by
                  intro n2
                  induction n2 with
                  | zero => exact fun z ls hzc hfu _ => absurd hfu (by omega)
                  | succ n2 ih2 =>
                    intro z ls hzc hfu hl
                    refine lv_iload hx hb d_Mod_percentile_109 (lv_at hl 8 rfl) ?_
                    refine lv_iload_n hx hb d_Mod_percentile_111 rfl (lv_at hl 2 rfl) ?_
                    refine lv_icmp_ge (tgt := 150) hx hb d_Mod_percentile_112 (by decide) (fun c112 => ?_) (fun c112 => ?_)
                    · have hz2 : z = cn j := by
                        rcases Nat.lt_or_ge z (cn j) with y | y
                        · exact absurd c112 (nI_ge y (by omega))
                        · omega
                      rw [hz2] at hl
                      have hml0 := mny_le (fun z => I 23 (4200 * j + z)) (I 23 (4200 * j + k)) (cn j)
                      have hrk : rkv (cn j) u < 2 ^ 31 := by unfold rkv; split <;> omega
                      refine lv_iload hx hb d_Mod_percentile_150 (lv_at hl 7 rfl) ?_
                      refine lv_iload hx hb d_Mod_percentile_152 (lv_at hl 3 rfl) ?_
                      refine lv_icmp_lt (tgt := 169) hx hb d_Mod_percentile_154 (by decide) (fun c154 => ?_) (fun c154 => ?_)
                      · refine lv_iload hx hb d_Mod_percentile_169 (lv_at hl 4 rfl) ?_
                        exact J171 _ ls (by rw [bst, if_neg (fun y => absurd y.1 (Nat.not_le.mpr ((nI_ltI (by omega) (by omega)).mp c154)))]; exact hbe) (lv_sub hl [0, 1, 2, 3, 4, 5] rfl)
                      · refine lv_iload hx hb d_Mod_percentile_157 (lv_at hl 6 rfl) ?_
                        refine lv_iload hx hb d_Mod_percentile_159 (lv_at hl 4 rfl) ?_
                        refine lv_icmp_ge (tgt := 169) hx hb d_Mod_percentile_161 (by decide) (fun c161 => ?_) (fun c161 => ?_)
                        · refine lv_iload hx hb d_Mod_percentile_169 (lv_at hl 4 rfl) ?_
                          exact J171 _ ls (by rw [bst, if_neg (fun y => absurd (hbe ▸ y.2) (Int32.not_lt.mpr c161))]; exact hbe) (lv_sub hl [0, 1, 2, 3, 4, 5] rfl)
                        · refine lv_iload hx hb d_Mod_percentile_164 (lv_at hl 6 rfl) ?_
                          refine lv_goto (tgt := 171) hx hb d_Mod_percentile_166 (by decide) ?_
                          exact J171 _ ls (by rw [bst, if_pos ⟨(nI_leI (by omega) (by omega)).mp (Int32.not_lt.mp c154), by rw [← hbe]; exact Int32.not_le.mp c161⟩]) (lv_sub hl [0, 1, 2, 3, 4, 5] rfl)
                    · have hz2 : z < cn j := by
                        rcases Nat.lt_or_ge z (cn j) with y | y
                        · exact y
                        · exact absurd (nI_le y (by omega)) c112
                      refine lv_aload_n hx hb d_Mod_percentile_115 rfl (lv_at hl 0 rfl) ?_
                      refine mm_get (v := .ref (ad 23)) E hZ cl_Mod fl_Mod_66 (by decide) hR.1.1 rfl d_Mod_percentile_116 ?_
                      refine lv_sipush (v := 4200) hx hb d_Mod_percentile_119 (by decide) ?_
                      refine lv_iload_n hx hb d_Mod_percentile_122 rfl (lv_at hl 1 rfl) ?_
                      refine lv_imul hx hb d_Mod_percentile_123 ?_
                      refine lv_iload hx hb d_Mod_percentile_124 (lv_at hl 8 rfl) ?_
                      refine lv_iadd hx hb d_Mod_percentile_126 ?_
                      refine rr_iald 23 rfl rfl E hZ hR (nI_42 j z) (show (4200 * j + z) < 21000 by omega) d_Mod_percentile_127 ?_
                      refine lv_iload hx hb d_Mod_percentile_128 (lv_at hl 6 rfl) ?_
                      refine lv_icmp_gt (tgt := 140) hx hb d_Mod_percentile_130 (by decide) (fun c130 => ?_) (fun c130 => ?_)
                      · refine lv_iload hx hb d_Mod_percentile_140 (lv_at hl 7 rfl) ?_
                        refine lv_istore (lv' := [(8, .int (nI (mny (fun z => I 23 (4200 * j + z)) (I 23 (4200 * j + k)) z))), (0, .ref q), (1, .int (nI j)), (3, .int (nI (cn j))), (4, .int (nI (rkv (cn j) u))), (5, .int be), (6, .int (nI k)), (7, .int (I 23 (4200 * j + k))), (9, .int (nI z))]) hx hb d_Mod_percentile_142 hl (by decide) rfl (fun ls hl => ?_)
                        refine lv_iinc (v := (nI z) + 1) (lv' := [(9, .int ((nI z) + 1)), (8, .int (nI (mny (fun z => I 23 (4200 * j + z)) (I 23 (4200 * j + k)) z))), (0, .ref q), (1, .int (nI j)), (3, .int (nI (cn j))), (4, .int (nI (rkv (cn j) u))), (5, .int be), (6, .int (nI k)), (7, .int (I 23 (4200 * j + k)))]) hx hb d_Mod_percentile_144 hl (k := 8) rfl rfl (by decide) rfl (fun ls hl => ?_)
                        refine lv_goto (tgt := 109) hx hb d_Mod_percentile_147 (by decide) ?_
                        rw [nI_1] at hl
                        have hm : mny (fun z => I 23 (4200 * j + z)) (I 23 (4200 * j + k)) (z + 1) = mny (fun z => I 23 (4200 * j + z)) (I 23 (4200 * j + k)) z := by rw [mny, if_neg (Int32.not_le.mpr c130)]
                        rw [← hm] at hl
                        exact ih2 (z + 1) ls (by omega) (by omega) (lv_sub hl [2, 3, 4, 5, 6, 7, 8, 1, 0] rfl)
                      · refine lv_iload hx hb d_Mod_percentile_133 (lv_at hl 7 rfl) ?_
                        refine lv_iconst (v := 1) hx hb d_Mod_percentile_135 (by decide) ?_
                        refine lv_iadd hx hb d_Mod_percentile_136 ?_
                        refine lv_goto (tgt := 142) hx hb d_Mod_percentile_137 (by decide) ?_
                        refine lv_istore (lv' := [(8, .int ((nI (mny (fun z => I 23 (4200 * j + z)) (I 23 (4200 * j + k)) z)) + 1)), (0, .ref q), (1, .int (nI j)), (3, .int (nI (cn j))), (4, .int (nI (rkv (cn j) u))), (5, .int be), (6, .int (nI k)), (7, .int (I 23 (4200 * j + k))), (9, .int (nI z))]) hx hb d_Mod_percentile_142 hl (by decide) rfl (fun ls hl => ?_)
                        refine lv_iinc (v := (nI z) + 1) (lv' := [(9, .int ((nI z) + 1)), (8, .int ((nI (mny (fun z => I 23 (4200 * j + z)) (I 23 (4200 * j + k)) z)) + 1)), (0, .ref q), (1, .int (nI j)), (3, .int (nI (cn j))), (4, .int (nI (rkv (cn j) u))), (5, .int be), (6, .int (nI k)), (7, .int (I 23 (4200 * j + k)))]) hx hb d_Mod_percentile_144 hl (k := 8) rfl rfl (by decide) rfl (fun ls hl => ?_)
                        refine lv_goto (tgt := 109) hx hb d_Mod_percentile_147 (by decide) ?_
                        rw [nI_1] at hl
                        rw [nI_1] at hl
                        have hm : mny (fun z => I 23 (4200 * j + z)) (I 23 (4200 * j + k)) (z + 1) = mny (fun z => I 23 (4200 * j + z)) (I 23 (4200 * j + k)) z + 1 := by rw [mny, if_pos (Int32.not_lt.mp c130)]
                        rw [← hm] at hl
                        exact ih2 (z + 1) ls (by omega) (by omega) (lv_sub hl [2, 3, 4, 5, 6, 7, 8, 1, 0] rfl)
                exact loop2 (cn j + 1) 0 ls (Nat.zero_le _) (by omega) (lv_sub hl [3, 4, 5, 6, 7, 8, 2, 1, 0] rfl)
          exact loop (cn j + 1) 0 2147483647 ls (Nat.zero_le _) rfl (by omega) (lv_sub hl [3, 4, 5, 2, 1, 0] rfl)
        refine lv_icmp_ge (tgt := 71) hx hb d_Mod_percentile_64 (by decide) (fun c64 => ?_) (fun c64 => ?_)
        · refine lv_iload hx hb d_Mod_percentile_71 (lv_at hl 0 rfl) ?_
          exact J73 _ ls (by rw [rkv, if_neg (fun y => absurd c64 (nI_ge y (by decide)))]) (lv_sub hl [2, 3, 1] rfl)
        · refine lv_iconst (v := 1) hx hb d_Mod_percentile_67 (by decide) ?_
          refine lv_goto (tgt := 73) hx hb d_Mod_percentile_68 (by decide) ?_
          exact J73 _ ls (by rw [rkv, if_pos (by
            rcases Nat.lt_or_ge ((cn j * u + 999) / 1000) 1 with y | y
            · exact y
            · exact absurd (show nI 1 ≤ _ from nI_le y (by omega)) c64)]; rfl) (lv_sub hl [2, 3, 1] rfl)
      · have hz : cn j = 0 := (nI_eq (by omega) (by decide)).mp (show nI (cn j) = nI 0 from c41)
        refine lv_ldc2 (v := (-1)) hx hb E.2.2.1 (E.2.2.2.1 _ w_705) d_Mod_percentile_44 ?_
        exact mm_lret (v := (-1)) E hr hlk eQ hZ d_Mod_percentile_47 ⟨_, rfl, hR, Or.inr ⟨j, u, hj, hu, rfl, rfl, Or.inl ⟨hz, rfl⟩⟩⟩
    · refine lv_ldc2 (v := (-102)) hx hb E.2.2.1 (E.2.2.2.1 _ w_765) d_Mod_percentile_29 ?_
      exact mm_lret (v := (-102)) E hr hlk eQ hZ d_Mod_percentile_32 ⟨_, rfl, hR, Or.inl ⟨fun ⟨j, u, _, hu, _, e⟩ => out_nat (n := 1000) (by decide) (by decide) (b32_eq0.mp (hp2 ▸ c26)) u hu e, rfl⟩⟩
end
section
/-! THE REFERENCE: cluster -/
set_option maxHeartbeats 4000000 in
set_option maxRecDepth 100000 in
theorem c_Mod_cluster (l : Launch) (g : mm_G) {M : mm_M} {q : Nat} {ad : Nat → Nat} {I : Nat → Nat → Int32} {L : Nat → Nat → Int64} {S : Nat → Int32} {ck : Int64} (h0 : Rs g M q ad I L S ck) (i wh : Int32) (hK : ∀ k a, clp I k = some a → k ≤ 50) : Ci l g y_Mod_cluster b_Mod_cluster 8 .int (rk 1 26 0 0) M [.ref q, .int i, .int wh] (fun r M' => Rq g M M' q ad I L (va_up S 0 0) ck ∧ ∃ o, clFin I i wh o ∧ r = clA I wh o) := by
  refine mm_enter (by decide) (Nat.le_of_ble_eq_true rfl) (fun pG eV s m args below meth cdx ls Q E hml hr hlk hnm hZ hl eQ => ?_)
  have hx := E.1
  have hb := E.2.1
  have hl : lv_has ls 8 [(0, .ref q), (1, .int i), (2, .int wh)] := hl
  have hR := h0.q
  refine lv_aload_n hx hb d_Mod_cluster_0 rfl (lv_at hl 0 rfl) ?_
  refine lv_iconst (v := 0) hx hb d_Mod_cluster_1 (by decide) ?_
  refine rr_put0 E hZ hR fl_Mod_72 d_Mod_cluster_2 (fun M H locs hZ hR => ?_)
  refine lv_iconst (v := (-1)) hx hb d_Mod_cluster_5 (by decide) ?_
  refine lv_istore_n (lv' := [(3, .int (-1)), (0, .ref q), (1, .int i), (2, .int wh)]) hx hb d_Mod_cluster_6 rfl hl (by decide) rfl (fun ls hl => ?_)
  refine lv_iconst (v := 0) hx hb d_Mod_cluster_7 (by decide) ?_
  refine lv_istore (lv' := [(4, .int 0), (3, .int (-1)), (0, .ref q), (1, .int i), (2, .int wh)]) hx hb d_Mod_cluster_8 hl (by decide) rfl (fun ls hl => ?_)
  have J124 : ∀ (o : Option Nat) (H : Heap) (locs : List Loc) (ls : Array Slot), mm_S g s M H locs → (∀ p, o = some p → p < 50) → clFin I i wh o → lv_has ls 8 [(0, .ref q), (2, .int wh), (3, .int (pv o))] → W pG l eV (rk 1 26 0 0) s m args below meth cdx H locs 0 0 Q (F0 m 124 ls []) := by
    intro o H locs ls hZ ho hF hl
    refine lv_iload_n hx hb d_Mod_cluster_124 rfl (lv_at hl 2 rfl) ?_
    refine lv_if_ge (tgt := 132) hx hb d_Mod_cluster_125 (by decide) (fun c125 => ?_) (fun c125 => ?_)
    · obtain ⟨p0, rfl⟩ := pv_pos (o := o) (fun z => absurd c125 (Int32.not_le.mpr z))
      have hp5 := ho p0 rfl
      refine lv_iload_n hx hb d_Mod_cluster_132 rfl (lv_at hl 1 rfl) ?_
      refine lv_if_ne (tgt := 140) hx hb d_Mod_cluster_133 (by decide) (fun c133 => ?_) (fun c133 => ?_)
      · refine lv_iload_n hx hb d_Mod_cluster_140 rfl (lv_at hl 1 rfl) ?_
        refine lv_iconst (v := 1) hx hb d_Mod_cluster_141 (by decide) ?_
        refine lv_icmp_ne (tgt := 154) hx hb d_Mod_cluster_142 (by decide) (fun c142 => ?_) (fun c142 => ?_)
        · refine lv_aload_n hx hb d_Mod_cluster_154 rfl (lv_at hl 0 rfl) ?_
          refine mm_get (v := .ref (ad 20)) E hZ cl_Mod fl_Mod_57 (by decide) hR.1.1 rfl d_Mod_cluster_155 ?_
          refine lv_iload_n hx hb d_Mod_cluster_158 rfl (lv_at hl 2 rfl) ?_
          refine rr_iald 20 rfl rfl E hZ hR (show pv (some p0) = nI p0 from rfl) (show p0 < 50 by omega) d_Mod_cluster_159 ?_
          exact mm_iret (v := I 20 p0) E hr hlk eQ hZ d_Mod_cluster_160 ⟨_, rfl, hR, some p0, hF, by rw [clA, if_neg c133, if_neg c142]⟩
        · refine lv_aload_n hx hb d_Mod_cluster_145 rfl (lv_at hl 0 rfl) ?_
          refine mm_get (v := .ref (ad 21)) E hZ cl_Mod fl_Mod_60 (by decide) hR.1.1 rfl d_Mod_cluster_146 ?_
          refine lv_iload_n hx hb d_Mod_cluster_149 rfl (lv_at hl 2 rfl) ?_
          refine rr_iald 21 rfl rfl E hZ hR (show pv (some p0) = nI p0 from rfl) (show p0 < 50 by omega) d_Mod_cluster_150 ?_
          refine lv_goto (tgt := 160) hx hb d_Mod_cluster_151 (by decide) ?_
          exact mm_iret (v := I 21 p0) E hr hlk eQ hZ d_Mod_cluster_160 ⟨_, rfl, hR, some p0, hF, by rw [clA, if_neg c133, if_pos c142]⟩
      · refine lv_iload_n hx hb d_Mod_cluster_136 rfl (lv_at hl 2 rfl) ?_
        refine lv_goto (tgt := 160) hx hb d_Mod_cluster_137 (by decide) ?_
        exact mm_iret (v := pv (some p0)) E hr hlk eQ hZ d_Mod_cluster_160 ⟨_, rfl, hR, some p0, hF, by rw [clA, if_pos c133]; rfl⟩
    · have ho2 := pv_neg ho (Int32.not_le.mp c125)
      subst ho2
      refine lv_iconst (v := (-1)) hx hb d_Mod_cluster_128 (by decide) ?_
      refine lv_goto (tgt := 160) hx hb d_Mod_cluster_129 (by decide) ?_
      exact mm_iret (v := (-1)) E hr hlk eQ hZ d_Mod_cluster_160 ⟨_, rfl, hR, none, hF, rfl⟩
  have loop : ∀ (n : Nat) (k : Nat) (H : Heap) (locs : List Loc) (ls : Array Slot), mm_S g s M H locs → k ≤ 51 → (0 < k → ∃ v : Nat, v < 3 ∧ wh = nI v) → (∀ ii, ii < 2 ^ 31 → i = nI ii → k ≤ ii + 1) → (i < 0 → k = 0) → 52 ≤ k + n → lv_has ls 8 [(0, .ref q), (1, .int i), (2, .int wh), (3, .int (pv (clp I k))), (4, .int (nI k))] → W pG l eV (rk 1 26 0 0) s m args below meth cdx H locs 0 0 Q (F0 m 10 ls []) := by
    intro n
    induction n with
    | zero => exact fun k H locs ls _ hk5 hw hle hneg hfu _ => absurd hfu (by omega)
    | succ n ih =>
      intro k H locs ls hZ hk5 hw hle hneg hfu hl
      have hfo := hfu
      refine lv_iload hx hb d_Mod_cluster_10 (lv_at hl 4 rfl) ?_
      refine lv_iload_n hx hb d_Mod_cluster_12 rfl (lv_at hl 1 rfl) ?_
      refine lv_icmp_gt (tgt := 124) hx hb d_Mod_cluster_13 (by decide) (fun c13 => ?_) (fun c13 => ?_)
      · rcases Classical.em (∃ v : Nat, v < 3 ∧ wh = nI v) with hwh | hwh
        · rcases Classical.em (i < 0) with hi0 | hi0
          · have hk0 := hneg hi0
            subst hk0
            exact J124 none H locs ls hZ (fun p z => by cases z) (Or.inr ⟨hwh, Or.inl ⟨hi0, rfl⟩⟩) (lv_sub hl [0, 2, 3] rfl)
          · obtain ⟨ii, hii, rfl⟩ := nI_of hi0
            have hk1 : k = ii + 1 := by
              have h1 := hle ii hii rfl
              have h2 := (nI_ltI hii (by omega)).mp c13
              omega
            subst hk1
            exact J124 (clp I (ii + 1)) H locs ls hZ (fun p z => clp_lt z) (Or.inr ⟨hwh, Or.inr ⟨ii, hii, rfl, rfl⟩⟩) (lv_sub hl [0, 2, 3] rfl)
        · have hk0 : k = 0 := by
            rcases Nat.eq_zero_or_pos k with z | z
            · exact z
            · exact absurd (hw z) hwh
          subst hk0
          exact J124 none H locs ls hZ (fun p z => by cases z) (Or.inl ⟨hwh, rfl⟩) (lv_sub hl [0, 2, 3] rfl)
      · obtain ⟨ii, hii, rfl⟩ : ∃ ii : Nat, ii < 2 ^ 31 ∧ i = nI ii := nI_of (fun z => c13 (Int32.lt_of_lt_of_le z (nI_pos' (by omega))))
        have hki : k ≤ ii := by
          rcases Nat.lt_or_ge ii k with z | z
          · exact absurd (nI_lt z (by omega)) c13
          · exact z
        refine lv_iload_n hx hb d_Mod_cluster_16 rfl (lv_at hl 2 rfl) ?_
        refine lv_if_lt (tgt := 124) hx hb d_Mod_cluster_17 (by decide) (fun c17 => ?_) (fun c17 => ?_)
        · have hk0 : k = 0 := by
            rcases Nat.eq_zero_or_pos k with z | z
            · exact z
            · exact absurd (hw z) (fun ⟨v, hv, e⟩ => absurd (e ▸ c17) (nI_pos (by omega)))
          subst hk0
          exact J124 none H locs ls hZ (fun p z => by cases z) (Or.inl ⟨fun ⟨v, hv, e⟩ => absurd (e ▸ c17) (nI_pos (by omega)), rfl⟩) (lv_sub hl [0, 2, 3] rfl)
        · refine lv_iload_n hx hb d_Mod_cluster_20 rfl (lv_at hl 2 rfl) ?_
          refine lv_iconst (v := 3) hx hb d_Mod_cluster_21 (by decide) ?_
          refine lv_icmp_ge (tgt := 124) hx hb d_Mod_cluster_22 (by decide) (fun c22 => ?_) (fun c22 => ?_)
          · have hk0 : k = 0 := by
              rcases Nat.eq_zero_or_pos k with z | z
              · exact z
              · exact absurd (hw z) (fun ⟨v, hv, e⟩ => absurd (show nI 3 ≤ nI v from e ▸ c22) (nI_ge hv (by decide)))
            subst hk0
            exact J124 none H locs ls hZ (fun p z => by cases z) (Or.inl ⟨fun ⟨v, hv, e⟩ => absurd (show nI 3 ≤ nI v from e ▸ c22) (nI_ge hv (by decide)), rfl⟩) (lv_sub hl [0, 2, 3] rfl)
          · obtain ⟨v, hv, hwv⟩ : ∃ v : Nat, v < 3 ∧ wh = nI v := by
              rcases pk_ix wh (show 3 < 2 ^ 31 by decide) with z | z | z
              · exact absurd z c17
              · exact absurd z c22
              · exact z
            have J34 : ∀  (H : Heap) (locs : List Loc) (ls : Array Slot), mm_S g s M H locs → clp I (k + 1) = sel I (clp I k) 50 → k ≤ 50 → lv_has ls 8 [(0, .ref q), (1, .int (nI ii)), (2, .int wh), (3, .int (pv (clp I k))), (4, .int (nI k))] → W pG l eV (rk 1 26 0 0) s m args below meth cdx H locs 0 0 Q (F0 m 34 ls []) := by
              intro  H locs ls hZ hnx hk51 hl
              refine lv_iconst (v := (-1)) hx hb d_Mod_cluster_34 (by decide) ?_
              refine lv_istore (lv' := [(5, .int (-1)), (0, .ref q), (1, .int (nI ii)), (2, .int wh), (3, .int (pv (clp I k))), (4, .int (nI k))]) hx hb d_Mod_cluster_35 hl (by decide) rfl (fun ls hl => ?_)
              refine lv_iconst (v := 0) hx hb d_Mod_cluster_37 (by decide) ?_
              refine lv_istore (lv' := [(6, .int 0), (5, .int (-1)), (0, .ref q), (1, .int (nI ii)), (2, .int wh), (3, .int (pv (clp I k))), (4, .int (nI k))]) hx hb d_Mod_cluster_38 hl (by decide) rfl (fun ls hl => ?_)
              have loop2 : ∀ (n2 : Nat) (p2 : Nat) (H : Heap) (locs : List Loc) (ls : Array Slot), mm_S g s M H locs → p2 ≤ 50 → 51 ≤ p2 + n2 → lv_has ls 8 [(0, .ref q), (1, .int (nI ii)), (2, .int wh), (3, .int (pv (clp I k))), (4, .int (nI k)), (5, .int (pv (sel I (clp I k) p2))), (6, .int (nI p2))] → W pG l eV (rk 1 26 0 0) s m args below meth cdx H locs 0 0 Q (F0 m 40 ls []) := by
                intro n2
                induction n2 with
                | zero => exact fun p2 H locs ls _ hp50 hfu _ => absurd hfu (by omega)
                | succ n2 ih2 =>
                  intro p2 H locs ls hZ hp50 hfu hl
                  refine lv_iload hx hb d_Mod_cluster_40 (lv_at hl 6 rfl) ?_
                  refine lv_bipush (v := 50) hx hb d_Mod_cluster_42 (by decide) ?_
                  refine lv_icmp_ge (tgt := 115) hx hb d_Mod_cluster_44 (by decide) (fun c44 => ?_) (fun c44 => ?_)
                  · have hp2 : p2 = 50 := by
                      rcases Nat.lt_or_ge p2 50 with z | z
                      · exact absurd (show nI 50 ≤ nI p2 from c44) (nI_ge z (by decide))
                      · omega
                    subst hp2
                    refine lv_iload hx hb d_Mod_cluster_115 (lv_at hl 5 rfl) ?_
                    refine lv_istore_n (lv' := [(3, .int (pv (sel I (clp I k) 50))), (0, .ref q), (1, .int (nI ii)), (2, .int wh), (4, .int (nI k)), (5, .int (pv (sel I (clp I k) 50))), (6, .int (nI 50))]) hx hb d_Mod_cluster_117 rfl hl (by decide) rfl (fun ls hl => ?_)
                    refine lv_iinc (v := (nI k) + 1) (lv' := [(4, .int ((nI k) + 1)), (3, .int (pv (sel I (clp I k) 50))), (0, .ref q), (1, .int (nI ii)), (2, .int wh), (5, .int (pv (sel I (clp I k) 50))), (6, .int (nI 50))]) hx hb d_Mod_cluster_118 hl (k := 4) rfl rfl (by decide) rfl (fun ls hl => ?_)
                    refine lv_goto (tgt := 10) hx hb d_Mod_cluster_121 (by decide) ?_
                    rw [nI_1, ← hnx] at hl
                    exact ih (k + 1) H locs ls hZ (by omega) (fun z => ⟨v, hv, hwv⟩) (fun ii2 h2 e2 => by
                      have := (nI_eq (by omega) (by omega)).mp e2
                      omega) (fun z => absurd z (nI_pos (by omega))) (by omega) (lv_sub hl [2, 3, 4, 1, 0] rfl)
                  · have hp2 : p2 < 50 := by
                      rcases Nat.lt_or_ge p2 50 with z | z
                      · exact z
                      · exact absurd (show nI 50 ≤ nI p2 from nI_le z (by omega)) c44
                    have J107 : ∀ (v2 : Int32) (H : Heap) (locs : List Loc) (ls : Array Slot), mm_S g s M H locs → v2 = pv (sel I (clp I k) (p2 + 1)) → lv_has ls 8 [(0, .ref q), (1, .int (nI ii)), (2, .int wh), (3, .int (pv (clp I k))), (4, .int (nI k)), (5, .int (pv (sel I (clp I k) p2))), (6, .int (nI p2))] → W pG l eV (rk 1 26 0 0) s m args below meth cdx H locs 0 0 Q (F0 m 107 ls [.int v2]) := by
                      intro v2 H locs ls hZ hv2 hl
                      refine lv_istore (lv' := [(5, .int v2), (0, .ref q), (1, .int (nI ii)), (2, .int wh), (3, .int (pv (clp I k))), (4, .int (nI k)), (6, .int (nI p2))]) hx hb d_Mod_cluster_107 hl (by decide) rfl (fun ls hl => ?_)
                      refine lv_iinc (v := (nI p2) + 1) (lv' := [(6, .int ((nI p2) + 1)), (5, .int v2), (0, .ref q), (1, .int (nI ii)), (2, .int wh), (3, .int (pv (clp I k))), (4, .int (nI k))]) hx hb d_Mod_cluster_109 hl (k := 6) rfl rfl (by decide) rfl (fun ls hl => ?_)
                      refine lv_goto (tgt := 40) hx hb d_Mod_cluster_112 (by decide) ?_
                      subst hv2
                      rw [nI_1] at hl
                      exact ih2 (p2 + 1) H locs ls hZ (by omega) (by omega) (lv_sub hl [2, 3, 4, 5, 6, 1, 0] rfl)
                    have J77 : ∀ (is2 : Int32) (H : Heap) (locs : List Loc) (ls : Array Slot), mm_S g s M H locs → is2 = b32 ((¬ I 21 p2 ≤ 2) ∧ obf1 I (clp I k) p2 = true) → lv_has ls 8 [(0, .ref q), (1, .int (nI ii)), (2, .int wh), (3, .int (pv (clp I k))), (4, .int (nI k)), (5, .int (pv (sel I (clp I k) p2))), (6, .int (nI p2))] → W pG l eV (rk 1 26 0 0) s m args below meth cdx H locs 0 0 Q (F0 m 77 ls [.int is2]) := by
                      intro is2 H locs ls hZ his hl
                      refine lv_istore (lv' := [(7, .int is2), (0, .ref q), (1, .int (nI ii)), (2, .int wh), (3, .int (pv (clp I k))), (4, .int (nI k)), (5, .int (pv (sel I (clp I k) p2))), (6, .int (nI p2))]) hx hb d_Mod_cluster_77 hl (by decide) rfl (fun ls hl => ?_)
                      refine lv_iload hx hb d_Mod_cluster_79 (lv_at hl 0 rfl) ?_
                      refine lv_if_eq (tgt := 105) hx hb d_Mod_cluster_81 (by decide) (fun c81 => ?_) (fun c81 => ?_)
                      · refine lv_iload hx hb d_Mod_cluster_105 (lv_at hl 6 rfl) ?_
                        exact J107 _ H locs ls hZ (by rw [sel, if_neg (fun z => b32_eq0.mp (his ▸ c81) ⟨z.1, z.2.1⟩)]) (lv_sub hl [1, 2, 3, 4, 5, 6, 7] rfl)
                      · have hC := b32_ne0 (his ▸ c81)
                        have hsb : ∀ b, sel I (clp I k) p2 = some b → b < p2 := fun b z => sel_lt z
                        generalize hsl : sel I (clp I k) p2 = sl at hl hsb ⊢
                        refine lv_iload hx hb d_Mod_cluster_84 (lv_at hl 6 rfl) ?_
                        refine lv_if_lt (tgt := 100) hx hb d_Mod_cluster_86 (by decide) (fun c86 => ?_) (fun c86 => ?_)
                        · have hsn := pv_neg (fun p z => by have := hsb p z; omega) c86
                          rw [hsn] at hsl
                          rw [hsn, ← hsl] at hl
                          refine lv_iload hx hb d_Mod_cluster_100 (lv_at hl 7 rfl) ?_
                          refine lv_goto (tgt := 107) hx hb d_Mod_cluster_102 (by decide) ?_
                          exact J107 (nI p2) H locs ls hZ (by rw [sel, if_pos ⟨hC.1, hC.2, by rw [hsl]; rfl⟩] <;> rfl) (lv_sub hl [1, 2, 3, 4, 5, 6, 7] rfl)
                        · obtain ⟨b2, rfl⟩ := pv_pos c86
                          have hb2 := hsb b2 rfl
                          refine lv_aload_n hx hb d_Mod_cluster_89 rfl (lv_at hl 1 rfl) ?_
                          refine lv_iload hx hb d_Mod_cluster_90 (lv_at hl 7 rfl) ?_
                          refine lv_iload hx hb d_Mod_cluster_92 (lv_at hl 6 rfl) ?_
                          refine mm_calli (mm_runV (As := [.int (nI p2), .int (pv ((some b2)))]) (rest := []) E hZ hml hl.1 lk_Mod_150 me_Mod_isBefore in_Mod_isBefore (c_Mod_isBefore l g hR.1 (a := p2) (b := b2) hp2 (by omega)) hR.1.1 cl_Mod.1 ⟨Nat.le_of_ble_eq_true rfl, Nat.le_of_ble_eq_true rfl⟩ rfl (Nat.le_of_ble_eq_true rfl) d_Mod_cluster_94 ⟨Nat.le_of_ble_eq_true rfl, Nat.le_of_ble_eq_true rfl⟩) hZ (fun r1 M1 H locs hp hZ => ?_)
                          rw [hp.1] at hZ
                          replace hp := hp.2
                          rw [← hsl] at hl
                          refine lv_if_eq (tgt := 105) hx hb d_Mod_cluster_97 (by decide) (fun c97 => ?_) (fun c97 => ?_)
                          · refine lv_iload hx hb d_Mod_cluster_105 (lv_at hl 6 rfl) ?_
                            exact J107 _ H locs ls hZ (by rw [sel, if_neg (fun z => by rw [hsl] at z; exact b32_eq0.mp (hp ▸ c97) (of_decide_eq_true z.2.2))]) (lv_sub hl [1, 2, 3, 4, 5, 6, 7] rfl)
                          · refine lv_iload hx hb d_Mod_cluster_100 (lv_at hl 7 rfl) ?_
                            refine lv_goto (tgt := 107) hx hb d_Mod_cluster_102 (by decide) ?_
                            exact J107 (nI p2) H locs ls hZ (by rw [sel, if_pos ⟨hC.1, hC.2, by rw [hsl]; exact decide_eq_true (b32_ne0 (hp ▸ c97))⟩] <;> rfl) (lv_sub hl [1, 2, 3, 4, 5, 6, 7] rfl)
                    refine lv_aload_n hx hb d_Mod_cluster_47 rfl (lv_at hl 0 rfl) ?_
                    refine mm_get (v := .ref (ad 21)) E hZ cl_Mod fl_Mod_60 (by decide) hR.1.1 rfl d_Mod_cluster_48 ?_
                    refine lv_iload hx hb d_Mod_cluster_51 (lv_at hl 6 rfl) ?_
                    refine rr_iald 21 rfl rfl E hZ hR rfl (show p2 < 50 by omega) d_Mod_cluster_53 ?_
                    refine lv_iconst (v := 2) hx hb d_Mod_cluster_54 (by decide) ?_
                    refine lv_icmp_le (tgt := 76) hx hb d_Mod_cluster_55 (by decide) (fun c55 => ?_) (fun c55 => ?_)
                    · refine lv_iconst (v := 0) hx hb d_Mod_cluster_76 (by decide) ?_
                      exact J77 _ H locs ls hZ (b32_f (fun z => z.1 c55)) (lv_sub hl [0, 1, 2, 3, 4, 5, 6] rfl)
                    · refine lv_iload_n hx hb d_Mod_cluster_58 rfl (lv_at hl 3 rfl) ?_
                      refine lv_if_lt (tgt := 72) hx hb d_Mod_cluster_59 (by decide) (fun c59 => ?_) (fun c59 => ?_)
                      · have hcn := pv_neg (fun p z => clp_lt z) c59
                        refine lv_iconst (v := 1) hx hb d_Mod_cluster_72 (by decide) ?_
                        refine lv_goto (tgt := 77) hx hb d_Mod_cluster_73 (by decide) ?_
                        exact J77 _ H locs ls hZ (b32_t ⟨c55, by rw [hcn]; rfl⟩) (lv_sub hl [0, 1, 2, 3, 4, 5, 6] rfl)
                      · obtain ⟨a2, ha2⟩ := pv_pos c59
                        have ha5 := clp_lt ha2
                        rw [ha2] at hl J77
                        refine lv_aload_n hx hb d_Mod_cluster_62 rfl (lv_at hl 0 rfl) ?_
                        refine lv_iload_n hx hb d_Mod_cluster_63 rfl (lv_at hl 3 rfl) ?_
                        refine lv_iload hx hb d_Mod_cluster_64 (lv_at hl 6 rfl) ?_
                        refine mm_calli (mm_runV (As := [.int (pv (some a2)), .int (nI p2)]) (rest := []) E hZ hml hl.1 lk_Mod_150 me_Mod_isBefore in_Mod_isBefore (c_Mod_isBefore l g hR.1 (a := a2) (b := p2) ha5 hp2) hR.1.1 cl_Mod.1 ⟨Nat.le_of_ble_eq_true rfl, Nat.le_of_ble_eq_true rfl⟩ rfl (Nat.le_of_ble_eq_true rfl) d_Mod_cluster_66 ⟨Nat.le_of_ble_eq_true rfl, Nat.le_of_ble_eq_true rfl⟩) hZ (fun r2 M1 H locs hp hZ => ?_)
                        rw [hp.1] at hZ
                        replace hp := hp.2
                        refine lv_if_eq (tgt := 76) hx hb d_Mod_cluster_69 (by decide) (fun c69 => ?_) (fun c69 => ?_)
                        · refine lv_iconst (v := 0) hx hb d_Mod_cluster_76 (by decide) ?_
                          exact J77 _ H locs ls hZ (b32_f (fun z => b32_eq0.mp (hp ▸ c69) (of_decide_eq_true z.2))) (lv_sub hl [0, 1, 2, 3, 4, 5, 6] rfl)
                        · refine lv_iconst (v := 1) hx hb d_Mod_cluster_72 (by decide) ?_
                          refine lv_goto (tgt := 77) hx hb d_Mod_cluster_73 (by decide) ?_
                          exact J77 _ H locs ls hZ (b32_t ⟨c55, decide_eq_true (b32_ne0 (hp ▸ c69))⟩) (lv_sub hl [0, 1, 2, 3, 4, 5, 6] rfl)
              exact loop2 51 0 H locs ls hZ (Nat.zero_le _) (by omega) (lv_sub hl [2, 3, 4, 5, 6, 1, 0] rfl)
            refine lv_iload hx hb d_Mod_cluster_25 (lv_at hl 4 rfl) ?_
            refine lv_if_eq (tgt := 34) hx hb d_Mod_cluster_27 (by decide) (fun c27 => ?_) (fun c27 => ?_)
            · have hk0 : k = 0 := (nI_eq (by omega) (by decide)).mp (show nI k = nI 0 from c27)
              exact J34 H locs ls hZ (by rw [hk0]; rfl) (by omega) (lv_sub hl [0, 1, 2, 3, 4] rfl)
            · have hk0 : ¬ k = 0 := fun z => c27 (by rw [z]; rfl)
              refine lv_iload_n hx hb d_Mod_cluster_30 rfl (lv_at hl 3 rfl) ?_
              refine lv_if_lt (tgt := 124) hx hb d_Mod_cluster_31 (by decide) (fun c31 => ?_) (fun c31 => ?_)
              · exact J124 (clp I k) H locs ls hZ (fun p z => clp_lt z) (Or.inr ⟨⟨v, hv, hwv⟩, Or.inr ⟨ii, hii, rfl, by have hcn := pv_neg (fun p z => clp_lt z) c31; rw [hcn, clp_none (by omega) hcn (ii + 1) (by omega)]⟩⟩) (lv_sub hl [0, 2, 3] rfl)
              · obtain ⟨a3, ha3⟩ := pv_pos c31
                exact J34 H locs ls hZ (by rw [clp, if_neg hk0, ha3]) (hK k a3 ha3) (lv_sub hl [0, 1, 2, 3, 4] rfl)
  exact loop 52 0 H locs ls hZ (by omega) (fun z => absurd z (by omega)) (fun ii _ _ => by omega) (fun _ => rfl) (by omega) (lv_sub hl [2, 3, 4, 1, 0] rfl)
end
section
/-! THE REFERENCE: tick -/
theorem up2_f {α : Type} (I : Nat → Nat → α) {k k' : Nat} (j : Nat) (x : α) (h : k' ≠ k) : up2 I k j x k' = I k' := va_up_ne I _ h
theorem up2_s {α : Type} (I : Nat → Nat → α) (k j : Nat) (x : α) : up2 I k j x k j = x := by unfold up2; rw [va_up_self, va_up_self]
theorem up2_j {α : Type} (I : Nat → Nat → α) (k : Nat) {j j' : Nat} (x : α) (h : j' ≠ j) : up2 I k j x k j' = I k j' := by unfold up2; rw [va_up_self, va_up_ne _ _ h]
theorem va_up_id {α : Type} (f : Nat → α) {k : Nat} {v : α} (h : f k = v) : va_up f k v = f := by
  funext j
  by_cases e : j = k
  · subst e; rw [va_up_self, h]
  · rw [va_up_ne _ _ e]
/-- an alarm is told -/
def tellL (I : Nat → Nat → Int32) (L : Nat → Nat → Int64) (i n : Nat) (k : Int32) : Nat → Nat → Int64 := if n < 400 then up2 (up2 (up2 (up2 (up2 L 19 (5 * n) (nI i).toInt64) 19 (5 * n + 1) k.toInt64) 19 (5 * n + 2) (I 10 i).toInt64) 19 (5 * n + 3) (I 11 i).toInt64) 19 (5 * n + 4) (L 12 i) else L
theorem tellL_f (I : Nat → Nat → Int32) (L : Nat → Nat → Int64) (i n : Nat) (k : Int32) {f : Nat} (h : f ≠ 19) : tellL I L i n k f = L f := by
  unfold tellL
  split
  · rw [up2_f _ _ _ h, up2_f _ _ _ h, up2_f _ _ _ h, up2_f _ _ _ h, up2_f _ _ _ h]
  · rfl
abbrev rSt : Type := (Nat → Nat → Int32) × (Nat → Nat → Int64) × Nat
def rLate (ck : Int64) (i : Nat) (s : rSt) : rSt := if 0 < s.1 10 i ∧ s.2.1 12 i < ck ∧ s.1 13 i = 0 then (up2 (up2 s.1 13 i 1) 21 (s.1 11 i).toNatClampNeg (s.1 21 (s.1 11 i).toNatClampNeg + 1), tellL s.1 s.2.1 i s.2.2 1, s.2.2 + 1) else s
def rLost (ck : Int64) (i : Nat) (s : rSt) : rSt := if 0 < s.1 10 i ∧ s.2.1 12 i + 864000 < ck ∧ s.1 14 i = 0 then (up2 s.1 14 i 1, tellL s.1 s.2.1 i s.2.2 2, s.2.2 + 1) else s
def rTk (ck : Int64) (s : rSt) : Nat → rSt
  | 0 => s
  | i + 1 => rLost ck i (rLate ck i (rTk ck s i))
theorem rLate_k (ck : Int64) (i : Nat) (s : rSt) : (rLate ck i s).1 10 = s.1 10 ∧ (rLate ck i s).1 11 = s.1 11 ∧ (rLate ck i s).2.1 12 = s.2.1 12 ∧ (rLate ck i s).2.2 ≤ s.2.2 + 1 := by
  unfold rLate
  split
  · exact ⟨by dsimp only; rw [up2_f _ _ _ (by decide), up2_f _ _ _ (by decide)], by dsimp only; rw [up2_f _ _ _ (by decide), up2_f _ _ _ (by decide)], tellL_f _ _ _ _ _ (show 12 ≠ 19 by decide), Nat.le_refl _⟩
  · exact ⟨rfl, rfl, rfl, Nat.le_succ _⟩
theorem rLost_k (ck : Int64) (i : Nat) (s : rSt) : (rLost ck i s).1 10 = s.1 10 ∧ (rLost ck i s).1 11 = s.1 11 ∧ (rLost ck i s).2.1 12 = s.2.1 12 ∧ (rLost ck i s).2.2 ≤ s.2.2 + 1 := by
  unfold rLost
  split
  · exact ⟨by dsimp only; rw [up2_f _ _ _ (by decide)], by dsimp only; rw [up2_f _ _ _ (by decide)], tellL_f _ _ _ _ _ (show 12 ≠ 19 by decide), Nat.le_refl _⟩
  · exact ⟨rfl, rfl, rfl, Nat.le_succ _⟩
theorem rTk_k (ck : Int64) (s : rSt) (i : Nat) : (rTk ck s i).1 10 = s.1 10 ∧ (rTk ck s i).1 11 = s.1 11 ∧ (rTk ck s i).2.1 12 = s.2.1 12 ∧ (rTk ck s i).2.2 ≤ s.2.2 + 2 * i := by
  induction i with
  | zero => exact ⟨rfl, rfl, rfl, Nat.le_refl _⟩
  | succ i ih =>
    obtain ⟨a, b, c, d⟩ := ih
    obtain ⟨a1, b1, c1, d1⟩ := rLate_k ck i (rTk ck s i)
    obtain ⟨a2, b2, c2, d2⟩ := rLost_k ck i (rLate ck i (rTk ck s i))
    exact ⟨a2.trans (a1.trans a), b2.trans (b1.trans b), c2.trans (c1.trans c), by unfold rTk; omega⟩
/-- tell, in these words -/
theorem tell_post {g : mm_G} {M M' : mm_M} {q : Nat} {ad : Nat → Nat} {I : Nat → Nat → Int32} {L : Nat → Nat → Int64} {S' : Nat → Int32} {ck : Int64} {i n : Nat} {k : Int32}
    (h : (n < 400 ∧ Rq g M M' q ad I (up2 (up2 (up2 (up2 (up2 L 19 (5 * n) (nI i).toInt64) 19 (5 * n + 1) k.toInt64) 19 (5 * n + 2) (I 10 i).toInt64) 19 (5 * n + 3) (I 11 i).toInt64) 19 (5 * n + 4) (up2 (up2 (up2 (up2 L 19 (5 * n) (nI i).toInt64) 19 (5 * n + 1) k.toInt64) 19 (5 * n + 2) (I 10 i).toInt64) 19 (5 * n + 3) (I 11 i).toInt64 12 i)) S' ck) ∨ (400 ≤ n ∧ Rq g M M' q ad I L S' ck)) : Rq g M M' q ad I (tellL I L i n k) S' ck := by
  rcases h with ⟨h1, h2⟩ | ⟨h1, h2⟩
  · rw [up2_f _ _ _ (show 12 ≠ 19 by decide), up2_f _ _ _ (show 12 ≠ 19 by decide), up2_f _ _ _ (show 12 ≠ 19 by decide), up2_f _ _ _ (show 12 ≠ 19 by decide)] at h2
    unfold tellL
    rw [if_pos h1]
    exact h2
  · unfold tellL
    rw [if_neg (by omega)]
    exact h2
theorem tell_up14 (I : Nat → Nat → Int32) (L : Nat → Nat → Int64) (i n : Nat) (k : Int32) : tellL (up2 I 14 i 1) L i n k = tellL I L i n k := by
  unfold tellL
  rw [up2_f _ _ _ (show 10 ≠ 14 by decide), up2_f _ _ _ (show 11 ≠ 14 by decide)]
theorem tell_up21 (I : Nat → Nat → Int32) (L : Nat → Nat → Int64) (i n p : Nat) (k x : Int32) (y : Int32) : tellL (up2 (up2 I 13 i x) 21 p y) L i n k = tellL I L i n k := by
  unfold tellL
  rw [up2_f _ _ _ (show 10 ≠ 21 by decide), up2_f _ _ _ (show 11 ≠ 21 by decide), up2_f _ _ _ (show 10 ≠ 13 by decide), up2_f _ _ _ (show 11 ≠ 13 by decide)]
set_option maxHeartbeats 4000000 in
set_option maxRecDepth 100000 in
theorem c_Mod_tick (l : Launch) (g : mm_G) {M0 : mm_M} {q : Nat} {ad : Nat → Nat} {I : Nat → Nat → Int32} {L : Nat → Nat → Int64} {S : Nat → Int32} {ck : Int64} (h0 : Rs g M0 q ad I L S ck) (t : Int64) {n0 : Nat} (hn : S 18 = nI n0) (hn2 : n0 < 2 ^ 29) (hat : ∀ i, i < 200 → 0 < I 10 i → ∃ p, p < 50 ∧ I 11 i = nI p) : Ci l g y_Mod_tick b_Mod_tick 5 .int (rk 1 25 0 0) M0 [.ref q, .long t] (fun r M' => (¬ (ck ≤ t ∧ t ≤ 2000000000) ∧ r = (-102) ∧ Rq g M0 M' q ad I L (va_up S 0 0) ck) ∨ ((ck ≤ t ∧ t ≤ 2000000000) ∧ Rq g M0 M' q ad (rTk t (I, L, n0) 200).1 (rTk t (I, L, n0) 200).2.1 (va_up (va_up S 0 0) 18 (nI (rTk t (I, L, n0) 200).2.2)) t ∧ r = nI (rTk t (I, L, n0) 200).2.2 - nI n0)) := by
  refine mm_enter (by decide) (Nat.le_of_ble_eq_true rfl) (fun pG eV s m args below meth cdx ls Q E hml hr hlk hnm hZ hl eQ => ?_)
  have hx := E.1
  have hb := E.2.1
  have hl : lv_has ls 5 [(0, .ref q), (1, .long t)] := hl
  have hR := h0.q
  refine lv_aload_n hx hb d_Mod_tick_0 rfl (lv_at hl 0 rfl) ?_
  refine lv_iconst (v := 0) hx hb d_Mod_tick_1 (by decide) ?_
  refine rr_put0 E hZ hR fl_Mod_72 d_Mod_tick_2 (fun M H locs hZ hR => ?_)
  refine lv_lload_n hx hb d_Mod_tick_5 rfl (lv_at hl 1 rfl) ?_
  refine lv_aload_n hx hb d_Mod_tick_6 rfl (lv_at hl 0 rfl) ?_
  refine mm_get (v := .long ck) E hZ cl_Mod fl_Mod_128 (by decide) hR.1.1 rfl d_Mod_tick_7 ?_
  refine lv_ldc2 (v := 2000000000) hx hb E.2.2.1 (E.2.2.2.1 _ w_742) d_Mod_tick_10 ?_
  refine mm_calli (mm_runS (As := [.long t, .long ck, .long 2000000000]) (rest := []) E hZ hml hl.1 lk_Mod_78 me_Mod_isIn st_Mod_isIn (c_Mod_isIn l g _ t ck 2000000000) ⟨Nat.le_of_ble_eq_true rfl, Nat.le_of_ble_eq_true rfl⟩ rfl (Nat.le_of_ble_eq_true rfl) d_Mod_tick_13 ⟨Nat.le_of_ble_eq_true rfl, Nat.le_of_ble_eq_true rfl⟩) hZ (fun r1 M1 H locs hp hZ => ?_)
  rw [hp.1] at hZ
  replace hp := hp.2
  refine lv_if_ne (tgt := 22) hx hb d_Mod_tick_16 (by decide) (fun c16 => ?_) (fun c16 => ?_)
  · have hT := b32_ne0 (hp ▸ c16)
    clear hp
    refine lv_aload_n hx hb d_Mod_tick_22 rfl (lv_at hl 0 rfl) ?_
    refine lv_lload_n hx hb d_Mod_tick_23 rfl (lv_at hl 1 rfl) ?_
    refine rr_put17 E hZ hR fl_Mod_128 d_Mod_tick_24 (fun M H locs hZ hR => ?_)
    refine lv_aload_n hx hb d_Mod_tick_27 rfl (lv_at hl 0 rfl) ?_
    refine mm_get (v := .int ((va_up S 0 0) 18)) E hZ cl_Mod fl_Mod_125 (by decide) hR.1.1 rfl d_Mod_tick_28 ?_
    rw [show (va_up S 0 0) 18 = nI n0 from (va_up_ne _ _ (by decide)).trans (hn)]
    refine lv_istore_n (lv' := [(3, .int (nI n0)), (0, .ref q), (1, .long t)]) hx hb d_Mod_tick_31 rfl hl (by decide) rfl (fun ls hl => ?_)
    refine lv_iconst (v := 0) hx hb d_Mod_tick_32 (by decide) ?_
    refine lv_istore (lv' := [(4, .int 0), (3, .int (nI n0)), (0, .ref q), (1, .long t)]) hx hb d_Mod_tick_33 hl (by decide) rfl (fun ls hl => ?_)
    have loop : ∀ (n : Nat) (Ix : Nat → Nat → Int32) (Lx : Nat → Nat → Int64) (nx : Nat) (i : Nat) (M : mm_M) (H : Heap) (locs : List Loc) (ls : Array Slot), mm_S g s M H locs → Rq g M0 M q ad Ix Lx (va_up (va_up S 0 0) 18 (nI nx)) t → i ≤ 200 → (Ix, Lx, nx) = rTk t (I, L, n0) i → 201 ≤ i + n → lv_has ls 5 [(0, .ref q), (3, .int (nI n0)), (4, .int (nI i))] → W pG l eV (rk 1 25 0 0) s m args below meth cdx H locs 0 0 Q (F0 m 35 ls []) := by
      intro n
      induction n with
      | zero => exact fun Ix Lx nx i M H locs ls _ hR hi1 hst hfu _ => absurd hfu (by omega)
      | succ n ih =>
        intro Ix Lx nx i M H locs ls hZ hR hi1 hst hfu hl
        have hKk := rTk_k t (I, L, n0) i
        rw [← hst] at hKk
        obtain ⟨h10, h11, h12, hnx⟩ := hKk
        replace h10 : Ix 10 = I 10 := h10
        replace h11 : Ix 11 = I 11 := h11
        replace hnx : nx ≤ n0 + 2 * i := hnx
        refine lv_iload hx hb d_Mod_tick_35 (lv_at hl 2 rfl) ?_
        refine lv_sipush (v := 200) hx hb d_Mod_tick_37 (by decide) ?_
        refine lv_icmp_ge (tgt := 169) hx hb d_Mod_tick_40 (by decide) (fun c40 => ?_) (fun c40 => ?_)
        · have hi2 : i = 200 := by
            rcases Nat.lt_or_ge i 200 with z | z
            · exact absurd (show nI 200 ≤ nI i from c40) (nI_ge z (by decide))
            · omega
          subst hi2
          refine lv_aload_n hx hb d_Mod_tick_169 rfl (lv_at hl 0 rfl) ?_
          refine mm_get (v := .int ((va_up (va_up S 0 0) 18 (nI nx)) 18)) E hZ cl_Mod fl_Mod_125 (by decide) hR.1.1 rfl d_Mod_tick_170 ?_
          rw [show (va_up (va_up S 0 0) 18 (nI nx)) 18 = nI nx from va_up_self _ _ _]
          refine lv_iload_n hx hb d_Mod_tick_173 rfl (lv_at hl 1 rfl) ?_
          refine lv_isub hx hb d_Mod_tick_174 ?_
          exact mm_iret (v := (nI nx) - (nI n0)) E hr hlk eQ hZ d_Mod_tick_175 ⟨_, rfl, Or.inr ⟨hT, by rw [← hst]; exact hR, by rw [← hst]⟩⟩
        · have hi2 : i < 200 := by
            rcases Nat.lt_or_ge i 200 with z | z
            · exact z
            · exact absurd (show nI 200 ≤ nI i from nI_le z (by omega)) c40
          have J163 : ∀ (Iy : Nat → Nat → Int32) (Ly : Nat → Nat → Int64) (ny : Nat) (M : mm_M) (H : Heap) (locs : List Loc) (ls : Array Slot), mm_S g s M H locs → Rq g M0 M q ad Iy Ly (va_up (va_up S 0 0) 18 (nI ny)) t → (Iy, Ly, ny) = rTk t (I, L, n0) (i + 1) → lv_has ls 5 [(0, .ref q), (3, .int (nI n0)), (4, .int (nI i))] → W pG l eV (rk 1 25 0 0) s m args below meth cdx H locs 0 0 Q (F0 m 163 ls []) := by
            intro Iy Ly ny M H locs ls hZ hRy hy hl
            refine lv_iinc (v := (nI i) + 1) (lv' := [(4, .int ((nI i) + 1)), (0, .ref q), (3, .int (nI n0))]) hx hb d_Mod_tick_163 hl (k := 2) rfl rfl (by decide) rfl (fun ls hl => ?_)
            refine lv_goto (tgt := 35) hx hb d_Mod_tick_166 (by decide) ?_
            rw [nI_1] at hl
            exact ih Iy Ly ny (i + 1) M H locs ls hZ hRy (by omega) hy (by omega) (lv_sub hl [1, 2, 0] rfl)
          have J109 : ∀ (Iz : Nat → Nat → Int32) (Lz : Nat → Nat → Int64) (nz : Nat) (M : mm_M) (H : Heap) (locs : List Loc) (ls : Array Slot), mm_S g s M H locs → Rq g M0 M q ad Iz Lz (va_up (va_up S 0 0) 18 (nI nz)) t → (Iz, Lz, nz) = rLate t i (Ix, Lx, nx) → lv_has ls 5 [(0, .ref q), (3, .int (nI n0)), (4, .int (nI i))] → W pG l eV (rk 1 25 0 0) s m args below meth cdx H locs 0 0 Q (F0 m 109 ls []) := by
            intro Iz Lz nz M H locs ls hZ hRz hz hl
            have hR := hRz
            have hKz := rLate_k t i (Ix, Lx, nx)
            rw [← hz] at hKz
            obtain ⟨g10, g11, g12, gnz⟩ := hKz
            replace gnz : nz ≤ nx + 1 := gnz
            refine lv_aload_n hx hb d_Mod_tick_109 rfl (lv_at hl 0 rfl) ?_
            refine mm_get (v := .ref (ad 10)) E hZ cl_Mod fl_Mod_36 (by decide) hR.1.1 rfl d_Mod_tick_110 ?_
            refine lv_iload hx hb d_Mod_tick_113 (lv_at hl 2 rfl) ?_
            refine rr_iald 10 rfl rfl E hZ hR rfl (show i < 200 by omega) d_Mod_tick_115 ?_
            refine lv_if_le (tgt := 163) hx hb d_Mod_tick_116 (by decide) (fun c116 => ?_) (fun c116 => ?_)
            · exact J163 Iz Lz nz M H locs ls hZ hR (by rw [rTk, ← hst, ← hz, rLost, if_neg (fun y => absurd y.1 (Int32.not_lt.mpr c116))]) (lv_sub hl [0, 1, 2] rfl)
            · refine lv_aload_n hx hb d_Mod_tick_119 rfl (lv_at hl 0 rfl) ?_
              refine mm_get (v := .ref (ad 12)) E hZ cl_Mod fl_Mod_42 (by decide) hR.1.1 rfl d_Mod_tick_120 ?_
              refine lv_iload hx hb d_Mod_tick_123 (lv_at hl 2 rfl) ?_
              refine rr_lald 12 rfl E hZ hR rfl (show i < 200 by omega) d_Mod_tick_125 ?_
              refine lv_ldc2 (v := 864000) hx hb E.2.2.1 (E.2.2.2.1 _ w_747) d_Mod_tick_126 ?_
              refine lv_ladd hx hb d_Mod_tick_129 ?_
              refine lv_aload_n hx hb d_Mod_tick_130 rfl (lv_at hl 0 rfl) ?_
              refine mm_get (v := .long t) E hZ cl_Mod fl_Mod_128 (by decide) hR.1.1 rfl d_Mod_tick_131 ?_
              refine W.lcmp hx hb d_Mod_tick_134 ?_
              refine lv_if_ge (tgt := 163) hx hb d_Mod_tick_135 (by decide) (fun c135 => ?_) (fun c135 => ?_)
              · have c135 := (lg_cmp_ge _ _).mp c135
                exact J163 Iz Lz nz M H locs ls hZ hR (by rw [rTk, ← hst, ← hz, rLost, if_neg (fun y => absurd y.2.1 (Int64.not_lt.mpr c135))]) (lv_sub hl [0, 1, 2] rfl)
              · have c135 := mt (lg_cmp_ge _ _).mpr c135
                refine lv_aload_n hx hb d_Mod_tick_138 rfl (lv_at hl 0 rfl) ?_
                refine mm_get (v := .ref (ad 14)) E hZ cl_Mod fl_Mod_48 (by decide) hR.1.1 rfl d_Mod_tick_139 ?_
                refine lv_iload hx hb d_Mod_tick_142 (lv_at hl 2 rfl) ?_
                refine rr_zald 14 rfl rfl E hZ hR rfl (show i < 200 by omega) d_Mod_tick_144 ?_
                refine lv_if_ne (tgt := 163) hx hb d_Mod_tick_145 (by decide) (fun c145 => ?_) (fun c145 => ?_)
                · exact J163 Iz Lz nz M H locs ls hZ hR (by rw [rTk, ← hst, ← hz, rLost, if_neg (fun y => c145 y.2.2)]) (lv_sub hl [0, 1, 2] rfl)
                · refine lv_aload_n hx hb d_Mod_tick_148 rfl (lv_at hl 0 rfl) ?_
                  refine mm_get (v := .ref (ad 14)) E hZ cl_Mod fl_Mod_48 (by decide) hR.1.1 rfl d_Mod_tick_149 ?_
                  refine lv_iload hx hb d_Mod_tick_152 (lv_at hl 2 rfl) ?_
                  refine lv_iconst (v := 1) hx hb d_Mod_tick_154 (by decide) ?_
                  refine rr_zast 14 rfl rfl E hZ hR bo_1 rfl (show i < 200 by omega) d_Mod_tick_155 (fun M H locs hZ hR => ?_)
                  refine lv_aload_n hx hb d_Mod_tick_156 rfl (lv_at hl 0 rfl) ?_
                  refine lv_iload hx hb d_Mod_tick_157 (lv_at hl 2 rfl) ?_
                  refine lv_iconst (v := 2) hx hb d_Mod_tick_159 (by decide) ?_
                  refine mm_callv (mm_runV (As := [.int (nI i), .int 2]) (rest := []) E hZ hml hl.1 lk_Mod_134 me_Mod_tell in_Mod_tell (c_Mod_tell l g hR.1 (i := i) (n := nz) hi2 2 (va_up_self _ _ _) (by omega)) hR.1.1 cl_Mod.1 ⟨Nat.le_of_ble_eq_true rfl, Nat.le_of_ble_eq_true rfl⟩ rfl (Nat.le_of_ble_eq_true rfl) d_Mod_tick_160 ⟨Nat.le_of_ble_eq_true rfl, Nat.le_of_ble_eq_true rfl⟩) hZ (fun M1 H locs hp hZ => ?_)
                  have hR := hR.step (tell_post hp)
                  rw [bx_uu] at hR
                  generalize M1 = M at hZ hR
                  exact J163 _ _ _ M H locs ls hZ hR (by rw [rTk, ← hst, ← hz, rLost, if_pos ⟨Int32.not_le.mp c116, Int64.not_le.mp c135, c145⟩]; exact congrArg (Prod.mk _) (congrArg (fun x => (x, nz + 1)) (tell_up14 _ _ _ _ _))) (lv_sub hl [0, 1, 2] rfl)
          refine lv_aload_n hx hb d_Mod_tick_43 rfl (lv_at hl 0 rfl) ?_
          refine mm_get (v := .ref (ad 10)) E hZ cl_Mod fl_Mod_36 (by decide) hR.1.1 rfl d_Mod_tick_44 ?_
          refine lv_iload hx hb d_Mod_tick_47 (lv_at hl 2 rfl) ?_
          refine rr_iald 10 rfl rfl E hZ hR rfl (show i < 200 by omega) d_Mod_tick_49 ?_
          refine lv_if_le (tgt := 109) hx hb d_Mod_tick_50 (by decide) (fun c50 => ?_) (fun c50 => ?_)
          · exact J109 Ix Lx nx M H locs ls hZ hR (by rw [rLate, if_neg (fun y => absurd y.1 (Int32.not_lt.mpr c50))]) (lv_sub hl [0, 1, 2] rfl)
          · refine lv_aload_n hx hb d_Mod_tick_53 rfl (lv_at hl 0 rfl) ?_
            refine mm_get (v := .ref (ad 12)) E hZ cl_Mod fl_Mod_42 (by decide) hR.1.1 rfl d_Mod_tick_54 ?_
            refine lv_iload hx hb d_Mod_tick_57 (lv_at hl 2 rfl) ?_
            refine rr_lald 12 rfl E hZ hR rfl (show i < 200 by omega) d_Mod_tick_59 ?_
            refine lv_aload_n hx hb d_Mod_tick_60 rfl (lv_at hl 0 rfl) ?_
            refine mm_get (v := .long t) E hZ cl_Mod fl_Mod_128 (by decide) hR.1.1 rfl d_Mod_tick_61 ?_
            refine W.lcmp hx hb d_Mod_tick_64 ?_
            refine lv_if_ge (tgt := 109) hx hb d_Mod_tick_65 (by decide) (fun c65 => ?_) (fun c65 => ?_)
            · have c65 := (lg_cmp_ge _ _).mp c65
              exact J109 Ix Lx nx M H locs ls hZ hR (by rw [rLate, if_neg (fun y => absurd y.2.1 (Int64.not_lt.mpr c65))]) (lv_sub hl [0, 1, 2] rfl)
            · have c65 := mt (lg_cmp_ge _ _).mpr c65
              refine lv_aload_n hx hb d_Mod_tick_68 rfl (lv_at hl 0 rfl) ?_
              refine mm_get (v := .ref (ad 13)) E hZ cl_Mod fl_Mod_45 (by decide) hR.1.1 rfl d_Mod_tick_69 ?_
              refine lv_iload hx hb d_Mod_tick_72 (lv_at hl 2 rfl) ?_
              refine rr_zald 13 rfl rfl E hZ hR rfl (show i < 200 by omega) d_Mod_tick_74 ?_
              refine lv_if_ne (tgt := 109) hx hb d_Mod_tick_75 (by decide) (fun c75 => ?_) (fun c75 => ?_)
              · exact J109 Ix Lx nx M H locs ls hZ hR (by rw [rLate, if_neg (fun y => c75 y.2.2)]) (lv_sub hl [0, 1, 2] rfl)
              · obtain ⟨p5, hp5, hp11⟩ := hat i hi2 (by rw [← h10]; exact Int32.not_le.mp c50)
                rw [← h11] at hp11
                refine lv_aload_n hx hb d_Mod_tick_78 rfl (lv_at hl 0 rfl) ?_
                refine mm_get (v := .ref (ad 13)) E hZ cl_Mod fl_Mod_45 (by decide) hR.1.1 rfl d_Mod_tick_79 ?_
                refine lv_iload hx hb d_Mod_tick_82 (lv_at hl 2 rfl) ?_
                refine lv_iconst (v := 1) hx hb d_Mod_tick_84 (by decide) ?_
                refine rr_zast 13 rfl rfl E hZ hR bo_1 rfl (show i < 200 by omega) d_Mod_tick_85 (fun M H locs hZ hR => ?_)
                refine lv_aload_n hx hb d_Mod_tick_86 rfl (lv_at hl 0 rfl) ?_
                refine mm_get (v := .ref (ad 21)) E hZ cl_Mod fl_Mod_60 (by decide) hR.1.1 rfl d_Mod_tick_87 ?_
                refine lv_aload_n hx hb d_Mod_tick_90 rfl (lv_at hl 0 rfl) ?_
                refine mm_get (v := .ref (ad 11)) E hZ cl_Mod fl_Mod_39 (by decide) hR.1.1 rfl d_Mod_tick_91 ?_
                refine lv_iload hx hb d_Mod_tick_94 (lv_at hl 2 rfl) ?_
                refine rr_iald 11 rfl rfl E hZ hR rfl (show i < 200 by omega) d_Mod_tick_96 ?_
                refine lv_dup2_11 hx hb d_Mod_tick_97 rfl rfl ?_
                refine rr_iald 21 rfl rfl E hZ hR (show (up2 Ix 13 i 1) 11 i = nI p5 by rw [up2_f _ _ _ (by decide)]; exact hp11) (show p5 < 50 by omega) d_Mod_tick_98 ?_
                refine lv_iconst (v := 1) hx hb d_Mod_tick_99 (by decide) ?_
                refine lv_iadd hx hb d_Mod_tick_100 ?_
                refine rr_iast 21 rfl rfl E hZ hR (show (up2 Ix 13 i 1) 11 i = nI p5 by rw [up2_f _ _ _ (by decide)]; exact hp11) (show p5 < 50 by omega) d_Mod_tick_101 (fun M H locs hZ hR => ?_)
                refine lv_aload_n hx hb d_Mod_tick_102 rfl (lv_at hl 0 rfl) ?_
                refine lv_iload hx hb d_Mod_tick_103 (lv_at hl 2 rfl) ?_
                refine lv_iconst (v := 1) hx hb d_Mod_tick_105 (by decide) ?_
                refine mm_callv (mm_runV (As := [.int (nI i), .int 1]) (rest := []) E hZ hml hl.1 lk_Mod_134 me_Mod_tell in_Mod_tell (c_Mod_tell l g hR.1 (i := i) (n := nx) hi2 1 (va_up_self _ _ _) (by omega)) hR.1.1 cl_Mod.1 ⟨Nat.le_of_ble_eq_true rfl, Nat.le_of_ble_eq_true rfl⟩ rfl (Nat.le_of_ble_eq_true rfl) d_Mod_tick_106 ⟨Nat.le_of_ble_eq_true rfl, Nat.le_of_ble_eq_true rfl⟩) hZ (fun M1 H locs hp hZ => ?_)
                have hR := hR.step (tell_post hp)
                rw [bx_uu] at hR
                generalize M1 = M at hZ hR
                exact J109 _ _ _ M H locs ls hZ hR (by
                  rw [rLate, if_pos ⟨Int32.not_le.mp c50, Int64.not_le.mp c65, c75⟩]
                  simp only [hp11, nI_clamp (show p5 < 2 ^ 31 by omega)]
                  exact congr (congrArg Prod.mk (by rw [up2_f _ _ _ (show 21 ≠ 13 by decide)])) (congrArg (fun x => (x, nx + 1)) (tell_up21 _ _ _ _ _ _ _ _))) (lv_sub hl [0, 1, 2] rfl)
    have hR : Rq g M0 M q ad I L (va_up (va_up S 0 0) 18 (nI n0)) t := by rw [va_up_id _ (show (va_up S 0 0) 18 = nI n0 from (va_up_ne _ _ (by decide)).trans hn)]; exact hR
    exact loop 201 I L n0 0 M H locs ls hZ hR (Nat.zero_le _) rfl (by omega) (lv_sub hl [2, 1, 0] rfl)
  · refine lv_bipush (v := (-102)) hx hb d_Mod_tick_19 (by decide) ?_
    exact mm_iret (v := (-102)) E hr hlk eQ hZ d_Mod_tick_21 ⟨_, rfl, Or.inl ⟨b32_eq0.mp (hp ▸ c16), rfl, hR⟩⟩
end
section
/-! THE REFERENCE: event -/
/-- k is the first of nr rows that is for these; 0 when none is -/
def rowFirst (I : Nat → Nat → Int32) (nr : Nat) (st pl sv : Int32) (k : Nat) : Prop := (k = 0 ∧ ∀ j, 1 ≤ j → j ≤ nr → ¬ rowOk I st pl sv j) ∨ (1 ≤ k ∧ rowOk I st pl sv k ∧ ∀ j, 1 ≤ j → j < k → ¬ rowOk I st pl sv j)
theorem rowFirst_of {I I' : Nat → Nat → Int32} {nr : Nat} {st pl sv : Int32} {k : Nat} (h2 : I' 2 = I 2) (h3 : I' 3 = I 3) (h4 : I' 4 = I 4) (h : rowFirst I' nr st pl sv k) : rowFirst I nr st pl sv k := by
  simpa only [rowFirst, rowOk, h2, h3, h4] using h
abbrev evL (I : Nat → Nat → Int32) (L : Nat → Nat → Int64) (j : Nat) (t : Int64) : Nat → Nat → Int64 := up2 (up2 L 8 j (if I 7 j < 0 then t else L 8 j)) 9 j t
/-- the days of a delivery -/
abbrev evD (I : Nat → Nat → Int32) (L : Nat → Nat → Int64) (j : Nat) (t : Int64) : Int32 := ((t - evL I L j t 8 j) / 86400).toInt32
theorem evL_f (I : Nat → Nat → Int32) (L : Nat → Nat → Int64) (j : Nat) (t : Int64) {k : Nat} (h : k ≠ 8 ∧ k ≠ 9) : evL I L j t k = L k := by
  show up2 (up2 L 8 j (if I 7 j < 0 then t else L 8 j)) 9 j t k = L k
  rw [up2_f _ _ _ h.2, up2_f _ _ _ h.1]
theorem rEnd_f (I : Nat → Nat → Int32) (j : Nat) {k : Nat} (h : k ≠ 10 ∧ k ≠ 13 ∧ k ≠ 14) : rEnd I j k = I k := by
  show up2 (up2 (up2 I 10 j 0) 13 j 0) 14 j 0 k = I k
  rw [up2_f _ _ _ h.2.2, up2_f _ _ _ h.2.1, up2_f _ _ _ h.1]
set_option maxHeartbeats 4000000 in
set_option maxRecDepth 100000 in
theorem c_Mod_event (l : Launch) (g : mm_G) {M0 : mm_M} {q : Nat} {ad : Nat → Nat} {I : Nat → Nat → Int32} {L : Nat → Nat → Int64} {S : Nat → Int32} {ck : Int64} (h0 : Rs g M0 q ad I L S ck) (i st pl sv : Int32) (t : Int64) {nr f : Nat} {cn bg wi : Nat → Nat} (hn : S 1 = nI nr) (hn4 : nr ≤ 40) (hf : S 24 = nI f) (hf4 : f ≤ 40) (h4 : ∀ k, 1 ≤ k → k ≤ nr → (¬ ∃ z, z < f ∧ I 25 z = nI k) → f < 40) (hc : ∀ v, v ≤ 4 → I 22 v = nI (cn v) ∧ cn v < 4200) (hbeg : ∀ p, p ≤ 49 → I 20 p = nI (bg p) ∧ bg p < 2 ^ 20) (hwi : ∀ k, 1 ≤ k → k ≤ nr → L 5 k = lN (wi k) ∧ wi k ≤ 10000000) (hL9 : ∀ j, j < 200 → ¬ I 7 j < 0 → 0 ≤ L 9 j) : Ci l g y_Mod_event b_Mod_event 8 .int (rk 2 48 0 0) M0 [.ref q, .int i, .int st, .int pl, .int sv, .long t] (fun r M' => ((¬ ∃ j p, j ≤ 199 ∧ p ≤ 49 ∧ i = nI j ∧ pl = nI p) ∧ r = (-101) ∧ Rq g M0 M' q ad I L (va_up S 0 0) ck) ∨ ∃ j p, j ≤ 199 ∧ p ≤ 49 ∧ i = nI j ∧ pl = nI p ∧ ((¬ ((∃ a v, a ≤ 9 ∧ v ≤ 4 ∧ st = nI a ∧ sv = nI v) ∧ rTime I L j t) ∧ r = (-102) ∧ Rq g M0 M' q ad I L (va_up S 0 0) ck) ∨ ∃ a v tt, a ≤ 9 ∧ v ≤ 4 ∧ tt ≤ 1000000000 ∧ st = nI a ∧ sv = nI v ∧ t = lN tt ∧ rTime I L j t ∧ ((a = 9 ∧ r = 0 ∧ Rq g M0 M' q ad (up2 (up2 (up2 (rEnd I j) 23 (4200 * v + cn v) (evD I L j (lN tt))) 22 v (nI (cn v + 1))) 7 j (-1)) (evL I L j (lN tt)) (va_up S 0 0) ck) ∨ (¬ a = 9 ∧ ∃ k, k ≤ nr ∧ rowFirst I nr (nI a) (nI p) (nI v) k ∧ ((k = 0 ∧ r = 0 ∧ Rq g M0 M' q ad (up2 (rEnd I j) 7 j (nI a)) (evL I L j (lN tt)) (va_up S 0 0) ck) ∨ (1 ≤ k ∧ ¬ I 6 k = 0 ∧ r = - nI k ∧ (((∃ z, z < f ∧ I 25 z = nI k) ∧ Rq g M0 M' q ad (up2 (rEnd I j) 7 j (nI a)) (evL I L j (lN tt)) (va_up S 0 0) ck) ∨ ((¬ ∃ z, z < f ∧ I 25 z = nI k) ∧ Rq g M0 M' q ad (up2 (up2 (rEnd I j) 7 j (nI a)) 25 f (nI k)) (evL I L j (lN tt)) (va_up (va_up S 0 0) 24 (nI (f + 1))) ck))) ∨ (1 ≤ k ∧ I 6 k = 0 ∧ r = nI k ∧ Rq g M0 M' q ad (up2 (up2 (up2 (up2 (rEnd I j) 7 j (nI a)) 10 j (nI k)) 11 j (nI p)) 20 p (nI (bg p + 1))) (up2 (evL I L j (lN tt)) 12 j (lN (bh (I 15) (wi k + 20002) tt (wi k)))) (va_up S 0 0) ck)))))) := by
  refine mm_enter (by decide) (Nat.le_of_ble_eq_true rfl) (fun pG eV s m args below meth cdx ls Q E hml hr hlk hnm hZ hl eQ => ?_)
  have hx := E.1
  have hb := E.2.1
  have hl : lv_has ls 8 [(0, .ref q), (1, .int i), (2, .int st), (3, .int pl), (4, .int sv), (5, .long t)] := hl
  have hR := h0.q
  refine lv_aload_n hx hb d_Mod_event_0 rfl (lv_at hl 0 rfl) ?_
  refine lv_iconst (v := 0) hx hb d_Mod_event_1 (by decide) ?_
  refine rr_put0 E hZ hR fl_Mod_72 d_Mod_event_2 (fun M H locs hZ hR => ?_)
  refine lv_iload_n hx hb d_Mod_event_5 rfl (lv_at hl 1 rfl) ?_
  refine lv_i2l hx hb d_Mod_event_6 rfl ?_
  refine lv_lconst (v := 0) hx hb d_Mod_event_7 (by decide) ?_
  refine lv_ldc2 (v := 199) hx hb E.2.2.1 (E.2.2.2.1 _ w_713) d_Mod_event_8 ?_
  refine mm_calli (mm_runS (As := [.long i.toInt64, .long 0, .long 199]) (rest := []) E hZ hml hl.1 lk_Mod_78 me_Mod_isIn st_Mod_isIn (c_Mod_isIn l g _ i.toInt64 0 199) ⟨Nat.le_of_ble_eq_true rfl, Nat.le_of_ble_eq_true rfl⟩ rfl (Nat.le_of_ble_eq_true rfl) d_Mod_event_11 ⟨Nat.le_of_ble_eq_true rfl, Nat.le_of_ble_eq_true rfl⟩) hZ (fun r1 M1 H locs hp hZ => ?_)
  rw [hp.1] at hZ
  replace hp := hp.2
  have hp1 := hp
  clear hp
  refine lv_if_eq (tgt := 29) hx hb d_Mod_event_14 (by decide) (fun c14 => ?_) (fun c14 => ?_)
  · refine lv_bipush (v := (-101)) hx hb d_Mod_event_29 (by decide) ?_
    exact mm_iret (v := (-101)) E hr hlk eQ hZ d_Mod_event_31 ⟨_, rfl, Or.inl ⟨fun ⟨j, p, hj, _, e, _⟩ => out_nat (n := 199) (by decide) (by decide) (b32_eq0.mp (hp1 ▸ c14)) j hj e, rfl, hR⟩⟩
  · refine lv_iload_n hx hb d_Mod_event_17 rfl (lv_at hl 3 rfl) ?_
    refine lv_i2l hx hb d_Mod_event_18 rfl ?_
    refine lv_lconst (v := 0) hx hb d_Mod_event_19 (by decide) ?_
    refine lv_ldc2 (v := 49) hx hb E.2.2.1 (E.2.2.2.1 _ w_706) d_Mod_event_20 ?_
    refine mm_calli (mm_runS (As := [.long pl.toInt64, .long 0, .long 49]) (rest := []) E hZ hml hl.1 lk_Mod_78 me_Mod_isIn st_Mod_isIn (c_Mod_isIn l g _ pl.toInt64 0 49) ⟨Nat.le_of_ble_eq_true rfl, Nat.le_of_ble_eq_true rfl⟩ rfl (Nat.le_of_ble_eq_true rfl) d_Mod_event_23 ⟨Nat.le_of_ble_eq_true rfl, Nat.le_of_ble_eq_true rfl⟩) hZ (fun r2 M1 H locs hp hZ => ?_)
    rw [hp.1] at hZ
    replace hp := hp.2
    have hp2 := hp
    clear hp
    refine lv_if_ne (tgt := 32) hx hb d_Mod_event_26 (by decide) (fun c26 => ?_) (fun c26 => ?_)
    · obtain ⟨j, hj, rfl⟩ := in_nat (n := 199) rfl (by decide) (b32_ne0 (hp1 ▸ c14))
      obtain ⟨p5, hp5, rfl⟩ := in_nat (n := 49) rfl (by decide) (b32_ne0 (hp2 ▸ c26))
      refine lv_iload_n hx hb d_Mod_event_32 rfl (lv_at hl 2 rfl) ?_
      refine lv_i2l hx hb d_Mod_event_33 rfl ?_
      refine lv_lconst (v := 0) hx hb d_Mod_event_34 (by decide) ?_
      refine lv_ldc2 (v := 9) hx hb E.2.2.1 (E.2.2.2.1 _ w_714) d_Mod_event_35 ?_
      refine mm_calli (mm_runS (As := [.long st.toInt64, .long 0, .long 9]) (rest := []) E hZ hml hl.1 lk_Mod_78 me_Mod_isIn st_Mod_isIn (c_Mod_isIn l g _ st.toInt64 0 9) ⟨Nat.le_of_ble_eq_true rfl, Nat.le_of_ble_eq_true rfl⟩ rfl (Nat.le_of_ble_eq_true rfl) d_Mod_event_38 ⟨Nat.le_of_ble_eq_true rfl, Nat.le_of_ble_eq_true rfl⟩) hZ (fun r3 M1 H locs hp hZ => ?_)
      rw [hp.1] at hZ
      replace hp := hp.2
      have hp3 := hp
      clear hp
      refine lv_if_eq (tgt := 67) hx hb d_Mod_event_41 (by decide) (fun c41 => ?_) (fun c41 => ?_)
      · refine lv_bipush (v := (-102)) hx hb d_Mod_event_67 (by decide) ?_
        exact mm_iret (v := (-102)) E hr hlk eQ hZ d_Mod_event_69 ⟨_, rfl, Or.inr ⟨j, p5, hj, hp5, rfl, rfl, Or.inl ⟨fun ⟨⟨a, v, ha, _, e, _⟩, _⟩ => out_nat (n := 9) (by decide) (by decide) (b32_eq0.mp (hp3 ▸ c41)) a ha e, rfl, hR⟩⟩⟩
      · refine lv_iload hx hb d_Mod_event_44 (lv_at hl 4 rfl) ?_
        refine lv_i2l hx hb d_Mod_event_46 rfl ?_
        refine lv_lconst (v := 0) hx hb d_Mod_event_47 (by decide) ?_
        refine lv_ldc2 (v := 4) hx hb E.2.2.1 (E.2.2.2.1 _ w_707) d_Mod_event_48 ?_
        refine mm_calli (mm_runS (As := [.long sv.toInt64, .long 0, .long 4]) (rest := []) E hZ hml hl.1 lk_Mod_78 me_Mod_isIn st_Mod_isIn (c_Mod_isIn l g _ sv.toInt64 0 4) ⟨Nat.le_of_ble_eq_true rfl, Nat.le_of_ble_eq_true rfl⟩ rfl (Nat.le_of_ble_eq_true rfl) d_Mod_event_51 ⟨Nat.le_of_ble_eq_true rfl, Nat.le_of_ble_eq_true rfl⟩) hZ (fun r4 M1 H locs hp hZ => ?_)
        rw [hp.1] at hZ
        replace hp := hp.2
        have hp4 := hp
        clear hp
        refine lv_if_eq (tgt := 67) hx hb d_Mod_event_54 (by decide) (fun c54 => ?_) (fun c54 => ?_)
        · refine lv_bipush (v := (-102)) hx hb d_Mod_event_67 (by decide) ?_
          exact mm_iret (v := (-102)) E hr hlk eQ hZ d_Mod_event_69 ⟨_, rfl, Or.inr ⟨j, p5, hj, hp5, rfl, rfl, Or.inl ⟨fun ⟨⟨a, v, _, hv, _, e⟩, _⟩ => out_nat (n := 4) (by decide) (by decide) (b32_eq0.mp (hp4 ▸ c54)) v hv e, rfl, hR⟩⟩⟩
        · refine lv_aload_n hx hb d_Mod_event_57 rfl (lv_at hl 0 rfl) ?_
          refine lv_iload_n hx hb d_Mod_event_58 rfl (lv_at hl 1 rfl) ?_
          refine lv_lload hx hb d_Mod_event_59 (lv_at hl 5 rfl) ?_
          refine mm_calli (mm_runV (As := [.int (nI j), .long t]) (rest := []) E hZ hml hl.1 lk_Mod_106 me_Mod_isTime in_Mod_isTime (c_Mod_isTime l g hR.1 (i := j) (by omega) t) hR.1.1 cl_Mod.1 ⟨Nat.le_of_ble_eq_true rfl, Nat.le_of_ble_eq_true rfl⟩ rfl (Nat.le_of_ble_eq_true rfl) d_Mod_event_61 ⟨Nat.le_of_ble_eq_true rfl, Nat.le_of_ble_eq_true rfl⟩) hZ (fun r5 M1 H locs hp hZ => ?_)
          rw [hp.1] at hZ
          replace hp := hp.2
          have hp6 := hp
          clear hp
          refine lv_if_ne (tgt := 70) hx hb d_Mod_event_64 (by decide) (fun c64 => ?_) (fun c64 => ?_)
          · have hT : rTime I L j t := b32_ne0 (hp6 ▸ c64)
            obtain ⟨a, ha, rfl⟩ := in_nat (n := 9) rfl (by decide) (b32_ne0 (hp3 ▸ c41))
            obtain ⟨v, hv, rfl⟩ := in_nat (n := 4) rfl (by decide) (b32_ne0 (hp4 ▸ c54))
            obtain ⟨tt, htt, rfl⟩ := lin_nat (n := 1000000000) (by decide) (show (0 : Int64) ≤ t ∧ t ≤ 1000000000 from ⟨by
              by_cases h7 : I 7 j < 0
              · have := hT.1; rw [if_pos h7] at this; exact this
              · have := hT.1; rw [if_neg h7] at this; exact Int64.le_trans (hL9 j (by omega) h7) this, hT.2⟩)
            obtain ⟨hcn, hcn5⟩ := hc v hv
            obtain ⟨hbg, hbg5⟩ := hbeg p5 hp5
            refine lv_aload_n hx hb d_Mod_event_70 rfl (lv_at hl 0 rfl) ?_
            refine mm_get (v := .ref (ad 8)) E hZ cl_Mod fl_Mod_30 (by decide) hR.1.1 rfl d_Mod_event_71 ?_
            refine lv_iload_n hx hb d_Mod_event_74 rfl (lv_at hl 1 rfl) ?_
            refine lv_aload_n hx hb d_Mod_event_75 rfl (lv_at hl 0 rfl) ?_
            refine mm_get (v := .ref (ad 7)) E hZ cl_Mod fl_Mod_27 (by decide) hR.1.1 rfl d_Mod_event_76 ?_
            refine lv_iload_n hx hb d_Mod_event_79 rfl (lv_at hl 1 rfl) ?_
            refine rr_iald 7 rfl rfl E hZ hR rfl (show j < 200 by omega) d_Mod_event_80 ?_
            have J95 : ∀ (v95 : Int64) (H : Heap) (locs : List Loc) (ls : Array Slot), mm_S g s M H locs → v95 = (if I 7 j < 0 then lN tt else L 8 j) → lv_has ls 8 [(0, .ref q), (1, .int (nI j)), (2, .int (nI a)), (3, .int (nI p5)), (4, .int (nI v)), (5, .long (lN tt))] → W pG l eV (rk 2 48 0 0) s m args below meth cdx H locs 0 0 Q (F0 m 95 ls [.long v95, .int (nI j), .ref (ad 8)]) := by
              intro v95 H locs ls hZ hv95 hl
              subst hv95
              refine rr_last 8 rfl E hZ hR rfl (show j < 200 by omega) d_Mod_event_95 (fun M H locs hZ hR => ?_)
              refine lv_aload_n hx hb d_Mod_event_96 rfl (lv_at hl 0 rfl) ?_
              refine mm_get (v := .ref (ad 9)) E hZ cl_Mod fl_Mod_33 (by decide) hR.1.1 rfl d_Mod_event_97 ?_
              refine lv_iload_n hx hb d_Mod_event_100 rfl (lv_at hl 1 rfl) ?_
              refine lv_lload hx hb d_Mod_event_101 (lv_at hl 5 rfl) ?_
              refine rr_last 9 rfl E hZ hR rfl (show j < 200 by omega) d_Mod_event_103 (fun M H locs hZ hR => ?_)
              refine lv_aload_n hx hb d_Mod_event_104 rfl (lv_at hl 0 rfl) ?_
              refine lv_iload_n hx hb d_Mod_event_105 rfl (lv_at hl 1 rfl) ?_
              refine mm_callv (mm_runV (As := [.int (nI j)]) (rest := []) E hZ hml hl.1 lk_Mod_110 me_Mod_end in_Mod_end (c_Mod_end l g hR.1 (i := j) (by omega)) hR.1.1 cl_Mod.1 ⟨Nat.le_of_ble_eq_true rfl, Nat.le_of_ble_eq_true rfl⟩ rfl (Nat.le_of_ble_eq_true rfl) d_Mod_event_106 ⟨Nat.le_of_ble_eq_true rfl, Nat.le_of_ble_eq_true rfl⟩) hZ (fun M1 H locs hp hZ => ?_)
              replace hR := hR.step hp
              generalize M1 = M at hZ hR
              replace hR : Rq g M0 M q ad (rEnd I j) (evL I L j (lN tt)) (va_up S 0 0) ck := hR
              refine lv_iload_n hx hb d_Mod_event_109 rfl (lv_at hl 2 rfl) ?_
              refine lv_bipush (v := 9) hx hb d_Mod_event_110 (by decide) ?_
              refine lv_icmp_ne (tgt := 168) hx hb d_Mod_event_112 (by decide) (fun c112 => ?_) (fun c112 => ?_)
              · have ha9 : ¬ a = 9 := fun z => c112 (by rw [z]; rfl)
                refine lv_aload_n hx hb d_Mod_event_168 rfl (lv_at hl 0 rfl) ?_
                refine mm_get (v := .ref (ad 7)) E hZ cl_Mod fl_Mod_27 (by decide) hR.1.1 rfl d_Mod_event_169 ?_
                refine lv_iload_n hx hb d_Mod_event_172 rfl (lv_at hl 1 rfl) ?_
                refine lv_iload_n hx hb d_Mod_event_173 rfl (lv_at hl 2 rfl) ?_
                refine rr_iast 7 rfl rfl E hZ hR rfl (show j < 200 by omega) d_Mod_event_174 (fun M H locs hZ hR => ?_)
                refine lv_aload_n hx hb d_Mod_event_175 rfl (lv_at hl 0 rfl) ?_
                refine lv_iload_n hx hb d_Mod_event_176 rfl (lv_at hl 2 rfl) ?_
                refine lv_iload_n hx hb d_Mod_event_177 rfl (lv_at hl 3 rfl) ?_
                refine lv_iload hx hb d_Mod_event_178 (lv_at hl 4 rfl) ?_
                have e7 : ∀ k, k ≠ 7 ∧ k ≠ 10 ∧ k ≠ 13 ∧ k ≠ 14 → (up2 (rEnd I j) 7 j (nI a)) k = I k := fun k hk => by rw [up2_f _ _ _ hk.1]; exact rEnd_f I j hk.2
                refine mm_calli (mm_runV (As := [.int (nI a), .int (nI p5), .int (nI v)]) (rest := []) E hZ hml hl.1 lk_Mod_114 me_Mod_rowFor in_Mod_rowFor (c_Mod_rowFor l g hR.1 (nI a) (nI p5) (nI v) (nr := nr) (by rw [va_up_ne _ _ (by decide)]; exact hn) hn4) hR.1.1 cl_Mod.1 ⟨Nat.le_of_ble_eq_true rfl, Nat.le_of_ble_eq_true rfl⟩ rfl (Nat.le_of_ble_eq_true rfl) d_Mod_event_180 ⟨Nat.le_of_ble_eq_true rfl, Nat.le_of_ble_eq_true rfl⟩) hZ (fun rr M1 H locs hp hZ => ?_)
                rw [hp.1] at hZ
                replace hp := hp.2
                obtain ⟨k, hk, hrk, hF⟩ := hp
                subst hrk
                replace hF : rowFirst I nr (nI a) (nI p5) (nI v) k := rowFirst_of (e7 2 (by decide)) (e7 3 (by decide)) (e7 4 (by decide)) hF
                refine lv_istore (lv' := [(7, .int (nI k)), (0, .ref q), (1, .int (nI j)), (2, .int (nI a)), (3, .int (nI p5)), (4, .int (nI v)), (5, .long (lN tt))]) hx hb d_Mod_event_183 hl (by decide) rfl (fun ls hl => ?_)
                refine lv_iload hx hb d_Mod_event_185 (lv_at hl 0 rfl) ?_
                refine lv_if_le (tgt := 210) hx hb d_Mod_event_187 (by decide) (fun c187 => ?_) (fun c187 => ?_)
                · have hk0 : k = 0 := by
                    rcases Nat.eq_zero_or_pos k with z | z
                    · exact z
                    · exact absurd c187 (nI_nle z (by omega))
                  refine lv_iload hx hb d_Mod_event_210 (lv_at hl 0 rfl) ?_
                  refine lv_if_le (tgt := 259) hx hb d_Mod_event_212 (by decide) (fun c212 => ?_) (fun c212 => ?_)
                  · refine lv_iload hx hb d_Mod_event_259 (lv_at hl 0 rfl) ?_
                    exact mm_iret (v := nI k) E hr hlk eQ hZ d_Mod_event_261 ⟨_, rfl, Or.inr ⟨j, p5, hj, hp5, rfl, rfl, Or.inr ⟨a, v, tt, ha, hv, htt, rfl, rfl, rfl, hT, Or.inr ⟨ha9, k, hk, hF, Or.inl ⟨hk0, by rw [hk0]; rfl, hR⟩⟩⟩⟩⟩
                  · exact absurd c187 c212
                · have hk1 : 1 ≤ k := by
                    rcases Nat.eq_zero_or_pos k with z | z
                    · exact absurd (show nI k ≤ 0 by rw [z]; decide) c187
                    · exact z
                  refine lv_aload_n hx hb d_Mod_event_190 rfl (lv_at hl 1 rfl) ?_
                  refine mm_get (v := .ref (ad 6)) E hZ cl_Mod fl_Mod_23 (by decide) hR.1.1 rfl d_Mod_event_191 ?_
                  refine lv_iload hx hb d_Mod_event_194 (lv_at hl 0 rfl) ?_
                  refine rr_zald 6 rfl rfl E hZ hR rfl (show k < 41 by omega) d_Mod_event_196 ?_
                  refine lv_if_eq (tgt := 210) hx hb d_Mod_event_197 (by decide) (fun c197 => ?_) (fun c197 => ?_)
                  · rw [e7 6 (by decide)] at c197
                    refine lv_iload hx hb d_Mod_event_210 (lv_at hl 0 rfl) ?_
                    refine lv_if_le (tgt := 259) hx hb d_Mod_event_212 (by decide) (fun c212 => ?_) (fun c212 => ?_)
                    · exact absurd c212 c187
                    · obtain ⟨hwk, hw7⟩ := hwi k hk1 hk
                      refine lv_aload_n hx hb d_Mod_event_215 rfl (lv_at hl 1 rfl) ?_
                      refine mm_get (v := .ref (ad 10)) E hZ cl_Mod fl_Mod_36 (by decide) hR.1.1 rfl d_Mod_event_216 ?_
                      refine lv_iload_n hx hb d_Mod_event_219 rfl (lv_at hl 2 rfl) ?_
                      refine lv_iload hx hb d_Mod_event_220 (lv_at hl 0 rfl) ?_
                      refine rr_iast 10 rfl rfl E hZ hR rfl (show j < 200 by omega) d_Mod_event_222 (fun M H locs hZ hR => ?_)
                      refine lv_aload_n hx hb d_Mod_event_223 rfl (lv_at hl 1 rfl) ?_
                      refine mm_get (v := .ref (ad 11)) E hZ cl_Mod fl_Mod_39 (by decide) hR.1.1 rfl d_Mod_event_224 ?_
                      refine lv_iload_n hx hb d_Mod_event_227 rfl (lv_at hl 2 rfl) ?_
                      refine lv_iload_n hx hb d_Mod_event_228 rfl (lv_at hl 4 rfl) ?_
                      refine rr_iast 11 rfl rfl E hZ hR rfl (show j < 200 by omega) d_Mod_event_229 (fun M H locs hZ hR => ?_)
                      refine lv_aload_n hx hb d_Mod_event_230 rfl (lv_at hl 1 rfl) ?_
                      refine mm_get (v := .ref (ad 12)) E hZ cl_Mod fl_Mod_42 (by decide) hR.1.1 rfl d_Mod_event_231 ?_
                      refine lv_iload_n hx hb d_Mod_event_234 rfl (lv_at hl 2 rfl) ?_
                      refine lv_aload_n hx hb d_Mod_event_235 rfl (lv_at hl 1 rfl) ?_
                      refine lv_lload hx hb d_Mod_event_236 (lv_at hl 6 rfl) ?_
                      refine lv_aload_n hx hb d_Mod_event_238 rfl (lv_at hl 1 rfl) ?_
                      refine mm_get (v := .ref (ad 5)) E hZ cl_Mod fl_Mod_19 (by decide) hR.1.1 rfl d_Mod_event_239 ?_
                      refine lv_iload hx hb d_Mod_event_242 (lv_at hl 0 rfl) ?_
                      refine rr_lald 5 rfl E hZ hR rfl (show k < 41 by omega) d_Mod_event_244 ?_
                      rw [show evL I L j (lN tt) 5 k = lN (wi k) from (congrFun (evL_f I L j (lN tt) (by decide)) k).trans hwk]
                      refine mm_calll (mm_runV (As := [.long (lN tt), .long (lN (wi k))]) (rest := [.int (nI j), .ref (ad 12)]) E hZ hml hl.1 lk_Mod_121 me_Mod_behind in_Mod_behind (c_Mod_behind l g hR.1 (t0 := tt) (w0 := wi k) htt hw7) hR.1.1 cl_Mod.1 ⟨Nat.le_of_ble_eq_true rfl, Nat.le_of_ble_eq_true rfl⟩ rfl (Nat.le_of_ble_eq_true rfl) d_Mod_event_245 ⟨Nat.le_of_ble_eq_true rfl, Nat.le_of_ble_eq_true rfl⟩) hZ (fun du M1 H locs hp hZ => ?_)
                      rw [hp.1] at hZ
                      replace hp := hp.2
                      rw [show (up2 (up2 (up2 (rEnd I j) 7 j (nI a)) 10 j (nI k)) 11 j (nI p5)) 15 = I 15 by rw [up2_f _ _ _ (by decide), up2_f _ _ _ (by decide)]; exact e7 15 (by decide)] at hp
                      subst hp
                      refine rr_last 12 rfl E hZ hR rfl (show j < 200 by omega) d_Mod_event_248 (fun M H locs hZ hR => ?_)
                      refine lv_aload_n hx hb d_Mod_event_249 rfl (lv_at hl 1 rfl) ?_
                      refine mm_get (v := .ref (ad 20)) E hZ cl_Mod fl_Mod_57 (by decide) hR.1.1 rfl d_Mod_event_250 ?_
                      refine lv_iload_n hx hb d_Mod_event_253 rfl (lv_at hl 4 rfl) ?_
                      refine lv_dup2_11 hx hb d_Mod_event_254 rfl rfl ?_
                      refine rr_iald 20 rfl rfl E hZ hR rfl (show p5 < 50 by omega) d_Mod_event_255 ?_
                      rw [show (up2 (up2 (up2 (rEnd I j) 7 j (nI a)) 10 j (nI k)) 11 j (nI p5)) 20 p5 = nI (bg p5) by rw [up2_f _ _ _ (by decide), up2_f _ _ _ (by decide), e7 20 (by decide)]; exact hbg]
                      refine lv_iconst (v := 1) hx hb d_Mod_event_256 (by decide) ?_
                      refine lv_iadd hx hb d_Mod_event_257 ?_
                      refine rr_iast 20 rfl rfl E hZ hR rfl (show p5 < 50 by omega) d_Mod_event_258 (fun M H locs hZ hR => ?_)
                      refine lv_iload hx hb d_Mod_event_259 (lv_at hl 0 rfl) ?_
                      exact mm_iret (v := nI k) E hr hlk eQ hZ d_Mod_event_261 ⟨_, rfl, Or.inr ⟨j, p5, hj, hp5, rfl, rfl, Or.inr ⟨a, v, tt, ha, hv, htt, rfl, rfl, rfl, hT, Or.inr ⟨ha9, k, hk, hF, Or.inr (Or.inr ⟨hk1, c197, rfl, by rw [nI_1] at hR; exact hR⟩)⟩⟩⟩⟩
                  · rw [e7 6 (by decide)] at c197
                    refine lv_aload_n hx hb d_Mod_event_200 rfl (lv_at hl 1 rfl) ?_
                    refine lv_iload hx hb d_Mod_event_201 (lv_at hl 0 rfl) ?_
                    refine mm_callv (mm_runV (As := [.int (nI k)]) (rest := []) E hZ hml hl.1 lk_Mod_118 me_Mod_fails in_Mod_fails (c_Mod_fails l g hR.1 (nI k) (f := f) (by rw [va_up_ne _ _ (by decide)]; exact hf) hf4 (by rw [e7 25 (by decide)]; exact h4 k hk1 hk)) hR.1.1 cl_Mod.1 ⟨Nat.le_of_ble_eq_true rfl, Nat.le_of_ble_eq_true rfl⟩ rfl (Nat.le_of_ble_eq_true rfl) d_Mod_event_203 ⟨Nat.le_of_ble_eq_true rfl, Nat.le_of_ble_eq_true rfl⟩) hZ (fun M1 H locs hp hZ => ?_)
                    rw [e7 25 (by decide)] at hp
                    replace hp : ((∃ z, z < f ∧ I 25 z = nI k) ∧ Rq g M0 M1 q ad (up2 (rEnd I j) 7 j (nI a)) (evL I L j (lN tt)) (va_up S 0 0) ck) ∨ ((¬ ∃ z, z < f ∧ I 25 z = nI k) ∧ Rq g M0 M1 q ad (up2 (up2 (rEnd I j) 7 j (nI a)) 25 f (nI k)) (evL I L j (lN tt)) (va_up (va_up S 0 0) 24 (nI (f + 1))) ck) := hp.imp (fun z => ⟨z.1, hR.step z.2⟩) (fun z => ⟨z.1, hR.step z.2⟩)
                    clear hR
                    generalize M1 = M at hZ hp
                    refine lv_iload hx hb d_Mod_event_206 (lv_at hl 0 rfl) ?_
                    refine lv_ineg hx hb d_Mod_event_208 ?_
                    exact mm_iret (v := -(nI k)) E hr hlk eQ hZ d_Mod_event_209 ⟨_, rfl, Or.inr ⟨j, p5, hj, hp5, rfl, rfl, Or.inr ⟨a, v, tt, ha, hv, htt, rfl, rfl, rfl, hT, Or.inr ⟨ha9, k, hk, hF, Or.inr (Or.inl ⟨hk1, c197, rfl, hp⟩)⟩⟩⟩⟩
              · have ha9 : a = 9 := (nI_eq (by omega) (by decide)).mp (show nI a = nI 9 from c112)
                refine lv_aload_n hx hb d_Mod_event_115 rfl (lv_at hl 0 rfl) ?_
                refine mm_get (v := .ref (ad 23)) E hZ cl_Mod fl_Mod_66 (by decide) hR.1.1 rfl d_Mod_event_116 ?_
                refine lv_sipush (v := 4200) hx hb d_Mod_event_119 (by decide) ?_
                refine lv_iload hx hb d_Mod_event_122 (lv_at hl 4 rfl) ?_
                refine lv_imul hx hb d_Mod_event_124 ?_
                refine lv_aload_n hx hb d_Mod_event_125 rfl (lv_at hl 0 rfl) ?_
                refine mm_get (v := .ref (ad 22)) E hZ cl_Mod fl_Mod_63 (by decide) hR.1.1 rfl d_Mod_event_126 ?_
                refine lv_iload hx hb d_Mod_event_129 (lv_at hl 4 rfl) ?_
                refine rr_iald 22 rfl rfl E hZ hR rfl (show v < 5 by omega) d_Mod_event_131 ?_
                rw [show rEnd I j 22 v = nI (cn v) by rw [rEnd_f I j (by decide)]; exact hcn]
                refine lv_iadd hx hb d_Mod_event_132 ?_
                refine lv_lload hx hb d_Mod_event_133 (lv_at hl 5 rfl) ?_
                refine lv_aload_n hx hb d_Mod_event_135 rfl (lv_at hl 0 rfl) ?_
                refine mm_get (v := .ref (ad 8)) E hZ cl_Mod fl_Mod_30 (by decide) hR.1.1 rfl d_Mod_event_136 ?_
                refine lv_iload_n hx hb d_Mod_event_139 rfl (lv_at hl 1 rfl) ?_
                refine rr_lald 8 rfl E hZ hR rfl (show j < 200 by omega) d_Mod_event_140 ?_
                refine lv_lsub hx hb d_Mod_event_141 ?_
                refine lv_ldc2 (v := 86400) hx hb E.2.2.1 (E.2.2.2.1 _ w_724) d_Mod_event_142 ?_
                refine lv_ldiv hx hb d_Mod_event_145 (by decide) ?_
                refine lv_l2i hx hb d_Mod_event_146 rfl ?_
                refine rr_iast 23 rfl rfl E hZ hR (nI_42 v (cn v)) (show (4200 * v + cn v) < 21000 by omega) d_Mod_event_147 (fun M H locs hZ hR => ?_)
                refine lv_aload_n hx hb d_Mod_event_148 rfl (lv_at hl 0 rfl) ?_
                refine mm_get (v := .ref (ad 22)) E hZ cl_Mod fl_Mod_63 (by decide) hR.1.1 rfl d_Mod_event_149 ?_
                refine lv_iload hx hb d_Mod_event_152 (lv_at hl 4 rfl) ?_
                refine lv_dup2_11 hx hb d_Mod_event_154 rfl rfl ?_
                refine rr_iald 22 rfl rfl E hZ hR rfl (show v < 5 by omega) d_Mod_event_155 ?_
                rw [show up2 (rEnd I j) 23 (4200 * v + cn v) (evD I L j (lN tt)) 22 v = nI (cn v) by rw [up2_f _ _ _ (by decide), rEnd_f I j (by decide)]; exact hcn]
                refine lv_iconst (v := 1) hx hb d_Mod_event_156 (by decide) ?_
                refine lv_iadd hx hb d_Mod_event_157 ?_
                refine rr_iast 22 rfl rfl E hZ hR rfl (show v < 5 by omega) d_Mod_event_158 (fun M H locs hZ hR => ?_)
                refine lv_aload_n hx hb d_Mod_event_159 rfl (lv_at hl 0 rfl) ?_
                refine mm_get (v := .ref (ad 7)) E hZ cl_Mod fl_Mod_27 (by decide) hR.1.1 rfl d_Mod_event_160 ?_
                refine lv_iload_n hx hb d_Mod_event_163 rfl (lv_at hl 1 rfl) ?_
                refine lv_iconst (v := (-1)) hx hb d_Mod_event_164 (by decide) ?_
                refine rr_iast 7 rfl rfl E hZ hR rfl (show j < 200 by omega) d_Mod_event_165 (fun M H locs hZ hR => ?_)
                refine lv_iconst (v := 0) hx hb d_Mod_event_166 (by decide) ?_
                exact mm_iret (v := 0) E hr hlk eQ hZ d_Mod_event_167 ⟨_, rfl, Or.inr ⟨j, p5, hj, hp5, rfl, rfl, Or.inr ⟨a, v, tt, ha, hv, htt, rfl, rfl, rfl, hT, Or.inl ⟨ha9, rfl, by rw [nI_1] at hR; exact hR⟩⟩⟩⟩
            refine lv_if_ge (tgt := 89) hx hb d_Mod_event_81 (by decide) (fun c81 => ?_) (fun c81 => ?_)
            · refine lv_aload_n hx hb d_Mod_event_89 rfl (lv_at hl 0 rfl) ?_
              refine mm_get (v := .ref (ad 8)) E hZ cl_Mod fl_Mod_30 (by decide) hR.1.1 rfl d_Mod_event_90 ?_
              refine lv_iload_n hx hb d_Mod_event_93 rfl (lv_at hl 1 rfl) ?_
              refine rr_lald 8 rfl E hZ hR rfl (show j < 200 by omega) d_Mod_event_94 ?_
              exact J95 _ H locs ls hZ (if_neg (Int32.not_lt.mpr c81)).symm hl
            · refine lv_lload hx hb d_Mod_event_84 (lv_at hl 5 rfl) ?_
              refine lv_goto (tgt := 95) hx hb d_Mod_event_86 (by decide) ?_
              exact J95 _ H locs ls hZ (if_pos (Int32.not_le.mp c81)).symm hl
          · refine lv_bipush (v := (-102)) hx hb d_Mod_event_67 (by decide) ?_
            exact mm_iret (v := (-102)) E hr hlk eQ hZ d_Mod_event_69 ⟨_, rfl, Or.inr ⟨j, p5, hj, hp5, rfl, rfl, Or.inl ⟨fun z => b32_eq0.mp (hp6 ▸ c64) z.2, rfl, hR⟩⟩⟩
    · refine lv_bipush (v := (-101)) hx hb d_Mod_event_29 (by decide) ?_
      exact mm_iret (v := (-101)) E hr hlk eQ hZ d_Mod_event_31 ⟨_, rfl, Or.inl ⟨fun ⟨j, p, _, hp5, _, e⟩ => out_nat (n := 49) (by decide) (by decide) (b32_eq0.mp (hp2 ▸ c26)) p hp5 e, rfl, hR⟩⟩
end
section
/-! THE REFERENCE: its constructor -/
theorem rI_cases {k : Nat} (h : rI k = true) : k = 2 ∨ k = 3 ∨ k = 4 ∨ k = 6 ∨ k = 7 ∨ k = 10 ∨ k = 11 ∨ k = 13 ∨ k = 14 ∨ k = 15 ∨ k = 20 ∨ k = 21 ∨ k = 22 ∨ k = 23 ∨ k = 25 := by
  unfold rI at h
  split at h <;> first | (simp; done) | cases h
theorem rL_cases {k : Nat} (h : rL k = true) : k = 5 ∨ k = 8 ∨ k = 9 ∨ k = 12 ∨ k = 19 := by
  unfold rL at h
  split at h <;> first | (simp; done) | cases h
abbrev rz_fs (f : Nat → Value) : List Value := [.int 0, .int 0, f 2, f 3, f 4, f 5, f 6, f 7, f 8, f 9, f 10, f 11, f 12, f 13, f 14, f 15, .int 0, .long 0, .int 0, f 19, f 20, f 21, f 22, f 23, .int 0, f 25]
/-- the items' states when i of them are set -/
def rz_I (i : Nat) : Nat → Nat → Int32 := fun k j => if k = 7 ∧ j < i then -1 else 0
theorem rz_0 : (fun _ _ => 0 : Nat → Nat → Int32) = rz_I 0 := by
  funext k j
  unfold rz_I
  rw [if_neg (by omega)]
theorem rz_step (i : Nat) : up2 (rz_I i) 7 i (-1) = rz_I (i + 1) := by
  funext k j
  by_cases hk : k = 7
  · subst hk
    by_cases hj : j = i
    · subst hj; rw [up2_s]; unfold rz_I; rw [if_pos ⟨rfl, by omega⟩]
    · rw [up2_j _ _ _ hj]; unfold rz_I
      by_cases h : j < i
      · rw [if_pos ⟨rfl, h⟩, if_pos ⟨rfl, by omega⟩]
      · rw [if_neg (by omega), if_neg (by omega)]
  · rw [up2_f _ _ _ hk]; unfold rz_I
    rw [if_neg (by omega), if_neg (by omega)]
set_option maxHeartbeats 4000000 in
set_option maxRecDepth 100000 in
theorem c_Mod_init (l : Launch) (g : mm_G) {M0 : mm_M} {q : Nat} (h0 : M0 q = some (ob 20 9 (rz_fs (fun _ => .null)))) : Cv l g y_Mod_init b_Mod_init 2 (rk 1 20 20 44951) M0 [.ref q] (fun M' => ∃ ad, Rq g M0 M' q ad (rz_I 200) (fun _ _ => 0) (fun _ => 0) 0) := by
  refine mm_enter (by decide) (Nat.le_of_ble_eq_true rfl) (fun pG eV s m args below meth cdx ls Q E hml hr hlk hnm hZ hl eQ => ?_)
  have hx := E.1
  have hb := E.2.1
  have hl : lv_has ls 2 [(0, .ref q)] := hl
  have hs : ∀ t, (t < 20 ∨ 47 ≤ t) → mm_same t M0 M0 := fun _ _ => mm_same.rf
  have hq : M0 q = some (ob 20 9 (rz_fs (fun _ => .null))) := h0
  refine lv_aload_n hx hb d_Mod_init_0 rfl (lv_at hl 0 rfl) ?_
  refine mm_objI E hml hl.1 w_612 w_30 w_31 (Nat.le_of_ble_eq_true rfl) (Nat.le_of_ble_eq_true rfl) d_Mod_init_1 ?_
  refine lv_aload_n hx hb d_Mod_init_4 rfl (lv_at hl 0 rfl) ?_
  refine lv_bipush (v := 41) hx hb d_Mod_init_5 (by decide) ?_
  refine mm_newi 23 (t0 := 0) (cA := g.2.2 0) (N := 41) E hZ rfl w_110 (by decide) (by decide) (by decide) (Nat.le_of_ble_eq_true rfl) (Nat.le_of_ble_eq_true rfl) d_Mod_init_7 (fun a2 H hB2 hN2 hZ => ?_)
  obtain ⟨Ma2, eMa2⟩ : ∃ z : mm_M, z = mm_up M0 a2 (ai 23 (g.2.2 0) 41 (fun _ => 0)) := ⟨_, rfl⟩
  rw [← eMa2] at hZ
  replace hs : ∀ t, (t < 20 ∨ 47 ≤ t) → mm_same t M0 Ma2 := fun t ht => by rw [eMa2]; exact (hs t ht).tr (mm_same.new hN2 _)
  replace hq := (congrFun eMa2 q).trans ((mm_ne _ _ (mm_apartN hq hN2)).trans hq)
  have h2 := (congrFun eMa2 a2).trans (mm_self _ _ _)
  refine mm_putF (k := 2) E hnm hZ cl_Mod w_615 (by decide) rfl rfl hq (by decide) rfl rfl (Nat.le_of_ble_eq_true rfl) d_Mod_init_9 (fun H locs hZ => ?_)
  obtain ⟨Mb2, eMb2⟩ : ∃ z : mm_M, z = mm_up Ma2 q (ob 20 9 [.int 0, .int 0, .ref a2, .null, .null, .null, .null, .null, .null, .null, .null, .null, .null, .null, .null, .null, .int 0, .long 0, .int 0, .null, .null, .null, .null, .null, .int 0, .null]) := ⟨_, rfl⟩
  replace hZ : mm_S g s Mb2 H locs := by rw [eMb2]; exact hZ
  replace hs : ∀ t, (t < 20 ∨ 47 ≤ t) → mm_same t M0 Mb2 := fun t ht => by rw [eMb2]; exact (hs t ht).tr (mm_same.up hq (by omega) _)
  replace h2 := (congrFun eMb2 a2).trans ((mm_ne _ _ (mm_tag h2 hq (by decide))).trans h2)
  replace hq := (congrFun eMb2 q).trans (mm_self _ _ _)
  refine lv_aload_n hx hb d_Mod_init_12 rfl (lv_at hl 0 rfl) ?_
  refine lv_bipush (v := 41) hx hb d_Mod_init_13 (by decide) ?_
  refine mm_newi 24 (t0 := 0) (cA := g.2.2 0) (N := 41) E hZ rfl w_110 (by decide) (by decide) (by decide) (Nat.le_of_ble_eq_true rfl) (Nat.le_of_ble_eq_true rfl) d_Mod_init_15 (fun a3 H hB3 hN3 hZ => ?_)
  obtain ⟨Ma3, eMa3⟩ : ∃ z : mm_M, z = mm_up Mb2 a3 (ai 24 (g.2.2 0) 41 (fun _ => 0)) := ⟨_, rfl⟩
  rw [← eMa3] at hZ
  replace hs : ∀ t, (t < 20 ∨ 47 ≤ t) → mm_same t M0 Ma3 := fun t ht => by rw [eMa3]; exact (hs t ht).tr (mm_same.new hN3 _)
  replace hq := (congrFun eMa3 q).trans ((mm_ne _ _ (mm_apartN hq hN3)).trans hq)
  replace h2 := (congrFun eMa3 a2).trans ((mm_ne _ _ (mm_apartN h2 hN3)).trans h2)
  have h3 := (congrFun eMa3 a3).trans (mm_self _ _ _)
  refine mm_putF (k := 3) E hnm hZ cl_Mod w_616 (by decide) rfl rfl hq (by decide) rfl rfl (Nat.le_of_ble_eq_true rfl) d_Mod_init_17 (fun H locs hZ => ?_)
  obtain ⟨Mb3, eMb3⟩ : ∃ z : mm_M, z = mm_up Ma3 q (ob 20 9 [.int 0, .int 0, .ref a2, .ref a3, .null, .null, .null, .null, .null, .null, .null, .null, .null, .null, .null, .null, .int 0, .long 0, .int 0, .null, .null, .null, .null, .null, .int 0, .null]) := ⟨_, rfl⟩
  replace hZ : mm_S g s Mb3 H locs := by rw [eMb3]; exact hZ
  replace hs : ∀ t, (t < 20 ∨ 47 ≤ t) → mm_same t M0 Mb3 := fun t ht => by rw [eMb3]; exact (hs t ht).tr (mm_same.up hq (by omega) _)
  replace h2 := (congrFun eMb3 a2).trans ((mm_ne _ _ (mm_tag h2 hq (by decide))).trans h2)
  replace h3 := (congrFun eMb3 a3).trans ((mm_ne _ _ (mm_tag h3 hq (by decide))).trans h3)
  replace hq := (congrFun eMb3 q).trans (mm_self _ _ _)
  refine lv_aload_n hx hb d_Mod_init_20 rfl (lv_at hl 0 rfl) ?_
  refine lv_bipush (v := 41) hx hb d_Mod_init_21 (by decide) ?_
  refine mm_newi 25 (t0 := 0) (cA := g.2.2 0) (N := 41) E hZ rfl w_110 (by decide) (by decide) (by decide) (Nat.le_of_ble_eq_true rfl) (Nat.le_of_ble_eq_true rfl) d_Mod_init_23 (fun a4 H hB4 hN4 hZ => ?_)
  obtain ⟨Ma4, eMa4⟩ : ∃ z : mm_M, z = mm_up Mb3 a4 (ai 25 (g.2.2 0) 41 (fun _ => 0)) := ⟨_, rfl⟩
  rw [← eMa4] at hZ
  replace hs : ∀ t, (t < 20 ∨ 47 ≤ t) → mm_same t M0 Ma4 := fun t ht => by rw [eMa4]; exact (hs t ht).tr (mm_same.new hN4 _)
  replace hq := (congrFun eMa4 q).trans ((mm_ne _ _ (mm_apartN hq hN4)).trans hq)
  replace h2 := (congrFun eMa4 a2).trans ((mm_ne _ _ (mm_apartN h2 hN4)).trans h2)
  replace h3 := (congrFun eMa4 a3).trans ((mm_ne _ _ (mm_apartN h3 hN4)).trans h3)
  have h4 := (congrFun eMa4 a4).trans (mm_self _ _ _)
  refine mm_putF (k := 4) E hnm hZ cl_Mod w_617 (by decide) rfl rfl hq (by decide) rfl rfl (Nat.le_of_ble_eq_true rfl) d_Mod_init_25 (fun H locs hZ => ?_)
  obtain ⟨Mb4, eMb4⟩ : ∃ z : mm_M, z = mm_up Ma4 q (ob 20 9 [.int 0, .int 0, .ref a2, .ref a3, .ref a4, .null, .null, .null, .null, .null, .null, .null, .null, .null, .null, .null, .int 0, .long 0, .int 0, .null, .null, .null, .null, .null, .int 0, .null]) := ⟨_, rfl⟩
  replace hZ : mm_S g s Mb4 H locs := by rw [eMb4]; exact hZ
  replace hs : ∀ t, (t < 20 ∨ 47 ≤ t) → mm_same t M0 Mb4 := fun t ht => by rw [eMb4]; exact (hs t ht).tr (mm_same.up hq (by omega) _)
  replace h2 := (congrFun eMb4 a2).trans ((mm_ne _ _ (mm_tag h2 hq (by decide))).trans h2)
  replace h3 := (congrFun eMb4 a3).trans ((mm_ne _ _ (mm_tag h3 hq (by decide))).trans h3)
  replace h4 := (congrFun eMb4 a4).trans ((mm_ne _ _ (mm_tag h4 hq (by decide))).trans h4)
  replace hq := (congrFun eMb4 q).trans (mm_self _ _ _)
  refine lv_aload_n hx hb d_Mod_init_28 rfl (lv_at hl 0 rfl) ?_
  refine lv_bipush (v := 41) hx hb d_Mod_init_29 (by decide) ?_
  refine mm_newl 26 (t0 := 1) (cA := g.2.2 1) (N := 41) E hZ rfl w_84 (by decide) (by decide) (by decide) (Nat.le_of_ble_eq_true rfl) (Nat.le_of_ble_eq_true rfl) d_Mod_init_31 (fun a5 H hB5 hN5 hZ => ?_)
  obtain ⟨Ma5, eMa5⟩ : ∃ z : mm_M, z = mm_up Mb4 a5 (al 26 (g.2.2 1) 41 (fun _ => 0)) := ⟨_, rfl⟩
  rw [← eMa5] at hZ
  replace hs : ∀ t, (t < 20 ∨ 47 ≤ t) → mm_same t M0 Ma5 := fun t ht => by rw [eMa5]; exact (hs t ht).tr (mm_same.new hN5 _)
  replace hq := (congrFun eMa5 q).trans ((mm_ne _ _ (mm_apartN hq hN5)).trans hq)
  replace h2 := (congrFun eMa5 a2).trans ((mm_ne _ _ (mm_apartN h2 hN5)).trans h2)
  replace h3 := (congrFun eMa5 a3).trans ((mm_ne _ _ (mm_apartN h3 hN5)).trans h3)
  replace h4 := (congrFun eMa5 a4).trans ((mm_ne _ _ (mm_apartN h4 hN5)).trans h4)
  have h5 := (congrFun eMa5 a5).trans (mm_self _ _ _)
  refine mm_putF (k := 5) E hnm hZ cl_Mod w_618 (by decide) rfl rfl hq (by decide) rfl rfl (Nat.le_of_ble_eq_true rfl) d_Mod_init_33 (fun H locs hZ => ?_)
  obtain ⟨Mb5, eMb5⟩ : ∃ z : mm_M, z = mm_up Ma5 q (ob 20 9 [.int 0, .int 0, .ref a2, .ref a3, .ref a4, .ref a5, .null, .null, .null, .null, .null, .null, .null, .null, .null, .null, .int 0, .long 0, .int 0, .null, .null, .null, .null, .null, .int 0, .null]) := ⟨_, rfl⟩
  replace hZ : mm_S g s Mb5 H locs := by rw [eMb5]; exact hZ
  replace hs : ∀ t, (t < 20 ∨ 47 ≤ t) → mm_same t M0 Mb5 := fun t ht => by rw [eMb5]; exact (hs t ht).tr (mm_same.up hq (by omega) _)
  replace h2 := (congrFun eMb5 a2).trans ((mm_ne _ _ (mm_tag h2 hq (by decide))).trans h2)
  replace h3 := (congrFun eMb5 a3).trans ((mm_ne _ _ (mm_tag h3 hq (by decide))).trans h3)
  replace h4 := (congrFun eMb5 a4).trans ((mm_ne _ _ (mm_tag h4 hq (by decide))).trans h4)
  replace h5 := (congrFun eMb5 a5).trans ((mm_ne _ _ (mm_tag h5 hq (by decide))).trans h5)
  replace hq := (congrFun eMb5 q).trans (mm_self _ _ _)
  refine lv_aload_n hx hb d_Mod_init_36 rfl (lv_at hl 0 rfl) ?_
  refine lv_bipush (v := 41) hx hb d_Mod_init_37 (by decide) ?_
  refine mm_newz 27 (t0 := 2) (cA := g.2.2 2) (N := 41) E hZ rfl w_692 (by decide) (by decide) (by decide) (Nat.le_of_ble_eq_true rfl) (Nat.le_of_ble_eq_true rfl) d_Mod_init_39 (fun a6 H hB6 hN6 hZ => ?_)
  obtain ⟨Ma6, eMa6⟩ : ∃ z : mm_M, z = mm_up Mb5 a6 (ai 27 (g.2.2 2) 41 (fun _ => 0)) := ⟨_, rfl⟩
  rw [← eMa6] at hZ
  replace hs : ∀ t, (t < 20 ∨ 47 ≤ t) → mm_same t M0 Ma6 := fun t ht => by rw [eMa6]; exact (hs t ht).tr (mm_same.new hN6 _)
  replace hq := (congrFun eMa6 q).trans ((mm_ne _ _ (mm_apartN hq hN6)).trans hq)
  replace h2 := (congrFun eMa6 a2).trans ((mm_ne _ _ (mm_apartN h2 hN6)).trans h2)
  replace h3 := (congrFun eMa6 a3).trans ((mm_ne _ _ (mm_apartN h3 hN6)).trans h3)
  replace h4 := (congrFun eMa6 a4).trans ((mm_ne _ _ (mm_apartN h4 hN6)).trans h4)
  replace h5 := (congrFun eMa6 a5).trans ((mm_ne _ _ (mm_apartN h5 hN6)).trans h5)
  have h6 := (congrFun eMa6 a6).trans (mm_self _ _ _)
  refine mm_putF (k := 6) E hnm hZ cl_Mod w_619 (by decide) rfl rfl hq (by decide) rfl rfl (Nat.le_of_ble_eq_true rfl) d_Mod_init_41 (fun H locs hZ => ?_)
  obtain ⟨Mb6, eMb6⟩ : ∃ z : mm_M, z = mm_up Ma6 q (ob 20 9 [.int 0, .int 0, .ref a2, .ref a3, .ref a4, .ref a5, .ref a6, .null, .null, .null, .null, .null, .null, .null, .null, .null, .int 0, .long 0, .int 0, .null, .null, .null, .null, .null, .int 0, .null]) := ⟨_, rfl⟩
  replace hZ : mm_S g s Mb6 H locs := by rw [eMb6]; exact hZ
  replace hs : ∀ t, (t < 20 ∨ 47 ≤ t) → mm_same t M0 Mb6 := fun t ht => by rw [eMb6]; exact (hs t ht).tr (mm_same.up hq (by omega) _)
  replace h2 := (congrFun eMb6 a2).trans ((mm_ne _ _ (mm_tag h2 hq (by decide))).trans h2)
  replace h3 := (congrFun eMb6 a3).trans ((mm_ne _ _ (mm_tag h3 hq (by decide))).trans h3)
  replace h4 := (congrFun eMb6 a4).trans ((mm_ne _ _ (mm_tag h4 hq (by decide))).trans h4)
  replace h5 := (congrFun eMb6 a5).trans ((mm_ne _ _ (mm_tag h5 hq (by decide))).trans h5)
  replace h6 := (congrFun eMb6 a6).trans ((mm_ne _ _ (mm_tag h6 hq (by decide))).trans h6)
  replace hq := (congrFun eMb6 q).trans (mm_self _ _ _)
  refine lv_aload_n hx hb d_Mod_init_44 rfl (lv_at hl 0 rfl) ?_
  refine lv_sipush (v := 200) hx hb d_Mod_init_45 (by decide) ?_
  refine mm_newi 28 (t0 := 0) (cA := g.2.2 0) (N := 200) E hZ rfl w_110 (by decide) (by decide) (by decide) (Nat.le_of_ble_eq_true rfl) (Nat.le_of_ble_eq_true rfl) d_Mod_init_48 (fun a7 H hB7 hN7 hZ => ?_)
  obtain ⟨Ma7, eMa7⟩ : ∃ z : mm_M, z = mm_up Mb6 a7 (ai 28 (g.2.2 0) 200 (fun _ => 0)) := ⟨_, rfl⟩
  rw [← eMa7] at hZ
  replace hs : ∀ t, (t < 20 ∨ 47 ≤ t) → mm_same t M0 Ma7 := fun t ht => by rw [eMa7]; exact (hs t ht).tr (mm_same.new hN7 _)
  replace hq := (congrFun eMa7 q).trans ((mm_ne _ _ (mm_apartN hq hN7)).trans hq)
  replace h2 := (congrFun eMa7 a2).trans ((mm_ne _ _ (mm_apartN h2 hN7)).trans h2)
  replace h3 := (congrFun eMa7 a3).trans ((mm_ne _ _ (mm_apartN h3 hN7)).trans h3)
  replace h4 := (congrFun eMa7 a4).trans ((mm_ne _ _ (mm_apartN h4 hN7)).trans h4)
  replace h5 := (congrFun eMa7 a5).trans ((mm_ne _ _ (mm_apartN h5 hN7)).trans h5)
  replace h6 := (congrFun eMa7 a6).trans ((mm_ne _ _ (mm_apartN h6 hN7)).trans h6)
  have h7 := (congrFun eMa7 a7).trans (mm_self _ _ _)
  refine mm_putF (k := 7) E hnm hZ cl_Mod w_620 (by decide) rfl rfl hq (by decide) rfl rfl (Nat.le_of_ble_eq_true rfl) d_Mod_init_50 (fun H locs hZ => ?_)
  obtain ⟨Mb7, eMb7⟩ : ∃ z : mm_M, z = mm_up Ma7 q (ob 20 9 [.int 0, .int 0, .ref a2, .ref a3, .ref a4, .ref a5, .ref a6, .ref a7, .null, .null, .null, .null, .null, .null, .null, .null, .int 0, .long 0, .int 0, .null, .null, .null, .null, .null, .int 0, .null]) := ⟨_, rfl⟩
  replace hZ : mm_S g s Mb7 H locs := by rw [eMb7]; exact hZ
  replace hs : ∀ t, (t < 20 ∨ 47 ≤ t) → mm_same t M0 Mb7 := fun t ht => by rw [eMb7]; exact (hs t ht).tr (mm_same.up hq (by omega) _)
  replace h2 := (congrFun eMb7 a2).trans ((mm_ne _ _ (mm_tag h2 hq (by decide))).trans h2)
  replace h3 := (congrFun eMb7 a3).trans ((mm_ne _ _ (mm_tag h3 hq (by decide))).trans h3)
  replace h4 := (congrFun eMb7 a4).trans ((mm_ne _ _ (mm_tag h4 hq (by decide))).trans h4)
  replace h5 := (congrFun eMb7 a5).trans ((mm_ne _ _ (mm_tag h5 hq (by decide))).trans h5)
  replace h6 := (congrFun eMb7 a6).trans ((mm_ne _ _ (mm_tag h6 hq (by decide))).trans h6)
  replace h7 := (congrFun eMb7 a7).trans ((mm_ne _ _ (mm_tag h7 hq (by decide))).trans h7)
  replace hq := (congrFun eMb7 q).trans (mm_self _ _ _)
  refine lv_aload_n hx hb d_Mod_init_53 rfl (lv_at hl 0 rfl) ?_
  refine lv_sipush (v := 200) hx hb d_Mod_init_54 (by decide) ?_
  refine mm_newl 29 (t0 := 1) (cA := g.2.2 1) (N := 200) E hZ rfl w_84 (by decide) (by decide) (by decide) (Nat.le_of_ble_eq_true rfl) (Nat.le_of_ble_eq_true rfl) d_Mod_init_57 (fun a8 H hB8 hN8 hZ => ?_)
  obtain ⟨Ma8, eMa8⟩ : ∃ z : mm_M, z = mm_up Mb7 a8 (al 29 (g.2.2 1) 200 (fun _ => 0)) := ⟨_, rfl⟩
  rw [← eMa8] at hZ
  replace hs : ∀ t, (t < 20 ∨ 47 ≤ t) → mm_same t M0 Ma8 := fun t ht => by rw [eMa8]; exact (hs t ht).tr (mm_same.new hN8 _)
  replace hq := (congrFun eMa8 q).trans ((mm_ne _ _ (mm_apartN hq hN8)).trans hq)
  replace h2 := (congrFun eMa8 a2).trans ((mm_ne _ _ (mm_apartN h2 hN8)).trans h2)
  replace h3 := (congrFun eMa8 a3).trans ((mm_ne _ _ (mm_apartN h3 hN8)).trans h3)
  replace h4 := (congrFun eMa8 a4).trans ((mm_ne _ _ (mm_apartN h4 hN8)).trans h4)
  replace h5 := (congrFun eMa8 a5).trans ((mm_ne _ _ (mm_apartN h5 hN8)).trans h5)
  replace h6 := (congrFun eMa8 a6).trans ((mm_ne _ _ (mm_apartN h6 hN8)).trans h6)
  replace h7 := (congrFun eMa8 a7).trans ((mm_ne _ _ (mm_apartN h7 hN8)).trans h7)
  have h8 := (congrFun eMa8 a8).trans (mm_self _ _ _)
  refine mm_putF (k := 8) E hnm hZ cl_Mod w_621 (by decide) rfl rfl hq (by decide) rfl rfl (Nat.le_of_ble_eq_true rfl) d_Mod_init_59 (fun H locs hZ => ?_)
  obtain ⟨Mb8, eMb8⟩ : ∃ z : mm_M, z = mm_up Ma8 q (ob 20 9 [.int 0, .int 0, .ref a2, .ref a3, .ref a4, .ref a5, .ref a6, .ref a7, .ref a8, .null, .null, .null, .null, .null, .null, .null, .int 0, .long 0, .int 0, .null, .null, .null, .null, .null, .int 0, .null]) := ⟨_, rfl⟩
  replace hZ : mm_S g s Mb8 H locs := by rw [eMb8]; exact hZ
  replace hs : ∀ t, (t < 20 ∨ 47 ≤ t) → mm_same t M0 Mb8 := fun t ht => by rw [eMb8]; exact (hs t ht).tr (mm_same.up hq (by omega) _)
  replace h2 := (congrFun eMb8 a2).trans ((mm_ne _ _ (mm_tag h2 hq (by decide))).trans h2)
  replace h3 := (congrFun eMb8 a3).trans ((mm_ne _ _ (mm_tag h3 hq (by decide))).trans h3)
  replace h4 := (congrFun eMb8 a4).trans ((mm_ne _ _ (mm_tag h4 hq (by decide))).trans h4)
  replace h5 := (congrFun eMb8 a5).trans ((mm_ne _ _ (mm_tag h5 hq (by decide))).trans h5)
  replace h6 := (congrFun eMb8 a6).trans ((mm_ne _ _ (mm_tag h6 hq (by decide))).trans h6)
  replace h7 := (congrFun eMb8 a7).trans ((mm_ne _ _ (mm_tag h7 hq (by decide))).trans h7)
  replace h8 := (congrFun eMb8 a8).trans ((mm_ne _ _ (mm_tag h8 hq (by decide))).trans h8)
  replace hq := (congrFun eMb8 q).trans (mm_self _ _ _)
  refine lv_aload_n hx hb d_Mod_init_62 rfl (lv_at hl 0 rfl) ?_
  refine lv_sipush (v := 200) hx hb d_Mod_init_63 (by decide) ?_
  refine mm_newl 30 (t0 := 1) (cA := g.2.2 1) (N := 200) E hZ rfl w_84 (by decide) (by decide) (by decide) (Nat.le_of_ble_eq_true rfl) (Nat.le_of_ble_eq_true rfl) d_Mod_init_66 (fun a9 H hB9 hN9 hZ => ?_)
  obtain ⟨Ma9, eMa9⟩ : ∃ z : mm_M, z = mm_up Mb8 a9 (al 30 (g.2.2 1) 200 (fun _ => 0)) := ⟨_, rfl⟩
  rw [← eMa9] at hZ
  replace hs : ∀ t, (t < 20 ∨ 47 ≤ t) → mm_same t M0 Ma9 := fun t ht => by rw [eMa9]; exact (hs t ht).tr (mm_same.new hN9 _)
  replace hq := (congrFun eMa9 q).trans ((mm_ne _ _ (mm_apartN hq hN9)).trans hq)
  replace h2 := (congrFun eMa9 a2).trans ((mm_ne _ _ (mm_apartN h2 hN9)).trans h2)
  replace h3 := (congrFun eMa9 a3).trans ((mm_ne _ _ (mm_apartN h3 hN9)).trans h3)
  replace h4 := (congrFun eMa9 a4).trans ((mm_ne _ _ (mm_apartN h4 hN9)).trans h4)
  replace h5 := (congrFun eMa9 a5).trans ((mm_ne _ _ (mm_apartN h5 hN9)).trans h5)
  replace h6 := (congrFun eMa9 a6).trans ((mm_ne _ _ (mm_apartN h6 hN9)).trans h6)
  replace h7 := (congrFun eMa9 a7).trans ((mm_ne _ _ (mm_apartN h7 hN9)).trans h7)
  replace h8 := (congrFun eMa9 a8).trans ((mm_ne _ _ (mm_apartN h8 hN9)).trans h8)
  have h9 := (congrFun eMa9 a9).trans (mm_self _ _ _)
  refine mm_putF (k := 9) E hnm hZ cl_Mod w_622 (by decide) rfl rfl hq (by decide) rfl rfl (Nat.le_of_ble_eq_true rfl) d_Mod_init_68 (fun H locs hZ => ?_)
  obtain ⟨Mb9, eMb9⟩ : ∃ z : mm_M, z = mm_up Ma9 q (ob 20 9 [.int 0, .int 0, .ref a2, .ref a3, .ref a4, .ref a5, .ref a6, .ref a7, .ref a8, .ref a9, .null, .null, .null, .null, .null, .null, .int 0, .long 0, .int 0, .null, .null, .null, .null, .null, .int 0, .null]) := ⟨_, rfl⟩
  replace hZ : mm_S g s Mb9 H locs := by rw [eMb9]; exact hZ
  replace hs : ∀ t, (t < 20 ∨ 47 ≤ t) → mm_same t M0 Mb9 := fun t ht => by rw [eMb9]; exact (hs t ht).tr (mm_same.up hq (by omega) _)
  replace h2 := (congrFun eMb9 a2).trans ((mm_ne _ _ (mm_tag h2 hq (by decide))).trans h2)
  replace h3 := (congrFun eMb9 a3).trans ((mm_ne _ _ (mm_tag h3 hq (by decide))).trans h3)
  replace h4 := (congrFun eMb9 a4).trans ((mm_ne _ _ (mm_tag h4 hq (by decide))).trans h4)
  replace h5 := (congrFun eMb9 a5).trans ((mm_ne _ _ (mm_tag h5 hq (by decide))).trans h5)
  replace h6 := (congrFun eMb9 a6).trans ((mm_ne _ _ (mm_tag h6 hq (by decide))).trans h6)
  replace h7 := (congrFun eMb9 a7).trans ((mm_ne _ _ (mm_tag h7 hq (by decide))).trans h7)
  replace h8 := (congrFun eMb9 a8).trans ((mm_ne _ _ (mm_tag h8 hq (by decide))).trans h8)
  replace h9 := (congrFun eMb9 a9).trans ((mm_ne _ _ (mm_tag h9 hq (by decide))).trans h9)
  replace hq := (congrFun eMb9 q).trans (mm_self _ _ _)
  refine lv_aload_n hx hb d_Mod_init_71 rfl (lv_at hl 0 rfl) ?_
  refine lv_sipush (v := 200) hx hb d_Mod_init_72 (by decide) ?_
  refine mm_newi 31 (t0 := 0) (cA := g.2.2 0) (N := 200) E hZ rfl w_110 (by decide) (by decide) (by decide) (Nat.le_of_ble_eq_true rfl) (Nat.le_of_ble_eq_true rfl) d_Mod_init_75 (fun a10 H hB10 hN10 hZ => ?_)
  obtain ⟨Ma10, eMa10⟩ : ∃ z : mm_M, z = mm_up Mb9 a10 (ai 31 (g.2.2 0) 200 (fun _ => 0)) := ⟨_, rfl⟩
  rw [← eMa10] at hZ
  replace hs : ∀ t, (t < 20 ∨ 47 ≤ t) → mm_same t M0 Ma10 := fun t ht => by rw [eMa10]; exact (hs t ht).tr (mm_same.new hN10 _)
  replace hq := (congrFun eMa10 q).trans ((mm_ne _ _ (mm_apartN hq hN10)).trans hq)
  replace h2 := (congrFun eMa10 a2).trans ((mm_ne _ _ (mm_apartN h2 hN10)).trans h2)
  replace h3 := (congrFun eMa10 a3).trans ((mm_ne _ _ (mm_apartN h3 hN10)).trans h3)
  replace h4 := (congrFun eMa10 a4).trans ((mm_ne _ _ (mm_apartN h4 hN10)).trans h4)
  replace h5 := (congrFun eMa10 a5).trans ((mm_ne _ _ (mm_apartN h5 hN10)).trans h5)
  replace h6 := (congrFun eMa10 a6).trans ((mm_ne _ _ (mm_apartN h6 hN10)).trans h6)
  replace h7 := (congrFun eMa10 a7).trans ((mm_ne _ _ (mm_apartN h7 hN10)).trans h7)
  replace h8 := (congrFun eMa10 a8).trans ((mm_ne _ _ (mm_apartN h8 hN10)).trans h8)
  replace h9 := (congrFun eMa10 a9).trans ((mm_ne _ _ (mm_apartN h9 hN10)).trans h9)
  have h10 := (congrFun eMa10 a10).trans (mm_self _ _ _)
  refine mm_putF (k := 10) E hnm hZ cl_Mod w_623 (by decide) rfl rfl hq (by decide) rfl rfl (Nat.le_of_ble_eq_true rfl) d_Mod_init_77 (fun H locs hZ => ?_)
  obtain ⟨Mb10, eMb10⟩ : ∃ z : mm_M, z = mm_up Ma10 q (ob 20 9 [.int 0, .int 0, .ref a2, .ref a3, .ref a4, .ref a5, .ref a6, .ref a7, .ref a8, .ref a9, .ref a10, .null, .null, .null, .null, .null, .int 0, .long 0, .int 0, .null, .null, .null, .null, .null, .int 0, .null]) := ⟨_, rfl⟩
  replace hZ : mm_S g s Mb10 H locs := by rw [eMb10]; exact hZ
  replace hs : ∀ t, (t < 20 ∨ 47 ≤ t) → mm_same t M0 Mb10 := fun t ht => by rw [eMb10]; exact (hs t ht).tr (mm_same.up hq (by omega) _)
  replace h2 := (congrFun eMb10 a2).trans ((mm_ne _ _ (mm_tag h2 hq (by decide))).trans h2)
  replace h3 := (congrFun eMb10 a3).trans ((mm_ne _ _ (mm_tag h3 hq (by decide))).trans h3)
  replace h4 := (congrFun eMb10 a4).trans ((mm_ne _ _ (mm_tag h4 hq (by decide))).trans h4)
  replace h5 := (congrFun eMb10 a5).trans ((mm_ne _ _ (mm_tag h5 hq (by decide))).trans h5)
  replace h6 := (congrFun eMb10 a6).trans ((mm_ne _ _ (mm_tag h6 hq (by decide))).trans h6)
  replace h7 := (congrFun eMb10 a7).trans ((mm_ne _ _ (mm_tag h7 hq (by decide))).trans h7)
  replace h8 := (congrFun eMb10 a8).trans ((mm_ne _ _ (mm_tag h8 hq (by decide))).trans h8)
  replace h9 := (congrFun eMb10 a9).trans ((mm_ne _ _ (mm_tag h9 hq (by decide))).trans h9)
  replace h10 := (congrFun eMb10 a10).trans ((mm_ne _ _ (mm_tag h10 hq (by decide))).trans h10)
  replace hq := (congrFun eMb10 q).trans (mm_self _ _ _)
  refine lv_aload_n hx hb d_Mod_init_80 rfl (lv_at hl 0 rfl) ?_
  refine lv_sipush (v := 200) hx hb d_Mod_init_81 (by decide) ?_
  refine mm_newi 32 (t0 := 0) (cA := g.2.2 0) (N := 200) E hZ rfl w_110 (by decide) (by decide) (by decide) (Nat.le_of_ble_eq_true rfl) (Nat.le_of_ble_eq_true rfl) d_Mod_init_84 (fun a11 H hB11 hN11 hZ => ?_)
  obtain ⟨Ma11, eMa11⟩ : ∃ z : mm_M, z = mm_up Mb10 a11 (ai 32 (g.2.2 0) 200 (fun _ => 0)) := ⟨_, rfl⟩
  rw [← eMa11] at hZ
  replace hs : ∀ t, (t < 20 ∨ 47 ≤ t) → mm_same t M0 Ma11 := fun t ht => by rw [eMa11]; exact (hs t ht).tr (mm_same.new hN11 _)
  replace hq := (congrFun eMa11 q).trans ((mm_ne _ _ (mm_apartN hq hN11)).trans hq)
  replace h2 := (congrFun eMa11 a2).trans ((mm_ne _ _ (mm_apartN h2 hN11)).trans h2)
  replace h3 := (congrFun eMa11 a3).trans ((mm_ne _ _ (mm_apartN h3 hN11)).trans h3)
  replace h4 := (congrFun eMa11 a4).trans ((mm_ne _ _ (mm_apartN h4 hN11)).trans h4)
  replace h5 := (congrFun eMa11 a5).trans ((mm_ne _ _ (mm_apartN h5 hN11)).trans h5)
  replace h6 := (congrFun eMa11 a6).trans ((mm_ne _ _ (mm_apartN h6 hN11)).trans h6)
  replace h7 := (congrFun eMa11 a7).trans ((mm_ne _ _ (mm_apartN h7 hN11)).trans h7)
  replace h8 := (congrFun eMa11 a8).trans ((mm_ne _ _ (mm_apartN h8 hN11)).trans h8)
  replace h9 := (congrFun eMa11 a9).trans ((mm_ne _ _ (mm_apartN h9 hN11)).trans h9)
  replace h10 := (congrFun eMa11 a10).trans ((mm_ne _ _ (mm_apartN h10 hN11)).trans h10)
  have h11 := (congrFun eMa11 a11).trans (mm_self _ _ _)
  refine mm_putF (k := 11) E hnm hZ cl_Mod w_624 (by decide) rfl rfl hq (by decide) rfl rfl (Nat.le_of_ble_eq_true rfl) d_Mod_init_86 (fun H locs hZ => ?_)
  obtain ⟨Mb11, eMb11⟩ : ∃ z : mm_M, z = mm_up Ma11 q (ob 20 9 [.int 0, .int 0, .ref a2, .ref a3, .ref a4, .ref a5, .ref a6, .ref a7, .ref a8, .ref a9, .ref a10, .ref a11, .null, .null, .null, .null, .int 0, .long 0, .int 0, .null, .null, .null, .null, .null, .int 0, .null]) := ⟨_, rfl⟩
  replace hZ : mm_S g s Mb11 H locs := by rw [eMb11]; exact hZ
  replace hs : ∀ t, (t < 20 ∨ 47 ≤ t) → mm_same t M0 Mb11 := fun t ht => by rw [eMb11]; exact (hs t ht).tr (mm_same.up hq (by omega) _)
  replace h2 := (congrFun eMb11 a2).trans ((mm_ne _ _ (mm_tag h2 hq (by decide))).trans h2)
  replace h3 := (congrFun eMb11 a3).trans ((mm_ne _ _ (mm_tag h3 hq (by decide))).trans h3)
  replace h4 := (congrFun eMb11 a4).trans ((mm_ne _ _ (mm_tag h4 hq (by decide))).trans h4)
  replace h5 := (congrFun eMb11 a5).trans ((mm_ne _ _ (mm_tag h5 hq (by decide))).trans h5)
  replace h6 := (congrFun eMb11 a6).trans ((mm_ne _ _ (mm_tag h6 hq (by decide))).trans h6)
  replace h7 := (congrFun eMb11 a7).trans ((mm_ne _ _ (mm_tag h7 hq (by decide))).trans h7)
  replace h8 := (congrFun eMb11 a8).trans ((mm_ne _ _ (mm_tag h8 hq (by decide))).trans h8)
  replace h9 := (congrFun eMb11 a9).trans ((mm_ne _ _ (mm_tag h9 hq (by decide))).trans h9)
  replace h10 := (congrFun eMb11 a10).trans ((mm_ne _ _ (mm_tag h10 hq (by decide))).trans h10)
  replace h11 := (congrFun eMb11 a11).trans ((mm_ne _ _ (mm_tag h11 hq (by decide))).trans h11)
  replace hq := (congrFun eMb11 q).trans (mm_self _ _ _)
  refine lv_aload_n hx hb d_Mod_init_89 rfl (lv_at hl 0 rfl) ?_
  refine lv_sipush (v := 200) hx hb d_Mod_init_90 (by decide) ?_
  refine mm_newl 33 (t0 := 1) (cA := g.2.2 1) (N := 200) E hZ rfl w_84 (by decide) (by decide) (by decide) (Nat.le_of_ble_eq_true rfl) (Nat.le_of_ble_eq_true rfl) d_Mod_init_93 (fun a12 H hB12 hN12 hZ => ?_)
  obtain ⟨Ma12, eMa12⟩ : ∃ z : mm_M, z = mm_up Mb11 a12 (al 33 (g.2.2 1) 200 (fun _ => 0)) := ⟨_, rfl⟩
  rw [← eMa12] at hZ
  replace hs : ∀ t, (t < 20 ∨ 47 ≤ t) → mm_same t M0 Ma12 := fun t ht => by rw [eMa12]; exact (hs t ht).tr (mm_same.new hN12 _)
  replace hq := (congrFun eMa12 q).trans ((mm_ne _ _ (mm_apartN hq hN12)).trans hq)
  replace h2 := (congrFun eMa12 a2).trans ((mm_ne _ _ (mm_apartN h2 hN12)).trans h2)
  replace h3 := (congrFun eMa12 a3).trans ((mm_ne _ _ (mm_apartN h3 hN12)).trans h3)
  replace h4 := (congrFun eMa12 a4).trans ((mm_ne _ _ (mm_apartN h4 hN12)).trans h4)
  replace h5 := (congrFun eMa12 a5).trans ((mm_ne _ _ (mm_apartN h5 hN12)).trans h5)
  replace h6 := (congrFun eMa12 a6).trans ((mm_ne _ _ (mm_apartN h6 hN12)).trans h6)
  replace h7 := (congrFun eMa12 a7).trans ((mm_ne _ _ (mm_apartN h7 hN12)).trans h7)
  replace h8 := (congrFun eMa12 a8).trans ((mm_ne _ _ (mm_apartN h8 hN12)).trans h8)
  replace h9 := (congrFun eMa12 a9).trans ((mm_ne _ _ (mm_apartN h9 hN12)).trans h9)
  replace h10 := (congrFun eMa12 a10).trans ((mm_ne _ _ (mm_apartN h10 hN12)).trans h10)
  replace h11 := (congrFun eMa12 a11).trans ((mm_ne _ _ (mm_apartN h11 hN12)).trans h11)
  have h12 := (congrFun eMa12 a12).trans (mm_self _ _ _)
  refine mm_putF (k := 12) E hnm hZ cl_Mod w_625 (by decide) rfl rfl hq (by decide) rfl rfl (Nat.le_of_ble_eq_true rfl) d_Mod_init_95 (fun H locs hZ => ?_)
  obtain ⟨Mb12, eMb12⟩ : ∃ z : mm_M, z = mm_up Ma12 q (ob 20 9 [.int 0, .int 0, .ref a2, .ref a3, .ref a4, .ref a5, .ref a6, .ref a7, .ref a8, .ref a9, .ref a10, .ref a11, .ref a12, .null, .null, .null, .int 0, .long 0, .int 0, .null, .null, .null, .null, .null, .int 0, .null]) := ⟨_, rfl⟩
  replace hZ : mm_S g s Mb12 H locs := by rw [eMb12]; exact hZ
  replace hs : ∀ t, (t < 20 ∨ 47 ≤ t) → mm_same t M0 Mb12 := fun t ht => by rw [eMb12]; exact (hs t ht).tr (mm_same.up hq (by omega) _)
  replace h2 := (congrFun eMb12 a2).trans ((mm_ne _ _ (mm_tag h2 hq (by decide))).trans h2)
  replace h3 := (congrFun eMb12 a3).trans ((mm_ne _ _ (mm_tag h3 hq (by decide))).trans h3)
  replace h4 := (congrFun eMb12 a4).trans ((mm_ne _ _ (mm_tag h4 hq (by decide))).trans h4)
  replace h5 := (congrFun eMb12 a5).trans ((mm_ne _ _ (mm_tag h5 hq (by decide))).trans h5)
  replace h6 := (congrFun eMb12 a6).trans ((mm_ne _ _ (mm_tag h6 hq (by decide))).trans h6)
  replace h7 := (congrFun eMb12 a7).trans ((mm_ne _ _ (mm_tag h7 hq (by decide))).trans h7)
  replace h8 := (congrFun eMb12 a8).trans ((mm_ne _ _ (mm_tag h8 hq (by decide))).trans h8)
  replace h9 := (congrFun eMb12 a9).trans ((mm_ne _ _ (mm_tag h9 hq (by decide))).trans h9)
  replace h10 := (congrFun eMb12 a10).trans ((mm_ne _ _ (mm_tag h10 hq (by decide))).trans h10)
  replace h11 := (congrFun eMb12 a11).trans ((mm_ne _ _ (mm_tag h11 hq (by decide))).trans h11)
  replace h12 := (congrFun eMb12 a12).trans ((mm_ne _ _ (mm_tag h12 hq (by decide))).trans h12)
  replace hq := (congrFun eMb12 q).trans (mm_self _ _ _)
  refine lv_aload_n hx hb d_Mod_init_98 rfl (lv_at hl 0 rfl) ?_
  refine lv_sipush (v := 200) hx hb d_Mod_init_99 (by decide) ?_
  refine mm_newz 34 (t0 := 2) (cA := g.2.2 2) (N := 200) E hZ rfl w_692 (by decide) (by decide) (by decide) (Nat.le_of_ble_eq_true rfl) (Nat.le_of_ble_eq_true rfl) d_Mod_init_102 (fun a13 H hB13 hN13 hZ => ?_)
  obtain ⟨Ma13, eMa13⟩ : ∃ z : mm_M, z = mm_up Mb12 a13 (ai 34 (g.2.2 2) 200 (fun _ => 0)) := ⟨_, rfl⟩
  rw [← eMa13] at hZ
  replace hs : ∀ t, (t < 20 ∨ 47 ≤ t) → mm_same t M0 Ma13 := fun t ht => by rw [eMa13]; exact (hs t ht).tr (mm_same.new hN13 _)
  replace hq := (congrFun eMa13 q).trans ((mm_ne _ _ (mm_apartN hq hN13)).trans hq)
  replace h2 := (congrFun eMa13 a2).trans ((mm_ne _ _ (mm_apartN h2 hN13)).trans h2)
  replace h3 := (congrFun eMa13 a3).trans ((mm_ne _ _ (mm_apartN h3 hN13)).trans h3)
  replace h4 := (congrFun eMa13 a4).trans ((mm_ne _ _ (mm_apartN h4 hN13)).trans h4)
  replace h5 := (congrFun eMa13 a5).trans ((mm_ne _ _ (mm_apartN h5 hN13)).trans h5)
  replace h6 := (congrFun eMa13 a6).trans ((mm_ne _ _ (mm_apartN h6 hN13)).trans h6)
  replace h7 := (congrFun eMa13 a7).trans ((mm_ne _ _ (mm_apartN h7 hN13)).trans h7)
  replace h8 := (congrFun eMa13 a8).trans ((mm_ne _ _ (mm_apartN h8 hN13)).trans h8)
  replace h9 := (congrFun eMa13 a9).trans ((mm_ne _ _ (mm_apartN h9 hN13)).trans h9)
  replace h10 := (congrFun eMa13 a10).trans ((mm_ne _ _ (mm_apartN h10 hN13)).trans h10)
  replace h11 := (congrFun eMa13 a11).trans ((mm_ne _ _ (mm_apartN h11 hN13)).trans h11)
  replace h12 := (congrFun eMa13 a12).trans ((mm_ne _ _ (mm_apartN h12 hN13)).trans h12)
  have h13 := (congrFun eMa13 a13).trans (mm_self _ _ _)
  refine mm_putF (k := 13) E hnm hZ cl_Mod w_626 (by decide) rfl rfl hq (by decide) rfl rfl (Nat.le_of_ble_eq_true rfl) d_Mod_init_104 (fun H locs hZ => ?_)
  obtain ⟨Mb13, eMb13⟩ : ∃ z : mm_M, z = mm_up Ma13 q (ob 20 9 [.int 0, .int 0, .ref a2, .ref a3, .ref a4, .ref a5, .ref a6, .ref a7, .ref a8, .ref a9, .ref a10, .ref a11, .ref a12, .ref a13, .null, .null, .int 0, .long 0, .int 0, .null, .null, .null, .null, .null, .int 0, .null]) := ⟨_, rfl⟩
  replace hZ : mm_S g s Mb13 H locs := by rw [eMb13]; exact hZ
  replace hs : ∀ t, (t < 20 ∨ 47 ≤ t) → mm_same t M0 Mb13 := fun t ht => by rw [eMb13]; exact (hs t ht).tr (mm_same.up hq (by omega) _)
  replace h2 := (congrFun eMb13 a2).trans ((mm_ne _ _ (mm_tag h2 hq (by decide))).trans h2)
  replace h3 := (congrFun eMb13 a3).trans ((mm_ne _ _ (mm_tag h3 hq (by decide))).trans h3)
  replace h4 := (congrFun eMb13 a4).trans ((mm_ne _ _ (mm_tag h4 hq (by decide))).trans h4)
  replace h5 := (congrFun eMb13 a5).trans ((mm_ne _ _ (mm_tag h5 hq (by decide))).trans h5)
  replace h6 := (congrFun eMb13 a6).trans ((mm_ne _ _ (mm_tag h6 hq (by decide))).trans h6)
  replace h7 := (congrFun eMb13 a7).trans ((mm_ne _ _ (mm_tag h7 hq (by decide))).trans h7)
  replace h8 := (congrFun eMb13 a8).trans ((mm_ne _ _ (mm_tag h8 hq (by decide))).trans h8)
  replace h9 := (congrFun eMb13 a9).trans ((mm_ne _ _ (mm_tag h9 hq (by decide))).trans h9)
  replace h10 := (congrFun eMb13 a10).trans ((mm_ne _ _ (mm_tag h10 hq (by decide))).trans h10)
  replace h11 := (congrFun eMb13 a11).trans ((mm_ne _ _ (mm_tag h11 hq (by decide))).trans h11)
  replace h12 := (congrFun eMb13 a12).trans ((mm_ne _ _ (mm_tag h12 hq (by decide))).trans h12)
  replace h13 := (congrFun eMb13 a13).trans ((mm_ne _ _ (mm_tag h13 hq (by decide))).trans h13)
  replace hq := (congrFun eMb13 q).trans (mm_self _ _ _)
  refine lv_aload_n hx hb d_Mod_init_107 rfl (lv_at hl 0 rfl) ?_
  refine lv_sipush (v := 200) hx hb d_Mod_init_108 (by decide) ?_
  refine mm_newz 35 (t0 := 2) (cA := g.2.2 2) (N := 200) E hZ rfl w_692 (by decide) (by decide) (by decide) (Nat.le_of_ble_eq_true rfl) (Nat.le_of_ble_eq_true rfl) d_Mod_init_111 (fun a14 H hB14 hN14 hZ => ?_)
  obtain ⟨Ma14, eMa14⟩ : ∃ z : mm_M, z = mm_up Mb13 a14 (ai 35 (g.2.2 2) 200 (fun _ => 0)) := ⟨_, rfl⟩
  rw [← eMa14] at hZ
  replace hs : ∀ t, (t < 20 ∨ 47 ≤ t) → mm_same t M0 Ma14 := fun t ht => by rw [eMa14]; exact (hs t ht).tr (mm_same.new hN14 _)
  replace hq := (congrFun eMa14 q).trans ((mm_ne _ _ (mm_apartN hq hN14)).trans hq)
  replace h2 := (congrFun eMa14 a2).trans ((mm_ne _ _ (mm_apartN h2 hN14)).trans h2)
  replace h3 := (congrFun eMa14 a3).trans ((mm_ne _ _ (mm_apartN h3 hN14)).trans h3)
  replace h4 := (congrFun eMa14 a4).trans ((mm_ne _ _ (mm_apartN h4 hN14)).trans h4)
  replace h5 := (congrFun eMa14 a5).trans ((mm_ne _ _ (mm_apartN h5 hN14)).trans h5)
  replace h6 := (congrFun eMa14 a6).trans ((mm_ne _ _ (mm_apartN h6 hN14)).trans h6)
  replace h7 := (congrFun eMa14 a7).trans ((mm_ne _ _ (mm_apartN h7 hN14)).trans h7)
  replace h8 := (congrFun eMa14 a8).trans ((mm_ne _ _ (mm_apartN h8 hN14)).trans h8)
  replace h9 := (congrFun eMa14 a9).trans ((mm_ne _ _ (mm_apartN h9 hN14)).trans h9)
  replace h10 := (congrFun eMa14 a10).trans ((mm_ne _ _ (mm_apartN h10 hN14)).trans h10)
  replace h11 := (congrFun eMa14 a11).trans ((mm_ne _ _ (mm_apartN h11 hN14)).trans h11)
  replace h12 := (congrFun eMa14 a12).trans ((mm_ne _ _ (mm_apartN h12 hN14)).trans h12)
  replace h13 := (congrFun eMa14 a13).trans ((mm_ne _ _ (mm_apartN h13 hN14)).trans h13)
  have h14 := (congrFun eMa14 a14).trans (mm_self _ _ _)
  refine mm_putF (k := 14) E hnm hZ cl_Mod w_627 (by decide) rfl rfl hq (by decide) rfl rfl (Nat.le_of_ble_eq_true rfl) d_Mod_init_113 (fun H locs hZ => ?_)
  obtain ⟨Mb14, eMb14⟩ : ∃ z : mm_M, z = mm_up Ma14 q (ob 20 9 [.int 0, .int 0, .ref a2, .ref a3, .ref a4, .ref a5, .ref a6, .ref a7, .ref a8, .ref a9, .ref a10, .ref a11, .ref a12, .ref a13, .ref a14, .null, .int 0, .long 0, .int 0, .null, .null, .null, .null, .null, .int 0, .null]) := ⟨_, rfl⟩
  replace hZ : mm_S g s Mb14 H locs := by rw [eMb14]; exact hZ
  replace hs : ∀ t, (t < 20 ∨ 47 ≤ t) → mm_same t M0 Mb14 := fun t ht => by rw [eMb14]; exact (hs t ht).tr (mm_same.up hq (by omega) _)
  replace h2 := (congrFun eMb14 a2).trans ((mm_ne _ _ (mm_tag h2 hq (by decide))).trans h2)
  replace h3 := (congrFun eMb14 a3).trans ((mm_ne _ _ (mm_tag h3 hq (by decide))).trans h3)
  replace h4 := (congrFun eMb14 a4).trans ((mm_ne _ _ (mm_tag h4 hq (by decide))).trans h4)
  replace h5 := (congrFun eMb14 a5).trans ((mm_ne _ _ (mm_tag h5 hq (by decide))).trans h5)
  replace h6 := (congrFun eMb14 a6).trans ((mm_ne _ _ (mm_tag h6 hq (by decide))).trans h6)
  replace h7 := (congrFun eMb14 a7).trans ((mm_ne _ _ (mm_tag h7 hq (by decide))).trans h7)
  replace h8 := (congrFun eMb14 a8).trans ((mm_ne _ _ (mm_tag h8 hq (by decide))).trans h8)
  replace h9 := (congrFun eMb14 a9).trans ((mm_ne _ _ (mm_tag h9 hq (by decide))).trans h9)
  replace h10 := (congrFun eMb14 a10).trans ((mm_ne _ _ (mm_tag h10 hq (by decide))).trans h10)
  replace h11 := (congrFun eMb14 a11).trans ((mm_ne _ _ (mm_tag h11 hq (by decide))).trans h11)
  replace h12 := (congrFun eMb14 a12).trans ((mm_ne _ _ (mm_tag h12 hq (by decide))).trans h12)
  replace h13 := (congrFun eMb14 a13).trans ((mm_ne _ _ (mm_tag h13 hq (by decide))).trans h13)
  replace h14 := (congrFun eMb14 a14).trans ((mm_ne _ _ (mm_tag h14 hq (by decide))).trans h14)
  replace hq := (congrFun eMb14 q).trans (mm_self _ _ _)
  refine lv_aload_n hx hb d_Mod_init_116 rfl (lv_at hl 0 rfl) ?_
  refine lv_sipush (v := 20001) hx hb d_Mod_init_117 (by decide) ?_
  refine mm_newz 36 (t0 := 2) (cA := g.2.2 2) (N := 20001) E hZ rfl w_692 (by decide) (by decide) (by decide) (Nat.le_of_ble_eq_true rfl) (Nat.le_of_ble_eq_true rfl) d_Mod_init_120 (fun a15 H hB15 hN15 hZ => ?_)
  obtain ⟨Ma15, eMa15⟩ : ∃ z : mm_M, z = mm_up Mb14 a15 (ai 36 (g.2.2 2) 20001 (fun _ => 0)) := ⟨_, rfl⟩
  rw [← eMa15] at hZ
  replace hs : ∀ t, (t < 20 ∨ 47 ≤ t) → mm_same t M0 Ma15 := fun t ht => by rw [eMa15]; exact (hs t ht).tr (mm_same.new hN15 _)
  replace hq := (congrFun eMa15 q).trans ((mm_ne _ _ (mm_apartN hq hN15)).trans hq)
  replace h2 := (congrFun eMa15 a2).trans ((mm_ne _ _ (mm_apartN h2 hN15)).trans h2)
  replace h3 := (congrFun eMa15 a3).trans ((mm_ne _ _ (mm_apartN h3 hN15)).trans h3)
  replace h4 := (congrFun eMa15 a4).trans ((mm_ne _ _ (mm_apartN h4 hN15)).trans h4)
  replace h5 := (congrFun eMa15 a5).trans ((mm_ne _ _ (mm_apartN h5 hN15)).trans h5)
  replace h6 := (congrFun eMa15 a6).trans ((mm_ne _ _ (mm_apartN h6 hN15)).trans h6)
  replace h7 := (congrFun eMa15 a7).trans ((mm_ne _ _ (mm_apartN h7 hN15)).trans h7)
  replace h8 := (congrFun eMa15 a8).trans ((mm_ne _ _ (mm_apartN h8 hN15)).trans h8)
  replace h9 := (congrFun eMa15 a9).trans ((mm_ne _ _ (mm_apartN h9 hN15)).trans h9)
  replace h10 := (congrFun eMa15 a10).trans ((mm_ne _ _ (mm_apartN h10 hN15)).trans h10)
  replace h11 := (congrFun eMa15 a11).trans ((mm_ne _ _ (mm_apartN h11 hN15)).trans h11)
  replace h12 := (congrFun eMa15 a12).trans ((mm_ne _ _ (mm_apartN h12 hN15)).trans h12)
  replace h13 := (congrFun eMa15 a13).trans ((mm_ne _ _ (mm_apartN h13 hN15)).trans h13)
  replace h14 := (congrFun eMa15 a14).trans ((mm_ne _ _ (mm_apartN h14 hN15)).trans h14)
  have h15 := (congrFun eMa15 a15).trans (mm_self _ _ _)
  refine mm_putF (k := 15) E hnm hZ cl_Mod w_628 (by decide) rfl rfl hq (by decide) rfl rfl (Nat.le_of_ble_eq_true rfl) d_Mod_init_122 (fun H locs hZ => ?_)
  obtain ⟨Mb15, eMb15⟩ : ∃ z : mm_M, z = mm_up Ma15 q (ob 20 9 [.int 0, .int 0, .ref a2, .ref a3, .ref a4, .ref a5, .ref a6, .ref a7, .ref a8, .ref a9, .ref a10, .ref a11, .ref a12, .ref a13, .ref a14, .ref a15, .int 0, .long 0, .int 0, .null, .null, .null, .null, .null, .int 0, .null]) := ⟨_, rfl⟩
  replace hZ : mm_S g s Mb15 H locs := by rw [eMb15]; exact hZ
  replace hs : ∀ t, (t < 20 ∨ 47 ≤ t) → mm_same t M0 Mb15 := fun t ht => by rw [eMb15]; exact (hs t ht).tr (mm_same.up hq (by omega) _)
  replace h2 := (congrFun eMb15 a2).trans ((mm_ne _ _ (mm_tag h2 hq (by decide))).trans h2)
  replace h3 := (congrFun eMb15 a3).trans ((mm_ne _ _ (mm_tag h3 hq (by decide))).trans h3)
  replace h4 := (congrFun eMb15 a4).trans ((mm_ne _ _ (mm_tag h4 hq (by decide))).trans h4)
  replace h5 := (congrFun eMb15 a5).trans ((mm_ne _ _ (mm_tag h5 hq (by decide))).trans h5)
  replace h6 := (congrFun eMb15 a6).trans ((mm_ne _ _ (mm_tag h6 hq (by decide))).trans h6)
  replace h7 := (congrFun eMb15 a7).trans ((mm_ne _ _ (mm_tag h7 hq (by decide))).trans h7)
  replace h8 := (congrFun eMb15 a8).trans ((mm_ne _ _ (mm_tag h8 hq (by decide))).trans h8)
  replace h9 := (congrFun eMb15 a9).trans ((mm_ne _ _ (mm_tag h9 hq (by decide))).trans h9)
  replace h10 := (congrFun eMb15 a10).trans ((mm_ne _ _ (mm_tag h10 hq (by decide))).trans h10)
  replace h11 := (congrFun eMb15 a11).trans ((mm_ne _ _ (mm_tag h11 hq (by decide))).trans h11)
  replace h12 := (congrFun eMb15 a12).trans ((mm_ne _ _ (mm_tag h12 hq (by decide))).trans h12)
  replace h13 := (congrFun eMb15 a13).trans ((mm_ne _ _ (mm_tag h13 hq (by decide))).trans h13)
  replace h14 := (congrFun eMb15 a14).trans ((mm_ne _ _ (mm_tag h14 hq (by decide))).trans h14)
  replace h15 := (congrFun eMb15 a15).trans ((mm_ne _ _ (mm_tag h15 hq (by decide))).trans h15)
  replace hq := (congrFun eMb15 q).trans (mm_self _ _ _)
  refine lv_aload_n hx hb d_Mod_init_125 rfl (lv_at hl 0 rfl) ?_
  refine lv_sipush (v := 2000) hx hb d_Mod_init_126 (by decide) ?_
  refine mm_newl 40 (t0 := 1) (cA := g.2.2 1) (N := 2000) E hZ rfl w_84 (by decide) (by decide) (by decide) (Nat.le_of_ble_eq_true rfl) (Nat.le_of_ble_eq_true rfl) d_Mod_init_129 (fun a19 H hB19 hN19 hZ => ?_)
  obtain ⟨Ma19, eMa19⟩ : ∃ z : mm_M, z = mm_up Mb15 a19 (al 40 (g.2.2 1) 2000 (fun _ => 0)) := ⟨_, rfl⟩
  rw [← eMa19] at hZ
  replace hs : ∀ t, (t < 20 ∨ 47 ≤ t) → mm_same t M0 Ma19 := fun t ht => by rw [eMa19]; exact (hs t ht).tr (mm_same.new hN19 _)
  replace hq := (congrFun eMa19 q).trans ((mm_ne _ _ (mm_apartN hq hN19)).trans hq)
  replace h2 := (congrFun eMa19 a2).trans ((mm_ne _ _ (mm_apartN h2 hN19)).trans h2)
  replace h3 := (congrFun eMa19 a3).trans ((mm_ne _ _ (mm_apartN h3 hN19)).trans h3)
  replace h4 := (congrFun eMa19 a4).trans ((mm_ne _ _ (mm_apartN h4 hN19)).trans h4)
  replace h5 := (congrFun eMa19 a5).trans ((mm_ne _ _ (mm_apartN h5 hN19)).trans h5)
  replace h6 := (congrFun eMa19 a6).trans ((mm_ne _ _ (mm_apartN h6 hN19)).trans h6)
  replace h7 := (congrFun eMa19 a7).trans ((mm_ne _ _ (mm_apartN h7 hN19)).trans h7)
  replace h8 := (congrFun eMa19 a8).trans ((mm_ne _ _ (mm_apartN h8 hN19)).trans h8)
  replace h9 := (congrFun eMa19 a9).trans ((mm_ne _ _ (mm_apartN h9 hN19)).trans h9)
  replace h10 := (congrFun eMa19 a10).trans ((mm_ne _ _ (mm_apartN h10 hN19)).trans h10)
  replace h11 := (congrFun eMa19 a11).trans ((mm_ne _ _ (mm_apartN h11 hN19)).trans h11)
  replace h12 := (congrFun eMa19 a12).trans ((mm_ne _ _ (mm_apartN h12 hN19)).trans h12)
  replace h13 := (congrFun eMa19 a13).trans ((mm_ne _ _ (mm_apartN h13 hN19)).trans h13)
  replace h14 := (congrFun eMa19 a14).trans ((mm_ne _ _ (mm_apartN h14 hN19)).trans h14)
  replace h15 := (congrFun eMa19 a15).trans ((mm_ne _ _ (mm_apartN h15 hN19)).trans h15)
  have h19 := (congrFun eMa19 a19).trans (mm_self _ _ _)
  refine mm_putF (k := 19) E hnm hZ cl_Mod w_632 (by decide) rfl rfl hq (by decide) rfl rfl (Nat.le_of_ble_eq_true rfl) d_Mod_init_131 (fun H locs hZ => ?_)
  obtain ⟨Mb19, eMb19⟩ : ∃ z : mm_M, z = mm_up Ma19 q (ob 20 9 [.int 0, .int 0, .ref a2, .ref a3, .ref a4, .ref a5, .ref a6, .ref a7, .ref a8, .ref a9, .ref a10, .ref a11, .ref a12, .ref a13, .ref a14, .ref a15, .int 0, .long 0, .int 0, .ref a19, .null, .null, .null, .null, .int 0, .null]) := ⟨_, rfl⟩
  replace hZ : mm_S g s Mb19 H locs := by rw [eMb19]; exact hZ
  replace hs : ∀ t, (t < 20 ∨ 47 ≤ t) → mm_same t M0 Mb19 := fun t ht => by rw [eMb19]; exact (hs t ht).tr (mm_same.up hq (by omega) _)
  replace h2 := (congrFun eMb19 a2).trans ((mm_ne _ _ (mm_tag h2 hq (by decide))).trans h2)
  replace h3 := (congrFun eMb19 a3).trans ((mm_ne _ _ (mm_tag h3 hq (by decide))).trans h3)
  replace h4 := (congrFun eMb19 a4).trans ((mm_ne _ _ (mm_tag h4 hq (by decide))).trans h4)
  replace h5 := (congrFun eMb19 a5).trans ((mm_ne _ _ (mm_tag h5 hq (by decide))).trans h5)
  replace h6 := (congrFun eMb19 a6).trans ((mm_ne _ _ (mm_tag h6 hq (by decide))).trans h6)
  replace h7 := (congrFun eMb19 a7).trans ((mm_ne _ _ (mm_tag h7 hq (by decide))).trans h7)
  replace h8 := (congrFun eMb19 a8).trans ((mm_ne _ _ (mm_tag h8 hq (by decide))).trans h8)
  replace h9 := (congrFun eMb19 a9).trans ((mm_ne _ _ (mm_tag h9 hq (by decide))).trans h9)
  replace h10 := (congrFun eMb19 a10).trans ((mm_ne _ _ (mm_tag h10 hq (by decide))).trans h10)
  replace h11 := (congrFun eMb19 a11).trans ((mm_ne _ _ (mm_tag h11 hq (by decide))).trans h11)
  replace h12 := (congrFun eMb19 a12).trans ((mm_ne _ _ (mm_tag h12 hq (by decide))).trans h12)
  replace h13 := (congrFun eMb19 a13).trans ((mm_ne _ _ (mm_tag h13 hq (by decide))).trans h13)
  replace h14 := (congrFun eMb19 a14).trans ((mm_ne _ _ (mm_tag h14 hq (by decide))).trans h14)
  replace h15 := (congrFun eMb19 a15).trans ((mm_ne _ _ (mm_tag h15 hq (by decide))).trans h15)
  replace h19 := (congrFun eMb19 a19).trans ((mm_ne _ _ (mm_tag h19 hq (by decide))).trans h19)
  replace hq := (congrFun eMb19 q).trans (mm_self _ _ _)
  refine lv_aload_n hx hb d_Mod_init_134 rfl (lv_at hl 0 rfl) ?_
  refine lv_bipush (v := 50) hx hb d_Mod_init_135 (by decide) ?_
  refine mm_newi 41 (t0 := 0) (cA := g.2.2 0) (N := 50) E hZ rfl w_110 (by decide) (by decide) (by decide) (Nat.le_of_ble_eq_true rfl) (Nat.le_of_ble_eq_true rfl) d_Mod_init_137 (fun a20 H hB20 hN20 hZ => ?_)
  obtain ⟨Ma20, eMa20⟩ : ∃ z : mm_M, z = mm_up Mb19 a20 (ai 41 (g.2.2 0) 50 (fun _ => 0)) := ⟨_, rfl⟩
  rw [← eMa20] at hZ
  replace hs : ∀ t, (t < 20 ∨ 47 ≤ t) → mm_same t M0 Ma20 := fun t ht => by rw [eMa20]; exact (hs t ht).tr (mm_same.new hN20 _)
  replace hq := (congrFun eMa20 q).trans ((mm_ne _ _ (mm_apartN hq hN20)).trans hq)
  replace h2 := (congrFun eMa20 a2).trans ((mm_ne _ _ (mm_apartN h2 hN20)).trans h2)
  replace h3 := (congrFun eMa20 a3).trans ((mm_ne _ _ (mm_apartN h3 hN20)).trans h3)
  replace h4 := (congrFun eMa20 a4).trans ((mm_ne _ _ (mm_apartN h4 hN20)).trans h4)
  replace h5 := (congrFun eMa20 a5).trans ((mm_ne _ _ (mm_apartN h5 hN20)).trans h5)
  replace h6 := (congrFun eMa20 a6).trans ((mm_ne _ _ (mm_apartN h6 hN20)).trans h6)
  replace h7 := (congrFun eMa20 a7).trans ((mm_ne _ _ (mm_apartN h7 hN20)).trans h7)
  replace h8 := (congrFun eMa20 a8).trans ((mm_ne _ _ (mm_apartN h8 hN20)).trans h8)
  replace h9 := (congrFun eMa20 a9).trans ((mm_ne _ _ (mm_apartN h9 hN20)).trans h9)
  replace h10 := (congrFun eMa20 a10).trans ((mm_ne _ _ (mm_apartN h10 hN20)).trans h10)
  replace h11 := (congrFun eMa20 a11).trans ((mm_ne _ _ (mm_apartN h11 hN20)).trans h11)
  replace h12 := (congrFun eMa20 a12).trans ((mm_ne _ _ (mm_apartN h12 hN20)).trans h12)
  replace h13 := (congrFun eMa20 a13).trans ((mm_ne _ _ (mm_apartN h13 hN20)).trans h13)
  replace h14 := (congrFun eMa20 a14).trans ((mm_ne _ _ (mm_apartN h14 hN20)).trans h14)
  replace h15 := (congrFun eMa20 a15).trans ((mm_ne _ _ (mm_apartN h15 hN20)).trans h15)
  replace h19 := (congrFun eMa20 a19).trans ((mm_ne _ _ (mm_apartN h19 hN20)).trans h19)
  have h20 := (congrFun eMa20 a20).trans (mm_self _ _ _)
  refine mm_putF (k := 20) E hnm hZ cl_Mod w_633 (by decide) rfl rfl hq (by decide) rfl rfl (Nat.le_of_ble_eq_true rfl) d_Mod_init_139 (fun H locs hZ => ?_)
  obtain ⟨Mb20, eMb20⟩ : ∃ z : mm_M, z = mm_up Ma20 q (ob 20 9 [.int 0, .int 0, .ref a2, .ref a3, .ref a4, .ref a5, .ref a6, .ref a7, .ref a8, .ref a9, .ref a10, .ref a11, .ref a12, .ref a13, .ref a14, .ref a15, .int 0, .long 0, .int 0, .ref a19, .ref a20, .null, .null, .null, .int 0, .null]) := ⟨_, rfl⟩
  replace hZ : mm_S g s Mb20 H locs := by rw [eMb20]; exact hZ
  replace hs : ∀ t, (t < 20 ∨ 47 ≤ t) → mm_same t M0 Mb20 := fun t ht => by rw [eMb20]; exact (hs t ht).tr (mm_same.up hq (by omega) _)
  replace h2 := (congrFun eMb20 a2).trans ((mm_ne _ _ (mm_tag h2 hq (by decide))).trans h2)
  replace h3 := (congrFun eMb20 a3).trans ((mm_ne _ _ (mm_tag h3 hq (by decide))).trans h3)
  replace h4 := (congrFun eMb20 a4).trans ((mm_ne _ _ (mm_tag h4 hq (by decide))).trans h4)
  replace h5 := (congrFun eMb20 a5).trans ((mm_ne _ _ (mm_tag h5 hq (by decide))).trans h5)
  replace h6 := (congrFun eMb20 a6).trans ((mm_ne _ _ (mm_tag h6 hq (by decide))).trans h6)
  replace h7 := (congrFun eMb20 a7).trans ((mm_ne _ _ (mm_tag h7 hq (by decide))).trans h7)
  replace h8 := (congrFun eMb20 a8).trans ((mm_ne _ _ (mm_tag h8 hq (by decide))).trans h8)
  replace h9 := (congrFun eMb20 a9).trans ((mm_ne _ _ (mm_tag h9 hq (by decide))).trans h9)
  replace h10 := (congrFun eMb20 a10).trans ((mm_ne _ _ (mm_tag h10 hq (by decide))).trans h10)
  replace h11 := (congrFun eMb20 a11).trans ((mm_ne _ _ (mm_tag h11 hq (by decide))).trans h11)
  replace h12 := (congrFun eMb20 a12).trans ((mm_ne _ _ (mm_tag h12 hq (by decide))).trans h12)
  replace h13 := (congrFun eMb20 a13).trans ((mm_ne _ _ (mm_tag h13 hq (by decide))).trans h13)
  replace h14 := (congrFun eMb20 a14).trans ((mm_ne _ _ (mm_tag h14 hq (by decide))).trans h14)
  replace h15 := (congrFun eMb20 a15).trans ((mm_ne _ _ (mm_tag h15 hq (by decide))).trans h15)
  replace h19 := (congrFun eMb20 a19).trans ((mm_ne _ _ (mm_tag h19 hq (by decide))).trans h19)
  replace h20 := (congrFun eMb20 a20).trans ((mm_ne _ _ (mm_tag h20 hq (by decide))).trans h20)
  replace hq := (congrFun eMb20 q).trans (mm_self _ _ _)
  refine lv_aload_n hx hb d_Mod_init_142 rfl (lv_at hl 0 rfl) ?_
  refine lv_bipush (v := 50) hx hb d_Mod_init_143 (by decide) ?_
  refine mm_newi 42 (t0 := 0) (cA := g.2.2 0) (N := 50) E hZ rfl w_110 (by decide) (by decide) (by decide) (Nat.le_of_ble_eq_true rfl) (Nat.le_of_ble_eq_true rfl) d_Mod_init_145 (fun a21 H hB21 hN21 hZ => ?_)
  obtain ⟨Ma21, eMa21⟩ : ∃ z : mm_M, z = mm_up Mb20 a21 (ai 42 (g.2.2 0) 50 (fun _ => 0)) := ⟨_, rfl⟩
  rw [← eMa21] at hZ
  replace hs : ∀ t, (t < 20 ∨ 47 ≤ t) → mm_same t M0 Ma21 := fun t ht => by rw [eMa21]; exact (hs t ht).tr (mm_same.new hN21 _)
  replace hq := (congrFun eMa21 q).trans ((mm_ne _ _ (mm_apartN hq hN21)).trans hq)
  replace h2 := (congrFun eMa21 a2).trans ((mm_ne _ _ (mm_apartN h2 hN21)).trans h2)
  replace h3 := (congrFun eMa21 a3).trans ((mm_ne _ _ (mm_apartN h3 hN21)).trans h3)
  replace h4 := (congrFun eMa21 a4).trans ((mm_ne _ _ (mm_apartN h4 hN21)).trans h4)
  replace h5 := (congrFun eMa21 a5).trans ((mm_ne _ _ (mm_apartN h5 hN21)).trans h5)
  replace h6 := (congrFun eMa21 a6).trans ((mm_ne _ _ (mm_apartN h6 hN21)).trans h6)
  replace h7 := (congrFun eMa21 a7).trans ((mm_ne _ _ (mm_apartN h7 hN21)).trans h7)
  replace h8 := (congrFun eMa21 a8).trans ((mm_ne _ _ (mm_apartN h8 hN21)).trans h8)
  replace h9 := (congrFun eMa21 a9).trans ((mm_ne _ _ (mm_apartN h9 hN21)).trans h9)
  replace h10 := (congrFun eMa21 a10).trans ((mm_ne _ _ (mm_apartN h10 hN21)).trans h10)
  replace h11 := (congrFun eMa21 a11).trans ((mm_ne _ _ (mm_apartN h11 hN21)).trans h11)
  replace h12 := (congrFun eMa21 a12).trans ((mm_ne _ _ (mm_apartN h12 hN21)).trans h12)
  replace h13 := (congrFun eMa21 a13).trans ((mm_ne _ _ (mm_apartN h13 hN21)).trans h13)
  replace h14 := (congrFun eMa21 a14).trans ((mm_ne _ _ (mm_apartN h14 hN21)).trans h14)
  replace h15 := (congrFun eMa21 a15).trans ((mm_ne _ _ (mm_apartN h15 hN21)).trans h15)
  replace h19 := (congrFun eMa21 a19).trans ((mm_ne _ _ (mm_apartN h19 hN21)).trans h19)
  replace h20 := (congrFun eMa21 a20).trans ((mm_ne _ _ (mm_apartN h20 hN21)).trans h20)
  have h21 := (congrFun eMa21 a21).trans (mm_self _ _ _)
  refine mm_putF (k := 21) E hnm hZ cl_Mod w_634 (by decide) rfl rfl hq (by decide) rfl rfl (Nat.le_of_ble_eq_true rfl) d_Mod_init_147 (fun H locs hZ => ?_)
  obtain ⟨Mb21, eMb21⟩ : ∃ z : mm_M, z = mm_up Ma21 q (ob 20 9 [.int 0, .int 0, .ref a2, .ref a3, .ref a4, .ref a5, .ref a6, .ref a7, .ref a8, .ref a9, .ref a10, .ref a11, .ref a12, .ref a13, .ref a14, .ref a15, .int 0, .long 0, .int 0, .ref a19, .ref a20, .ref a21, .null, .null, .int 0, .null]) := ⟨_, rfl⟩
  replace hZ : mm_S g s Mb21 H locs := by rw [eMb21]; exact hZ
  replace hs : ∀ t, (t < 20 ∨ 47 ≤ t) → mm_same t M0 Mb21 := fun t ht => by rw [eMb21]; exact (hs t ht).tr (mm_same.up hq (by omega) _)
  replace h2 := (congrFun eMb21 a2).trans ((mm_ne _ _ (mm_tag h2 hq (by decide))).trans h2)
  replace h3 := (congrFun eMb21 a3).trans ((mm_ne _ _ (mm_tag h3 hq (by decide))).trans h3)
  replace h4 := (congrFun eMb21 a4).trans ((mm_ne _ _ (mm_tag h4 hq (by decide))).trans h4)
  replace h5 := (congrFun eMb21 a5).trans ((mm_ne _ _ (mm_tag h5 hq (by decide))).trans h5)
  replace h6 := (congrFun eMb21 a6).trans ((mm_ne _ _ (mm_tag h6 hq (by decide))).trans h6)
  replace h7 := (congrFun eMb21 a7).trans ((mm_ne _ _ (mm_tag h7 hq (by decide))).trans h7)
  replace h8 := (congrFun eMb21 a8).trans ((mm_ne _ _ (mm_tag h8 hq (by decide))).trans h8)
  replace h9 := (congrFun eMb21 a9).trans ((mm_ne _ _ (mm_tag h9 hq (by decide))).trans h9)
  replace h10 := (congrFun eMb21 a10).trans ((mm_ne _ _ (mm_tag h10 hq (by decide))).trans h10)
  replace h11 := (congrFun eMb21 a11).trans ((mm_ne _ _ (mm_tag h11 hq (by decide))).trans h11)
  replace h12 := (congrFun eMb21 a12).trans ((mm_ne _ _ (mm_tag h12 hq (by decide))).trans h12)
  replace h13 := (congrFun eMb21 a13).trans ((mm_ne _ _ (mm_tag h13 hq (by decide))).trans h13)
  replace h14 := (congrFun eMb21 a14).trans ((mm_ne _ _ (mm_tag h14 hq (by decide))).trans h14)
  replace h15 := (congrFun eMb21 a15).trans ((mm_ne _ _ (mm_tag h15 hq (by decide))).trans h15)
  replace h19 := (congrFun eMb21 a19).trans ((mm_ne _ _ (mm_tag h19 hq (by decide))).trans h19)
  replace h20 := (congrFun eMb21 a20).trans ((mm_ne _ _ (mm_tag h20 hq (by decide))).trans h20)
  replace h21 := (congrFun eMb21 a21).trans ((mm_ne _ _ (mm_tag h21 hq (by decide))).trans h21)
  replace hq := (congrFun eMb21 q).trans (mm_self _ _ _)
  refine lv_aload_n hx hb d_Mod_init_150 rfl (lv_at hl 0 rfl) ?_
  refine lv_iconst (v := 5) hx hb d_Mod_init_151 (by decide) ?_
  refine mm_newi 43 (t0 := 0) (cA := g.2.2 0) (N := 5) E hZ rfl w_110 (by decide) (by decide) (by decide) (Nat.le_of_ble_eq_true rfl) (Nat.le_of_ble_eq_true rfl) d_Mod_init_152 (fun a22 H hB22 hN22 hZ => ?_)
  obtain ⟨Ma22, eMa22⟩ : ∃ z : mm_M, z = mm_up Mb21 a22 (ai 43 (g.2.2 0) 5 (fun _ => 0)) := ⟨_, rfl⟩
  rw [← eMa22] at hZ
  replace hs : ∀ t, (t < 20 ∨ 47 ≤ t) → mm_same t M0 Ma22 := fun t ht => by rw [eMa22]; exact (hs t ht).tr (mm_same.new hN22 _)
  replace hq := (congrFun eMa22 q).trans ((mm_ne _ _ (mm_apartN hq hN22)).trans hq)
  replace h2 := (congrFun eMa22 a2).trans ((mm_ne _ _ (mm_apartN h2 hN22)).trans h2)
  replace h3 := (congrFun eMa22 a3).trans ((mm_ne _ _ (mm_apartN h3 hN22)).trans h3)
  replace h4 := (congrFun eMa22 a4).trans ((mm_ne _ _ (mm_apartN h4 hN22)).trans h4)
  replace h5 := (congrFun eMa22 a5).trans ((mm_ne _ _ (mm_apartN h5 hN22)).trans h5)
  replace h6 := (congrFun eMa22 a6).trans ((mm_ne _ _ (mm_apartN h6 hN22)).trans h6)
  replace h7 := (congrFun eMa22 a7).trans ((mm_ne _ _ (mm_apartN h7 hN22)).trans h7)
  replace h8 := (congrFun eMa22 a8).trans ((mm_ne _ _ (mm_apartN h8 hN22)).trans h8)
  replace h9 := (congrFun eMa22 a9).trans ((mm_ne _ _ (mm_apartN h9 hN22)).trans h9)
  replace h10 := (congrFun eMa22 a10).trans ((mm_ne _ _ (mm_apartN h10 hN22)).trans h10)
  replace h11 := (congrFun eMa22 a11).trans ((mm_ne _ _ (mm_apartN h11 hN22)).trans h11)
  replace h12 := (congrFun eMa22 a12).trans ((mm_ne _ _ (mm_apartN h12 hN22)).trans h12)
  replace h13 := (congrFun eMa22 a13).trans ((mm_ne _ _ (mm_apartN h13 hN22)).trans h13)
  replace h14 := (congrFun eMa22 a14).trans ((mm_ne _ _ (mm_apartN h14 hN22)).trans h14)
  replace h15 := (congrFun eMa22 a15).trans ((mm_ne _ _ (mm_apartN h15 hN22)).trans h15)
  replace h19 := (congrFun eMa22 a19).trans ((mm_ne _ _ (mm_apartN h19 hN22)).trans h19)
  replace h20 := (congrFun eMa22 a20).trans ((mm_ne _ _ (mm_apartN h20 hN22)).trans h20)
  replace h21 := (congrFun eMa22 a21).trans ((mm_ne _ _ (mm_apartN h21 hN22)).trans h21)
  have h22 := (congrFun eMa22 a22).trans (mm_self _ _ _)
  refine mm_putF (k := 22) E hnm hZ cl_Mod w_635 (by decide) rfl rfl hq (by decide) rfl rfl (Nat.le_of_ble_eq_true rfl) d_Mod_init_154 (fun H locs hZ => ?_)
  obtain ⟨Mb22, eMb22⟩ : ∃ z : mm_M, z = mm_up Ma22 q (ob 20 9 [.int 0, .int 0, .ref a2, .ref a3, .ref a4, .ref a5, .ref a6, .ref a7, .ref a8, .ref a9, .ref a10, .ref a11, .ref a12, .ref a13, .ref a14, .ref a15, .int 0, .long 0, .int 0, .ref a19, .ref a20, .ref a21, .ref a22, .null, .int 0, .null]) := ⟨_, rfl⟩
  replace hZ : mm_S g s Mb22 H locs := by rw [eMb22]; exact hZ
  replace hs : ∀ t, (t < 20 ∨ 47 ≤ t) → mm_same t M0 Mb22 := fun t ht => by rw [eMb22]; exact (hs t ht).tr (mm_same.up hq (by omega) _)
  replace h2 := (congrFun eMb22 a2).trans ((mm_ne _ _ (mm_tag h2 hq (by decide))).trans h2)
  replace h3 := (congrFun eMb22 a3).trans ((mm_ne _ _ (mm_tag h3 hq (by decide))).trans h3)
  replace h4 := (congrFun eMb22 a4).trans ((mm_ne _ _ (mm_tag h4 hq (by decide))).trans h4)
  replace h5 := (congrFun eMb22 a5).trans ((mm_ne _ _ (mm_tag h5 hq (by decide))).trans h5)
  replace h6 := (congrFun eMb22 a6).trans ((mm_ne _ _ (mm_tag h6 hq (by decide))).trans h6)
  replace h7 := (congrFun eMb22 a7).trans ((mm_ne _ _ (mm_tag h7 hq (by decide))).trans h7)
  replace h8 := (congrFun eMb22 a8).trans ((mm_ne _ _ (mm_tag h8 hq (by decide))).trans h8)
  replace h9 := (congrFun eMb22 a9).trans ((mm_ne _ _ (mm_tag h9 hq (by decide))).trans h9)
  replace h10 := (congrFun eMb22 a10).trans ((mm_ne _ _ (mm_tag h10 hq (by decide))).trans h10)
  replace h11 := (congrFun eMb22 a11).trans ((mm_ne _ _ (mm_tag h11 hq (by decide))).trans h11)
  replace h12 := (congrFun eMb22 a12).trans ((mm_ne _ _ (mm_tag h12 hq (by decide))).trans h12)
  replace h13 := (congrFun eMb22 a13).trans ((mm_ne _ _ (mm_tag h13 hq (by decide))).trans h13)
  replace h14 := (congrFun eMb22 a14).trans ((mm_ne _ _ (mm_tag h14 hq (by decide))).trans h14)
  replace h15 := (congrFun eMb22 a15).trans ((mm_ne _ _ (mm_tag h15 hq (by decide))).trans h15)
  replace h19 := (congrFun eMb22 a19).trans ((mm_ne _ _ (mm_tag h19 hq (by decide))).trans h19)
  replace h20 := (congrFun eMb22 a20).trans ((mm_ne _ _ (mm_tag h20 hq (by decide))).trans h20)
  replace h21 := (congrFun eMb22 a21).trans ((mm_ne _ _ (mm_tag h21 hq (by decide))).trans h21)
  replace h22 := (congrFun eMb22 a22).trans ((mm_ne _ _ (mm_tag h22 hq (by decide))).trans h22)
  replace hq := (congrFun eMb22 q).trans (mm_self _ _ _)
  refine lv_aload_n hx hb d_Mod_init_157 rfl (lv_at hl 0 rfl) ?_
  refine lv_sipush (v := 21000) hx hb d_Mod_init_158 (by decide) ?_
  refine mm_newi 44 (t0 := 0) (cA := g.2.2 0) (N := 21000) E hZ rfl w_110 (by decide) (by decide) (by decide) (Nat.le_of_ble_eq_true rfl) (Nat.le_of_ble_eq_true rfl) d_Mod_init_161 (fun a23 H hB23 hN23 hZ => ?_)
  obtain ⟨Ma23, eMa23⟩ : ∃ z : mm_M, z = mm_up Mb22 a23 (ai 44 (g.2.2 0) 21000 (fun _ => 0)) := ⟨_, rfl⟩
  rw [← eMa23] at hZ
  replace hs : ∀ t, (t < 20 ∨ 47 ≤ t) → mm_same t M0 Ma23 := fun t ht => by rw [eMa23]; exact (hs t ht).tr (mm_same.new hN23 _)
  replace hq := (congrFun eMa23 q).trans ((mm_ne _ _ (mm_apartN hq hN23)).trans hq)
  replace h2 := (congrFun eMa23 a2).trans ((mm_ne _ _ (mm_apartN h2 hN23)).trans h2)
  replace h3 := (congrFun eMa23 a3).trans ((mm_ne _ _ (mm_apartN h3 hN23)).trans h3)
  replace h4 := (congrFun eMa23 a4).trans ((mm_ne _ _ (mm_apartN h4 hN23)).trans h4)
  replace h5 := (congrFun eMa23 a5).trans ((mm_ne _ _ (mm_apartN h5 hN23)).trans h5)
  replace h6 := (congrFun eMa23 a6).trans ((mm_ne _ _ (mm_apartN h6 hN23)).trans h6)
  replace h7 := (congrFun eMa23 a7).trans ((mm_ne _ _ (mm_apartN h7 hN23)).trans h7)
  replace h8 := (congrFun eMa23 a8).trans ((mm_ne _ _ (mm_apartN h8 hN23)).trans h8)
  replace h9 := (congrFun eMa23 a9).trans ((mm_ne _ _ (mm_apartN h9 hN23)).trans h9)
  replace h10 := (congrFun eMa23 a10).trans ((mm_ne _ _ (mm_apartN h10 hN23)).trans h10)
  replace h11 := (congrFun eMa23 a11).trans ((mm_ne _ _ (mm_apartN h11 hN23)).trans h11)
  replace h12 := (congrFun eMa23 a12).trans ((mm_ne _ _ (mm_apartN h12 hN23)).trans h12)
  replace h13 := (congrFun eMa23 a13).trans ((mm_ne _ _ (mm_apartN h13 hN23)).trans h13)
  replace h14 := (congrFun eMa23 a14).trans ((mm_ne _ _ (mm_apartN h14 hN23)).trans h14)
  replace h15 := (congrFun eMa23 a15).trans ((mm_ne _ _ (mm_apartN h15 hN23)).trans h15)
  replace h19 := (congrFun eMa23 a19).trans ((mm_ne _ _ (mm_apartN h19 hN23)).trans h19)
  replace h20 := (congrFun eMa23 a20).trans ((mm_ne _ _ (mm_apartN h20 hN23)).trans h20)
  replace h21 := (congrFun eMa23 a21).trans ((mm_ne _ _ (mm_apartN h21 hN23)).trans h21)
  replace h22 := (congrFun eMa23 a22).trans ((mm_ne _ _ (mm_apartN h22 hN23)).trans h22)
  have h23 := (congrFun eMa23 a23).trans (mm_self _ _ _)
  refine mm_putF (k := 23) E hnm hZ cl_Mod w_636 (by decide) rfl rfl hq (by decide) rfl rfl (Nat.le_of_ble_eq_true rfl) d_Mod_init_163 (fun H locs hZ => ?_)
  obtain ⟨Mb23, eMb23⟩ : ∃ z : mm_M, z = mm_up Ma23 q (ob 20 9 [.int 0, .int 0, .ref a2, .ref a3, .ref a4, .ref a5, .ref a6, .ref a7, .ref a8, .ref a9, .ref a10, .ref a11, .ref a12, .ref a13, .ref a14, .ref a15, .int 0, .long 0, .int 0, .ref a19, .ref a20, .ref a21, .ref a22, .ref a23, .int 0, .null]) := ⟨_, rfl⟩
  replace hZ : mm_S g s Mb23 H locs := by rw [eMb23]; exact hZ
  replace hs : ∀ t, (t < 20 ∨ 47 ≤ t) → mm_same t M0 Mb23 := fun t ht => by rw [eMb23]; exact (hs t ht).tr (mm_same.up hq (by omega) _)
  replace h2 := (congrFun eMb23 a2).trans ((mm_ne _ _ (mm_tag h2 hq (by decide))).trans h2)
  replace h3 := (congrFun eMb23 a3).trans ((mm_ne _ _ (mm_tag h3 hq (by decide))).trans h3)
  replace h4 := (congrFun eMb23 a4).trans ((mm_ne _ _ (mm_tag h4 hq (by decide))).trans h4)
  replace h5 := (congrFun eMb23 a5).trans ((mm_ne _ _ (mm_tag h5 hq (by decide))).trans h5)
  replace h6 := (congrFun eMb23 a6).trans ((mm_ne _ _ (mm_tag h6 hq (by decide))).trans h6)
  replace h7 := (congrFun eMb23 a7).trans ((mm_ne _ _ (mm_tag h7 hq (by decide))).trans h7)
  replace h8 := (congrFun eMb23 a8).trans ((mm_ne _ _ (mm_tag h8 hq (by decide))).trans h8)
  replace h9 := (congrFun eMb23 a9).trans ((mm_ne _ _ (mm_tag h9 hq (by decide))).trans h9)
  replace h10 := (congrFun eMb23 a10).trans ((mm_ne _ _ (mm_tag h10 hq (by decide))).trans h10)
  replace h11 := (congrFun eMb23 a11).trans ((mm_ne _ _ (mm_tag h11 hq (by decide))).trans h11)
  replace h12 := (congrFun eMb23 a12).trans ((mm_ne _ _ (mm_tag h12 hq (by decide))).trans h12)
  replace h13 := (congrFun eMb23 a13).trans ((mm_ne _ _ (mm_tag h13 hq (by decide))).trans h13)
  replace h14 := (congrFun eMb23 a14).trans ((mm_ne _ _ (mm_tag h14 hq (by decide))).trans h14)
  replace h15 := (congrFun eMb23 a15).trans ((mm_ne _ _ (mm_tag h15 hq (by decide))).trans h15)
  replace h19 := (congrFun eMb23 a19).trans ((mm_ne _ _ (mm_tag h19 hq (by decide))).trans h19)
  replace h20 := (congrFun eMb23 a20).trans ((mm_ne _ _ (mm_tag h20 hq (by decide))).trans h20)
  replace h21 := (congrFun eMb23 a21).trans ((mm_ne _ _ (mm_tag h21 hq (by decide))).trans h21)
  replace h22 := (congrFun eMb23 a22).trans ((mm_ne _ _ (mm_tag h22 hq (by decide))).trans h22)
  replace h23 := (congrFun eMb23 a23).trans ((mm_ne _ _ (mm_tag h23 hq (by decide))).trans h23)
  replace hq := (congrFun eMb23 q).trans (mm_self _ _ _)
  refine lv_aload_n hx hb d_Mod_init_166 rfl (lv_at hl 0 rfl) ?_
  refine lv_bipush (v := 40) hx hb d_Mod_init_167 (by decide) ?_
  refine mm_newi 46 (t0 := 0) (cA := g.2.2 0) (N := 40) E hZ rfl w_110 (by decide) (by decide) (by decide) (Nat.le_of_ble_eq_true rfl) (Nat.le_of_ble_eq_true rfl) d_Mod_init_169 (fun a25 H hB25 hN25 hZ => ?_)
  obtain ⟨Ma25, eMa25⟩ : ∃ z : mm_M, z = mm_up Mb23 a25 (ai 46 (g.2.2 0) 40 (fun _ => 0)) := ⟨_, rfl⟩
  rw [← eMa25] at hZ
  replace hs : ∀ t, (t < 20 ∨ 47 ≤ t) → mm_same t M0 Ma25 := fun t ht => by rw [eMa25]; exact (hs t ht).tr (mm_same.new hN25 _)
  replace hq := (congrFun eMa25 q).trans ((mm_ne _ _ (mm_apartN hq hN25)).trans hq)
  replace h2 := (congrFun eMa25 a2).trans ((mm_ne _ _ (mm_apartN h2 hN25)).trans h2)
  replace h3 := (congrFun eMa25 a3).trans ((mm_ne _ _ (mm_apartN h3 hN25)).trans h3)
  replace h4 := (congrFun eMa25 a4).trans ((mm_ne _ _ (mm_apartN h4 hN25)).trans h4)
  replace h5 := (congrFun eMa25 a5).trans ((mm_ne _ _ (mm_apartN h5 hN25)).trans h5)
  replace h6 := (congrFun eMa25 a6).trans ((mm_ne _ _ (mm_apartN h6 hN25)).trans h6)
  replace h7 := (congrFun eMa25 a7).trans ((mm_ne _ _ (mm_apartN h7 hN25)).trans h7)
  replace h8 := (congrFun eMa25 a8).trans ((mm_ne _ _ (mm_apartN h8 hN25)).trans h8)
  replace h9 := (congrFun eMa25 a9).trans ((mm_ne _ _ (mm_apartN h9 hN25)).trans h9)
  replace h10 := (congrFun eMa25 a10).trans ((mm_ne _ _ (mm_apartN h10 hN25)).trans h10)
  replace h11 := (congrFun eMa25 a11).trans ((mm_ne _ _ (mm_apartN h11 hN25)).trans h11)
  replace h12 := (congrFun eMa25 a12).trans ((mm_ne _ _ (mm_apartN h12 hN25)).trans h12)
  replace h13 := (congrFun eMa25 a13).trans ((mm_ne _ _ (mm_apartN h13 hN25)).trans h13)
  replace h14 := (congrFun eMa25 a14).trans ((mm_ne _ _ (mm_apartN h14 hN25)).trans h14)
  replace h15 := (congrFun eMa25 a15).trans ((mm_ne _ _ (mm_apartN h15 hN25)).trans h15)
  replace h19 := (congrFun eMa25 a19).trans ((mm_ne _ _ (mm_apartN h19 hN25)).trans h19)
  replace h20 := (congrFun eMa25 a20).trans ((mm_ne _ _ (mm_apartN h20 hN25)).trans h20)
  replace h21 := (congrFun eMa25 a21).trans ((mm_ne _ _ (mm_apartN h21 hN25)).trans h21)
  replace h22 := (congrFun eMa25 a22).trans ((mm_ne _ _ (mm_apartN h22 hN25)).trans h22)
  replace h23 := (congrFun eMa25 a23).trans ((mm_ne _ _ (mm_apartN h23 hN25)).trans h23)
  have h25 := (congrFun eMa25 a25).trans (mm_self _ _ _)
  refine mm_putF (k := 25) E hnm hZ cl_Mod w_638 (by decide) rfl rfl hq (by decide) rfl rfl (Nat.le_of_ble_eq_true rfl) d_Mod_init_171 (fun H locs hZ => ?_)
  obtain ⟨Mb25, eMb25⟩ : ∃ z : mm_M, z = mm_up Ma25 q (ob 20 9 [.int 0, .int 0, .ref a2, .ref a3, .ref a4, .ref a5, .ref a6, .ref a7, .ref a8, .ref a9, .ref a10, .ref a11, .ref a12, .ref a13, .ref a14, .ref a15, .int 0, .long 0, .int 0, .ref a19, .ref a20, .ref a21, .ref a22, .ref a23, .int 0, .ref a25]) := ⟨_, rfl⟩
  replace hZ : mm_S g s Mb25 H locs := by rw [eMb25]; exact hZ
  replace hs : ∀ t, (t < 20 ∨ 47 ≤ t) → mm_same t M0 Mb25 := fun t ht => by rw [eMb25]; exact (hs t ht).tr (mm_same.up hq (by omega) _)
  replace h2 := (congrFun eMb25 a2).trans ((mm_ne _ _ (mm_tag h2 hq (by decide))).trans h2)
  replace h3 := (congrFun eMb25 a3).trans ((mm_ne _ _ (mm_tag h3 hq (by decide))).trans h3)
  replace h4 := (congrFun eMb25 a4).trans ((mm_ne _ _ (mm_tag h4 hq (by decide))).trans h4)
  replace h5 := (congrFun eMb25 a5).trans ((mm_ne _ _ (mm_tag h5 hq (by decide))).trans h5)
  replace h6 := (congrFun eMb25 a6).trans ((mm_ne _ _ (mm_tag h6 hq (by decide))).trans h6)
  replace h7 := (congrFun eMb25 a7).trans ((mm_ne _ _ (mm_tag h7 hq (by decide))).trans h7)
  replace h8 := (congrFun eMb25 a8).trans ((mm_ne _ _ (mm_tag h8 hq (by decide))).trans h8)
  replace h9 := (congrFun eMb25 a9).trans ((mm_ne _ _ (mm_tag h9 hq (by decide))).trans h9)
  replace h10 := (congrFun eMb25 a10).trans ((mm_ne _ _ (mm_tag h10 hq (by decide))).trans h10)
  replace h11 := (congrFun eMb25 a11).trans ((mm_ne _ _ (mm_tag h11 hq (by decide))).trans h11)
  replace h12 := (congrFun eMb25 a12).trans ((mm_ne _ _ (mm_tag h12 hq (by decide))).trans h12)
  replace h13 := (congrFun eMb25 a13).trans ((mm_ne _ _ (mm_tag h13 hq (by decide))).trans h13)
  replace h14 := (congrFun eMb25 a14).trans ((mm_ne _ _ (mm_tag h14 hq (by decide))).trans h14)
  replace h15 := (congrFun eMb25 a15).trans ((mm_ne _ _ (mm_tag h15 hq (by decide))).trans h15)
  replace h19 := (congrFun eMb25 a19).trans ((mm_ne _ _ (mm_tag h19 hq (by decide))).trans h19)
  replace h20 := (congrFun eMb25 a20).trans ((mm_ne _ _ (mm_tag h20 hq (by decide))).trans h20)
  replace h21 := (congrFun eMb25 a21).trans ((mm_ne _ _ (mm_tag h21 hq (by decide))).trans h21)
  replace h22 := (congrFun eMb25 a22).trans ((mm_ne _ _ (mm_tag h22 hq (by decide))).trans h22)
  replace h23 := (congrFun eMb25 a23).trans ((mm_ne _ _ (mm_tag h23 hq (by decide))).trans h23)
  replace h25 := (congrFun eMb25 a25).trans ((mm_ne _ _ (mm_tag h25 hq (by decide))).trans h25)
  replace hq := (congrFun eMb25 q).trans (mm_self _ _ _)
  have hR : Rs g Mb25 q (fun k => match k with | 2 => a2 | 3 => a3 | 4 => a4 | 5 => a5 | 6 => a6 | 7 => a7 | 8 => a8 | 9 => a9 | 10 => a10 | 11 => a11 | 12 => a12 | 13 => a13 | 14 => a14 | 15 => a15 | 19 => a19 | 20 => a20 | 21 => a21 | 22 => a22 | 23 => a23 | 25 => a25 | _ => q) (fun _ _ => 0) (fun _ _ => 0) (fun _ => 0) 0 := ⟨hq, fun k hk => by
    rcases rI_cases hk with rfl | rfl | rfl | rfl | rfl | rfl | rfl | rfl | rfl | rfl | rfl | rfl | rfl | rfl | rfl
    · exact h2
    · exact h3
    · exact h4
    · exact h6
    · exact h7
    · exact h10
    · exact h11
    · exact h13
    · exact h14
    · exact h15
    · exact h20
    · exact h21
    · exact h22
    · exact h23
    · exact h25, fun k hk => by
    rcases rL_cases hk with rfl | rfl | rfl | rfl | rfl
    · exact h5
    · exact h8
    · exact h9
    · exact h12
    · exact h19⟩
  have hR : Rq g M0 Mb25 q (fun k => match k with | 2 => a2 | 3 => a3 | 4 => a4 | 5 => a5 | 6 => a6 | 7 => a7 | 8 => a8 | 9 => a9 | 10 => a10 | 11 => a11 | 12 => a12 | 13 => a13 | 14 => a14 | 15 => a15 | 19 => a19 | 20 => a20 | 21 => a21 | 22 => a22 | 23 => a23 | 25 => a25 | _ => q) (fun _ _ => 0) (fun _ _ => 0) (fun _ => 0) 0 := ⟨hR, hs⟩
  generalize (fun k => match k with | 2 => a2 | 3 => a3 | 4 => a4 | 5 => a5 | 6 => a6 | 7 => a7 | 8 => a8 | 9 => a9 | 10 => a10 | 11 => a11 | 12 => a12 | 13 => a13 | 14 => a14 | 15 => a15 | 19 => a19 | 20 => a20 | 21 => a21 | 22 => a22 | 23 => a23 | 25 => a25 | _ => q) = ad at hR
  generalize Mb25 = M at hZ hR
  refine lv_iconst (v := 0) hx hb d_Mod_init_174 (by decide) ?_
  refine lv_istore_n (lv' := [(1, .int 0), (0, .ref q)]) hx hb d_Mod_init_175 rfl hl (by decide) rfl (fun ls hl => ?_)
  have loop : ∀ (n : Nat) (Ix : Nat → Nat → Int32) (i : Nat) (M : mm_M) (H : Heap) (locs : List Loc) (ls : Array Slot), mm_S g s M H locs → Rq g M0 M q ad Ix (fun _ _ => 0) (fun _ => 0) 0 → Ix = rz_I i → i ≤ 200 → 201 ≤ i + n → lv_has ls 2 [(0, .ref q), (1, .int (nI i))] → W pG l eV (rk 1 20 20 44951) s m args below meth cdx H locs 20 44951 Q (F0 m 176 ls []) := by
    intro n
    induction n with
    | zero => exact fun Ix i M H locs ls _ hR hIx hi1 hfu _ => absurd hfu (by omega)
    | succ n ih =>
      intro Ix i M H locs ls hZ hR hIx hi1 hfu hl
      refine lv_iload_n hx hb d_Mod_init_176 rfl (lv_at hl 1 rfl) ?_
      refine lv_sipush (v := 200) hx hb d_Mod_init_177 (by decide) ?_
      refine lv_icmp_ge (tgt := 196) hx hb d_Mod_init_180 (by decide) (fun c180 => ?_) (fun c180 => ?_)
      · have hi2 : i = 200 := by
          rcases Nat.lt_or_ge i 200 with z | z
          · exact absurd (show nI 200 ≤ nI i from c180) (nI_ge z (by decide))
          · omega
        subst hi2
        exact mm_vret E hr hlk eQ hZ d_Mod_init_196 ⟨rfl, ad, hIx ▸ hR⟩
      · have hi2 : i < 200 := by
          rcases Nat.lt_or_ge i 200 with z | z
          · exact z
          · exact absurd (show nI 200 ≤ nI i from nI_le z (by omega)) c180
        refine lv_aload_n hx hb d_Mod_init_183 rfl (lv_at hl 0 rfl) ?_
        refine mm_get (v := .ref (ad 7)) E hZ cl_Mod fl_Mod_27 (by decide) hR.1.1 rfl d_Mod_init_184 ?_
        refine lv_iload_n hx hb d_Mod_init_187 rfl (lv_at hl 1 rfl) ?_
        refine lv_iconst (v := (-1)) hx hb d_Mod_init_188 (by decide) ?_
        refine rr_iast 7 rfl rfl E hZ hR rfl (show i < 200 by omega) d_Mod_init_189 (fun M H locs hZ hR => ?_)
        refine lv_iinc (v := (nI i) + 1) (lv' := [(1, .int ((nI i) + 1)), (0, .ref q)]) hx hb d_Mod_init_190 hl (k := 1) rfl rfl (by decide) rfl (fun ls hl => ?_)
        refine lv_goto (tgt := 176) hx hb d_Mod_init_193 (by decide) ?_
        rw [nI_1] at hl
        exact ih _ (i + 1) M H locs ls hZ hR (by rw [hIx]; exact rz_step i) (by omega) (by omega) (lv_sub hl [1, 0] rfl)
  exact loop 201 _ 0 M H locs ls hZ hR rz_0 (Nat.zero_le _) (by omega) (lv_sub hl [1, 0] rfl)
end
section
/-! THE CLASS: Item -/
/-- an item's cell -/
abbrev itc (st : Int32) (fi la : Int64) (ro pl : Int32) (du : Int64) (lt lo : Int32) : mm_E := ob 7 5 [.int st, .long fi, .long la, .int ro, .int pl, .long du, .int lt, .int lo]
set_option maxHeartbeats 4000000 in
set_option maxRecDepth 100000 in
theorem c_Item_init (l : Launch) (g : mm_G) {M0 : mm_M} {a : Nat} (h : M0 a = some (itc 0 0 0 0 0 0 0 0)) : Cv l g y_Item_init b_Item_init 1 (rk 1 20 0 0) M0 [.ref a] (fun M' => M' = mm_up M0 a (itc (-1) 0 0 0 0 0 0 0)) := by
  refine mm_enter (by decide) (Nat.le_of_ble_eq_true rfl) (fun pG eV s m args below meth cdx ls Q E hml hr hlk hnm hZ hl eQ => ?_)
  have hx := E.1
  have hb := E.2.1
  have hl : lv_has ls 1 [(0, .ref a)] := hl
  refine lv_aload_n hx hb d_Item_init_0 rfl (lv_at hl 0 rfl) ?_
  refine mm_objI E hml hl.1 w_133 w_30 w_31 (Nat.le_of_ble_eq_true rfl) (Nat.le_of_ble_eq_true rfl) d_Item_init_1 ?_
  refine lv_aload_n hx hb d_Item_init_4 rfl (lv_at hl 0 rfl) ?_
  refine lv_iconst (v := (-1)) hx hb d_Item_init_5 (by decide) ?_
  refine mm_put E hZ cl_Item fl_Item_9 (by decide) rfl h (by decide) rfl rfl (Nat.le_of_ble_eq_true rfl) d_Item_init_6 (fun H locs hZ => ?_)
  obtain ⟨M1, eM1⟩ : ∃ zz : mm_M, zz = mm_up M0 a (ob 7 5 [.int (-1), .long 0, .long 0, .int 0, .int 0, .long 0, .int 0, .int 0]) := ⟨_, rfl⟩
  have hZ : mm_S g s M1 H locs := by rw [eM1]; exact hZ
  have h2 := (congrFun eM1 a).trans (mm_self _ _ _)
  refine lv_aload_n hx hb d_Item_init_9 rfl (lv_at hl 0 rfl) ?_
  refine lv_lconst (v := 0) hx hb d_Item_init_10 (by decide) ?_
  refine mm_put E hZ cl_Item fl_Item_15 (by decide) rfl h2 (by decide) rfl rfl (Nat.le_of_ble_eq_true rfl) d_Item_init_11 (fun H locs hZ => ?_)
  obtain ⟨M3, eM3⟩ : ∃ zz : mm_M, zz = mm_up M1 a (ob 7 5 [.int (-1), .long 0, .long 0, .int 0, .int 0, .long 0, .int 0, .int 0]) := ⟨_, rfl⟩
  have hZ : mm_S g s M3 H locs := by rw [eM3]; exact hZ
  have h4 := (congrFun eM3 a).trans (mm_self _ _ _)
  refine lv_aload_n hx hb d_Item_init_14 rfl (lv_at hl 0 rfl) ?_
  refine lv_lconst (v := 0) hx hb d_Item_init_15 (by decide) ?_
  refine mm_put E hZ cl_Item fl_Item_19 (by decide) rfl h4 (by decide) rfl rfl (Nat.le_of_ble_eq_true rfl) d_Item_init_16 (fun H locs hZ => ?_)
  obtain ⟨M5, eM5⟩ : ∃ zz : mm_M, zz = mm_up M3 a (ob 7 5 [.int (-1), .long 0, .long 0, .int 0, .int 0, .long 0, .int 0, .int 0]) := ⟨_, rfl⟩
  have hZ : mm_S g s M5 H locs := by rw [eM5]; exact hZ
  have h6 := (congrFun eM5 a).trans (mm_self _ _ _)
  refine lv_aload_n hx hb d_Item_init_19 rfl (lv_at hl 0 rfl) ?_
  refine lv_iconst (v := 0) hx hb d_Item_init_20 (by decide) ?_
  refine mm_put E hZ cl_Item fl_Item_22 (by decide) rfl h6 (by decide) rfl rfl (Nat.le_of_ble_eq_true rfl) d_Item_init_21 (fun H locs hZ => ?_)
  obtain ⟨M7, eM7⟩ : ∃ zz : mm_M, zz = mm_up M5 a (ob 7 5 [.int (-1), .long 0, .long 0, .int 0, .int 0, .long 0, .int 0, .int 0]) := ⟨_, rfl⟩
  have hZ : mm_S g s M7 H locs := by rw [eM7]; exact hZ
  have h8 := (congrFun eM7 a).trans (mm_self _ _ _)
  refine lv_aload_n hx hb d_Item_init_24 rfl (lv_at hl 0 rfl) ?_
  refine lv_iconst (v := 0) hx hb d_Item_init_25 (by decide) ?_
  refine mm_put E hZ cl_Item fl_Item_25 (by decide) rfl h8 (by decide) rfl rfl (Nat.le_of_ble_eq_true rfl) d_Item_init_26 (fun H locs hZ => ?_)
  obtain ⟨M9, eM9⟩ : ∃ zz : mm_M, zz = mm_up M7 a (ob 7 5 [.int (-1), .long 0, .long 0, .int 0, .int 0, .long 0, .int 0, .int 0]) := ⟨_, rfl⟩
  have hZ : mm_S g s M9 H locs := by rw [eM9]; exact hZ
  have h10 := (congrFun eM9 a).trans (mm_self _ _ _)
  refine lv_aload_n hx hb d_Item_init_29 rfl (lv_at hl 0 rfl) ?_
  refine lv_lconst (v := 0) hx hb d_Item_init_30 (by decide) ?_
  refine mm_put E hZ cl_Item fl_Item_28 (by decide) rfl h10 (by decide) rfl rfl (Nat.le_of_ble_eq_true rfl) d_Item_init_31 (fun H locs hZ => ?_)
  obtain ⟨M11, eM11⟩ : ∃ zz : mm_M, zz = mm_up M9 a (ob 7 5 [.int (-1), .long 0, .long 0, .int 0, .int 0, .long 0, .int 0, .int 0]) := ⟨_, rfl⟩
  have hZ : mm_S g s M11 H locs := by rw [eM11]; exact hZ
  have h12 := (congrFun eM11 a).trans (mm_self _ _ _)
  refine lv_aload_n hx hb d_Item_init_34 rfl (lv_at hl 0 rfl) ?_
  refine lv_iconst (v := 0) hx hb d_Item_init_35 (by decide) ?_
  refine mm_put E hZ cl_Item fl_Item_31 (by decide) rfl h12 (by decide) rfl rfl (Nat.le_of_ble_eq_true rfl) d_Item_init_36 (fun H locs hZ => ?_)
  obtain ⟨M13, eM13⟩ : ∃ zz : mm_M, zz = mm_up M11 a (ob 7 5 [.int (-1), .long 0, .long 0, .int 0, .int 0, .long 0, .int 0, .int 0]) := ⟨_, rfl⟩
  have hZ : mm_S g s M13 H locs := by rw [eM13]; exact hZ
  have h14 := (congrFun eM13 a).trans (mm_self _ _ _)
  refine lv_aload_n hx hb d_Item_init_39 rfl (lv_at hl 0 rfl) ?_
  refine lv_iconst (v := 0) hx hb d_Item_init_40 (by decide) ?_
  refine mm_put E hZ cl_Item fl_Item_35 (by decide) rfl h14 (by decide) rfl rfl (Nat.le_of_ble_eq_true rfl) d_Item_init_41 (fun H locs hZ => ?_)
  obtain ⟨M15, eM15⟩ : ∃ zz : mm_M, zz = mm_up M13 a (ob 7 5 [.int (-1), .long 0, .long 0, .int 0, .int 0, .long 0, .int 0, .int 0]) := ⟨_, rfl⟩
  have hZ : mm_S g s M15 H locs := by rw [eM15]; exact hZ
  have h16 := (congrFun eM15 a).trans (mm_self _ _ _)
  exact mm_vret E hr hlk eQ hZ d_Item_init_44 ⟨rfl, (by rw [eM15, eM13, eM11, eM9, eM7, eM5, eM3, eM1]; simp only [mm_uu])⟩
set_option maxHeartbeats 4000000 in
set_option maxRecDepth 100000 in
theorem c_Item_isNew (l : Launch) (g : mm_G) {M0 : mm_M} {a : Nat} {st : Int32} {fi la : Int64} {ro pl : Int32} {du : Int64} {lt lo : Int32} (h : M0 a = some (itc st fi la ro pl du lt lo)) : Ci l g y_Item_isNew b_Item_isNew 1 .boolean (rk 0 0 0 0) M0 [.ref a] (fun r M' => M' = M0 ∧ r = b32 (st = (-1))) := by
  refine mm_enter (by decide) (Nat.le_of_ble_eq_true rfl) (fun pG eV s m args below meth cdx ls Q E hml hr hlk hnm hZ hl eQ => ?_)
  have hx := E.1
  have hb := E.2.1
  have hl : lv_has ls 1 [(0, .ref a)] := hl
  refine lv_aload_n hx hb d_Item_isNew_0 rfl (lv_at hl 0 rfl) ?_
  refine mm_get E hZ cl_Item fl_Item_9 (by decide) h rfl d_Item_isNew_1 ?_
  refine lv_iconst (v := (-1)) hx hb d_Item_isNew_4 (by decide) ?_
  refine lv_icmp_ne (tgt := 12) hx hb d_Item_isNew_5 (by decide) (fun c5 => ?_) (fun c5 => ?_)
  · refine lv_iconst (v := 0) hx hb d_Item_isNew_12 (by decide) ?_
    exact mm_zret (v := 0) E hr hlk eQ hZ rfl d_Item_isNew_13 ⟨_, rfl, rfl, b32_f c5⟩
  · refine lv_iconst (v := 1) hx hb d_Item_isNew_8 (by decide) ?_
    refine lv_goto (tgt := 13) hx hb d_Item_isNew_9 (by decide) ?_
    exact mm_zret (v := 1) E hr hlk eQ hZ rfl d_Item_isNew_13 ⟨_, rfl, rfl, b32_t c5⟩
set_option maxHeartbeats 4000000 in
set_option maxRecDepth 100000 in
theorem c_Item_isExpected (l : Launch) (g : mm_G) {M0 : mm_M} {a : Nat} {st : Int32} {fi la : Int64} {ro pl : Int32} {du : Int64} {lt lo : Int32} (h : M0 a = some (itc st fi la ro pl du lt lo)) : Ci l g y_Item_isExpected b_Item_isExpected 1 .boolean (rk 0 0 0 0) M0 [.ref a] (fun r M' => M' = M0 ∧ r = b32 (¬ ro = 0)) := by
  refine mm_enter (by decide) (Nat.le_of_ble_eq_true rfl) (fun pG eV s m args below meth cdx ls Q E hml hr hlk hnm hZ hl eQ => ?_)
  have hx := E.1
  have hb := E.2.1
  have hl : lv_has ls 1 [(0, .ref a)] := hl
  refine lv_aload_n hx hb d_Item_isExpected_0 rfl (lv_at hl 0 rfl) ?_
  refine mm_get E hZ cl_Item fl_Item_22 (by decide) h rfl d_Item_isExpected_1 ?_
  refine lv_if_eq (tgt := 11) hx hb d_Item_isExpected_4 (by decide) (fun c4 => ?_) (fun c4 => ?_)
  · refine lv_iconst (v := 0) hx hb d_Item_isExpected_11 (by decide) ?_
    exact mm_zret (v := 0) E hr hlk eQ hZ rfl d_Item_isExpected_12 ⟨_, rfl, rfl, b32_f (fun z => z c4)⟩
  · refine lv_iconst (v := 1) hx hb d_Item_isExpected_7 (by decide) ?_
    refine lv_goto (tgt := 12) hx hb d_Item_isExpected_8 (by decide) ?_
    exact mm_zret (v := 1) E hr hlk eQ hZ rfl d_Item_isExpected_12 ⟨_, rfl, rfl, b32_t c4⟩
set_option maxHeartbeats 4000000 in
set_option maxRecDepth 100000 in
theorem c_Item_beginAnew (l : Launch) (g : mm_G) {M0 : mm_M} {a : Nat} {st : Int32} {fi la : Int64} {ro pl : Int32} {du : Int64} {lt lo : Int32} (h : M0 a = some (itc st fi la ro pl du lt lo)) : Cv l g y_Item_beginAnew b_Item_beginAnew 1 (rk 0 0 0 0) M0 [.ref a] (fun M' => M' = mm_up M0 a (itc (-1) fi la ro pl du lt lo)) := by
  refine mm_enter (by decide) (Nat.le_of_ble_eq_true rfl) (fun pG eV s m args below meth cdx ls Q E hml hr hlk hnm hZ hl eQ => ?_)
  have hx := E.1
  have hb := E.2.1
  have hl : lv_has ls 1 [(0, .ref a)] := hl
  refine lv_aload_n hx hb d_Item_beginAnew_0 rfl (lv_at hl 0 rfl) ?_
  refine lv_iconst (v := (-1)) hx hb d_Item_beginAnew_1 (by decide) ?_
  refine mm_put E hZ cl_Item fl_Item_9 (by decide) rfl h (by decide) rfl rfl (Nat.le_of_ble_eq_true rfl) d_Item_beginAnew_2 (fun H locs hZ => ?_)
  obtain ⟨M1, eM1⟩ : ∃ zz : mm_M, zz = mm_up M0 a (ob 7 5 [.int (-1), .long fi, .long la, .int ro, .int pl, .long du, .int lt, .int lo]) := ⟨_, rfl⟩
  have hZ : mm_S g s M1 H locs := by rw [eM1]; exact hZ
  have h2 := (congrFun eM1 a).trans (mm_self _ _ _)
  exact mm_vret E hr hlk eQ hZ d_Item_beginAnew_5 ⟨rfl, eM1⟩
set_option maxHeartbeats 4000000 in
set_option maxRecDepth 100000 in
theorem c_Item_expectNothing (l : Launch) (g : mm_G) {M0 : mm_M} {a : Nat} {st : Int32} {fi la : Int64} {ro pl : Int32} {du : Int64} {lt lo : Int32} (h : M0 a = some (itc st fi la ro pl du lt lo)) : Cv l g y_Item_expectNothing b_Item_expectNothing 1 (rk 0 0 0 0) M0 [.ref a] (fun M' => M' = mm_up M0 a (itc st fi la 0 pl du 0 0)) := by
  refine mm_enter (by decide) (Nat.le_of_ble_eq_true rfl) (fun pG eV s m args below meth cdx ls Q E hml hr hlk hnm hZ hl eQ => ?_)
  have hx := E.1
  have hb := E.2.1
  have hl : lv_has ls 1 [(0, .ref a)] := hl
  refine lv_aload_n hx hb d_Item_expectNothing_0 rfl (lv_at hl 0 rfl) ?_
  refine lv_iconst (v := 0) hx hb d_Item_expectNothing_1 (by decide) ?_
  refine mm_put E hZ cl_Item fl_Item_22 (by decide) rfl h (by decide) rfl rfl (Nat.le_of_ble_eq_true rfl) d_Item_expectNothing_2 (fun H locs hZ => ?_)
  obtain ⟨M1, eM1⟩ : ∃ zz : mm_M, zz = mm_up M0 a (ob 7 5 [.int st, .long fi, .long la, .int 0, .int pl, .long du, .int lt, .int lo]) := ⟨_, rfl⟩
  have hZ : mm_S g s M1 H locs := by rw [eM1]; exact hZ
  have h2 := (congrFun eM1 a).trans (mm_self _ _ _)
  refine lv_aload_n hx hb d_Item_expectNothing_5 rfl (lv_at hl 0 rfl) ?_
  refine lv_iconst (v := 0) hx hb d_Item_expectNothing_6 (by decide) ?_
  refine mm_put E hZ cl_Item fl_Item_31 (by decide) rfl h2 (by decide) rfl rfl (Nat.le_of_ble_eq_true rfl) d_Item_expectNothing_7 (fun H locs hZ => ?_)
  obtain ⟨M3, eM3⟩ : ∃ zz : mm_M, zz = mm_up M1 a (ob 7 5 [.int st, .long fi, .long la, .int 0, .int pl, .long du, .int 0, .int lo]) := ⟨_, rfl⟩
  have hZ : mm_S g s M3 H locs := by rw [eM3]; exact hZ
  have h4 := (congrFun eM3 a).trans (mm_self _ _ _)
  refine lv_aload_n hx hb d_Item_expectNothing_10 rfl (lv_at hl 0 rfl) ?_
  refine lv_iconst (v := 0) hx hb d_Item_expectNothing_11 (by decide) ?_
  refine mm_put E hZ cl_Item fl_Item_35 (by decide) rfl h4 (by decide) rfl rfl (Nat.le_of_ble_eq_true rfl) d_Item_expectNothing_12 (fun H locs hZ => ?_)
  obtain ⟨M5, eM5⟩ : ∃ zz : mm_M, zz = mm_up M3 a (ob 7 5 [.int st, .long fi, .long la, .int 0, .int pl, .long du, .int 0, .int 0]) := ⟨_, rfl⟩
  have hZ : mm_S g s M5 H locs := by rw [eM5]; exact hZ
  have h6 := (congrFun eM5 a).trans (mm_self _ _ _)
  exact mm_vret E hr hlk eQ hZ d_Item_expectNothing_15 ⟨rfl, (by rw [eM5, eM3, eM1]; simp only [mm_uu])⟩
set_option maxHeartbeats 4000000 in
set_option maxRecDepth 100000 in
theorem c_Item_expect (l : Launch) (g : mm_G) {M0 : mm_M} {a : Nat} {st : Int32} {fi la : Int64} {ro pl : Int32} {du : Int64} {lt lo : Int32} (h : M0 a = some (itc st fi la ro pl du lt lo)) (x y : Int32) (z : Int64) : Cv l g y_Item_expect b_Item_expect 5 (rk 0 0 0 0) M0 [.ref a, .int x, .int y, .long z] (fun M' => M' = mm_up M0 a (itc st fi la x y z lt lo)) := by
  refine mm_enter (by decide) (Nat.le_of_ble_eq_true rfl) (fun pG eV s m args below meth cdx ls Q E hml hr hlk hnm hZ hl eQ => ?_)
  have hx := E.1
  have hb := E.2.1
  have hl : lv_has ls 5 [(0, .ref a), (1, .int x), (2, .int y), (3, .long z)] := hl
  refine lv_aload_n hx hb d_Item_expect_0 rfl (lv_at hl 0 rfl) ?_
  refine lv_iload_n hx hb d_Item_expect_1 rfl (lv_at hl 1 rfl) ?_
  refine mm_put E hZ cl_Item fl_Item_22 (by decide) rfl h (by decide) rfl rfl (Nat.le_of_ble_eq_true rfl) d_Item_expect_2 (fun H locs hZ => ?_)
  obtain ⟨M1, eM1⟩ : ∃ zz : mm_M, zz = mm_up M0 a (ob 7 5 [.int st, .long fi, .long la, .int x, .int pl, .long du, .int lt, .int lo]) := ⟨_, rfl⟩
  have hZ : mm_S g s M1 H locs := by rw [eM1]; exact hZ
  have h2 := (congrFun eM1 a).trans (mm_self _ _ _)
  refine lv_aload_n hx hb d_Item_expect_5 rfl (lv_at hl 0 rfl) ?_
  refine lv_iload_n hx hb d_Item_expect_6 rfl (lv_at hl 2 rfl) ?_
  refine mm_put E hZ cl_Item fl_Item_25 (by decide) rfl h2 (by decide) rfl rfl (Nat.le_of_ble_eq_true rfl) d_Item_expect_7 (fun H locs hZ => ?_)
  obtain ⟨M3, eM3⟩ : ∃ zz : mm_M, zz = mm_up M1 a (ob 7 5 [.int st, .long fi, .long la, .int x, .int y, .long du, .int lt, .int lo]) := ⟨_, rfl⟩
  have hZ : mm_S g s M3 H locs := by rw [eM3]; exact hZ
  have h4 := (congrFun eM3 a).trans (mm_self _ _ _)
  refine lv_aload_n hx hb d_Item_expect_10 rfl (lv_at hl 0 rfl) ?_
  refine lv_lload_n hx hb d_Item_expect_11 rfl (lv_at hl 3 rfl) ?_
  refine mm_put E hZ cl_Item fl_Item_28 (by decide) rfl h4 (by decide) rfl rfl (Nat.le_of_ble_eq_true rfl) d_Item_expect_12 (fun H locs hZ => ?_)
  obtain ⟨M5, eM5⟩ : ∃ zz : mm_M, zz = mm_up M3 a (ob 7 5 [.int st, .long fi, .long la, .int x, .int y, .long z, .int lt, .int lo]) := ⟨_, rfl⟩
  have hZ : mm_S g s M5 H locs := by rw [eM5]; exact hZ
  have h6 := (congrFun eM5 a).trans (mm_self _ _ _)
  exact mm_vret E hr hlk eQ hZ d_Item_expect_15 ⟨rfl, (by rw [eM5, eM3, eM1]; simp only [mm_uu])⟩
set_option maxHeartbeats 4000000 in
set_option maxRecDepth 100000 in
theorem c_Item_toldState (l : Launch) (g : mm_G) {M0 : mm_M} {a : Nat} {st : Int32} {fi la : Int64} {ro pl : Int32} {du : Int64} {lt lo : Int32} (h : M0 a = some (itc st fi la ro pl du lt lo)) : Ci l g y_Item_toldState b_Item_toldState 1 .int (rk 0 0 0 0) M0 [.ref a] (fun r M' => M' = M0 ∧ r = if ¬ lo = 0 then st + 200 else if ¬ lt = 0 then st + 100 else st) := by
  refine mm_enter (by decide) (Nat.le_of_ble_eq_true rfl) (fun pG eV s m args below meth cdx ls Q E hml hr hlk hnm hZ hl eQ => ?_)
  have hx := E.1
  have hb := E.2.1
  have hl : lv_has ls 1 [(0, .ref a)] := hl
  refine lv_aload_n hx hb d_Item_toldState_0 rfl (lv_at hl 0 rfl) ?_
  refine mm_get E hZ cl_Item fl_Item_35 (by decide) h rfl d_Item_toldState_1 ?_
  refine lv_if_eq (tgt := 16) hx hb d_Item_toldState_4 (by decide) (fun c4 => ?_) (fun c4 => ?_)
  · refine lv_aload_n hx hb d_Item_toldState_16 rfl (lv_at hl 0 rfl) ?_
    refine mm_get E hZ cl_Item fl_Item_31 (by decide) h rfl d_Item_toldState_17 ?_
    refine lv_if_eq (tgt := 33) hx hb d_Item_toldState_20 (by decide) (fun c20 => ?_) (fun c20 => ?_)
    · refine lv_aload_n hx hb d_Item_toldState_33 rfl (lv_at hl 0 rfl) ?_
      refine mm_get E hZ cl_Item fl_Item_9 (by decide) h rfl d_Item_toldState_34 ?_
      exact mm_iret (v := st) E hr hlk eQ hZ d_Item_toldState_37 ⟨_, rfl, rfl, by rw [if_neg (fun q => q c4), if_neg (fun q => q c20)]⟩
    · refine lv_aload_n hx hb d_Item_toldState_23 rfl (lv_at hl 0 rfl) ?_
      refine mm_get E hZ cl_Item fl_Item_9 (by decide) h rfl d_Item_toldState_24 ?_
      refine lv_bipush (v := 100) hx hb d_Item_toldState_27 (by decide) ?_
      refine lv_iadd hx hb d_Item_toldState_29 ?_
      refine lv_goto (tgt := 37) hx hb d_Item_toldState_30 (by decide) ?_
      exact mm_iret (v := st + 100) E hr hlk eQ hZ d_Item_toldState_37 ⟨_, rfl, rfl, by rw [if_neg (fun q => q c4), if_pos c20]⟩
  · refine lv_aload_n hx hb d_Item_toldState_7 rfl (lv_at hl 0 rfl) ?_
    refine mm_get E hZ cl_Item fl_Item_9 (by decide) h rfl d_Item_toldState_8 ?_
    refine lv_sipush (v := 200) hx hb d_Item_toldState_11 (by decide) ?_
    refine lv_iadd hx hb d_Item_toldState_14 ?_
    exact mm_iret (v := st + 200) E hr hlk eQ hZ d_Item_toldState_15 ⟨_, rfl, rfl, by rw [if_pos c4]⟩
set_option maxHeartbeats 4000000 in
set_option maxRecDepth 100000 in
theorem c_Item_mayComeAt (l : Launch) (g : mm_G) {M0 : mm_M} {a : Nat} {st : Int32} {fi la : Int64} {ro pl : Int32} {du : Int64} {lt lo : Int32} (h : M0 a = some (itc st fi la ro pl du lt lo)) (t : Int64) : Ci l g y_Item_mayComeAt b_Item_mayComeAt 3 .boolean (rk 1 20 0 0) M0 [.ref a, .long t] (fun r M' => M' = M0 ∧ r = b32 (0 ≤ t ∧ t ≤ 1000000000 ∧ (st = (-1) ∨ la ≤ t))) := by
  refine mm_enter (by decide) (Nat.le_of_ble_eq_true rfl) (fun pG eV s m args below meth cdx ls Q E hml hr hlk hnm hZ hl eQ => ?_)
  have hx := E.1
  have hb := E.2.1
  have hl : lv_has ls 3 [(0, .ref a), (1, .long t)] := hl
  refine lv_lload_n hx hb d_Item_mayComeAt_0 rfl (lv_at hl 1 rfl) ?_
  refine lv_lconst (v := 0) hx hb d_Item_mayComeAt_1 (by decide) ?_
  refine W.lcmp hx hb d_Item_mayComeAt_2 ?_
  refine lv_if_lt (tgt := 34) hx hb d_Item_mayComeAt_3 (by decide) (fun c3 => ?_) (fun c3 => ?_)
  · have c3 := (lg_cmp_lt _ _).mp c3
    refine lv_iconst (v := 0) hx hb d_Item_mayComeAt_34 (by decide) ?_
    exact mm_zret (v := 0) E hr hlk eQ hZ rfl d_Item_mayComeAt_35 ⟨_, rfl, rfl, b32_f (fun z => absurd z.1 (Int64.not_le.mpr c3))⟩
  · have c3 := mt (lg_cmp_lt _ _).mpr c3
    refine lv_lload_n hx hb d_Item_mayComeAt_6 rfl (lv_at hl 1 rfl) ?_
    refine lv_ldc2 (v := 1000000000) hx hb E.2.2.1 (E.2.2.2.1 _ w_311) d_Item_mayComeAt_7 ?_
    refine W.lcmp hx hb d_Item_mayComeAt_10 ?_
    refine lv_if_gt (tgt := 34) hx hb d_Item_mayComeAt_11 (by decide) (fun c11 => ?_) (fun c11 => ?_)
    · have c11 := (lg_cmp_gt _ _).mp c11
      refine lv_iconst (v := 0) hx hb d_Item_mayComeAt_34 (by decide) ?_
      exact mm_zret (v := 0) E hr hlk eQ hZ rfl d_Item_mayComeAt_35 ⟨_, rfl, rfl, b32_f (fun z => absurd z.2.1 (Int64.not_le.mpr c11))⟩
    · have c11 := mt (lg_cmp_gt _ _).mpr c11
      refine lv_aload_n hx hb d_Item_mayComeAt_14 rfl (lv_at hl 0 rfl) ?_
      refine mm_calli (mm_runV (As := []) (rest := []) E hZ hml hl.1 lk_Item_40 me_Item_isNew in_Item_isNew (c_Item_isNew l g h) h cl_Item.1 ⟨Nat.le_of_ble_eq_true rfl, Nat.le_of_ble_eq_true rfl⟩ rfl (Nat.le_of_ble_eq_true rfl) d_Item_mayComeAt_15 ⟨Nat.le_of_ble_eq_true rfl, Nat.le_of_ble_eq_true rfl⟩) hZ (fun r1 M1 H locs hp hZ => ?_)
      rw [hp.1] at hZ
      replace hp := hp.2
      refine lv_if_ne (tgt := 30) hx hb d_Item_mayComeAt_18 (by decide) (fun c18 => ?_) (fun c18 => ?_)
      · refine lv_iconst (v := 1) hx hb d_Item_mayComeAt_30 (by decide) ?_
        refine lv_goto (tgt := 35) hx hb d_Item_mayComeAt_31 (by decide) ?_
        exact mm_zret (v := 1) E hr hlk eQ hZ rfl d_Item_mayComeAt_35 ⟨_, rfl, rfl, b32_t ⟨Int64.not_lt.mp c3, Int64.not_lt.mp c11, Or.inl (b32_ne0 (hp ▸ c18))⟩⟩
      · refine lv_lload_n hx hb d_Item_mayComeAt_21 rfl (lv_at hl 1 rfl) ?_
        refine lv_aload_n hx hb d_Item_mayComeAt_22 rfl (lv_at hl 0 rfl) ?_
        refine mm_get E hZ cl_Item fl_Item_19 (by decide) h rfl d_Item_mayComeAt_23 ?_
        refine W.lcmp hx hb d_Item_mayComeAt_26 ?_
        refine lv_if_lt (tgt := 34) hx hb d_Item_mayComeAt_27 (by decide) (fun c27 => ?_) (fun c27 => ?_)
        · have c27 := (lg_cmp_lt _ _).mp c27
          refine lv_iconst (v := 0) hx hb d_Item_mayComeAt_34 (by decide) ?_
          exact mm_zret (v := 0) E hr hlk eQ hZ rfl d_Item_mayComeAt_35 ⟨_, rfl, rfl, b32_f (fun z => z.2.2.elim (b32_eq0.mp (hp ▸ c18)) (Int64.not_le.mpr c27))⟩
        · have c27 := mt (lg_cmp_lt _ _).mpr c27
          refine lv_iconst (v := 1) hx hb d_Item_mayComeAt_30 (by decide) ?_
          refine lv_goto (tgt := 35) hx hb d_Item_mayComeAt_31 (by decide) ?_
          exact mm_zret (v := 1) E hr hlk eQ hZ rfl d_Item_mayComeAt_35 ⟨_, rfl, rfl, b32_t ⟨Int64.not_lt.mp c3, Int64.not_lt.mp c11, Or.inr (Int64.not_lt.mp c27)⟩⟩
set_option maxHeartbeats 4000000 in
set_option maxRecDepth 100000 in
theorem c_Item_takeEvent (l : Launch) (g : mm_G) {M0 : mm_M} {a : Nat} {st : Int32} {fi la : Int64} {ro pl : Int32} {du : Int64} {lt lo : Int32} (h : M0 a = some (itc st fi la ro pl du lt lo)) (x : Int32) (t : Int64) : Cv l g y_Item_takeEvent b_Item_takeEvent 4 (rk 1 20 0 0) M0 [.ref a, .int x, .long t] (fun M' => M' = mm_up M0 a (itc x (if st = (-1) then t else fi) t ro pl du lt lo)) := by
  refine mm_enter (by decide) (Nat.le_of_ble_eq_true rfl) (fun pG eV s m args below meth cdx ls Q E hml hr hlk hnm hZ hl eQ => ?_)
  have hx := E.1
  have hb := E.2.1
  have hl : lv_has ls 4 [(0, .ref a), (1, .int x), (2, .long t)] := hl
  refine lv_aload_n hx hb d_Item_takeEvent_0 rfl (lv_at hl 0 rfl) ?_
  refine mm_calli (mm_runV (As := []) (rest := []) E hZ hml hl.1 lk_Item_40 me_Item_isNew in_Item_isNew (c_Item_isNew l g h) h cl_Item.1 ⟨Nat.le_of_ble_eq_true rfl, Nat.le_of_ble_eq_true rfl⟩ rfl (Nat.le_of_ble_eq_true rfl) d_Item_takeEvent_1 ⟨Nat.le_of_ble_eq_true rfl, Nat.le_of_ble_eq_true rfl⟩) hZ (fun r1 M1 H locs hp hZ => ?_)
  rw [hp.1] at hZ
  replace hp := hp.2
  refine lv_if_eq (tgt := 12) hx hb d_Item_takeEvent_4 (by decide) (fun c4 => ?_) (fun c4 => ?_)
  · refine lv_aload_n hx hb d_Item_takeEvent_12 rfl (lv_at hl 0 rfl) ?_
    refine lv_iload_n hx hb d_Item_takeEvent_13 rfl (lv_at hl 1 rfl) ?_
    refine mm_put E hZ cl_Item fl_Item_9 (by decide) rfl h (by decide) rfl rfl (Nat.le_of_ble_eq_true rfl) d_Item_takeEvent_14 (fun H locs hZ => ?_)
    obtain ⟨M2, eM2⟩ : ∃ zz : mm_M, zz = mm_up M0 a (ob 7 5 [.int x, .long fi, .long la, .int ro, .int pl, .long du, .int lt, .int lo]) := ⟨_, rfl⟩
    have hZ : mm_S g s M2 H locs := by rw [eM2]; exact hZ
    have h3 := (congrFun eM2 a).trans (mm_self _ _ _)
    refine lv_aload_n hx hb d_Item_takeEvent_17 rfl (lv_at hl 0 rfl) ?_
    refine lv_lload_n hx hb d_Item_takeEvent_18 rfl (lv_at hl 2 rfl) ?_
    refine mm_put E hZ cl_Item fl_Item_19 (by decide) rfl h3 (by decide) rfl rfl (Nat.le_of_ble_eq_true rfl) d_Item_takeEvent_19 (fun H locs hZ => ?_)
    obtain ⟨M4, eM4⟩ : ∃ zz : mm_M, zz = mm_up M2 a (ob 7 5 [.int x, .long fi, .long t, .int ro, .int pl, .long du, .int lt, .int lo]) := ⟨_, rfl⟩
    have hZ : mm_S g s M4 H locs := by rw [eM4]; exact hZ
    have h5 := (congrFun eM4 a).trans (mm_self _ _ _)
    exact mm_vret E hr hlk eQ hZ d_Item_takeEvent_22 ⟨rfl, by rw [if_neg (b32_eq0.mp (hp ▸ c4))]; exact (by rw [eM4, eM2]; simp only [mm_uu])⟩
  · refine lv_aload_n hx hb d_Item_takeEvent_7 rfl (lv_at hl 0 rfl) ?_
    refine lv_lload_n hx hb d_Item_takeEvent_8 rfl (lv_at hl 2 rfl) ?_
    refine mm_put E hZ cl_Item fl_Item_15 (by decide) rfl h (by decide) rfl rfl (Nat.le_of_ble_eq_true rfl) d_Item_takeEvent_9 (fun H locs hZ => ?_)
    obtain ⟨M6, eM6⟩ : ∃ zz : mm_M, zz = mm_up M0 a (ob 7 5 [.int st, .long t, .long la, .int ro, .int pl, .long du, .int lt, .int lo]) := ⟨_, rfl⟩
    have hZ : mm_S g s M6 H locs := by rw [eM6]; exact hZ
    have h7 := (congrFun eM6 a).trans (mm_self _ _ _)
    refine lv_aload_n hx hb d_Item_takeEvent_12 rfl (lv_at hl 0 rfl) ?_
    refine lv_iload_n hx hb d_Item_takeEvent_13 rfl (lv_at hl 1 rfl) ?_
    refine mm_put E hZ cl_Item fl_Item_9 (by decide) rfl h7 (by decide) rfl rfl (Nat.le_of_ble_eq_true rfl) d_Item_takeEvent_14 (fun H locs hZ => ?_)
    obtain ⟨M8, eM8⟩ : ∃ zz : mm_M, zz = mm_up M6 a (ob 7 5 [.int x, .long t, .long la, .int ro, .int pl, .long du, .int lt, .int lo]) := ⟨_, rfl⟩
    have hZ : mm_S g s M8 H locs := by rw [eM8]; exact hZ
    have h9 := (congrFun eM8 a).trans (mm_self _ _ _)
    refine lv_aload_n hx hb d_Item_takeEvent_17 rfl (lv_at hl 0 rfl) ?_
    refine lv_lload_n hx hb d_Item_takeEvent_18 rfl (lv_at hl 2 rfl) ?_
    refine mm_put E hZ cl_Item fl_Item_19 (by decide) rfl h9 (by decide) rfl rfl (Nat.le_of_ble_eq_true rfl) d_Item_takeEvent_19 (fun H locs hZ => ?_)
    obtain ⟨M10, eM10⟩ : ∃ zz : mm_M, zz = mm_up M8 a (ob 7 5 [.int x, .long t, .long t, .int ro, .int pl, .long du, .int lt, .int lo]) := ⟨_, rfl⟩
    have hZ : mm_S g s M10 H locs := by rw [eM10]; exact hZ
    have h11 := (congrFun eM10 a).trans (mm_self _ _ _)
    exact mm_vret E hr hlk eQ hZ d_Item_takeEvent_22 ⟨rfl, by rw [if_pos (b32_ne0 (hp ▸ c4))]; exact (by rw [eM10, eM8, eM6]; simp only [mm_uu])⟩
set_option maxHeartbeats 4000000 in
set_option maxRecDepth 100000 in
theorem c_Item_daysUntil (l : Launch) (g : mm_G) {M0 : mm_M} {a : Nat} {st : Int32} {fi la : Int64} {ro pl : Int32} {du : Int64} {lt lo : Int32} (h : M0 a = some (itc st fi la ro pl du lt lo)) (t : Int64) : Ci l g y_Item_daysUntil b_Item_daysUntil 3 .int (rk 1 20 0 0) M0 [.ref a, .long t] (fun r M' => M' = M0 ∧ r = if st = (-1) then 0 else ((t - fi) / 86400).toInt32) := by
  refine mm_enter (by decide) (Nat.le_of_ble_eq_true rfl) (fun pG eV s m args below meth cdx ls Q E hml hr hlk hnm hZ hl eQ => ?_)
  have hx := E.1
  have hb := E.2.1
  have hl : lv_has ls 3 [(0, .ref a), (1, .long t)] := hl
  refine lv_aload_n hx hb d_Item_daysUntil_0 rfl (lv_at hl 0 rfl) ?_
  refine mm_calli (mm_runV (As := []) (rest := []) E hZ hml hl.1 lk_Item_40 me_Item_isNew in_Item_isNew (c_Item_isNew l g h) h cl_Item.1 ⟨Nat.le_of_ble_eq_true rfl, Nat.le_of_ble_eq_true rfl⟩ rfl (Nat.le_of_ble_eq_true rfl) d_Item_daysUntil_1 ⟨Nat.le_of_ble_eq_true rfl, Nat.le_of_ble_eq_true rfl⟩) hZ (fun r1 M1 H locs hp hZ => ?_)
  rw [hp.1] at hZ
  replace hp := hp.2
  refine lv_if_eq (tgt := 11) hx hb d_Item_daysUntil_4 (by decide) (fun c4 => ?_) (fun c4 => ?_)
  · refine lv_lload_n hx hb d_Item_daysUntil_11 rfl (lv_at hl 1 rfl) ?_
    refine lv_aload_n hx hb d_Item_daysUntil_12 rfl (lv_at hl 0 rfl) ?_
    refine mm_get E hZ cl_Item fl_Item_15 (by decide) h rfl d_Item_daysUntil_13 ?_
    refine lv_lsub hx hb d_Item_daysUntil_16 ?_
    refine lv_ldc2 (v := 86400) hx hb E.2.2.1 (E.2.2.2.1 _ w_324) d_Item_daysUntil_17 ?_
    refine lv_ldiv hx hb d_Item_daysUntil_20 (by decide) ?_
    refine lv_l2i hx hb d_Item_daysUntil_21 rfl ?_
    exact mm_iret (v := ((t - fi) / 86400).toInt32) E hr hlk eQ hZ d_Item_daysUntil_22 ⟨_, rfl, rfl, by rw [if_neg (b32_eq0.mp (hp ▸ c4))]⟩
  · refine lv_iconst (v := 0) hx hb d_Item_daysUntil_7 (by decide) ?_
    refine lv_goto (tgt := 22) hx hb d_Item_daysUntil_8 (by decide) ?_
    exact mm_iret (v := 0) E hr hlk eQ hZ d_Item_daysUntil_22 ⟨_, rfl, rfl, by rw [if_pos (b32_ne0 (hp ▸ c4))]⟩
end
section
/-! THE CLASS: HolidayList; Math's max and min -/
def Hl (g : mm_G) (M : mm_M) (h da c : Nat) (f : Nat → Int64) : Prop := M h = some (ob 3 4 [.ref da, .int (nI c)]) ∧ M da = some (al 15 (g.2.2 1) 100 f)
theorem nI_m1 {n : Nat} (h : 0 < n) : nI n - 1 = nI (n - 1) := by
  have k := pk_sub (a := n) (b := 1) h
  exact k
/-- x comes into the first c of f, behind all that are not above it -/
def insL {α : Type} [LT α] [LE α] (f f' : Nat → α) (c : Nat) (x : α) : Prop := ∃ p, p ≤ c ∧ (∀ i, i < p → f' i = f i) ∧ f' p = x ∧ (∀ i, p ≤ i → i < c → f' (i + 1) = f i ∧ x < f i) ∧ (p = 0 ∨ f (p - 1) ≤ x)
def mxl (x y : Int64) : Int64 := if y < x then x else y
/-- the due time when i holidays were looked at -/
def dA (f : Nat → Int64) (t w : Int64) : Nat → Int64
  | 0 => t + w
  | i + 1 => if mxl (f i * 86400) t < f i * 86400 + 86400 ∧ mxl (f i * 86400) t < dA f t w i then dA f t w i + (f i * 86400 + 86400 - mxl (f i * 86400) t) else dA f t w i
theorem mm_max {p : Program} {l : Launch} {e : Env} {R : Room} {s : State} {m : MethodId} {args : Array Value} {below : List Frame} {meth : Method} {c : Code} {H : Heap} {locs : List Loc} {cells slots : Nat} {Q : State → Prop} {cc : ByteArray} {pc : Nat} {ls : Array Slot} {rest : List Value} {g : mm_G} {own : String} (E : mm_C g p s m args c cc own) {nL : Nat} (hml : c.maxLocals = nL) (hsz : ls.size = nL) {index : Nat} (hL : Cond.methodLink own index y_Math_max ∈ GW) (hf : 1 ≤ R.frames) (hl : (rest.map fun v => v.category).sum + 13 ≤ R.locals) (hc : cells ≤ R.cells) (hs : slots ≤ R.slots) {x y : Int32} (hdg : decode cc pc = .ok (.invokestatic index, 3))
    (kk : W p l e R s m args below meth c H locs cells slots Q (F0 m (pc + 3) ls (.int (if x < y then y else x) :: rest))) : W p l e R s m args below meth c H locs cells slots Q (F0 m pc ls (.int y :: .int x :: rest)) :=
  va_mmax E.1 E.2.1 (hml.trans hsz.symm) E.2.2.1 (E.2.2.2.1 _ hL) (E.2.2.2.1 _ st_Math_max) (E.2.2.2.1 _ w_14) (E.2.2.2.1 _ (show Cond.code Lib.Math.max.name Lib.Math.max.code 2 (some .int) ∈ GW from w_262)) hf hl hc hs hdg kk
theorem mm_min {p : Program} {l : Launch} {e : Env} {R : Room} {s : State} {m : MethodId} {args : Array Value} {below : List Frame} {meth : Method} {c : Code} {H : Heap} {locs : List Loc} {cells slots : Nat} {Q : State → Prop} {cc : ByteArray} {pc : Nat} {ls : Array Slot} {rest : List Value} {g : mm_G} {own : String} (E : mm_C g p s m args c cc own) {nL : Nat} (hml : c.maxLocals = nL) (hsz : ls.size = nL) {index : Nat} (hL : Cond.methodLink own index y_Math_min ∈ GW) (hf : 1 ≤ R.frames) (hl : (rest.map fun v => v.category).sum + 13 ≤ R.locals) (hc : cells ≤ R.cells) (hs : slots ≤ R.slots) {x y : Int32} (hdg : decode cc pc = .ok (.invokestatic index, 3))
    (kk : W p l e R s m args below meth c H locs cells slots Q (F0 m (pc + 3) ls (.int (if y < x then y else x) :: rest))) : W p l e R s m args below meth c H locs cells slots Q (F0 m pc ls (.int y :: .int x :: rest)) :=
  va_mmin E.1 E.2.1 (hml.trans hsz.symm) E.2.2.1 (E.2.2.2.1 _ hL) (E.2.2.2.1 _ st_Math_min) (E.2.2.2.1 _ w_14) (E.2.2.2.1 _ (show Cond.code Lib.Math.min.name Lib.Math.min.code 2 (some .int) ∈ GW from w_294)) hf hl hc hs hdg kk
theorem mm_maxl {p : Program} {l : Launch} {e : Env} {R : Room} {s : State} {m : MethodId} {args : Array Value} {below : List Frame} {meth : Method} {c : Code} {H : Heap} {locs : List Loc} {cells slots : Nat} {Q : State → Prop} {cc : ByteArray} {pc : Nat} {ls : Array Slot} {rest : List Value} {g : mm_G} {own : String} (E : mm_C g p s m args c cc own) {nL : Nat} (hml : c.maxLocals = nL) (hsz : ls.size = nL) {index : Nat} (hL : Cond.methodLink own index y_Math_maxl ∈ GW) (hf : 1 ≤ R.frames) (hl : (rest.map fun v => v.category).sum + 15 ≤ R.locals) (hc : cells ≤ R.cells) (hs : slots ≤ R.slots) {x y : Int64} (hdg : decode cc pc = .ok (.invokestatic index, 3))
    (kk : W p l e R s m args below meth c H locs cells slots Q (F0 m (pc + 3) ls (.long (mxl x y) :: rest))) : W p l e R s m args below meth c H locs cells slots Q (F0 m pc ls (.long y :: .long x :: rest)) :=
  va_mmax_long E.1 E.2.1 (hml.trans hsz.symm) E.2.2.1 (E.2.2.2.1 _ hL) (E.2.2.2.1 _ st_Math_maxl) (E.2.2.2.1 _ w_14) (E.2.2.2.1 _ (show Cond.code Lib.MathLoose.max_long.x Lib.MathLoose.max_long.code 4 (some .long) ∈ GW from w_374)) hf hl hc hs hdg kk
set_option maxHeartbeats 4000000 in
set_option maxRecDepth 100000 in
theorem c_Holi_init (l : Launch) (g : mm_G) {M0 : mm_M} {h : Nat} (h0 : M0 h = some (ob 3 4 [.null, .int 0])) : Cv l g y_Holi_init b_Holi_init 1 (rk 1 20 1 100) M0 [.ref h] (fun M' => ∃ da, Hl g M' h da 0 (fun _ => 0) ∧ ∀ t, t ≠ 3 → t ≠ 15 → mm_same t M0 M') := by
  refine mm_enter (by decide) (Nat.le_of_ble_eq_true rfl) (fun pG eV s m args below meth cdx ls Q E hml hr hlk hnm hZ hl eQ => ?_)
  have hx := E.1
  have hb := E.2.1
  have hl : lv_has ls 1 [(0, .ref h)] := hl
  refine lv_aload_n hx hb d_Holi_init_0 rfl (lv_at hl 0 rfl) ?_
  refine mm_objI E hml hl.1 w_76 w_30 w_31 (Nat.le_of_ble_eq_true rfl) (Nat.le_of_ble_eq_true rfl) d_Holi_init_1 ?_
  refine lv_aload_n hx hb d_Holi_init_4 rfl (lv_at hl 0 rfl) ?_
  refine lv_bipush (v := 100) hx hb d_Holi_init_5 (by decide) ?_
  refine mm_newl 15 (t0 := 1) (cA := g.2.2 1) (N := 100) E hZ rfl w_84 (by decide) (by decide) (by decide) (Nat.le_of_ble_eq_true rfl) (Nat.le_of_ble_eq_true rfl) d_Holi_init_7 (fun da H hB hN hZ => ?_)
  obtain ⟨Ma, eMa⟩ : ∃ zz : mm_M, zz = mm_up M0 da (al 15 (g.2.2 1) 100 (fun _ => 0)) := ⟨_, rfl⟩
  have hZ : mm_S g s Ma H [] := by rw [eMa]; exact hZ
  have h1 := (congrFun eMa h).trans ((mm_ne _ _ (mm_apartN h0 hN)).trans h0)
  have h2 := (congrFun eMa da).trans (mm_self _ _ _)
  refine mm_putF (k := 0) E hnm hZ cl_Holi w_77 (by decide) rfl rfl h1 (by decide) rfl rfl (Nat.le_of_ble_eq_true rfl) d_Holi_init_9 (fun H locs hZ => ?_)
  obtain ⟨M3, eM3⟩ : ∃ zz : mm_M, zz = mm_up Ma h (ob 3 4 [.ref da, .int 0]) := ⟨_, rfl⟩
  have hZ : mm_S g s M3 H locs := by rw [eM3]; exact hZ
  have h4 := (congrFun eM3 da).trans ((mm_ne _ _ (mm_tag h2 h1 (by decide))).trans h2)
  have h5 := (congrFun eM3 h).trans (mm_self _ _ _)
  refine lv_aload_n hx hb d_Holi_init_12 rfl (lv_at hl 0 rfl) ?_
  refine lv_iconst (v := 0) hx hb d_Holi_init_13 (by decide) ?_
  refine mm_put E hZ cl_Holi fl_Holi_15 (by decide) rfl h5 (by decide) rfl rfl (Nat.le_of_ble_eq_true rfl) d_Holi_init_14 (fun H locs hZ => ?_)
  obtain ⟨M6, eM6⟩ : ∃ zz : mm_M, zz = mm_up M3 h (ob 3 4 [.ref da, .int 0]) := ⟨_, rfl⟩
  have hZ : mm_S g s M6 H locs := by rw [eM6]; exact hZ
  have h7 := (congrFun eM6 da).trans ((mm_ne _ _ (mm_tag h4 h5 (by decide))).trans h4)
  have h8 := (congrFun eM6 h).trans (mm_self _ _ _)
  exact mm_vret E hr hlk eQ hZ d_Holi_init_17 ⟨rfl, da, ⟨h8, h7⟩, fun t h3 h15 => by
    rw [eM6, eM3, eMa]
    exact (mm_same.new hN _).tr ((mm_same.up ((mm_ne _ _ (mm_apartN h0 hN)).trans h0) h3 _).tr (mm_same.up (mm_self _ _ _) h3 _))⟩
set_option maxHeartbeats 4000000 in
set_option maxRecDepth 100000 in
theorem c_Holi_holds (l : Launch) (g : mm_G) {M0 : mm_M} {h da c : Nat} {f : Nat → Int64} (h0 : Hl g M0 h da c f) (hc : c ≤ 100) (x : Int64) : Ci l g y_Holi_holds b_Holi_holds 4 .boolean (rk 0 0 0 0) M0 [.ref h, .long x] (fun r M' => M' = M0 ∧ bo r ∧ (¬ r = 0 ↔ ∃ j, j < c ∧ f j = x)) := by
  refine mm_enter (by decide) (Nat.le_of_ble_eq_true rfl) (fun pG eV s m args below meth cdx ls Q E hml hr hlk hnm hZ hl eQ => ?_)
  have hx := E.1
  have hb := E.2.1
  have hl : lv_has ls 4 [(0, .ref h), (1, .long x)] := hl
  have hh := h0.1
  have hd := h0.2
  refine lv_iconst (v := 0) hx hb d_Holi_holds_0 (by decide) ?_
  refine lv_istore_n (lv' := [(3, .int 0), (0, .ref h), (1, .long x)]) hx hb d_Holi_holds_1 rfl hl (by decide) rfl (fun ls hl => ?_)
  have loop : ∀ (n : Nat) (i : Nat) (ls : Array Slot), i ≤ c → (∀ j, j < i → ¬ f j = x) → c + 1 ≤ i + n → lv_has ls 4 [(0, .ref h), (1, .long x), (3, .int (nI i))] → W pG l eV (rk 0 0 0 0) s m args below meth cdx s.heap [] 0 0 Q (F0 m 2 ls []) := by
    intro n
    induction n with
    | zero => exact fun i ls hi1 hno hfu _ => absurd hfu (by omega)
    | succ n ih =>
      intro i ls hi1 hno hfu hl
      refine lv_iload_n hx hb d_Holi_holds_2 rfl (lv_at hl 2 rfl) ?_
      refine lv_aload_n hx hb d_Holi_holds_3 rfl (lv_at hl 0 rfl) ?_
      refine mm_get E hZ cl_Holi fl_Holi_15 (by decide) hh rfl d_Holi_holds_4 ?_
      refine lv_icmp_ge (tgt := 29) hx hb d_Holi_holds_7 (by decide) (fun c7 => ?_) (fun c7 => ?_)
      · have hi2 : i = c := by
          rcases Nat.lt_or_ge i c with z | z
          · exact absurd c7 (nI_ge z (by omega))
          · omega
        rw [hi2] at hno
        refine lv_iconst (v := 0) hx hb d_Holi_holds_29 (by decide) ?_
        exact mm_zret (v := 0) E hr hlk eQ hZ rfl d_Holi_holds_30 ⟨_, rfl, rfl, bo_0, ⟨fun z => absurd rfl z, fun ⟨j, z1, z2⟩ => absurd z2 (hno j z1)⟩⟩
      · have hi2 : i < c := by
          rcases Nat.lt_or_ge i c with z | z
          · exact z
          · exact absurd (nI_le z (by omega)) c7
        refine lv_aload_n hx hb d_Holi_holds_10 rfl (lv_at hl 0 rfl) ?_
        refine mm_get E hZ cl_Holi fl_Holi_9 (by decide) hh rfl d_Holi_holds_11 ?_
        refine lv_iload_n hx hb d_Holi_holds_14 rfl (lv_at hl 2 rfl) ?_
        refine mm_lald (t0 := 1) E hZ hd rfl rfl (show i < 100 by omega) (by decide) d_Holi_holds_15 ?_
        refine lv_lload_n hx hb d_Holi_holds_16 rfl (lv_at hl 1 rfl) ?_
        refine W.lcmp hx hb d_Holi_holds_17 ?_
        refine lv_if_ne (tgt := 23) hx hb d_Holi_holds_18 (by decide) (fun c18 => ?_) (fun c18 => ?_)
        · have c18 := mt (lg_cmp_eq _ _).mpr c18
          refine lv_iinc (v := (nI i) + 1) (lv' := [(3, .int ((nI i) + 1)), (0, .ref h), (1, .long x)]) hx hb d_Holi_holds_23 hl (k := 2) rfl rfl (by decide) rfl (fun ls hl => ?_)
          refine lv_goto (tgt := 2) hx hb d_Holi_holds_26 (by decide) ?_
          rw [nI_1] at hl
          exact ih (i + 1) ls (by omega) (fun j z => by
            rcases Nat.lt_or_ge j i with y | y
            · exact hno j y
            · rw [show j = i by omega]; exact c18) (by omega) (lv_sub hl [1, 2, 0] rfl)
        · have c18 := (lg_cmp_eq _ _).mp c18
          refine lv_iconst (v := 1) hx hb d_Holi_holds_21 (by decide) ?_
          exact mm_zret (v := 1) E hr hlk eQ hZ rfl d_Holi_holds_22 ⟨_, rfl, rfl, bo_1, ⟨fun _ => ⟨i, hi2, c18⟩, fun _ => by decide⟩⟩
  exact loop (c + 1) 0 ls (Nat.zero_le _) (fun j z => absurd z (Nat.not_lt_zero j)) (by omega) (lv_sub hl [1, 2, 0] rfl)
set_option maxHeartbeats 4000000 in
set_option maxRecDepth 100000 in
theorem c_Holi_addDay (l : Launch) (g : mm_G) {M0 : mm_M} {h da c : Nat} {f : Nat → Int64} (h0 : Hl g M0 h da c f) (hc : c ≤ 100) (x : Int64) : Ci l g y_Holi_addDay b_Holi_addDay 4 .int (rk 1 23 0 0) M0 [.ref h, .long x] (fun r M' => ((∃ j, j < c ∧ f j = x) ∧ r = 0 ∧ M' = M0) ∨ ((¬ ∃ j, j < c ∧ f j = x) ∧ 100 ≤ c ∧ r = (-104) ∧ M' = M0) ∨ ((¬ ∃ j, j < c ∧ f j = x) ∧ c < 100 ∧ r = 1 ∧ ∃ f', Hl g M' h da (c + 1) f' ∧ insL f f' c x ∧ ∀ t, t ≠ 3 → t ≠ 15 → mm_same t M0 M')) := by
  refine mm_enter (by decide) (Nat.le_of_ble_eq_true rfl) (fun pG eV s m args below meth cdx ls Q E hml hr hlk hnm hZ hl eQ => ?_)
  have hx := E.1
  have hb := E.2.1
  have hl : lv_has ls 4 [(0, .ref h), (1, .long x)] := hl
  have hh := h0.1
  have hd := h0.2
  refine lv_aload_n hx hb d_Holi_addDay_0 rfl (lv_at hl 0 rfl) ?_
  refine lv_lload_n hx hb d_Holi_addDay_1 rfl (lv_at hl 1 rfl) ?_
  refine mm_calli (mm_runV (As := [.long x]) (rest := []) E hZ hml hl.1 lk_Holi_19 me_Holi_holds in_Holi_holds (c_Holi_holds l g h0 hc x) hh cl_Holi.1 ⟨Nat.le_of_ble_eq_true rfl, Nat.le_of_ble_eq_true rfl⟩ rfl (Nat.le_of_ble_eq_true rfl) d_Holi_addDay_2 ⟨Nat.le_of_ble_eq_true rfl, Nat.le_of_ble_eq_true rfl⟩) hZ (fun r1 M1 H locs hp hZ => ?_)
  rw [hp.1] at hZ
  replace hp := hp.2
  refine lv_if_eq (tgt := 10) hx hb d_Holi_addDay_5 (by decide) (fun c5 => ?_) (fun c5 => ?_)
  · have hno : ¬ ∃ j, j < c ∧ f j = x := fun z => absurd c5 (hp.2.mpr z)
    refine lv_aload_n hx hb d_Holi_addDay_10 rfl (lv_at hl 0 rfl) ?_
    refine mm_get E hZ cl_Holi fl_Holi_15 (by decide) hh rfl d_Holi_addDay_11 ?_
    refine lv_bipush (v := 100) hx hb d_Holi_addDay_14 (by decide) ?_
    refine lv_icmp_lt (tgt := 22) hx hb d_Holi_addDay_16 (by decide) (fun c16 => ?_) (fun c16 => ?_)
    · have hc2 : c < 100 := by
        rcases Nat.lt_or_ge c 100 with z | z
        · exact z
        · exact absurd c16 (nI_nlt z (by omega))
      refine lv_aload_n hx hb d_Holi_addDay_22 rfl (lv_at hl 0 rfl) ?_
      refine mm_get E hZ cl_Holi fl_Holi_15 (by decide) hh rfl d_Holi_addDay_23 ?_
      refine lv_istore_n (lv' := [(3, .int (nI c)), (0, .ref h), (1, .long x)]) hx hb d_Holi_addDay_26 rfl hl (by decide) rfl (fun ls hl => ?_)
      have loop : ∀ (n : Nat) (fx : Nat → Int64) (k : Nat) (M : mm_M) (H : Heap) (locs : List Loc) (ls : Array Slot), mm_S g s M H locs → M h = some (ob 3 4 [.ref da, .int (nI c)]) → M da = some (al 15 (g.2.2 1) 100 fx) → k ≤ c → (∀ i, i < k → fx i = f i) → (∀ i, k ≤ i → i < c → fx (i + 1) = f i ∧ x < f i) → (∀ t, t ≠ 3 → t ≠ 15 → mm_same t M0 M) → k + 1 ≤ n → lv_has ls 4 [(0, .ref h), (1, .long x), (3, .int (nI k))] → W pG l eV (rk 1 23 0 0) s m args below meth cdx H locs 0 0 Q (F0 m 27 ls []) := by
        intro n
        induction n with
        | zero => exact fun fx k M H locs ls _ hMh hMd hk hlo hhi hs hfu _ => absurd hfu (by omega)
        | succ n ih =>
          intro fx k M H locs ls hZ hMh hMd hk hlo hhi hs hfu hl
          have J64 : ∀  (ls : Array Slot), k = 0 ∨ f (k - 1) ≤ x → lv_has ls 4 [(0, .ref h), (1, .long x), (3, .int (nI k))] → W pG l eV (rk 1 23 0 0) s m args below meth cdx H locs 0 0 Q (F0 m 64 ls []) := by
            intro  ls hst hl
            refine lv_aload_n hx hb d_Holi_addDay_64 rfl (lv_at hl 0 rfl) ?_
            refine mm_get E hZ cl_Holi fl_Holi_9 (by decide) hMh rfl d_Holi_addDay_65 ?_
            refine lv_iload_n hx hb d_Holi_addDay_68 rfl (lv_at hl 2 rfl) ?_
            refine lv_lload_n hx hb d_Holi_addDay_69 rfl (lv_at hl 1 rfl) ?_
            refine mm_last (t0 := 1) E hZ hMd rfl (by decide) rfl (show k < 100 by omega) (by decide) d_Holi_addDay_70 (fun H locs hZ => ?_)
            obtain ⟨M2, eM2⟩ : ∃ zz : mm_M, zz = mm_up M da (al 15 (g.2.2 1) 100 (va_up fx k x)) := ⟨_, rfl⟩
            have hZ : mm_S g s M2 H locs := by rw [eM2]; exact hZ
            have h3 := (congrFun eM2 h).trans ((mm_ne _ _ (mm_tag hMh hMd (by decide))).trans hMh)
            have h4 := (congrFun eM2 da).trans (mm_self _ _ _)
            refine lv_aload_n hx hb d_Holi_addDay_71 rfl (lv_at hl 0 rfl) ?_
            refine lv_dup hx hb d_Holi_addDay_72 rfl ?_
            refine mm_get E hZ cl_Holi fl_Holi_15 (by decide) h3 rfl d_Holi_addDay_73 ?_
            refine lv_iconst (v := 1) hx hb d_Holi_addDay_76 (by decide) ?_
            refine lv_iadd hx hb d_Holi_addDay_77 ?_
            refine mm_put E hZ cl_Holi fl_Holi_15 (by decide) rfl h3 (by decide) rfl rfl (Nat.le_of_ble_eq_true rfl) d_Holi_addDay_78 (fun H locs hZ => ?_)
            obtain ⟨M5, eM5⟩ : ∃ zz : mm_M, zz = mm_up M2 h (ob 3 4 [.ref da, .int ((nI c) + 1)]) := ⟨_, rfl⟩
            have hZ : mm_S g s M5 H locs := by rw [eM5]; exact hZ
            have h6 := (congrFun eM5 da).trans ((mm_ne _ _ (mm_tag h4 h3 (by decide))).trans h4)
            have h7 := (congrFun eM5 h).trans (mm_self _ _ _)
            refine lv_iconst (v := 1) hx hb d_Holi_addDay_81 (by decide) ?_
            exact mm_iret (v := 1) E hr hlk eQ hZ d_Holi_addDay_82 ⟨_, rfl, Or.inr (Or.inr ⟨hno, hc2, rfl, _, ⟨by rw [← nI_1]; exact h7, h6⟩, ⟨k, hk, fun i z => (va_up_ne _ _ (by omega)).trans (hlo i z), va_up_self _ _ _, fun i z1 z2 => ⟨(va_up_ne _ _ (by omega)).trans (hhi i z1 z2).1, (hhi i z1 z2).2⟩, hst⟩, fun t h3 h15 => by
              rw [eM5, eM2]
              exact (hs t h3 h15).tr ((mm_same.up hMd h15 _).tr (mm_same.up ((mm_ne _ _ (mm_tag hMh hMd (by decide))).trans hMh) h3 _))⟩)⟩
          refine lv_iload_n hx hb d_Holi_addDay_27 rfl (lv_at hl 2 rfl) ?_
          refine lv_if_le (tgt := 64) hx hb d_Holi_addDay_28 (by decide) (fun c28 => ?_) (fun c28 => ?_)
          · exact J64 ls (Or.inl (by
              rcases Nat.eq_zero_or_pos k with z | z
              · exact z
              · exact absurd c28 (nI_nle z (by omega)))) (lv_sub hl [0, 1, 2] rfl)
          · have hk0 : 0 < k := by
              rcases Nat.eq_zero_or_pos k with z | z
              · exact absurd (show nI k ≤ 0 by rw [z]; decide) c28
              · exact z
            refine lv_aload_n hx hb d_Holi_addDay_31 rfl (lv_at hl 0 rfl) ?_
            refine mm_get E hZ cl_Holi fl_Holi_9 (by decide) hMh rfl d_Holi_addDay_32 ?_
            refine lv_iload_n hx hb d_Holi_addDay_35 rfl (lv_at hl 2 rfl) ?_
            refine lv_iconst (v := 1) hx hb d_Holi_addDay_36 (by decide) ?_
            refine lv_isub hx hb d_Holi_addDay_37 ?_
            refine mm_lald (t0 := 1) E hZ hMd rfl (nI_m1 hk0) (show (k - 1) < 100 by omega) (by decide) d_Holi_addDay_38 ?_
            refine lv_lload_n hx hb d_Holi_addDay_39 rfl (lv_at hl 1 rfl) ?_
            refine W.lcmp hx hb d_Holi_addDay_40 ?_
            refine lv_if_le (tgt := 64) hx hb d_Holi_addDay_41 (by decide) (fun c41 => ?_) (fun c41 => ?_)
            · have c41 := (lg_cmp_le _ _).mp c41
              exact J64 ls (Or.inr (by rw [← hlo _ (show k - 1 < k by omega)]; exact c41)) (lv_sub hl [0, 1, 2] rfl)
            · have c41 := mt (lg_cmp_le _ _).mpr c41
              refine lv_aload_n hx hb d_Holi_addDay_44 rfl (lv_at hl 0 rfl) ?_
              refine mm_get E hZ cl_Holi fl_Holi_9 (by decide) hMh rfl d_Holi_addDay_45 ?_
              refine lv_iload_n hx hb d_Holi_addDay_48 rfl (lv_at hl 2 rfl) ?_
              refine lv_aload_n hx hb d_Holi_addDay_49 rfl (lv_at hl 0 rfl) ?_
              refine mm_get E hZ cl_Holi fl_Holi_9 (by decide) hMh rfl d_Holi_addDay_50 ?_
              refine lv_iload_n hx hb d_Holi_addDay_53 rfl (lv_at hl 2 rfl) ?_
              refine lv_iconst (v := 1) hx hb d_Holi_addDay_54 (by decide) ?_
              refine lv_isub hx hb d_Holi_addDay_55 ?_
              refine mm_lald (t0 := 1) E hZ hMd rfl (nI_m1 hk0) (show (k - 1) < 100 by omega) (by decide) d_Holi_addDay_56 ?_
              refine mm_last (t0 := 1) E hZ hMd rfl (by decide) rfl (show k < 100 by omega) (by decide) d_Holi_addDay_57 (fun H locs hZ => ?_)
              obtain ⟨M8, eM8⟩ : ∃ zz : mm_M, zz = mm_up M da (al 15 (g.2.2 1) 100 (va_up fx k (fx (k - 1)))) := ⟨_, rfl⟩
              have hZ : mm_S g s M8 H locs := by rw [eM8]; exact hZ
              have h9 := (congrFun eM8 h).trans ((mm_ne _ _ (mm_tag hMh hMd (by decide))).trans hMh)
              have h10 := (congrFun eM8 da).trans (mm_self _ _ _)
              refine lv_iinc (v := (nI k) + (-1)) (lv' := [(3, .int ((nI k) + (-1))), (0, .ref h), (1, .long x)]) hx hb d_Holi_addDay_58 hl (k := 2) rfl rfl (by decide) rfl (fun ls hl => ?_)
              refine lv_goto (tgt := 27) hx hb d_Holi_addDay_61 (by decide) ?_
              rw [show nI k + (-1) = nI (k - 1) from sb_m1 hk0] at hl
              generalize M8 = M at hZ h9 h10 eM8
              exact ih _ (k - 1) M H locs ls hZ h9 h10 (by omega) (fun i z => (va_up_ne _ _ (by omega)).trans (hlo i (by omega))) (fun i z1 z2 => by
                by_cases e : i = k - 1
                · subst e
                  rw [show k - 1 + 1 = k by omega, va_up_self, hlo _ (by omega)]
                  exact ⟨rfl, by rw [← hlo _ (show k - 1 < k by omega)]; exact Int64.not_le.mp c41⟩
                · rw [va_up_ne _ _ (by omega)]
                  exact hhi i (by omega) z2) (fun t h3 h15 => by rw [eM8]; exact (hs t h3 h15).tr (mm_same.up hMd h15 _)) (by omega) (lv_sub hl [1, 2, 0] rfl)
      exact loop (c + 1) f c M0 H locs ls hZ hh hd (Nat.le_refl _) (fun i _ => rfl) (fun i z1 z2 => absurd z1 (by omega)) (fun t _ _ => mm_same.rf) (Nat.le_refl _) (lv_sub hl [1, 2, 0] rfl)
    · refine lv_bipush (v := (-104)) hx hb d_Holi_addDay_19 (by decide) ?_
      exact mm_iret (v := (-104)) E hr hlk eQ hZ d_Holi_addDay_21 ⟨_, rfl, Or.inr (Or.inl ⟨hno, by
        rcases Nat.lt_or_ge c 100 with z | z
        · exact absurd (nI_lt z (by decide)) c16
        · exact z, rfl, rfl⟩)⟩
  · refine lv_iconst (v := 0) hx hb d_Holi_addDay_8 (by decide) ?_
    exact mm_iret (v := 0) E hr hlk eQ hZ d_Holi_addDay_9 ⟨_, rfl, Or.inl ⟨hp.2.mp c5, rfl, rfl⟩⟩
set_option maxHeartbeats 4000000 in
set_option maxRecDepth 100000 in
theorem c_Holi_dueAfter (l : Launch) (g : mm_G) {M0 : mm_M} {h da c : Nat} {f : Nat → Int64} (h0 : Hl g M0 h da c f) (hc : c ≤ 100) (t wi : Int64) : Cl l g y_Holi_dueAfter b_Holi_dueAfter 12 (rk 1 23 0 0) M0 [.ref h, .long t, .long wi] (fun r M' => M' = M0 ∧ r = dA f t wi c) := by
  refine mm_enter (by decide) (Nat.le_of_ble_eq_true rfl) (fun pG eV s m args below meth cdx ls Q E hml hr hlk hnm hZ hl eQ => ?_)
  have hx := E.1
  have hb := E.2.1
  have hl : lv_has ls 12 [(0, .ref h), (1, .long t), (3, .long wi)] := hl
  have hh := h0.1
  have hd := h0.2
  refine lv_lload_n hx hb d_Holi_dueAfter_0 rfl (lv_at hl 1 rfl) ?_
  refine lv_lload_n hx hb d_Holi_dueAfter_1 rfl (lv_at hl 2 rfl) ?_
  refine lv_ladd hx hb d_Holi_dueAfter_2 ?_
  refine lv_lstore (lv' := [(5, .long (t + wi)), (0, .ref h), (1, .long t), (3, .long wi)]) hx hb d_Holi_dueAfter_3 hl (by decide) rfl (fun ls hl => ?_)
  refine lv_iconst (v := 0) hx hb d_Holi_dueAfter_5 (by decide) ?_
  refine lv_istore (lv' := [(7, .int 0), (5, .long (t + wi)), (0, .ref h), (1, .long t), (3, .long wi)]) hx hb d_Holi_dueAfter_6 hl (by decide) rfl (fun ls hl => ?_)
  have loop : ∀ (n : Nat) (i : Nat) (ls : Array Slot), i ≤ c → c + 1 ≤ i + n → lv_has ls 12 [(0, .ref h), (1, .long t), (5, .long (dA f t wi i)), (7, .int (nI i))] → W pG l eV (rk 1 23 0 0) s m args below meth cdx s.heap [] 0 0 Q (F0 m 8 ls []) := by
    intro n
    induction n with
    | zero => exact fun i ls hi1 hfu _ => absurd hfu (by omega)
    | succ n ih =>
      intro i ls hi1 hfu hl
      refine lv_iload hx hb d_Holi_dueAfter_8 (lv_at hl 3 rfl) ?_
      refine lv_aload_n hx hb d_Holi_dueAfter_10 rfl (lv_at hl 0 rfl) ?_
      refine mm_get E hZ cl_Holi fl_Holi_15 (by decide) hh rfl d_Holi_dueAfter_11 ?_
      refine lv_icmp_ge (tgt := 83) hx hb d_Holi_dueAfter_14 (by decide) (fun c14 => ?_) (fun c14 => ?_)
      · have hi2 : i = c := by
          rcases Nat.lt_or_ge i c with z | z
          · exact absurd c14 (nI_ge z (by omega))
          · omega
        subst hi2
        refine lv_lload hx hb d_Holi_dueAfter_83 (lv_at hl 2 rfl) ?_
        exact mm_lret (v := dA f t wi i) E hr hlk eQ hZ d_Holi_dueAfter_85 ⟨_, rfl, rfl, rfl⟩
      · have hi2 : i < c := by
          rcases Nat.lt_or_ge i c with z | z
          · exact z
          · exact absurd (nI_le z (by omega)) c14
        refine lv_aload_n hx hb d_Holi_dueAfter_17 rfl (lv_at hl 0 rfl) ?_
        refine mm_get E hZ cl_Holi fl_Holi_9 (by decide) hh rfl d_Holi_dueAfter_18 ?_
        refine lv_iload hx hb d_Holi_dueAfter_21 (lv_at hl 3 rfl) ?_
        refine mm_lald (t0 := 1) E hZ hd rfl rfl (show i < 100 by omega) (by decide) d_Holi_dueAfter_23 ?_
        refine lv_ldc2 (v := 86400) hx hb E.2.2.1 (E.2.2.2.1 _ w_371) d_Holi_dueAfter_24 ?_
        refine lv_lmul hx hb d_Holi_dueAfter_27 ?_
        refine lv_lload_n hx hb d_Holi_dueAfter_28 rfl (lv_at hl 1 rfl) ?_
        refine mm_maxl E hml hl.1 w_372 (Nat.le_of_ble_eq_true rfl) (Nat.le_of_ble_eq_true rfl) (Nat.le_of_ble_eq_true rfl) (Nat.le_of_ble_eq_true rfl) d_Holi_dueAfter_29 ?_
        refine lv_lstore (lv' := [(8, .long (mxl ((f i) * 86400) t)), (0, .ref h), (1, .long t), (5, .long (dA f t wi i)), (7, .int (nI i))]) hx hb d_Holi_dueAfter_32 hl (by decide) rfl (fun ls hl => ?_)
        refine lv_aload_n hx hb d_Holi_dueAfter_34 rfl (lv_at hl 1 rfl) ?_
        refine mm_get E hZ cl_Holi fl_Holi_9 (by decide) hh rfl d_Holi_dueAfter_35 ?_
        refine lv_iload hx hb d_Holi_dueAfter_38 (lv_at hl 4 rfl) ?_
        refine mm_lald (t0 := 1) E hZ hd rfl rfl (show i < 100 by omega) (by decide) d_Holi_dueAfter_40 ?_
        refine lv_ldc2 (v := 86400) hx hb E.2.2.1 (E.2.2.2.1 _ w_371) d_Holi_dueAfter_41 ?_
        refine lv_lmul hx hb d_Holi_dueAfter_44 ?_
        refine lv_ldc2 (v := 86400) hx hb E.2.2.1 (E.2.2.2.1 _ w_371) d_Holi_dueAfter_45 ?_
        refine lv_ladd hx hb d_Holi_dueAfter_48 ?_
        refine lv_lstore (lv' := [(10, .long (((f i) * 86400) + 86400)), (8, .long (mxl ((f i) * 86400) t)), (0, .ref h), (1, .long t), (5, .long (dA f t wi i)), (7, .int (nI i))]) hx hb d_Holi_dueAfter_49 hl (by decide) rfl (fun ls hl => ?_)
        refine lv_lload hx hb d_Holi_dueAfter_51 (lv_at hl 1 rfl) ?_
        refine lv_lload hx hb d_Holi_dueAfter_53 (lv_at hl 0 rfl) ?_
        refine W.lcmp hx hb d_Holi_dueAfter_55 ?_
        have J77 : ∀ (v : Int64) (ls : Array Slot), v = dA f t wi (i + 1) → lv_has ls 12 [(0, .ref h), (1, .long t), (5, .long v), (7, .int (nI i))] → W pG l eV (rk 1 23 0 0) s m args below meth cdx s.heap [] 0 0 Q (F0 m 77 ls []) := by
          intro v ls hv hl
          refine lv_iinc (v := (nI i) + 1) (lv' := [(7, .int ((nI i) + 1)), (0, .ref h), (1, .long t), (5, .long v)]) hx hb d_Holi_dueAfter_77 hl (k := 3) rfl rfl (by decide) rfl (fun ls hl => ?_)
          refine lv_goto (tgt := 8) hx hb d_Holi_dueAfter_80 (by decide) ?_
          rw [nI_1] at hl
          subst hv
          exact ih (i + 1) ls (by omega) (by omega) (lv_sub hl [1, 2, 3, 0] rfl)
        refine lv_if_ge (tgt := 77) hx hb d_Holi_dueAfter_56 (by decide) (fun c56 => ?_) (fun c56 => ?_)
        · have c56 := (lg_cmp_ge _ _).mp c56
          exact J77 _ ls (by rw [dA, if_neg (fun z => absurd z.1 (Int64.not_lt.mpr c56))]) (lv_sub hl [2, 3, 4, 5] rfl)
        · have c56 := mt (lg_cmp_ge _ _).mpr c56
          refine lv_lload hx hb d_Holi_dueAfter_59 (lv_at hl 1 rfl) ?_
          refine lv_lload hx hb d_Holi_dueAfter_61 (lv_at hl 4 rfl) ?_
          refine W.lcmp hx hb d_Holi_dueAfter_63 ?_
          refine lv_if_ge (tgt := 77) hx hb d_Holi_dueAfter_64 (by decide) (fun c64 => ?_) (fun c64 => ?_)
          · have c64 := (lg_cmp_ge _ _).mp c64
            exact J77 _ ls (by rw [dA, if_neg (fun z => absurd z.2 (Int64.not_lt.mpr c64))]) (lv_sub hl [2, 3, 4, 5] rfl)
          · have c64 := mt (lg_cmp_ge _ _).mpr c64
            refine lv_lload hx hb d_Holi_dueAfter_67 (lv_at hl 4 rfl) ?_
            refine lv_lload hx hb d_Holi_dueAfter_69 (lv_at hl 0 rfl) ?_
            refine lv_lload hx hb d_Holi_dueAfter_71 (lv_at hl 1 rfl) ?_
            refine lv_lsub hx hb d_Holi_dueAfter_73 ?_
            refine lv_ladd hx hb d_Holi_dueAfter_74 ?_
            refine lv_lstore (lv' := [(5, .long ((dA f t wi i) + ((((f i) * 86400) + 86400) - (mxl ((f i) * 86400) t)))), (10, .long (((f i) * 86400) + 86400)), (8, .long (mxl ((f i) * 86400) t)), (0, .ref h), (1, .long t), (7, .int (nI i))]) hx hb d_Holi_dueAfter_75 hl (by decide) rfl (fun ls hl => ?_)
            exact J77 _ ls (by rw [dA, if_pos ⟨Int64.not_le.mp c56, Int64.not_le.mp c64⟩]) (lv_sub hl [3, 4, 0, 5] rfl)
  exact loop (c + 1) 0 ls (Nat.zero_le _) (by omega) (lv_sub hl [2, 3, 1, 0] rfl)
end
section
/-! THE CLASS: PlaceCounts -/
def Cn (g : mm_G) (M : mm_M) (o bA lA : Nat) (fb fl : Nat → Int32) : Prop := M o = some (ob 5 6 [.ref bA, .ref lA]) ∧ M bA = some (ai 13 (g.2.2 0) 50 fb) ∧ M lA = some (ai 14 (g.2.2 0) 50 fl)
abbrev bfx (fb fl : Nat → Int32) (a b : Nat) : Prop := (fl b).toInt64 * (fb a).toInt64 < (fl a).toInt64 * (fb b).toInt64 ∨ ((fl a).toInt64 * (fb b).toInt64 = (fl b).toInt64 * (fb a).toInt64 ∧ nI a < nI b)
/-- how many of the first k places are clusters that come before p -/
def cbN (fb fl : Nat → Int32) (p : Nat) : Nat → Nat
  | 0 => 0
  | k + 1 => if 3 ≤ fl k ∧ bfx fb fl k p then cbN fb fl p k + 1 else cbN fb fl p k
theorem cbN_le (fb fl : Nat → Int32) (p k : Nat) : cbN fb fl p k ≤ k := by
  induction k with
  | zero => exact Nat.le_refl _
  | succ k ih => unfold cbN; split <;> omega
theorem pl_in {p : Nat} (h : p < 50) : 0 ≤ nI p ∧ nI p < 50 := ⟨nI_pos' (by omega), nI_lt h (by decide)⟩
set_option maxHeartbeats 4000000 in
set_option maxRecDepth 100000 in
theorem c_Cnts_init (l : Launch) (g : mm_G) {M0 : mm_M} {o : Nat} (h0 : M0 o = some (ob 5 6 [.null, .null])) : Cv l g y_Cnts_init b_Cnts_init 1 (rk 1 20 2 100) M0 [.ref o] (fun M' => ∃ bA lA, Cn g M' o bA lA (fun _ => 0) (fun _ => 0) ∧ ∀ t, t ≠ 5 → t ≠ 13 → t ≠ 14 → mm_same t M0 M') := by
  refine mm_enter (by decide) (Nat.le_of_ble_eq_true rfl) (fun pG eV s m args below meth cdx ls Q E hml hr hlk hnm hZ hl eQ => ?_)
  have hx := E.1
  have hb := E.2.1
  have hl : lv_has ls 1 [(0, .ref o)] := hl
  refine lv_aload_n hx hb d_Cnts_init_0 rfl (lv_at hl 0 rfl) ?_
  refine mm_objI E hml hl.1 w_102 w_30 w_31 (Nat.le_of_ble_eq_true rfl) (Nat.le_of_ble_eq_true rfl) d_Cnts_init_1 ?_
  refine lv_aload_n hx hb d_Cnts_init_4 rfl (lv_at hl 0 rfl) ?_
  refine lv_bipush (v := 50) hx hb d_Cnts_init_5 (by decide) ?_
  refine mm_newi 13 (t0 := 0) (cA := g.2.2 0) (N := 50) E hZ rfl w_110 (by decide) (by decide) (by decide) (Nat.le_of_ble_eq_true rfl) (Nat.le_of_ble_eq_true rfl) d_Cnts_init_7 (fun bA H hBb hNb hZ => ?_)
  obtain ⟨Ma, eMa⟩ : ∃ zz : mm_M, zz = mm_up M0 bA (ai 13 (g.2.2 0) 50 (fun _ => 0)) := ⟨_, rfl⟩
  have hZ : mm_S g s Ma H [] := by rw [eMa]; exact hZ
  have h1 := (congrFun eMa o).trans ((mm_ne _ _ (mm_apartN h0 hNb)).trans h0)
  have h2 := (congrFun eMa bA).trans (mm_self _ _ _)
  refine mm_putF (k := 0) E hnm hZ cl_Cnts w_103 (by decide) rfl rfl h1 (by decide) rfl rfl (Nat.le_of_ble_eq_true rfl) d_Cnts_init_9 (fun H locs hZ => ?_)
  obtain ⟨M3, eM3⟩ : ∃ zz : mm_M, zz = mm_up Ma o (ob 5 6 [.ref bA, .null]) := ⟨_, rfl⟩
  have hZ : mm_S g s M3 H locs := by rw [eM3]; exact hZ
  have h4 := (congrFun eM3 bA).trans ((mm_ne _ _ (mm_tag h2 h1 (by decide))).trans h2)
  have h5 := (congrFun eM3 o).trans (mm_self _ _ _)
  refine lv_aload_n hx hb d_Cnts_init_12 rfl (lv_at hl 0 rfl) ?_
  refine lv_bipush (v := 50) hx hb d_Cnts_init_13 (by decide) ?_
  refine mm_newi 14 (t0 := 0) (cA := g.2.2 0) (N := 50) E hZ rfl w_110 (by decide) (by decide) (by decide) (Nat.le_of_ble_eq_true rfl) (Nat.le_of_ble_eq_true rfl) d_Cnts_init_15 (fun lA H hBl hNl hZ => ?_)
  obtain ⟨Mc, eMc⟩ : ∃ zz : mm_M, zz = mm_up M3 lA (ai 14 (g.2.2 0) 50 (fun _ => 0)) := ⟨_, rfl⟩
  have hZ : mm_S g s Mc H locs := by rw [eMc]; exact hZ
  have h6 := (congrFun eMc bA).trans ((mm_ne _ _ (mm_apartN h4 hNl)).trans h4)
  have h7 := (congrFun eMc o).trans ((mm_ne _ _ (mm_apartN h5 hNl)).trans h5)
  have h8 := (congrFun eMc lA).trans (mm_self _ _ _)
  refine mm_putF (k := 1) E hnm hZ cl_Cnts w_104 (by decide) rfl rfl h7 (by decide) rfl rfl (Nat.le_of_ble_eq_true rfl) d_Cnts_init_17 (fun H locs hZ => ?_)
  obtain ⟨M9, eM9⟩ : ∃ zz : mm_M, zz = mm_up Mc o (ob 5 6 [.ref bA, .ref lA]) := ⟨_, rfl⟩
  have hZ : mm_S g s M9 H locs := by rw [eM9]; exact hZ
  have h10 := (congrFun eM9 bA).trans ((mm_ne _ _ (mm_tag h6 h7 (by decide))).trans h6)
  have h11 := (congrFun eM9 lA).trans ((mm_ne _ _ (mm_tag h8 h7 (by decide))).trans h8)
  have h12 := (congrFun eM9 o).trans (mm_self _ _ _)
  exact mm_vret E hr hlk eQ hZ d_Cnts_init_20 ⟨rfl, bA, lA, ⟨h12, h10, h11⟩, fun t u5 u13 u14 => by
    rw [eM9]
    refine mm_same.tr ?_ (mm_same.up ((congrFun eMc o).trans ((mm_ne _ _ (mm_apartN h5 hNl)).trans h5)) u5 _)
    rw [eMc]
    refine mm_same.tr ?_ (mm_same.new hNl _)
    rw [eM3]
    refine mm_same.tr ?_ (mm_same.up h1 u5 _)
    rw [eMa]
    exact mm_same.new hNb _⟩
set_option maxHeartbeats 4000000 in
set_option maxRecDepth 100000 in
theorem c_Cnts_addBegun (l : Launch) (g : mm_G) {M0 : mm_M} {o bA lA : Nat} {fb fl : Nat → Int32} (h0 : Cn g M0 o bA lA fb fl) {p : Nat} (hp5 : p < 50) : Cv l g y_Cnts_addBegun b_Cnts_addBegun 2 (rk 1 20 0 0) M0 [.ref o, .int (nI p)] (fun M' => Cn g M' o bA lA (va_up fb p (fb p + 1)) fl ∧ ∀ t, t ≠ 13 → mm_same t M0 M') := by
  refine mm_enter (by decide) (Nat.le_of_ble_eq_true rfl) (fun pG eV s m args below meth cdx ls Q E hml hr hlk hnm hZ hl eQ => ?_)
  have hx := E.1
  have hb := E.2.1
  have hl : lv_has ls 2 [(0, .ref o), (1, .int (nI p))] := hl
  have ho := h0.1
  have hbA := h0.2.1
  have hlA := h0.2.2
  refine lv_iload_n hx hb d_Cnts_addBegun_0 rfl (lv_at hl 1 rfl) ?_
  refine mm_calli (mm_runS (As := [.int (nI p)]) (rest := []) E hZ hml hl.1 lk_Cnts_18 me_X_isPlace st_X_isPlace (c_X_isPlace l g _ (nI p)) ⟨Nat.le_of_ble_eq_true rfl, Nat.le_of_ble_eq_true rfl⟩ rfl (Nat.le_of_ble_eq_true rfl) d_Cnts_addBegun_1 ⟨Nat.le_of_ble_eq_true rfl, Nat.le_of_ble_eq_true rfl⟩) hZ (fun r1 M1 H locs hp hZ => ?_)
  rw [hp.1] at hZ
  replace hp := hp.2
  refine lv_if_eq (tgt := 17) hx hb d_Cnts_addBegun_4 (by decide) (fun c4 => ?_) (fun c4 => ?_)
  · exact absurd (hp ▸ c4) (fun z => b32_eq0.mp z (pl_in hp5))
  · refine lv_aload_n hx hb d_Cnts_addBegun_7 rfl (lv_at hl 0 rfl) ?_
    refine mm_get E hZ cl_Cnts fl_Cnts_9 (by decide) ho rfl d_Cnts_addBegun_8 ?_
    refine lv_iload_n hx hb d_Cnts_addBegun_11 rfl (lv_at hl 1 rfl) ?_
    refine lv_dup2_11 hx hb d_Cnts_addBegun_12 rfl rfl ?_
    refine mm_iald (t0 := 0) E hZ hbA rfl rfl (show p < 50 by omega) (by decide) d_Cnts_addBegun_13 ?_
    refine lv_iconst (v := 1) hx hb d_Cnts_addBegun_14 (by decide) ?_
    refine lv_iadd hx hb d_Cnts_addBegun_15 ?_
    refine mm_iast (t0 := 0) E hZ hbA rfl (by decide) rfl (show p < 50 by omega) (by decide) d_Cnts_addBegun_16 (fun H locs hZ => ?_)
    obtain ⟨M2, eM2⟩ : ∃ zz : mm_M, zz = mm_up M0 bA (ai 13 (g.2.2 0) 50 (va_up fb p ((fb p) + 1))) := ⟨_, rfl⟩
    have hZ : mm_S g s M2 H locs := by rw [eM2]; exact hZ
    have h3 := (congrFun eM2 o).trans ((mm_ne _ _ (mm_tag ho hbA (by decide))).trans ho)
    have h4 := (congrFun eM2 lA).trans ((mm_ne _ _ (mm_tag hlA hbA (by decide))).trans hlA)
    have h5 := (congrFun eM2 bA).trans (mm_self _ _ _)
    exact mm_vret E hr hlk eQ hZ d_Cnts_addBegun_17 ⟨rfl, ⟨h3, h5, h4⟩, fun t ht => by rw [eM2]; exact mm_same.up hbA ht _⟩
set_option maxHeartbeats 4000000 in
set_option maxRecDepth 100000 in
theorem c_Cnts_addLate (l : Launch) (g : mm_G) {M0 : mm_M} {o bA lA : Nat} {fb fl : Nat → Int32} (h0 : Cn g M0 o bA lA fb fl) {p : Nat} (hp5 : p < 50) : Cv l g y_Cnts_addLate b_Cnts_addLate 2 (rk 1 20 0 0) M0 [.ref o, .int (nI p)] (fun M' => Cn g M' o bA lA fb (va_up fl p (fl p + 1)) ∧ ∀ t, t ≠ 14 → mm_same t M0 M') := by
  refine mm_enter (by decide) (Nat.le_of_ble_eq_true rfl) (fun pG eV s m args below meth cdx ls Q E hml hr hlk hnm hZ hl eQ => ?_)
  have hx := E.1
  have hb := E.2.1
  have hl : lv_has ls 2 [(0, .ref o), (1, .int (nI p))] := hl
  have ho := h0.1
  have hbA := h0.2.1
  have hlA := h0.2.2
  refine lv_iload_n hx hb d_Cnts_addLate_0 rfl (lv_at hl 1 rfl) ?_
  refine mm_calli (mm_runS (As := [.int (nI p)]) (rest := []) E hZ hml hl.1 lk_Cnts_18 me_X_isPlace st_X_isPlace (c_X_isPlace l g _ (nI p)) ⟨Nat.le_of_ble_eq_true rfl, Nat.le_of_ble_eq_true rfl⟩ rfl (Nat.le_of_ble_eq_true rfl) d_Cnts_addLate_1 ⟨Nat.le_of_ble_eq_true rfl, Nat.le_of_ble_eq_true rfl⟩) hZ (fun r1 M1 H locs hp hZ => ?_)
  rw [hp.1] at hZ
  replace hp := hp.2
  refine lv_if_eq (tgt := 17) hx hb d_Cnts_addLate_4 (by decide) (fun c4 => ?_) (fun c4 => ?_)
  · exact absurd (hp ▸ c4) (fun z => b32_eq0.mp z (pl_in hp5))
  · refine lv_aload_n hx hb d_Cnts_addLate_7 rfl (lv_at hl 0 rfl) ?_
    refine mm_get E hZ cl_Cnts fl_Cnts_15 (by decide) ho rfl d_Cnts_addLate_8 ?_
    refine lv_iload_n hx hb d_Cnts_addLate_11 rfl (lv_at hl 1 rfl) ?_
    refine lv_dup2_11 hx hb d_Cnts_addLate_12 rfl rfl ?_
    refine mm_iald (t0 := 0) E hZ hlA rfl rfl (show p < 50 by omega) (by decide) d_Cnts_addLate_13 ?_
    refine lv_iconst (v := 1) hx hb d_Cnts_addLate_14 (by decide) ?_
    refine lv_iadd hx hb d_Cnts_addLate_15 ?_
    refine mm_iast (t0 := 0) E hZ hlA rfl (by decide) rfl (show p < 50 by omega) (by decide) d_Cnts_addLate_16 (fun H locs hZ => ?_)
    obtain ⟨M2, eM2⟩ : ∃ zz : mm_M, zz = mm_up M0 lA (ai 14 (g.2.2 0) 50 (va_up fl p ((fl p) + 1))) := ⟨_, rfl⟩
    have hZ : mm_S g s M2 H locs := by rw [eM2]; exact hZ
    have h3 := (congrFun eM2 o).trans ((mm_ne _ _ (mm_tag ho hlA (by decide))).trans ho)
    have h4 := (congrFun eM2 bA).trans ((mm_ne _ _ (mm_tag hbA hlA (by decide))).trans hbA)
    have h5 := (congrFun eM2 lA).trans (mm_self _ _ _)
    exact mm_vret E hr hlk eQ hZ d_Cnts_addLate_17 ⟨rfl, ⟨h3, h4, h5⟩, fun t ht => by rw [eM2]; exact mm_same.up hlA ht _⟩
set_option maxHeartbeats 4000000 in
set_option maxRecDepth 100000 in
theorem c_Cnts_begunAt (l : Launch) (g : mm_G) {M0 : mm_M} {o bA lA : Nat} {fb fl : Nat → Int32} (h0 : Cn g M0 o bA lA fb fl) {p : Nat} (hp5 : p < 50) : Ci l g y_Cnts_begunAt b_Cnts_begunAt 2 .int (rk 1 20 0 0) M0 [.ref o, .int (nI p)] (fun r M' => M' = M0 ∧ r = fb p) := by
  refine mm_enter (by decide) (Nat.le_of_ble_eq_true rfl) (fun pG eV s m args below meth cdx ls Q E hml hr hlk hnm hZ hl eQ => ?_)
  have hx := E.1
  have hb := E.2.1
  have hl : lv_has ls 2 [(0, .ref o), (1, .int (nI p))] := hl
  have ho := h0.1
  have hbA := h0.2.1
  have hlA := h0.2.2
  refine lv_iload_n hx hb d_Cnts_begunAt_0 rfl (lv_at hl 1 rfl) ?_
  refine mm_calli (mm_runS (As := [.int (nI p)]) (rest := []) E hZ hml hl.1 lk_Cnts_18 me_X_isPlace st_X_isPlace (c_X_isPlace l g _ (nI p)) ⟨Nat.le_of_ble_eq_true rfl, Nat.le_of_ble_eq_true rfl⟩ rfl (Nat.le_of_ble_eq_true rfl) d_Cnts_begunAt_1 ⟨Nat.le_of_ble_eq_true rfl, Nat.le_of_ble_eq_true rfl⟩) hZ (fun r1 M1 H locs hp hZ => ?_)
  rw [hp.1] at hZ
  replace hp := hp.2
  refine lv_if_eq (tgt := 16) hx hb d_Cnts_begunAt_4 (by decide) (fun c4 => ?_) (fun c4 => ?_)
  · exact absurd (hp ▸ c4) (fun z => b32_eq0.mp z (pl_in hp5))
  · refine lv_aload_n hx hb d_Cnts_begunAt_7 rfl (lv_at hl 0 rfl) ?_
    refine mm_get E hZ cl_Cnts fl_Cnts_9 (by decide) ho rfl d_Cnts_begunAt_8 ?_
    refine lv_iload_n hx hb d_Cnts_begunAt_11 rfl (lv_at hl 1 rfl) ?_
    refine mm_iald (t0 := 0) E hZ hbA rfl rfl (show p < 50 by omega) (by decide) d_Cnts_begunAt_12 ?_
    refine lv_goto (tgt := 17) hx hb d_Cnts_begunAt_13 (by decide) ?_
    exact mm_iret (v := fb p) E hr hlk eQ hZ d_Cnts_begunAt_17 ⟨_, rfl, rfl, rfl⟩
set_option maxHeartbeats 4000000 in
set_option maxRecDepth 100000 in
theorem c_Cnts_lateAt (l : Launch) (g : mm_G) {M0 : mm_M} {o bA lA : Nat} {fb fl : Nat → Int32} (h0 : Cn g M0 o bA lA fb fl) {p : Nat} (hp5 : p < 50) : Ci l g y_Cnts_lateAt b_Cnts_lateAt 2 .int (rk 1 20 0 0) M0 [.ref o, .int (nI p)] (fun r M' => M' = M0 ∧ r = fl p) := by
  refine mm_enter (by decide) (Nat.le_of_ble_eq_true rfl) (fun pG eV s m args below meth cdx ls Q E hml hr hlk hnm hZ hl eQ => ?_)
  have hx := E.1
  have hb := E.2.1
  have hl : lv_has ls 2 [(0, .ref o), (1, .int (nI p))] := hl
  have ho := h0.1
  have hbA := h0.2.1
  have hlA := h0.2.2
  refine lv_iload_n hx hb d_Cnts_lateAt_0 rfl (lv_at hl 1 rfl) ?_
  refine mm_calli (mm_runS (As := [.int (nI p)]) (rest := []) E hZ hml hl.1 lk_Cnts_18 me_X_isPlace st_X_isPlace (c_X_isPlace l g _ (nI p)) ⟨Nat.le_of_ble_eq_true rfl, Nat.le_of_ble_eq_true rfl⟩ rfl (Nat.le_of_ble_eq_true rfl) d_Cnts_lateAt_1 ⟨Nat.le_of_ble_eq_true rfl, Nat.le_of_ble_eq_true rfl⟩) hZ (fun r1 M1 H locs hp hZ => ?_)
  rw [hp.1] at hZ
  replace hp := hp.2
  refine lv_if_eq (tgt := 16) hx hb d_Cnts_lateAt_4 (by decide) (fun c4 => ?_) (fun c4 => ?_)
  · exact absurd (hp ▸ c4) (fun z => b32_eq0.mp z (pl_in hp5))
  · refine lv_aload_n hx hb d_Cnts_lateAt_7 rfl (lv_at hl 0 rfl) ?_
    refine mm_get E hZ cl_Cnts fl_Cnts_15 (by decide) ho rfl d_Cnts_lateAt_8 ?_
    refine lv_iload_n hx hb d_Cnts_lateAt_11 rfl (lv_at hl 1 rfl) ?_
    refine mm_iald (t0 := 0) E hZ hlA rfl rfl (show p < 50 by omega) (by decide) d_Cnts_lateAt_12 ?_
    refine lv_goto (tgt := 17) hx hb d_Cnts_lateAt_13 (by decide) ?_
    exact mm_iret (v := fl p) E hr hlk eQ hZ d_Cnts_lateAt_17 ⟨_, rfl, rfl, rfl⟩
set_option maxHeartbeats 4000000 in
set_option maxRecDepth 100000 in
theorem c_Cnts_isCluster (l : Launch) (g : mm_G) {M0 : mm_M} {o bA lA : Nat} {fb fl : Nat → Int32} (h0 : Cn g M0 o bA lA fb fl) {p : Nat} (hp5 : p < 50) : Ci l g y_Cnts_isCluster b_Cnts_isCluster 2 .boolean (rk 2 41 0 0) M0 [.ref o, .int (nI p)] (fun r M' => M' = M0 ∧ r = b32 (3 ≤ fl p)) := by
  refine mm_enter (by decide) (Nat.le_of_ble_eq_true rfl) (fun pG eV s m args below meth cdx ls Q E hml hr hlk hnm hZ hl eQ => ?_)
  have hx := E.1
  have hb := E.2.1
  have hl : lv_has ls 2 [(0, .ref o), (1, .int (nI p))] := hl
  have ho := h0.1
  have hbA := h0.2.1
  have hlA := h0.2.2
  refine lv_aload_n hx hb d_Cnts_isCluster_0 rfl (lv_at hl 0 rfl) ?_
  refine lv_iload_n hx hb d_Cnts_isCluster_1 rfl (lv_at hl 1 rfl) ?_
  refine mm_calli (mm_runV (As := [.int (nI p)]) (rest := []) E hZ hml hl.1 lk_Cnts_22 me_Cnts_lateAt in_Cnts_lateAt (c_Cnts_lateAt l g h0 hp5) ho cl_Cnts.1 ⟨Nat.le_of_ble_eq_true rfl, Nat.le_of_ble_eq_true rfl⟩ rfl (Nat.le_of_ble_eq_true rfl) d_Cnts_isCluster_2 ⟨Nat.le_of_ble_eq_true rfl, Nat.le_of_ble_eq_true rfl⟩) hZ (fun r1 M1 H locs hp hZ => ?_)
  rw [hp.1] at hZ
  replace hp := hp.2
  subst hp
  refine lv_iconst (v := 3) hx hb d_Cnts_isCluster_5 (by decide) ?_
  refine lv_icmp_lt (tgt := 13) hx hb d_Cnts_isCluster_6 (by decide) (fun c6 => ?_) (fun c6 => ?_)
  · refine lv_iconst (v := 0) hx hb d_Cnts_isCluster_13 (by decide) ?_
    exact mm_zret (v := 0) E hr hlk eQ hZ rfl d_Cnts_isCluster_14 ⟨_, rfl, rfl, b32_f (fun z => absurd z (Int32.not_le.mpr c6))⟩
  · refine lv_iconst (v := 1) hx hb d_Cnts_isCluster_9 (by decide) ?_
    refine lv_goto (tgt := 14) hx hb d_Cnts_isCluster_10 (by decide) ?_
    exact mm_zret (v := 1) E hr hlk eQ hZ rfl d_Cnts_isCluster_14 ⟨_, rfl, rfl, b32_t (Int32.not_lt.mp c6)⟩
set_option maxHeartbeats 4000000 in
set_option maxRecDepth 100000 in
theorem c_Cnts_comesBefore (l : Launch) (g : mm_G) {M0 : mm_M} {o bA lA : Nat} {fb fl : Nat → Int32} (h0 : Cn g M0 o bA lA fb fl) {a b : Nat} (ha : a < 50) (hb5 : b < 50) : Ci l g y_Cnts_comesBefore b_Cnts_comesBefore 7 .boolean (rk 2 41 0 0) M0 [.ref o, .int (nI a), .int (nI b)] (fun r M' => M' = M0 ∧ r = b32 (bfx fb fl a b)) := by
  refine mm_enter (by decide) (Nat.le_of_ble_eq_true rfl) (fun pG eV s m args below meth cdx ls Q E hml hr hlk hnm hZ hl eQ => ?_)
  have hx := E.1
  have hb := E.2.1
  have hl : lv_has ls 7 [(0, .ref o), (1, .int (nI a)), (2, .int (nI b))] := hl
  have ho := h0.1
  have hbA := h0.2.1
  have hlA := h0.2.2
  refine lv_aload_n hx hb d_Cnts_comesBefore_0 rfl (lv_at hl 0 rfl) ?_
  refine lv_iload_n hx hb d_Cnts_comesBefore_1 rfl (lv_at hl 1 rfl) ?_
  refine mm_calli (mm_runV (As := [.int (nI a)]) (rest := []) E hZ hml hl.1 lk_Cnts_22 me_Cnts_lateAt in_Cnts_lateAt (c_Cnts_lateAt l g h0 ha) ho cl_Cnts.1 ⟨Nat.le_of_ble_eq_true rfl, Nat.le_of_ble_eq_true rfl⟩ rfl (Nat.le_of_ble_eq_true rfl) d_Cnts_comesBefore_2 ⟨Nat.le_of_ble_eq_true rfl, Nat.le_of_ble_eq_true rfl⟩) hZ (fun r1 M1 H locs hp hZ => ?_)
  rw [hp.1] at hZ
  replace hp := hp.2
  subst hp
  refine lv_i2l hx hb d_Cnts_comesBefore_5 rfl ?_
  refine lv_aload_n hx hb d_Cnts_comesBefore_6 rfl (lv_at hl 0 rfl) ?_
  refine lv_iload_n hx hb d_Cnts_comesBefore_7 rfl (lv_at hl 2 rfl) ?_
  refine mm_calli (mm_runV (As := [.int (nI b)]) (rest := [.long ((fl a).toInt64)]) E hZ hml hl.1 lk_Cnts_36 me_Cnts_begunAt in_Cnts_begunAt (c_Cnts_begunAt l g h0 hb5) ho cl_Cnts.1 ⟨Nat.le_of_ble_eq_true rfl, Nat.le_of_ble_eq_true rfl⟩ rfl (Nat.le_of_ble_eq_true rfl) d_Cnts_comesBefore_8 ⟨Nat.le_of_ble_eq_true rfl, Nat.le_of_ble_eq_true rfl⟩) hZ (fun r2 M1 H locs hp hZ => ?_)
  rw [hp.1] at hZ
  replace hp := hp.2
  subst hp
  refine lv_i2l hx hb d_Cnts_comesBefore_11 rfl ?_
  refine lv_lmul hx hb d_Cnts_comesBefore_12 ?_
  refine lv_lstore_n (lv' := [(3, .long (((fl a).toInt64) * ((fb b).toInt64))), (0, .ref o), (1, .int (nI a)), (2, .int (nI b))]) hx hb d_Cnts_comesBefore_13 rfl hl (by decide) rfl (fun ls hl => ?_)
  refine lv_aload_n hx hb d_Cnts_comesBefore_14 rfl (lv_at hl 1 rfl) ?_
  refine lv_iload_n hx hb d_Cnts_comesBefore_15 rfl (lv_at hl 3 rfl) ?_
  refine mm_calli (mm_runV (As := [.int (nI b)]) (rest := []) E hZ hml hl.1 lk_Cnts_22 me_Cnts_lateAt in_Cnts_lateAt (c_Cnts_lateAt l g h0 hb5) ho cl_Cnts.1 ⟨Nat.le_of_ble_eq_true rfl, Nat.le_of_ble_eq_true rfl⟩ rfl (Nat.le_of_ble_eq_true rfl) d_Cnts_comesBefore_16 ⟨Nat.le_of_ble_eq_true rfl, Nat.le_of_ble_eq_true rfl⟩) hZ (fun r3 M1 H locs hp hZ => ?_)
  rw [hp.1] at hZ
  replace hp := hp.2
  subst hp
  refine lv_i2l hx hb d_Cnts_comesBefore_19 rfl ?_
  refine lv_aload_n hx hb d_Cnts_comesBefore_20 rfl (lv_at hl 1 rfl) ?_
  refine lv_iload_n hx hb d_Cnts_comesBefore_21 rfl (lv_at hl 2 rfl) ?_
  refine mm_calli (mm_runV (As := [.int (nI a)]) (rest := [.long ((fl b).toInt64)]) E hZ hml hl.1 lk_Cnts_36 me_Cnts_begunAt in_Cnts_begunAt (c_Cnts_begunAt l g h0 ha) ho cl_Cnts.1 ⟨Nat.le_of_ble_eq_true rfl, Nat.le_of_ble_eq_true rfl⟩ rfl (Nat.le_of_ble_eq_true rfl) d_Cnts_comesBefore_22 ⟨Nat.le_of_ble_eq_true rfl, Nat.le_of_ble_eq_true rfl⟩) hZ (fun r4 M1 H locs hp hZ => ?_)
  rw [hp.1] at hZ
  replace hp := hp.2
  subst hp
  refine lv_i2l hx hb d_Cnts_comesBefore_25 rfl ?_
  refine lv_lmul hx hb d_Cnts_comesBefore_26 ?_
  refine lv_lstore (lv' := [(5, .long (((fl b).toInt64) * ((fb a).toInt64))), (3, .long (((fl a).toInt64) * ((fb b).toInt64))), (0, .ref o), (1, .int (nI a)), (2, .int (nI b))]) hx hb d_Cnts_comesBefore_27 hl (by decide) rfl (fun ls hl => ?_)
  refine lv_lload_n hx hb d_Cnts_comesBefore_29 rfl (lv_at hl 1 rfl) ?_
  refine lv_lload hx hb d_Cnts_comesBefore_30 (lv_at hl 0 rfl) ?_
  refine W.lcmp hx hb d_Cnts_comesBefore_32 ?_
  refine lv_if_gt (tgt := 48) hx hb d_Cnts_comesBefore_33 (by decide) (fun c33 => ?_) (fun c33 => ?_)
  · have c33 := (lg_cmp_gt _ _).mp c33
    refine lv_iconst (v := 1) hx hb d_Cnts_comesBefore_48 (by decide) ?_
    refine lv_goto (tgt := 53) hx hb d_Cnts_comesBefore_49 (by decide) ?_
    exact mm_zret (v := 1) E hr hlk eQ hZ rfl d_Cnts_comesBefore_53 ⟨_, rfl, rfl, b32_t (Or.inl c33)⟩
  · have c33 := mt (lg_cmp_gt _ _).mpr c33
    refine lv_lload_n hx hb d_Cnts_comesBefore_36 rfl (lv_at hl 1 rfl) ?_
    refine lv_lload hx hb d_Cnts_comesBefore_37 (lv_at hl 0 rfl) ?_
    refine W.lcmp hx hb d_Cnts_comesBefore_39 ?_
    refine lv_if_ne (tgt := 52) hx hb d_Cnts_comesBefore_40 (by decide) (fun c40 => ?_) (fun c40 => ?_)
    · have c40 := mt (lg_cmp_eq _ _).mpr c40
      refine lv_iconst (v := 0) hx hb d_Cnts_comesBefore_52 (by decide) ?_
      exact mm_zret (v := 0) E hr hlk eQ hZ rfl d_Cnts_comesBefore_53 ⟨_, rfl, rfl, b32_f (fun z => z.elim c33 (fun y => c40 y.1))⟩
    · have c40 := (lg_cmp_eq _ _).mp c40
      refine lv_iload_n hx hb d_Cnts_comesBefore_43 rfl (lv_at hl 3 rfl) ?_
      refine lv_iload_n hx hb d_Cnts_comesBefore_44 rfl (lv_at hl 4 rfl) ?_
      refine lv_icmp_ge (tgt := 52) hx hb d_Cnts_comesBefore_45 (by decide) (fun c45 => ?_) (fun c45 => ?_)
      · refine lv_iconst (v := 0) hx hb d_Cnts_comesBefore_52 (by decide) ?_
        exact mm_zret (v := 0) E hr hlk eQ hZ rfl d_Cnts_comesBefore_53 ⟨_, rfl, rfl, b32_f (fun z => z.elim c33 (fun y => absurd y.2 (Int32.not_lt.mpr c45)))⟩
      · refine lv_iconst (v := 1) hx hb d_Cnts_comesBefore_48 (by decide) ?_
        refine lv_goto (tgt := 53) hx hb d_Cnts_comesBefore_49 (by decide) ?_
        exact mm_zret (v := 1) E hr hlk eQ hZ rfl d_Cnts_comesBefore_53 ⟨_, rfl, rfl, b32_t (Or.inr ⟨c40, Int32.not_le.mp c45⟩)⟩
set_option maxHeartbeats 4000000 in
set_option maxRecDepth 100000 in
theorem c_Cnts_clustersBefore (l : Launch) (g : mm_G) {M0 : mm_M} {o bA lA : Nat} {fb fl : Nat → Int32} (h0 : Cn g M0 o bA lA fb fl) {p : Nat} (hp5 : p < 50) : Ci l g y_Cnts_clustersBefore b_Cnts_clustersBefore 4 .int (rk 3 67 0 0) M0 [.ref o, .int (nI p)] (fun r M' => M' = M0 ∧ r = nI (cbN fb fl p 50)) := by
  refine mm_enter (by decide) (Nat.le_of_ble_eq_true rfl) (fun pG eV s m args below meth cdx ls Q E hml hr hlk hnm hZ hl eQ => ?_)
  have hx := E.1
  have hb := E.2.1
  have hl : lv_has ls 4 [(0, .ref o), (1, .int (nI p))] := hl
  have ho := h0.1
  have hbA := h0.2.1
  have hlA := h0.2.2
  refine lv_iconst (v := 0) hx hb d_Cnts_clustersBefore_0 (by decide) ?_
  refine lv_istore_n (lv' := [(2, .int 0), (0, .ref o), (1, .int (nI p))]) hx hb d_Cnts_clustersBefore_1 rfl hl (by decide) rfl (fun ls hl => ?_)
  refine lv_iconst (v := 0) hx hb d_Cnts_clustersBefore_2 (by decide) ?_
  refine lv_istore_n (lv' := [(3, .int 0), (2, .int 0), (0, .ref o), (1, .int (nI p))]) hx hb d_Cnts_clustersBefore_3 rfl hl (by decide) rfl (fun ls hl => ?_)
  have loop : ∀ (n : Nat) (k : Nat) (H : Heap) (locs : List Loc) (ls : Array Slot), mm_S g s M0 H locs → k ≤ 50 → 51 ≤ k + n → lv_has ls 4 [(0, .ref o), (1, .int (nI p)), (2, .int (nI (cbN fb fl p k))), (3, .int (nI k))] → W pG l eV (rk 3 67 0 0) s m args below meth cdx H locs 0 0 Q (F0 m 4 ls []) := by
    intro n
    induction n with
    | zero => exact fun k H locs ls _ hk1 hfu _ => absurd hfu (by omega)
    | succ n ih =>
      intro k H locs ls hZ hk1 hfu hl
      refine lv_iload_n hx hb d_Cnts_clustersBefore_4 rfl (lv_at hl 3 rfl) ?_
      refine lv_bipush (v := 50) hx hb d_Cnts_clustersBefore_5 (by decide) ?_
      refine lv_icmp_ge (tgt := 36) hx hb d_Cnts_clustersBefore_7 (by decide) (fun c7 => ?_) (fun c7 => ?_)
      · have hk2 : k = 50 := by
          rcases Nat.lt_or_ge k 50 with z | z
          · exact absurd (show nI 50 ≤ nI k from c7) (nI_ge z (by decide))
          · omega
        subst hk2
        refine lv_iload_n hx hb d_Cnts_clustersBefore_36 rfl (lv_at hl 2 rfl) ?_
        exact mm_iret (v := nI (cbN fb fl p 50)) E hr hlk eQ hZ d_Cnts_clustersBefore_37 ⟨_, rfl, rfl, rfl⟩
      · have hk2 : k < 50 := by
          rcases Nat.lt_or_ge k 50 with z | z
          · exact z
          · exact absurd (show nI 50 ≤ nI k from nI_le z (by omega)) c7
        refine lv_aload_n hx hb d_Cnts_clustersBefore_10 rfl (lv_at hl 0 rfl) ?_
        refine lv_iload_n hx hb d_Cnts_clustersBefore_11 rfl (lv_at hl 3 rfl) ?_
        refine mm_calli (mm_runV (As := [.int (nI k)]) (rest := []) E hZ hml hl.1 lk_Cnts_26 me_Cnts_isCluster in_Cnts_isCluster (c_Cnts_isCluster l g h0 hk2) ho cl_Cnts.1 ⟨Nat.le_of_ble_eq_true rfl, Nat.le_of_ble_eq_true rfl⟩ rfl (Nat.le_of_ble_eq_true rfl) d_Cnts_clustersBefore_12 ⟨Nat.le_of_ble_eq_true rfl, Nat.le_of_ble_eq_true rfl⟩) hZ (fun r1 M1 H locs hp hZ => ?_)
        rw [hp.1] at hZ
        replace hp := hp.2
        have hp1 := hp
        clear hp
        refine lv_if_eq (tgt := 30) hx hb d_Cnts_clustersBefore_15 (by decide) (fun c15 => ?_) (fun c15 => ?_)
        · refine lv_iinc (v := (nI k) + 1) (lv' := [(3, .int ((nI k) + 1)), (0, .ref o), (1, .int (nI p)), (2, .int (nI (cbN fb fl p k)))]) hx hb d_Cnts_clustersBefore_30 hl (k := 3) rfl rfl (by decide) rfl (fun ls hl => ?_)
          refine lv_goto (tgt := 4) hx hb d_Cnts_clustersBefore_33 (by decide) ?_
          rw [nI_1] at hl
          have hm : cbN fb fl p (k + 1) = cbN fb fl p k := by rw [cbN, if_neg (fun z => b32_eq0.mp (hp1 ▸ c15) z.1)]
          rw [← hm] at hl
          exact ih (k + 1) H locs ls hZ (by omega) (by omega) (lv_sub hl [1, 2, 3, 0] rfl)
        · refine lv_aload_n hx hb d_Cnts_clustersBefore_18 rfl (lv_at hl 0 rfl) ?_
          refine lv_iload_n hx hb d_Cnts_clustersBefore_19 rfl (lv_at hl 3 rfl) ?_
          refine lv_iload_n hx hb d_Cnts_clustersBefore_20 rfl (lv_at hl 1 rfl) ?_
          refine mm_calli (mm_runV (As := [.int (nI k), .int (nI p)]) (rest := []) E hZ hml hl.1 lk_Cnts_32 me_Cnts_comesBefore in_Cnts_comesBefore (c_Cnts_comesBefore l g h0 hk2 hp5) ho cl_Cnts.1 ⟨Nat.le_of_ble_eq_true rfl, Nat.le_of_ble_eq_true rfl⟩ rfl (Nat.le_of_ble_eq_true rfl) d_Cnts_clustersBefore_21 ⟨Nat.le_of_ble_eq_true rfl, Nat.le_of_ble_eq_true rfl⟩) hZ (fun r2 M1 H locs hp hZ => ?_)
          rw [hp.1] at hZ
          replace hp := hp.2
          refine lv_if_eq (tgt := 30) hx hb d_Cnts_clustersBefore_24 (by decide) (fun c24 => ?_) (fun c24 => ?_)
          · refine lv_iinc (v := (nI k) + 1) (lv' := [(3, .int ((nI k) + 1)), (0, .ref o), (1, .int (nI p)), (2, .int (nI (cbN fb fl p k)))]) hx hb d_Cnts_clustersBefore_30 hl (k := 3) rfl rfl (by decide) rfl (fun ls hl => ?_)
            refine lv_goto (tgt := 4) hx hb d_Cnts_clustersBefore_33 (by decide) ?_
            rw [nI_1] at hl
            have hm : cbN fb fl p (k + 1) = cbN fb fl p k := by rw [cbN, if_neg (fun z => b32_eq0.mp (hp ▸ c24) z.2)]
            rw [← hm] at hl
            exact ih (k + 1) H locs ls hZ (by omega) (by omega) (lv_sub hl [1, 2, 3, 0] rfl)
          · refine lv_iinc (v := (nI (cbN fb fl p k)) + 1) (lv' := [(2, .int ((nI (cbN fb fl p k)) + 1)), (0, .ref o), (1, .int (nI p)), (3, .int (nI k))]) hx hb d_Cnts_clustersBefore_27 hl (k := 2) rfl rfl (by decide) rfl (fun ls hl => ?_)
            refine lv_iinc (v := (nI k) + 1) (lv' := [(3, .int ((nI k) + 1)), (2, .int ((nI (cbN fb fl p k)) + 1)), (0, .ref o), (1, .int (nI p))]) hx hb d_Cnts_clustersBefore_30 hl (k := 3) rfl rfl (by decide) rfl (fun ls hl => ?_)
            refine lv_goto (tgt := 4) hx hb d_Cnts_clustersBefore_33 (by decide) ?_
            rw [nI_1] at hl
            rw [nI_1] at hl
            have hm : cbN fb fl p (k + 1) = cbN fb fl p k + 1 := by rw [cbN, if_pos ⟨b32_ne0 (hp1 ▸ c15), b32_ne0 (hp ▸ c24)⟩]
            rw [← hm] at hl
            exact ih (k + 1) H locs ls hZ (by omega) (by omega) (lv_sub hl [2, 3, 1, 0] rfl)
  exact loop 51 0 s.heap [] ls hZ (Nat.zero_le _) (by omega) (lv_sub hl [2, 3, 1, 0] rfl)
set_option maxHeartbeats 4000000 in
set_option maxRecDepth 100000 in
theorem c_Cnts_clusterPlace (l : Launch) (g : mm_G) {M0 : mm_M} {o bA lA : Nat} {fb fl : Nat → Int32} (h0 : Cn g M0 o bA lA fb fl) (i : Int32) : Ci l g y_Cnts_clusterPlace b_Cnts_clusterPlace 3 .int (rk 4 90 0 0) M0 [.ref o, .int i] (fun r M' => M' = M0 ∧ ((∃ k, k < 50 ∧ (3 ≤ fl k ∧ nI (cbN fb fl k 50) = i) ∧ r = nI k ∧ ∀ j, j < k → ¬ (3 ≤ fl j ∧ nI (cbN fb fl j 50) = i)) ∨ ((∀ j, j < 50 → ¬ (3 ≤ fl j ∧ nI (cbN fb fl j 50) = i)) ∧ r = (-1)))) := by
  refine mm_enter (by decide) (Nat.le_of_ble_eq_true rfl) (fun pG eV s m args below meth cdx ls Q E hml hr hlk hnm hZ hl eQ => ?_)
  have hx := E.1
  have hb := E.2.1
  have hl : lv_has ls 3 [(0, .ref o), (1, .int i)] := hl
  have ho := h0.1
  have hbA := h0.2.1
  have hlA := h0.2.2
  refine lv_iconst (v := 0) hx hb d_Cnts_clusterPlace_0 (by decide) ?_
  refine lv_istore_n (lv' := [(2, .int 0), (0, .ref o), (1, .int i)]) hx hb d_Cnts_clusterPlace_1 rfl hl (by decide) rfl (fun ls hl => ?_)
  have loop : ∀ (n : Nat) (k : Nat) (H : Heap) (locs : List Loc) (ls : Array Slot), mm_S g s M0 H locs → k ≤ 50 → (∀ j, j < k → ¬ (3 ≤ fl j ∧ nI (cbN fb fl j 50) = i)) → 51 ≤ k + n → lv_has ls 3 [(0, .ref o), (1, .int i), (2, .int (nI k))] → W pG l eV (rk 4 90 0 0) s m args below meth cdx H locs 0 0 Q (F0 m 2 ls []) := by
    intro n
    induction n with
    | zero => exact fun k H locs ls _ hk1 hno hfu _ => absurd hfu (by omega)
    | succ n ih =>
      intro k H locs ls hZ hk1 hno hfu hl
      refine lv_iload_n hx hb d_Cnts_clusterPlace_2 rfl (lv_at hl 2 rfl) ?_
      refine lv_bipush (v := 50) hx hb d_Cnts_clusterPlace_3 (by decide) ?_
      refine lv_icmp_ge (tgt := 33) hx hb d_Cnts_clusterPlace_5 (by decide) (fun c5 => ?_) (fun c5 => ?_)
      · have hk2 : k = 50 := by
          rcases Nat.lt_or_ge k 50 with z | z
          · exact absurd (show nI 50 ≤ nI k from c5) (nI_ge z (by decide))
          · omega
        subst hk2
        refine lv_iconst (v := (-1)) hx hb d_Cnts_clusterPlace_33 (by decide) ?_
        exact mm_iret (v := (-1)) E hr hlk eQ hZ d_Cnts_clusterPlace_34 ⟨_, rfl, rfl, Or.inr ⟨hno, rfl⟩⟩
      · have hk2 : k < 50 := by
          rcases Nat.lt_or_ge k 50 with z | z
          · exact z
          · exact absurd (show nI 50 ≤ nI k from nI_le z (by omega)) c5
        refine lv_aload_n hx hb d_Cnts_clusterPlace_8 rfl (lv_at hl 0 rfl) ?_
        refine lv_iload_n hx hb d_Cnts_clusterPlace_9 rfl (lv_at hl 2 rfl) ?_
        refine mm_calli (mm_runV (As := [.int (nI k)]) (rest := []) E hZ hml hl.1 lk_Cnts_26 me_Cnts_isCluster in_Cnts_isCluster (c_Cnts_isCluster l g h0 hk2) ho cl_Cnts.1 ⟨Nat.le_of_ble_eq_true rfl, Nat.le_of_ble_eq_true rfl⟩ rfl (Nat.le_of_ble_eq_true rfl) d_Cnts_clusterPlace_10 ⟨Nat.le_of_ble_eq_true rfl, Nat.le_of_ble_eq_true rfl⟩) hZ (fun r1 M1 H locs hp hZ => ?_)
        rw [hp.1] at hZ
        replace hp := hp.2
        have hp1 := hp
        clear hp
        refine lv_if_eq (tgt := 27) hx hb d_Cnts_clusterPlace_13 (by decide) (fun c13 => ?_) (fun c13 => ?_)
        · refine lv_iinc (v := (nI k) + 1) (lv' := [(2, .int ((nI k) + 1)), (0, .ref o), (1, .int i)]) hx hb d_Cnts_clusterPlace_27 hl (k := 2) rfl rfl (by decide) rfl (fun ls hl => ?_)
          refine lv_goto (tgt := 2) hx hb d_Cnts_clusterPlace_30 (by decide) ?_
          rw [nI_1] at hl
          exact ih (k + 1) H locs ls hZ (by omega) (fun j z => by
            rcases Nat.lt_or_ge j k with y | y
            · exact hno j y
            · rw [show j = k by omega]; exact fun z => b32_eq0.mp (hp1 ▸ c13) z.1) (by omega) (lv_sub hl [1, 2, 0] rfl)
        · refine lv_aload_n hx hb d_Cnts_clusterPlace_16 rfl (lv_at hl 0 rfl) ?_
          refine lv_iload_n hx hb d_Cnts_clusterPlace_17 rfl (lv_at hl 2 rfl) ?_
          refine mm_calli (mm_runV (As := [.int (nI k)]) (rest := []) E hZ hml hl.1 lk_Cnts_29 me_Cnts_clustersBefore in_Cnts_clustersBefore (c_Cnts_clustersBefore l g h0 hk2) ho cl_Cnts.1 ⟨Nat.le_of_ble_eq_true rfl, Nat.le_of_ble_eq_true rfl⟩ rfl (Nat.le_of_ble_eq_true rfl) d_Cnts_clusterPlace_18 ⟨Nat.le_of_ble_eq_true rfl, Nat.le_of_ble_eq_true rfl⟩) hZ (fun r2 M1 H locs hp hZ => ?_)
          rw [hp.1] at hZ
          replace hp := hp.2
          refine lv_iload_n hx hb d_Cnts_clusterPlace_21 rfl (lv_at hl 1 rfl) ?_
          refine lv_icmp_ne (tgt := 27) hx hb d_Cnts_clusterPlace_22 (by decide) (fun c22 => ?_) (fun c22 => ?_)
          · refine lv_iinc (v := (nI k) + 1) (lv' := [(2, .int ((nI k) + 1)), (0, .ref o), (1, .int i)]) hx hb d_Cnts_clusterPlace_27 hl (k := 2) rfl rfl (by decide) rfl (fun ls hl => ?_)
            refine lv_goto (tgt := 2) hx hb d_Cnts_clusterPlace_30 (by decide) ?_
            rw [nI_1] at hl
            exact ih (k + 1) H locs ls hZ (by omega) (fun j z => by
              rcases Nat.lt_or_ge j k with y | y
              · exact hno j y
              · rw [show j = k by omega]; exact fun z => c22 (hp.trans z.2)) (by omega) (lv_sub hl [1, 2, 0] rfl)
          · refine lv_iload_n hx hb d_Cnts_clusterPlace_25 rfl (lv_at hl 2 rfl) ?_
            exact mm_iret (v := nI k) E hr hlk eQ hZ d_Cnts_clusterPlace_26 ⟨_, rfl, rfl, Or.inl ⟨k, hk2, ⟨b32_ne0 (hp1 ▸ c13), hp.symm.trans c22⟩, rfl, hno⟩⟩
  exact loop 51 0 s.heap [] ls hZ (Nat.zero_le _) (fun j z => absurd z (Nat.not_lt_zero j)) (by omega) (lv_sub hl [1, 2, 0] rfl)
end
section
/-! THE CLASS: DeliveryList -/
def Dl (g : mm_G) (M : mm_M) (o dA2 sA c : Nat) (fd fs : Nat → Int32) : Prop := M o = some (ob 6 3 [.ref dA2, .ref sA, .int (nI c)]) ∧ M dA2 = some (ai 16 (g.2.2 0) 512 fd) ∧ M sA = some (ai 17 (g.2.2 0) 512 fs)
def cnt (fs : Nat → Int32) (v : Int32) : Nat → Nat
  | 0 => 0
  | k + 1 => if fs k = v then cnt fs v k + 1 else cnt fs v k
theorem cnt_le (fs : Nat → Int32) (v : Int32) (k : Nat) : cnt fs v k ≤ k := by
  induction k with
  | zero => exact Nat.le_refl _
  | succ k ih => unfold cnt; split <;> omega
def ins2 (fd fs fd' fs' : Nat → Int32) (c : Nat) (x y : Int32) : Prop := ∃ p, p ≤ c ∧ (∀ i, i < p → fd' i = fd i ∧ fs' i = fs i) ∧ fd' p = x ∧ fs' p = y ∧ (∀ i, p ≤ i → i < c → fd' (i + 1) = fd i ∧ fs' (i + 1) = fs i ∧ x < fd i) ∧ (p = 0 ∨ fd (p - 1) ≤ x)
set_option maxHeartbeats 4000000 in
set_option maxRecDepth 100000 in
theorem c_Deliv_init (l : Launch) (g : mm_G) {M0 : mm_M} {o : Nat} (h0 : M0 o = some (ob 6 3 [.null, .null, .int 0])) : Cv l g y_Deliv_init b_Deliv_init 1 (rk 1 20 2 1024) M0 [.ref o] (fun M' => ∃ dA2 sA, Dl g M' o dA2 sA 0 (fun _ => 0) (fun _ => 0) ∧ ∀ t, t ≠ 6 → t ≠ 16 → t ≠ 17 → mm_same t M0 M') := by
  refine mm_enter (by decide) (Nat.le_of_ble_eq_true rfl) (fun pG eV s m args below meth cdx ls Q E hml hr hlk hnm hZ hl eQ => ?_)
  have hx := E.1
  have hb := E.2.1
  have hl : lv_has ls 1 [(0, .ref o)] := hl
  refine lv_aload_n hx hb d_Deliv_init_0 rfl (lv_at hl 0 rfl) ?_
  refine mm_objI E hml hl.1 w_116 w_30 w_31 (Nat.le_of_ble_eq_true rfl) (Nat.le_of_ble_eq_true rfl) d_Deliv_init_1 ?_
  refine lv_aload_n hx hb d_Deliv_init_4 rfl (lv_at hl 0 rfl) ?_
  refine lv_sipush (v := 512) hx hb d_Deliv_init_5 (by decide) ?_
  refine mm_newi 16 (t0 := 0) (cA := g.2.2 0) (N := 512) E hZ rfl w_110 (by decide) (by decide) (by decide) (Nat.le_of_ble_eq_true rfl) (Nat.le_of_ble_eq_true rfl) d_Deliv_init_8 (fun dA2 H hBb hNb hZ => ?_)
  obtain ⟨Ma, eMa⟩ : ∃ zz : mm_M, zz = mm_up M0 dA2 (ai 16 (g.2.2 0) 512 (fun _ => 0)) := ⟨_, rfl⟩
  have hZ : mm_S g s Ma H [] := by rw [eMa]; exact hZ
  have h1 := (congrFun eMa o).trans ((mm_ne _ _ (mm_apartN h0 hNb)).trans h0)
  have h2 := (congrFun eMa dA2).trans (mm_self _ _ _)
  refine mm_putF (k := 0) E hnm hZ cl_Deliv w_117 (by decide) rfl rfl h1 (by decide) rfl rfl (Nat.le_of_ble_eq_true rfl) d_Deliv_init_10 (fun H locs hZ => ?_)
  obtain ⟨M3, eM3⟩ : ∃ zz : mm_M, zz = mm_up Ma o (ob 6 3 [.ref dA2, .null, .int 0]) := ⟨_, rfl⟩
  have hZ : mm_S g s M3 H locs := by rw [eM3]; exact hZ
  have h4 := (congrFun eM3 dA2).trans ((mm_ne _ _ (mm_tag h2 h1 (by decide))).trans h2)
  have h5 := (congrFun eM3 o).trans (mm_self _ _ _)
  refine lv_aload_n hx hb d_Deliv_init_13 rfl (lv_at hl 0 rfl) ?_
  refine lv_sipush (v := 512) hx hb d_Deliv_init_14 (by decide) ?_
  refine mm_newi 17 (t0 := 0) (cA := g.2.2 0) (N := 512) E hZ rfl w_110 (by decide) (by decide) (by decide) (Nat.le_of_ble_eq_true rfl) (Nat.le_of_ble_eq_true rfl) d_Deliv_init_17 (fun sA H hBl hNl hZ => ?_)
  obtain ⟨Mc, eMc⟩ : ∃ zz : mm_M, zz = mm_up M3 sA (ai 17 (g.2.2 0) 512 (fun _ => 0)) := ⟨_, rfl⟩
  have hZ : mm_S g s Mc H locs := by rw [eMc]; exact hZ
  have h6 := (congrFun eMc dA2).trans ((mm_ne _ _ (mm_apartN h4 hNl)).trans h4)
  have h7 := (congrFun eMc o).trans ((mm_ne _ _ (mm_apartN h5 hNl)).trans h5)
  have h8 := (congrFun eMc sA).trans (mm_self _ _ _)
  refine mm_putF (k := 1) E hnm hZ cl_Deliv w_118 (by decide) rfl rfl h7 (by decide) rfl rfl (Nat.le_of_ble_eq_true rfl) d_Deliv_init_19 (fun H locs hZ => ?_)
  obtain ⟨M9, eM9⟩ : ∃ zz : mm_M, zz = mm_up Mc o (ob 6 3 [.ref dA2, .ref sA, .int 0]) := ⟨_, rfl⟩
  have hZ : mm_S g s M9 H locs := by rw [eM9]; exact hZ
  have h10 := (congrFun eM9 dA2).trans ((mm_ne _ _ (mm_tag h6 h7 (by decide))).trans h6)
  have h11 := (congrFun eM9 sA).trans ((mm_ne _ _ (mm_tag h8 h7 (by decide))).trans h8)
  have h12 := (congrFun eM9 o).trans (mm_self _ _ _)
  refine lv_aload_n hx hb d_Deliv_init_22 rfl (lv_at hl 0 rfl) ?_
  refine lv_iconst (v := 0) hx hb d_Deliv_init_23 (by decide) ?_
  refine mm_put E hZ cl_Deliv fl_Deliv_18 (by decide) rfl h12 (by decide) rfl rfl (Nat.le_of_ble_eq_true rfl) d_Deliv_init_24 (fun H locs hZ => ?_)
  obtain ⟨M13, eM13⟩ : ∃ zz : mm_M, zz = mm_up M9 o (ob 6 3 [.ref dA2, .ref sA, .int 0]) := ⟨_, rfl⟩
  have hZ : mm_S g s M13 H locs := by rw [eM13]; exact hZ
  have h14 := (congrFun eM13 dA2).trans ((mm_ne _ _ (mm_tag h10 h12 (by decide))).trans h10)
  have h15 := (congrFun eM13 sA).trans ((mm_ne _ _ (mm_tag h11 h12 (by decide))).trans h11)
  have h16 := (congrFun eM13 o).trans (mm_self _ _ _)
  exact mm_vret E hr hlk eQ hZ d_Deliv_init_27 ⟨rfl, dA2, sA, ⟨h16, h14, h15⟩, fun t u5 u13 u14 => by
    rw [eM13]
    refine mm_same.tr ?_ (mm_same.up h12 u5 _)
    rw [eM9]
    refine mm_same.tr ?_ (mm_same.up h7 u5 _)
    rw [eMc]
    refine mm_same.tr ?_ (mm_same.new hNl _)
    rw [eM3]
    refine mm_same.tr ?_ (mm_same.up h1 u5 _)
    rw [eMa]
    exact mm_same.new hNb _⟩
set_option maxHeartbeats 4000000 in
set_option maxRecDepth 100000 in
theorem c_Deliv_countOf (l : Launch) (g : mm_G) {M0 : mm_M} {o dA2 sA c : Nat} {fd fs : Nat → Int32} (h0 : Dl g M0 o dA2 sA c fd fs) (hc : c ≤ 512) (v : Int32) : Ci l g y_Deliv_countOf b_Deliv_countOf 4 .int (rk 0 0 0 0) M0 [.ref o, .int v] (fun r M' => M' = M0 ∧ r = nI (cnt fs v c)) := by
  refine mm_enter (by decide) (Nat.le_of_ble_eq_true rfl) (fun pG eV s m args below meth cdx ls Q E hml hr hlk hnm hZ hl eQ => ?_)
  have hx := E.1
  have hb := E.2.1
  have hl : lv_has ls 4 [(0, .ref o), (1, .int v)] := hl
  have ho := h0.1
  have hdA := h0.2.1
  have hsA := h0.2.2
  refine lv_iconst (v := 0) hx hb d_Deliv_countOf_0 (by decide) ?_
  refine lv_istore_n (lv' := [(2, .int 0), (0, .ref o), (1, .int v)]) hx hb d_Deliv_countOf_1 rfl hl (by decide) rfl (fun ls hl => ?_)
  refine lv_iconst (v := 0) hx hb d_Deliv_countOf_2 (by decide) ?_
  refine lv_istore_n (lv' := [(3, .int 0), (2, .int 0), (0, .ref o), (1, .int v)]) hx hb d_Deliv_countOf_3 rfl hl (by decide) rfl (fun ls hl => ?_)
  have loop : ∀ (n : Nat) (k : Nat) (ls : Array Slot), k ≤ c → c + 1 ≤ k + n → lv_has ls 4 [(0, .ref o), (1, .int v), (2, .int (nI (cnt fs v k))), (3, .int (nI k))] → W pG l eV (rk 0 0 0 0) s m args below meth cdx s.heap [] 0 0 Q (F0 m 4 ls []) := by
    intro n
    induction n with
    | zero => exact fun k ls hk1 hfu _ => absurd hfu (by omega)
    | succ n ih =>
      intro k ls hk1 hfu hl
      refine lv_iload_n hx hb d_Deliv_countOf_4 rfl (lv_at hl 3 rfl) ?_
      refine lv_aload_n hx hb d_Deliv_countOf_5 rfl (lv_at hl 0 rfl) ?_
      refine mm_get E hZ cl_Deliv fl_Deliv_18 (by decide) ho rfl d_Deliv_countOf_6 ?_
      refine lv_icmp_ge (tgt := 31) hx hb d_Deliv_countOf_9 (by decide) (fun c9 => ?_) (fun c9 => ?_)
      · have hk2 : k = c := by
          rcases Nat.lt_or_ge k c with z | z
          · exact absurd c9 (nI_ge z (by omega))
          · omega
        subst hk2
        refine lv_iload_n hx hb d_Deliv_countOf_31 rfl (lv_at hl 2 rfl) ?_
        exact mm_iret (v := nI (cnt fs v k)) E hr hlk eQ hZ d_Deliv_countOf_32 ⟨_, rfl, rfl, rfl⟩
      · have hk2 : k < c := by
          rcases Nat.lt_or_ge k c with z | z
          · exact z
          · exact absurd (nI_le z (by omega)) c9
        refine lv_aload_n hx hb d_Deliv_countOf_12 rfl (lv_at hl 0 rfl) ?_
        refine mm_get E hZ cl_Deliv fl_Deliv_15 (by decide) ho rfl d_Deliv_countOf_13 ?_
        refine lv_iload_n hx hb d_Deliv_countOf_16 rfl (lv_at hl 3 rfl) ?_
        refine mm_iald (t0 := 0) E hZ hsA rfl rfl (show k < 512 by omega) (by decide) d_Deliv_countOf_17 ?_
        refine lv_iload_n hx hb d_Deliv_countOf_18 rfl (lv_at hl 1 rfl) ?_
        refine lv_icmp_ne (tgt := 25) hx hb d_Deliv_countOf_19 (by decide) (fun c19 => ?_) (fun c19 => ?_)
        · refine lv_iinc (v := (nI k) + 1) (lv' := [(3, .int ((nI k) + 1)), (0, .ref o), (1, .int v), (2, .int (nI (cnt fs v k)))]) hx hb d_Deliv_countOf_25 hl (k := 3) rfl rfl (by decide) rfl (fun ls hl => ?_)
          refine lv_goto (tgt := 4) hx hb d_Deliv_countOf_28 (by decide) ?_
          rw [nI_1] at hl
          have hm : cnt fs v (k + 1) = cnt fs v k := by rw [cnt, if_neg c19]
          rw [← hm] at hl
          exact ih (k + 1) ls (by omega) (by omega) (lv_sub hl [1, 2, 3, 0] rfl)
        · refine lv_iinc (v := (nI (cnt fs v k)) + 1) (lv' := [(2, .int ((nI (cnt fs v k)) + 1)), (0, .ref o), (1, .int v), (3, .int (nI k))]) hx hb d_Deliv_countOf_22 hl (k := 2) rfl rfl (by decide) rfl (fun ls hl => ?_)
          refine lv_iinc (v := (nI k) + 1) (lv' := [(3, .int ((nI k) + 1)), (2, .int ((nI (cnt fs v k)) + 1)), (0, .ref o), (1, .int v)]) hx hb d_Deliv_countOf_25 hl (k := 3) rfl rfl (by decide) rfl (fun ls hl => ?_)
          refine lv_goto (tgt := 4) hx hb d_Deliv_countOf_28 (by decide) ?_
          rw [nI_1] at hl
          rw [nI_1] at hl
          have hm : cnt fs v (k + 1) = cnt fs v k + 1 := by rw [cnt, if_pos c19]
          rw [← hm] at hl
          exact ih (k + 1) ls (by omega) (by omega) (lv_sub hl [2, 3, 1, 0] rfl)
  exact loop (c + 1) 0 ls (Nat.zero_le _) (by omega) (lv_sub hl [2, 3, 1, 0] rfl)
set_option maxHeartbeats 4000000 in
set_option maxRecDepth 100000 in
theorem c_Deliv_daysAtRank (l : Launch) (g : mm_G) {M0 : mm_M} {o dA2 sA c : Nat} {fd fs : Nat → Int32} (h0 : Dl g M0 o dA2 sA c fd fs) (hc : c ≤ 512) (v rk0 : Int32) : Ci l g y_Deliv_daysAtRank b_Deliv_daysAtRank 5 .int (rk 0 0 0 0) M0 [.ref o, .int v, .int rk0] (fun r M' => M' = M0 ∧ ((∃ j, j < c ∧ (fs j = v ∧ nI (cnt fs v (j + 1)) = rk0) ∧ r = fd j) ∨ ((∀ j, j < c → ¬ (fs j = v ∧ nI (cnt fs v (j + 1)) = rk0)) ∧ r = (-1)))) := by
  refine mm_enter (by decide) (Nat.le_of_ble_eq_true rfl) (fun pG eV s m args below meth cdx ls Q E hml hr hlk hnm hZ hl eQ => ?_)
  have hx := E.1
  have hb := E.2.1
  have hl : lv_has ls 5 [(0, .ref o), (1, .int v), (2, .int rk0)] := hl
  have ho := h0.1
  have hdA := h0.2.1
  have hsA := h0.2.2
  refine lv_iconst (v := 0) hx hb d_Deliv_daysAtRank_0 (by decide) ?_
  refine lv_istore_n (lv' := [(3, .int 0), (0, .ref o), (1, .int v), (2, .int rk0)]) hx hb d_Deliv_daysAtRank_1 rfl hl (by decide) rfl (fun ls hl => ?_)
  refine lv_iconst (v := 0) hx hb d_Deliv_daysAtRank_2 (by decide) ?_
  refine lv_istore (lv' := [(4, .int 0), (3, .int 0), (0, .ref o), (1, .int v), (2, .int rk0)]) hx hb d_Deliv_daysAtRank_3 hl (by decide) rfl (fun ls hl => ?_)
  have loop : ∀ (n : Nat) (k : Nat) (ls : Array Slot), k ≤ c → (∀ j, j < k → ¬ (fs j = v ∧ nI (cnt fs v (j + 1)) = rk0)) → c + 1 ≤ k + n → lv_has ls 5 [(0, .ref o), (1, .int v), (2, .int rk0), (3, .int (nI (cnt fs v k))), (4, .int (nI k))] → W pG l eV (rk 0 0 0 0) s m args below meth cdx s.heap [] 0 0 Q (F0 m 5 ls []) := by
    intro n
    induction n with
    | zero => exact fun k ls hk1 hno hfu _ => absurd hfu (by omega)
    | succ n ih =>
      intro k ls hk1 hno hfu hl
      refine lv_iload hx hb d_Deliv_daysAtRank_5 (lv_at hl 4 rfl) ?_
      refine lv_aload_n hx hb d_Deliv_daysAtRank_7 rfl (lv_at hl 0 rfl) ?_
      refine mm_get E hZ cl_Deliv fl_Deliv_18 (by decide) ho rfl d_Deliv_daysAtRank_8 ?_
      refine lv_icmp_ge (tgt := 47) hx hb d_Deliv_daysAtRank_11 (by decide) (fun c11 => ?_) (fun c11 => ?_)
      · have hk2 : k = c := by
          rcases Nat.lt_or_ge k c with z | z
          · exact absurd c11 (nI_ge z (by omega))
          · omega
        subst hk2
        refine lv_iconst (v := (-1)) hx hb d_Deliv_daysAtRank_47 (by decide) ?_
        exact mm_iret (v := (-1)) E hr hlk eQ hZ d_Deliv_daysAtRank_48 ⟨_, rfl, rfl, Or.inr ⟨hno, rfl⟩⟩
      · have hk2 : k < c := by
          rcases Nat.lt_or_ge k c with z | z
          · exact z
          · exact absurd (nI_le z (by omega)) c11
        refine lv_aload_n hx hb d_Deliv_daysAtRank_14 rfl (lv_at hl 0 rfl) ?_
        refine mm_get E hZ cl_Deliv fl_Deliv_15 (by decide) ho rfl d_Deliv_daysAtRank_15 ?_
        refine lv_iload hx hb d_Deliv_daysAtRank_18 (lv_at hl 4 rfl) ?_
        refine mm_iald (t0 := 0) E hZ hsA rfl rfl (show k < 512 by omega) (by decide) d_Deliv_daysAtRank_20 ?_
        refine lv_iload_n hx hb d_Deliv_daysAtRank_21 rfl (lv_at hl 1 rfl) ?_
        refine lv_icmp_ne (tgt := 41) hx hb d_Deliv_daysAtRank_22 (by decide) (fun c22 => ?_) (fun c22 => ?_)
        · have hm : cnt fs v (k + 1) = cnt fs v k := by rw [cnt, if_neg c22]
          rw [← hm] at hl
          refine lv_iinc (v := (nI k) + 1) (lv' := [(4, .int ((nI k) + 1)), (0, .ref o), (1, .int v), (2, .int rk0), (3, .int (nI (cnt fs v (k + 1))))]) hx hb d_Deliv_daysAtRank_41 hl (k := 4) rfl rfl (by decide) rfl (fun ls hl => ?_)
          refine lv_goto (tgt := 5) hx hb d_Deliv_daysAtRank_44 (by decide) ?_
          rw [nI_1] at hl
          exact ih (k + 1) ls (by omega) (fun j z => by
            rcases Nat.lt_or_ge j k with y | y
            · exact hno j y
            · rw [show j = k by omega]; exact fun z => c22 z.1) (by omega) (lv_sub hl [1, 2, 3, 4, 0] rfl)
        · have hm : cnt fs v (k + 1) = cnt fs v k + 1 := by rw [cnt, if_pos c22]
          refine lv_iinc (v := (nI (cnt fs v k)) + 1) (lv' := [(3, .int ((nI (cnt fs v k)) + 1)), (0, .ref o), (1, .int v), (2, .int rk0), (4, .int (nI k))]) hx hb d_Deliv_daysAtRank_25 hl (k := 3) rfl rfl (by decide) rfl (fun ls hl => ?_)
          rw [nI_1, ← hm] at hl
          refine lv_iload_n hx hb d_Deliv_daysAtRank_28 rfl (lv_at hl 0 rfl) ?_
          refine lv_iload_n hx hb d_Deliv_daysAtRank_29 rfl (lv_at hl 3 rfl) ?_
          refine lv_icmp_ne (tgt := 41) hx hb d_Deliv_daysAtRank_30 (by decide) (fun c30 => ?_) (fun c30 => ?_)
          · refine lv_iinc (v := (nI k) + 1) (lv' := [(4, .int ((nI k) + 1)), (3, .int (nI (cnt fs v (k + 1)))), (0, .ref o), (1, .int v), (2, .int rk0)]) hx hb d_Deliv_daysAtRank_41 hl (k := 4) rfl rfl (by decide) rfl (fun ls hl => ?_)
            refine lv_goto (tgt := 5) hx hb d_Deliv_daysAtRank_44 (by decide) ?_
            rw [nI_1] at hl
            exact ih (k + 1) ls (by omega) (fun j z => by
              rcases Nat.lt_or_ge j k with y | y
              · exact hno j y
              · rw [show j = k by omega]; exact fun z => c30 z.2) (by omega) (lv_sub hl [2, 3, 4, 1, 0] rfl)
          · refine lv_aload_n hx hb d_Deliv_daysAtRank_33 rfl (lv_at hl 1 rfl) ?_
            refine mm_get E hZ cl_Deliv fl_Deliv_9 (by decide) ho rfl d_Deliv_daysAtRank_34 ?_
            refine lv_iload hx hb d_Deliv_daysAtRank_37 (lv_at hl 4 rfl) ?_
            refine mm_iald (t0 := 0) E hZ hdA rfl rfl (show k < 512 by omega) (by decide) d_Deliv_daysAtRank_39 ?_
            exact mm_iret (v := fd k) E hr hlk eQ hZ d_Deliv_daysAtRank_40 ⟨_, rfl, rfl, Or.inl ⟨k, hk2, ⟨c22, c30⟩, rfl⟩⟩
  exact loop (c + 1) 0 ls (Nat.zero_le _) (fun j z => absurd z (Nat.not_lt_zero j)) (by omega) (lv_sub hl [2, 3, 4, 1, 0] rfl)
set_option maxHeartbeats 4000000 in
set_option maxRecDepth 100000 in
theorem c_Deliv_addDelivery (l : Launch) (g : mm_G) {M0 : mm_M} {o dA2 sA c : Nat} {fd fs : Nat → Int32} (h0 : Dl g M0 o dA2 sA c fd fs) (hc : c < 512) (y x : Int32) : Cv l g y_Deliv_addDelivery b_Deliv_addDelivery 4 (rk 0 0 0 0) M0 [.ref o, .int y, .int x] (fun M' => ∃ fd' fs', Dl g M' o dA2 sA (c + 1) fd' fs' ∧ ins2 fd fs fd' fs' c x y ∧ ∀ t, t ≠ 6 → t ≠ 16 → t ≠ 17 → mm_same t M0 M') := by
  refine mm_enter (by decide) (Nat.le_of_ble_eq_true rfl) (fun pG eV s m args below meth cdx ls Q E hml hr hlk hnm hZ hl eQ => ?_)
  have hx := E.1
  have hb := E.2.1
  have hl : lv_has ls 4 [(0, .ref o), (1, .int y), (2, .int x)] := hl
  have ho := h0.1
  have hdA := h0.2.1
  have hsA := h0.2.2
  refine lv_aload_n hx hb d_Deliv_addDelivery_0 rfl (lv_at hl 0 rfl) ?_
  refine mm_get E hZ cl_Deliv fl_Deliv_18 (by decide) ho rfl d_Deliv_addDelivery_1 ?_
  refine lv_sipush (v := 512) hx hb d_Deliv_addDelivery_4 (by decide) ?_
  refine lv_icmp_lt (tgt := 11) hx hb d_Deliv_addDelivery_7 (by decide) (fun c7 => ?_) (fun c7 => ?_)
  · refine lv_aload_n hx hb d_Deliv_addDelivery_11 rfl (lv_at hl 0 rfl) ?_
    refine mm_get E hZ cl_Deliv fl_Deliv_18 (by decide) ho rfl d_Deliv_addDelivery_12 ?_
    refine lv_istore_n (lv' := [(3, .int (nI c)), (0, .ref o), (1, .int y), (2, .int x)]) hx hb d_Deliv_addDelivery_15 rfl hl (by decide) rfl (fun ls hl => ?_)
    have loop : ∀ (n : Nat) (gd : Nat → Int32) (gs : Nat → Int32) (k : Nat) (M : mm_M) (H : Heap) (locs : List Loc) (ls : Array Slot), mm_S g s M H locs → M o = some (ob 6 3 [.ref dA2, .ref sA, .int (nI c)]) → M dA2 = some (ai 16 (g.2.2 0) 512 gd) → M sA = some (ai 17 (g.2.2 0) 512 gs) → k ≤ c → (∀ i, i < k → gd i = fd i ∧ gs i = fs i) → (∀ i, k ≤ i → i < c → gd (i + 1) = fd i ∧ gs (i + 1) = fs i ∧ x < fd i) → (∀ t, t ≠ 6 → t ≠ 16 → t ≠ 17 → mm_same t M0 M) → k + 1 ≤ n → lv_has ls 4 [(0, .ref o), (1, .int y), (2, .int x), (3, .int (nI k))] → W pG l eV (rk 0 0 0 0) s m args below meth cdx H locs 0 0 Q (F0 m 16 ls []) := by
      intro n
      induction n with
      | zero => exact fun gd gs k M H locs ls _ hMo hMd hMs hk hlo hhi hs hfu _ => absurd hfu (by omega)
      | succ n ih =>
        intro gd gs k M H locs ls hZ hMo hMd hMs hk hlo hhi hs hfu hl
        have J66 : ∀  (ls : Array Slot), k = 0 ∨ fd (k - 1) ≤ x → lv_has ls 4 [(0, .ref o), (1, .int y), (2, .int x), (3, .int (nI k))] → W pG l eV (rk 0 0 0 0) s m args below meth cdx H locs 0 0 Q (F0 m 66 ls []) := by
          intro  ls hst hl
          refine lv_aload_n hx hb d_Deliv_addDelivery_66 rfl (lv_at hl 0 rfl) ?_
          refine mm_get E hZ cl_Deliv fl_Deliv_9 (by decide) hMo rfl d_Deliv_addDelivery_67 ?_
          refine lv_iload_n hx hb d_Deliv_addDelivery_70 rfl (lv_at hl 3 rfl) ?_
          refine lv_iload_n hx hb d_Deliv_addDelivery_71 rfl (lv_at hl 2 rfl) ?_
          refine mm_iast (t0 := 0) E hZ hMd rfl (by decide) rfl (show k < 512 by omega) (by decide) d_Deliv_addDelivery_72 (fun H locs hZ => ?_)
          obtain ⟨M1, eM1⟩ : ∃ zz : mm_M, zz = mm_up M dA2 (ai 16 (g.2.2 0) 512 (va_up gd k x)) := ⟨_, rfl⟩
          have hZ : mm_S g s M1 H locs := by rw [eM1]; exact hZ
          have h2 := (congrFun eM1 o).trans ((mm_ne _ _ (mm_tag hMo hMd (by decide))).trans hMo)
          have h3 := (congrFun eM1 sA).trans ((mm_ne _ _ (mm_tag hMs hMd (by decide))).trans hMs)
          have h4 := (congrFun eM1 dA2).trans (mm_self _ _ _)
          refine lv_aload_n hx hb d_Deliv_addDelivery_73 rfl (lv_at hl 0 rfl) ?_
          refine mm_get E hZ cl_Deliv fl_Deliv_15 (by decide) h2 rfl d_Deliv_addDelivery_74 ?_
          refine lv_iload_n hx hb d_Deliv_addDelivery_77 rfl (lv_at hl 3 rfl) ?_
          refine lv_iload_n hx hb d_Deliv_addDelivery_78 rfl (lv_at hl 1 rfl) ?_
          refine mm_iast (t0 := 0) E hZ h3 rfl (by decide) rfl (show k < 512 by omega) (by decide) d_Deliv_addDelivery_79 (fun H locs hZ => ?_)
          obtain ⟨M5, eM5⟩ : ∃ zz : mm_M, zz = mm_up M1 sA (ai 17 (g.2.2 0) 512 (va_up gs k y)) := ⟨_, rfl⟩
          have hZ : mm_S g s M5 H locs := by rw [eM5]; exact hZ
          have h6 := (congrFun eM5 o).trans ((mm_ne _ _ (mm_tag h2 h3 (by decide))).trans h2)
          have h7 := (congrFun eM5 dA2).trans ((mm_ne _ _ (mm_tag h4 h3 (by decide))).trans h4)
          have h8 := (congrFun eM5 sA).trans (mm_self _ _ _)
          refine lv_aload_n hx hb d_Deliv_addDelivery_80 rfl (lv_at hl 0 rfl) ?_
          refine lv_dup hx hb d_Deliv_addDelivery_81 rfl ?_
          refine mm_get E hZ cl_Deliv fl_Deliv_18 (by decide) h6 rfl d_Deliv_addDelivery_82 ?_
          refine lv_iconst (v := 1) hx hb d_Deliv_addDelivery_85 (by decide) ?_
          refine lv_iadd hx hb d_Deliv_addDelivery_86 ?_
          refine mm_put E hZ cl_Deliv fl_Deliv_18 (by decide) rfl h6 (by decide) rfl rfl (Nat.le_of_ble_eq_true rfl) d_Deliv_addDelivery_87 (fun H locs hZ => ?_)
          obtain ⟨M9, eM9⟩ : ∃ zz : mm_M, zz = mm_up M5 o (ob 6 3 [.ref dA2, .ref sA, .int ((nI c) + 1)]) := ⟨_, rfl⟩
          have hZ : mm_S g s M9 H locs := by rw [eM9]; exact hZ
          have h10 := (congrFun eM9 dA2).trans ((mm_ne _ _ (mm_tag h7 h6 (by decide))).trans h7)
          have h11 := (congrFun eM9 sA).trans ((mm_ne _ _ (mm_tag h8 h6 (by decide))).trans h8)
          have h12 := (congrFun eM9 o).trans (mm_self _ _ _)
          exact mm_vret E hr hlk eQ hZ d_Deliv_addDelivery_90 ⟨rfl, _, _, ⟨by rw [← nI_1]; exact h12, h10, h11⟩, ⟨k, hk, fun i z => ⟨(va_up_ne _ _ (by omega)).trans (hlo i z).1, (va_up_ne _ _ (by omega)).trans (hlo i z).2⟩, va_up_self _ _ _, va_up_self _ _ _, fun i z1 z2 => ⟨(va_up_ne _ _ (by omega)).trans (hhi i z1 z2).1, (va_up_ne _ _ (by omega)).trans (hhi i z1 z2).2.1, (hhi i z1 z2).2.2⟩, hst⟩, fun t u6 u16 u17 => by
            have q1 := (hs t u6 u16 u17).tr (mm_same.up hMd u16 (ai 16 (g.2.2 0) 512 (va_up gd k x)))
            rw [← eM1] at q1
            have q2 := q1.tr (mm_same.up ((congrFun eM1 sA).trans ((mm_ne _ _ (mm_tag hMs hMd (by decide))).trans hMs)) u17 (ai 17 (g.2.2 0) 512 (va_up gs k y)))
            rw [← eM5] at q2
            rw [eM9]
            exact q2.tr (mm_same.up ((congrFun eM5 o).trans ((mm_ne _ _ (mm_tag ((congrFun eM1 o).trans ((mm_ne _ _ (mm_tag hMo hMd (by decide))).trans hMo)) ((congrFun eM1 sA).trans ((mm_ne _ _ (mm_tag hMs hMd (by decide))).trans hMs)) (by decide))).trans ((congrFun eM1 o).trans ((mm_ne _ _ (mm_tag hMo hMd (by decide))).trans hMo)))) u6 _)⟩
        refine lv_iload_n hx hb d_Deliv_addDelivery_16 rfl (lv_at hl 3 rfl) ?_
        refine lv_if_le (tgt := 66) hx hb d_Deliv_addDelivery_17 (by decide) (fun c17 => ?_) (fun c17 => ?_)
        · exact J66 ls (Or.inl (by
            rcases Nat.eq_zero_or_pos k with z | z
            · exact z
            · exact absurd c17 (nI_nle z (by omega)))) (lv_sub hl [0, 1, 2, 3] rfl)
        · have hk0 : 0 < k := by
            rcases Nat.eq_zero_or_pos k with z | z
            · exact absurd (show nI k ≤ 0 by rw [z]; decide) c17
            · exact z
          refine lv_aload_n hx hb d_Deliv_addDelivery_20 rfl (lv_at hl 0 rfl) ?_
          refine mm_get E hZ cl_Deliv fl_Deliv_9 (by decide) hMo rfl d_Deliv_addDelivery_21 ?_
          refine lv_iload_n hx hb d_Deliv_addDelivery_24 rfl (lv_at hl 3 rfl) ?_
          refine lv_iconst (v := 1) hx hb d_Deliv_addDelivery_25 (by decide) ?_
          refine lv_isub hx hb d_Deliv_addDelivery_26 ?_
          refine mm_iald (t0 := 0) E hZ hMd rfl (nI_m1 hk0) (show (k - 1) < 512 by omega) (by decide) d_Deliv_addDelivery_27 ?_
          refine lv_iload_n hx hb d_Deliv_addDelivery_28 rfl (lv_at hl 2 rfl) ?_
          refine lv_icmp_le (tgt := 66) hx hb d_Deliv_addDelivery_29 (by decide) (fun c29 => ?_) (fun c29 => ?_)
          · exact J66 ls (Or.inr (by rw [← (hlo _ (show k - 1 < k by omega)).1]; exact c29)) (lv_sub hl [0, 1, 2, 3] rfl)
          · refine lv_aload_n hx hb d_Deliv_addDelivery_32 rfl (lv_at hl 0 rfl) ?_
            refine mm_get E hZ cl_Deliv fl_Deliv_9 (by decide) hMo rfl d_Deliv_addDelivery_33 ?_
            refine lv_iload_n hx hb d_Deliv_addDelivery_36 rfl (lv_at hl 3 rfl) ?_
            refine lv_aload_n hx hb d_Deliv_addDelivery_37 rfl (lv_at hl 0 rfl) ?_
            refine mm_get E hZ cl_Deliv fl_Deliv_9 (by decide) hMo rfl d_Deliv_addDelivery_38 ?_
            refine lv_iload_n hx hb d_Deliv_addDelivery_41 rfl (lv_at hl 3 rfl) ?_
            refine lv_iconst (v := 1) hx hb d_Deliv_addDelivery_42 (by decide) ?_
            refine lv_isub hx hb d_Deliv_addDelivery_43 ?_
            refine mm_iald (t0 := 0) E hZ hMd rfl (nI_m1 hk0) (show (k - 1) < 512 by omega) (by decide) d_Deliv_addDelivery_44 ?_
            refine mm_iast (t0 := 0) E hZ hMd rfl (by decide) rfl (show k < 512 by omega) (by decide) d_Deliv_addDelivery_45 (fun H locs hZ => ?_)
            obtain ⟨M13, eM13⟩ : ∃ zz : mm_M, zz = mm_up M dA2 (ai 16 (g.2.2 0) 512 (va_up gd k (gd (k - 1)))) := ⟨_, rfl⟩
            have hZ : mm_S g s M13 H locs := by rw [eM13]; exact hZ
            have h14 := (congrFun eM13 o).trans ((mm_ne _ _ (mm_tag hMo hMd (by decide))).trans hMo)
            have h15 := (congrFun eM13 sA).trans ((mm_ne _ _ (mm_tag hMs hMd (by decide))).trans hMs)
            have h16 := (congrFun eM13 dA2).trans (mm_self _ _ _)
            refine lv_aload_n hx hb d_Deliv_addDelivery_46 rfl (lv_at hl 0 rfl) ?_
            refine mm_get E hZ cl_Deliv fl_Deliv_15 (by decide) h14 rfl d_Deliv_addDelivery_47 ?_
            refine lv_iload_n hx hb d_Deliv_addDelivery_50 rfl (lv_at hl 3 rfl) ?_
            refine lv_aload_n hx hb d_Deliv_addDelivery_51 rfl (lv_at hl 0 rfl) ?_
            refine mm_get E hZ cl_Deliv fl_Deliv_15 (by decide) h14 rfl d_Deliv_addDelivery_52 ?_
            refine lv_iload_n hx hb d_Deliv_addDelivery_55 rfl (lv_at hl 3 rfl) ?_
            refine lv_iconst (v := 1) hx hb d_Deliv_addDelivery_56 (by decide) ?_
            refine lv_isub hx hb d_Deliv_addDelivery_57 ?_
            refine mm_iald (t0 := 0) E hZ h15 rfl (nI_m1 hk0) (show (k - 1) < 512 by omega) (by decide) d_Deliv_addDelivery_58 ?_
            refine mm_iast (t0 := 0) E hZ h15 rfl (by decide) rfl (show k < 512 by omega) (by decide) d_Deliv_addDelivery_59 (fun H locs hZ => ?_)
            obtain ⟨M17, eM17⟩ : ∃ zz : mm_M, zz = mm_up M13 sA (ai 17 (g.2.2 0) 512 (va_up gs k (gs (k - 1)))) := ⟨_, rfl⟩
            have hZ : mm_S g s M17 H locs := by rw [eM17]; exact hZ
            have h18 := (congrFun eM17 o).trans ((mm_ne _ _ (mm_tag h14 h15 (by decide))).trans h14)
            have h19 := (congrFun eM17 dA2).trans ((mm_ne _ _ (mm_tag h16 h15 (by decide))).trans h16)
            have h20 := (congrFun eM17 sA).trans (mm_self _ _ _)
            refine lv_iinc (v := (nI k) + (-1)) (lv' := [(3, .int ((nI k) + (-1))), (0, .ref o), (1, .int y), (2, .int x)]) hx hb d_Deliv_addDelivery_60 hl (k := 3) rfl rfl (by decide) rfl (fun ls hl => ?_)
            refine lv_goto (tgt := 16) hx hb d_Deliv_addDelivery_63 (by decide) ?_
            rw [show nI k + (-1) = nI (k - 1) from sb_m1 hk0] at hl
            have hs2 : ∀ t, t ≠ 6 → t ≠ 16 → t ≠ 17 → mm_same t M0 M17 := fun t u6 u16 u17 => by
              have q1 := (hs t u6 u16 u17).tr (mm_same.up hMd u16 (ai 16 (g.2.2 0) 512 (va_up gd k (gd (k - 1)))))
              rw [← eM13] at q1
              rw [eM17]
              exact q1.tr (mm_same.up ((congrFun eM13 sA).trans ((mm_ne _ _ (mm_tag hMs hMd (by decide))).trans hMs)) u17 _)
            skip
            exact ih _ _ (k - 1) M17 H locs ls hZ h18 h19 h20 (by omega) (fun i z => ⟨(va_up_ne _ _ (by omega)).trans (hlo i (by omega)).1, (va_up_ne _ _ (by omega)).trans (hlo i (by omega)).2⟩) (fun i z1 z2 => by
              by_cases e : i = k - 1
              · subst e
                rw [show k - 1 + 1 = k by omega, va_up_self, va_up_self]
                exact ⟨(hlo _ (by omega)).1, (hlo _ (by omega)).2, by rw [← (hlo _ (show k - 1 < k by omega)).1]; exact Int32.not_le.mp c29⟩
              · rw [va_up_ne _ _ (by omega), va_up_ne _ _ (by omega)]
                exact hhi i (by omega) z2) hs2 (by omega) (lv_sub hl [1, 2, 3, 0] rfl)
    exact loop (c + 1) fd fs c M0 s.heap [] ls hZ ho hdA hsA (Nat.le_refl _) (fun i _ => ⟨rfl, rfl⟩) (fun i z1 z2 => absurd z1 (by omega)) (fun t _ _ _ => mm_same.rf) (Nat.le_refl _) (lv_sub hl [1, 2, 3, 0] rfl)
  · exact absurd (show nI c < nI 512 from nI_lt hc (by decide)) c7
end
