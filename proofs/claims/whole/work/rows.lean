section
-- ===== PART A: goes FIRST, ahead of the names: the tables' words, and 'selects' of the private methods out of them =====
/-- a private method of a class that the tables say can be made, by its rows of tables_1 -/
def lw_okq (q : MethodName × Nat) : Prop := (q.1.cls ≠ "java/lang/invoke/MethodHandle" ∧ q.1.cls ≠ "java/lang/invoke/VarHandle") ∧ Cond.instantiable q.1.cls q.2 ∈ tables_1 ∧ Cond.privateMethod q.1 ∈ tables_1 ∧ Cond.instanceMethod q.1 ∈ tables_1
theorem lw_p0 : lw_okq (⟨"ClockCrossings$Text", "put", "(I)Z"⟩, 7) := ⟨⟨by decide +kernel, by decide +kernel⟩, List.mem_of_getElem? (i := 22) (by decide +kernel), List.mem_of_getElem? (i := 181) (by decide +kernel), List.mem_of_getElem? (i := 182) (by decide +kernel)⟩
theorem lw_p1 : lw_okq (⟨"ClockCrossings$Text", "readInto", "(LClockCrossings$Circuit;)I"⟩, 7) := ⟨⟨by decide +kernel, by decide +kernel⟩, List.mem_of_getElem? (i := 22) (by decide +kernel), List.mem_of_getElem? (i := 193) (by decide +kernel), List.mem_of_getElem? (i := 194) (by decide +kernel)⟩
theorem lw_p2 : lw_okq (⟨"ClockCrossings$Circuit", "empty", "()V"⟩, 11) := ⟨⟨by decide +kernel, by decide +kernel⟩, List.mem_of_getElem? (i := 53) (by decide +kernel), List.mem_of_getElem? (i := 197) (by decide +kernel), List.mem_of_getElem? (i := 198) (by decide +kernel)⟩
theorem lw_p3 : lw_okq (⟨"ClockCrossings$Text", "readToken", "()V"⟩, 7) := ⟨⟨by decide +kernel, by decide +kernel⟩, List.mem_of_getElem? (i := 22) (by decide +kernel), List.mem_of_getElem? (i := 204) (by decide +kernel), List.mem_of_getElem? (i := 205) (by decide +kernel)⟩
theorem lw_p4 : lw_okq (⟨"ClockCrossings$Text", "readNumber", "()V"⟩, 7) := ⟨⟨by decide +kernel, by decide +kernel⟩, List.mem_of_getElem? (i := 22) (by decide +kernel), List.mem_of_getElem? (i := 211) (by decide +kernel), List.mem_of_getElem? (i := 212) (by decide +kernel)⟩
theorem lw_p5 : lw_okq (⟨"ClockCrossings$Circuit", "measureDepths", "()V"⟩, 11) := ⟨⟨by decide +kernel, by decide +kernel⟩, List.mem_of_getElem? (i := 53) (by decide +kernel), List.mem_of_getElem? (i := 218) (by decide +kernel), List.mem_of_getElem? (i := 219) (by decide +kernel)⟩
theorem lw_p6 : lw_okq (⟨"ClockCrossings$Circuit", "onlyHaver", "(I)I"⟩, 11) := ⟨⟨by decide +kernel, by decide +kernel⟩, List.mem_of_getElem? (i := 53) (by decide +kernel), List.mem_of_getElem? (i := 222) (by decide +kernel), List.mem_of_getElem? (i := 223) (by decide +kernel)⟩
theorem lw_p7 : lw_okq (⟨"ClockCrossings$Circuit", "isOf", "(II)Z"⟩, 11) := ⟨⟨by decide +kernel, by decide +kernel⟩, List.mem_of_getElem? (i := 53) (by decide +kernel), List.mem_of_getElem? (i := 229) (by decide +kernel), List.mem_of_getElem? (i := 230) (by decide +kernel)⟩
theorem lw_p8 : lw_okq (⟨"ClockCrossings$Text", "readItem", "(LClockCrossings$Circuit;)Z"⟩, 7) := ⟨⟨by decide +kernel, by decide +kernel⟩, List.mem_of_getElem? (i := 22) (by decide +kernel), List.mem_of_getElem? (i := 233) (by decide +kernel), List.mem_of_getElem? (i := 234) (by decide +kernel)⟩
theorem lw_p9 : lw_okq (⟨"ClockCrossings$Circuit", "hasRoomFor", "(I)Z"⟩, 11) := ⟨⟨by decide +kernel, by decide +kernel⟩, List.mem_of_getElem? (i := 53) (by decide +kernel), List.mem_of_getElem? (i := 251) (by decide +kernel), List.mem_of_getElem? (i := 252) (by decide +kernel)⟩
theorem lw_p10 : lw_okq (⟨"ClockCrossings$Circuit", "allows", "(III)Z"⟩, 11) := ⟨⟨by decide +kernel, by decide +kernel⟩, List.mem_of_getElem? (i := 53) (by decide +kernel), List.mem_of_getElem? (i := 303) (by decide +kernel), List.mem_of_getElem? (i := 304) (by decide +kernel)⟩
theorem lw_p11 : lw_okq (⟨"ClockCrossings$Circuit", "isNode", "(I)Z"⟩, 11) := ⟨⟨by decide +kernel, by decide +kernel⟩, List.mem_of_getElem? (i := 53) (by decide +kernel), List.mem_of_getElem? (i := 307) (by decide +kernel), List.mem_of_getElem? (i := 308) (by decide +kernel)⟩
theorem lw_p12 : lw_okq (⟨"ClockCrossings$Circuit", "isLeaf", "(I)Z"⟩, 11) := ⟨⟨by decide +kernel, by decide +kernel⟩, List.mem_of_getElem? (i := 53) (by decide +kernel), List.mem_of_getElem? (i := 311) (by decide +kernel), List.mem_of_getElem? (i := 312) (by decide +kernel)⟩
theorem lw_p13 : lw_okq (⟨"ClockCrossings$Circuit", "add", "(IIII)V"⟩, 11) := ⟨⟨by decide +kernel, by decide +kernel⟩, List.mem_of_getElem? (i := 53) (by decide +kernel), List.mem_of_getElem? (i := 315) (by decide +kernel), List.mem_of_getElem? (i := 316) (by decide +kernel)⟩
theorem lw_p14 : lw_okq (⟨"ClockCrossings$Circuit", "addNode", "(IIIII)V"⟩, 11) := ⟨⟨by decide +kernel, by decide +kernel⟩, List.mem_of_getElem? (i := 53) (by decide +kernel), List.mem_of_getElem? (i := 319) (by decide +kernel), List.mem_of_getElem? (i := 320) (by decide +kernel)⟩
theorem lw_p15 : lw_okq (⟨"ClockCrossings$Circuit", "addPart", "(III)V"⟩, 11) := ⟨⟨by decide +kernel, by decide +kernel⟩, List.mem_of_getElem? (i := 53) (by decide +kernel), List.mem_of_getElem? (i := 323) (by decide +kernel), List.mem_of_getElem? (i := 324) (by decide +kernel)⟩
def lw_privs_1 : List (MethodName × Nat) := [(⟨"ClockCrossings$Text", "put", "(I)Z"⟩, 7), (⟨"ClockCrossings$Text", "readInto", "(LClockCrossings$Circuit;)I"⟩, 7), (⟨"ClockCrossings$Circuit", "empty", "()V"⟩, 11), (⟨"ClockCrossings$Text", "readToken", "()V"⟩, 7), (⟨"ClockCrossings$Text", "readNumber", "()V"⟩, 7), (⟨"ClockCrossings$Circuit", "measureDepths", "()V"⟩, 11), (⟨"ClockCrossings$Circuit", "onlyHaver", "(I)I"⟩, 11), (⟨"ClockCrossings$Circuit", "isOf", "(II)Z"⟩, 11), (⟨"ClockCrossings$Text", "readItem", "(LClockCrossings$Circuit;)Z"⟩, 7), (⟨"ClockCrossings$Circuit", "hasRoomFor", "(I)Z"⟩, 11), (⟨"ClockCrossings$Circuit", "allows", "(III)Z"⟩, 11), (⟨"ClockCrossings$Circuit", "isNode", "(I)Z"⟩, 11), (⟨"ClockCrossings$Circuit", "isLeaf", "(I)Z"⟩, 11), (⟨"ClockCrossings$Circuit", "add", "(IIII)V"⟩, 11), (⟨"ClockCrossings$Circuit", "addNode", "(IIIII)V"⟩, 11), (⟨"ClockCrossings$Circuit", "addPart", "(III)V"⟩, 11)]
theorem lw_r1 : ∀ q ∈ lw_privs_1, lw_okq q := List.forall_mem_cons.mpr ⟨lw_p0, List.forall_mem_cons.mpr ⟨lw_p1, List.forall_mem_cons.mpr ⟨lw_p2, List.forall_mem_cons.mpr ⟨lw_p3, List.forall_mem_cons.mpr ⟨lw_p4, List.forall_mem_cons.mpr ⟨lw_p5, List.forall_mem_cons.mpr ⟨lw_p6, List.forall_mem_cons.mpr ⟨lw_p7, List.forall_mem_cons.mpr ⟨lw_p8, List.forall_mem_cons.mpr ⟨lw_p9, List.forall_mem_cons.mpr ⟨lw_p10, List.forall_mem_cons.mpr ⟨lw_p11, List.forall_mem_cons.mpr ⟨lw_p12, List.forall_mem_cons.mpr ⟨lw_p13, List.forall_mem_cons.mpr ⟨lw_p14, List.forall_mem_cons.mpr ⟨lw_p15, fun _ h => absurd h List.not_mem_nil⟩⟩⟩⟩⟩⟩⟩⟩⟩⟩⟩⟩⟩⟩⟩⟩
theorem lw_p16 : lw_okq (⟨"ClockCrossings$Circuit", "unlikeClock", "(II)I"⟩, 11) := ⟨⟨by decide +kernel, by decide +kernel⟩, List.mem_of_getElem? (i := 53) (by decide +kernel), List.mem_of_getElem? (i := 330) (by decide +kernel), List.mem_of_getElem? (i := 331) (by decide +kernel)⟩
theorem lw_p17 : lw_okq (⟨"ClockCrossings$Circuit", "setPeriod", "(II)V"⟩, 11) := ⟨⟨by decide +kernel, by decide +kernel⟩, List.mem_of_getElem? (i := 53) (by decide +kernel), List.mem_of_getElem? (i := 334) (by decide +kernel), List.mem_of_getElem? (i := 335) (by decide +kernel)⟩
theorem lw_p18 : lw_okq (⟨"ClockCrossings$Circuit", "addMark", "(II)V"⟩, 11) := ⟨⟨by decide +kernel, by decide +kernel⟩, List.mem_of_getElem? (i := 53) (by decide +kernel), List.mem_of_getElem? (i := 338) (by decide +kernel), List.mem_of_getElem? (i := 339) (by decide +kernel)⟩
theorem lw_p19 : lw_okq (⟨"ClockCrossings$Moment", "begin", "()V"⟩, 6) := ⟨⟨by decide +kernel, by decide +kernel⟩, List.mem_of_getElem? (i := 113) (by decide +kernel), List.mem_of_getElem? (i := 342) (by decide +kernel), List.mem_of_getElem? (i := 343) (by decide +kernel)⟩
theorem lw_p20 : lw_okq (⟨"ClockCrossings", "remember", "()V"⟩, 10) := ⟨⟨by decide +kernel, by decide +kernel⟩, List.mem_of_getElem? (i := 14) (by decide +kernel), List.mem_of_getElem? (i := 351) (by decide +kernel), List.mem_of_getElem? (i := 352) (by decide +kernel)⟩
theorem lw_p21 : lw_okq (⟨"ClockCrossings$Moment", "copy", "(LClockCrossings$Moment;)V"⟩, 6) := ⟨⟨by decide +kernel, by decide +kernel⟩, List.mem_of_getElem? (i := 113) (by decide +kernel), List.mem_of_getElem? (i := 355) (by decide +kernel), List.mem_of_getElem? (i := 356) (by decide +kernel)⟩
theorem lw_p22 : lw_okq (⟨"ClockCrossings", "tick", "(LClockCrossings$Moment;)V"⟩, 10) := ⟨⟨by decide +kernel, by decide +kernel⟩, List.mem_of_getElem? (i := 14) (by decide +kernel), List.mem_of_getElem? (i := 369) (by decide +kernel), List.mem_of_getElem? (i := 370) (by decide +kernel)⟩
theorem lw_p23 : lw_okq (⟨"ClockCrossings$Moment", "follow", "(LClockCrossings$Moment;LClockCrossings$Circuit;)V"⟩, 6) := ⟨⟨by decide +kernel, by decide +kernel⟩, List.mem_of_getElem? (i := 113) (by decide +kernel), List.mem_of_getElem? (i := 373) (by decide +kernel), List.mem_of_getElem? (i := 374) (by decide +kernel)⟩
theorem lw_p24 : lw_okq (⟨"ClockCrossings$Circuit", "edgesAt", "(I)I"⟩, 11) := ⟨⟨by decide +kernel, by decide +kernel⟩, List.mem_of_getElem? (i := 53) (by decide +kernel), List.mem_of_getElem? (i := 377) (by decide +kernel), List.mem_of_getElem? (i := 378) (by decide +kernel)⟩
theorem lw_p25 : lw_okq (⟨"ClockCrossings$Circuit", "periodOf", "(I)I"⟩, 11) := ⟨⟨by decide +kernel, by decide +kernel⟩, List.mem_of_getElem? (i := 53) (by decide +kernel), List.mem_of_getElem? (i := 381) (by decide +kernel), List.mem_of_getElem? (i := 382) (by decide +kernel)⟩
theorem lw_p26 : lw_okq (⟨"ClockCrossings$Moment", "gateValue", "(ILClockCrossings$Circuit;)I"⟩, 6) := ⟨⟨by decide +kernel, by decide +kernel⟩, List.mem_of_getElem? (i := 113) (by decide +kernel), List.mem_of_getElem? (i := 386) (by decide +kernel), List.mem_of_getElem? (i := 387) (by decide +kernel)⟩
theorem lw_p27 : lw_okq (⟨"ClockCrossings$Circuit", "partOf", "(II)I"⟩, 11) := ⟨⟨by decide +kernel, by decide +kernel⟩, List.mem_of_getElem? (i := 53) (by decide +kernel), List.mem_of_getElem? (i := 390) (by decide +kernel), List.mem_of_getElem? (i := 391) (by decide +kernel)⟩
theorem lw_p28 : lw_okq (⟨"ClockCrossings$Moment", "leafValue", "(ILClockCrossings$Moment;LClockCrossings$Circuit;I)I"⟩, 6) := ⟨⟨by decide +kernel, by decide +kernel⟩, List.mem_of_getElem? (i := 113) (by decide +kernel), List.mem_of_getElem? (i := 402) (by decide +kernel), List.mem_of_getElem? (i := 403) (by decide +kernel)⟩
theorem lw_p29 : lw_okq (⟨"ClockCrossings$Circuit", "isDirect", "(I)Z"⟩, 11) := ⟨⟨by decide +kernel, by decide +kernel⟩, List.mem_of_getElem? (i := 53) (by decide +kernel), List.mem_of_getElem? (i := 407) (by decide +kernel), List.mem_of_getElem? (i := 408) (by decide +kernel)⟩
theorem lw_p30 : lw_okq (⟨"ClockCrossings$Circuit", "clocksOf", "(I)I"⟩, 11) := ⟨⟨by decide +kernel, by decide +kernel⟩, List.mem_of_getElem? (i := 53) (by decide +kernel), List.mem_of_getElem? (i := 422) (by decide +kernel), List.mem_of_getElem? (i := 423) (by decide +kernel)⟩
theorem lw_p31 : lw_okq (⟨"ClockCrossings$Circuit", "kindOf", "(II)I"⟩, 11) := ⟨⟨by decide +kernel, by decide +kernel⟩, List.mem_of_getElem? (i := 53) (by decide +kernel), List.mem_of_getElem? (i := 430) (by decide +kernel), List.mem_of_getElem? (i := 431) (by decide +kernel)⟩
def lw_privs_2 : List (MethodName × Nat) := [(⟨"ClockCrossings$Circuit", "unlikeClock", "(II)I"⟩, 11), (⟨"ClockCrossings$Circuit", "setPeriod", "(II)V"⟩, 11), (⟨"ClockCrossings$Circuit", "addMark", "(II)V"⟩, 11), (⟨"ClockCrossings$Moment", "begin", "()V"⟩, 6), (⟨"ClockCrossings", "remember", "()V"⟩, 10), (⟨"ClockCrossings$Moment", "copy", "(LClockCrossings$Moment;)V"⟩, 6), (⟨"ClockCrossings", "tick", "(LClockCrossings$Moment;)V"⟩, 10), (⟨"ClockCrossings$Moment", "follow", "(LClockCrossings$Moment;LClockCrossings$Circuit;)V"⟩, 6), (⟨"ClockCrossings$Circuit", "edgesAt", "(I)I"⟩, 11), (⟨"ClockCrossings$Circuit", "periodOf", "(I)I"⟩, 11), (⟨"ClockCrossings$Moment", "gateValue", "(ILClockCrossings$Circuit;)I"⟩, 6), (⟨"ClockCrossings$Circuit", "partOf", "(II)I"⟩, 11), (⟨"ClockCrossings$Moment", "leafValue", "(ILClockCrossings$Moment;LClockCrossings$Circuit;I)I"⟩, 6), (⟨"ClockCrossings$Circuit", "isDirect", "(I)Z"⟩, 11), (⟨"ClockCrossings$Circuit", "clocksOf", "(I)I"⟩, 11), (⟨"ClockCrossings$Circuit", "kindOf", "(II)I"⟩, 11)]
theorem lw_r2 : ∀ q ∈ lw_privs_2, lw_okq q := List.forall_mem_cons.mpr ⟨lw_p16, List.forall_mem_cons.mpr ⟨lw_p17, List.forall_mem_cons.mpr ⟨lw_p18, List.forall_mem_cons.mpr ⟨lw_p19, List.forall_mem_cons.mpr ⟨lw_p20, List.forall_mem_cons.mpr ⟨lw_p21, List.forall_mem_cons.mpr ⟨lw_p22, List.forall_mem_cons.mpr ⟨lw_p23, List.forall_mem_cons.mpr ⟨lw_p24, List.forall_mem_cons.mpr ⟨lw_p25, List.forall_mem_cons.mpr ⟨lw_p26, List.forall_mem_cons.mpr ⟨lw_p27, List.forall_mem_cons.mpr ⟨lw_p28, List.forall_mem_cons.mpr ⟨lw_p29, List.forall_mem_cons.mpr ⟨lw_p30, List.forall_mem_cons.mpr ⟨lw_p31, fun _ h => absurd h List.not_mem_nil⟩⟩⟩⟩⟩⟩⟩⟩⟩⟩⟩⟩⟩⟩⟩⟩
theorem lw_p32 : lw_okq (⟨"ClockCrossings$Circuit", "isCrossing", "(I)Z"⟩, 11) := ⟨⟨by decide +kernel, by decide +kernel⟩, List.mem_of_getElem? (i := 53) (by decide +kernel), List.mem_of_getElem? (i := 434) (by decide +kernel), List.mem_of_getElem? (i := 435) (by decide +kernel)⟩
theorem lw_p33 : lw_okq (⟨"ClockCrossings$Circuit", "isSafe", "(II)Z"⟩, 11) := ⟨⟨by decide +kernel, by decide +kernel⟩, List.mem_of_getElem? (i := 53) (by decide +kernel), List.mem_of_getElem? (i := 439) (by decide +kernel), List.mem_of_getElem? (i := 440) (by decide +kernel)⟩
theorem lw_p34 : lw_okq (⟨"ClockCrossings$Circuit", "isHeld", "(II)Z"⟩, 11) := ⟨⟨by decide +kernel, by decide +kernel⟩, List.mem_of_getElem? (i := 53) (by decide +kernel), List.mem_of_getElem? (i := 443) (by decide +kernel), List.mem_of_getElem? (i := 444) (by decide +kernel)⟩
theorem lw_p35 : lw_okq (⟨"ClockCrossings$Circuit", "backFrom", "(II)I"⟩, 11) := ⟨⟨by decide +kernel, by decide +kernel⟩, List.mem_of_getElem? (i := 53) (by decide +kernel), List.mem_of_getElem? (i := 455) (by decide +kernel), List.mem_of_getElem? (i := 456) (by decide +kernel)⟩
theorem lw_p36 : lw_okq (⟨"ClockCrossings$Circuit", "passes", "(II)Z"⟩, 11) := ⟨⟨by decide +kernel, by decide +kernel⟩, List.mem_of_getElem? (i := 53) (by decide +kernel), List.mem_of_getElem? (i := 459) (by decide +kernel), List.mem_of_getElem? (i := 460) (by decide +kernel)⟩
theorem lw_p37 : lw_okq (⟨"ClockCrossings$Circuit", "whereJoined", "(II)I"⟩, 11) := ⟨⟨by decide +kernel, by decide +kernel⟩, List.mem_of_getElem? (i := 53) (by decide +kernel), List.mem_of_getElem? (i := 476) (by decide +kernel), List.mem_of_getElem? (i := 477) (by decide +kernel)⟩
theorem lw_p38 : lw_okq (⟨"ClockCrossings$Circuit", "reachedFrom", "(I)I"⟩, 11) := ⟨⟨by decide +kernel, by decide +kernel⟩, List.mem_of_getElem? (i := 53) (by decide +kernel), List.mem_of_getElem? (i := 480) (by decide +kernel), List.mem_of_getElem? (i := 481) (by decide +kernel)⟩
theorem lw_p39 : lw_okq (⟨"ClockCrossings$Circuit", "weightOf", "(II)F"⟩, 11) := ⟨⟨by decide +kernel, by decide +kernel⟩, List.mem_of_getElem? (i := 53) (by decide +kernel), List.mem_of_getElem? (i := 491) (by decide +kernel), List.mem_of_getElem? (i := 492) (by decide +kernel)⟩
theorem lw_p40 : lw_okq (⟨"ClockCrossingsModel", "start", "()V"⟩, 17) := ⟨⟨by decide +kernel, by decide +kernel⟩, List.mem_of_getElem? (i := 529) (by decide +kernel), List.mem_of_getElem? (i := 538) (by decide +kernel), List.mem_of_getElem? (i := 539) (by decide +kernel)⟩
theorem lw_p41 : lw_okq (⟨"ClockCrossingsModel", "note", "()V"⟩, 17) := ⟨⟨by decide +kernel, by decide +kernel⟩, List.mem_of_getElem? (i := 529) (by decide +kernel), List.mem_of_getElem? (i := 601) (by decide +kernel), List.mem_of_getElem? (i := 602) (by decide +kernel)⟩
theorem lw_p42 : lw_okq (⟨"ClockCrossingsModel", "isInput", "(I)Z"⟩, 17) := ⟨⟨by decide +kernel, by decide +kernel⟩, List.mem_of_getElem? (i := 529) (by decide +kernel), List.mem_of_getElem? (i := 609) (by decide +kernel), List.mem_of_getElem? (i := 610) (by decide +kernel)⟩
theorem lw_p43 : lw_okq (⟨"ClockCrossingsModel", "isNode", "(I)Z"⟩, 17) := ⟨⟨by decide +kernel, by decide +kernel⟩, List.mem_of_getElem? (i := 529) (by decide +kernel), List.mem_of_getElem? (i := 613) (by decide +kernel), List.mem_of_getElem? (i := 614) (by decide +kernel)⟩
theorem lw_p44 : lw_okq (⟨"ClockCrossingsModel", "many", "()I"⟩, 17) := ⟨⟨by decide +kernel, by decide +kernel⟩, List.mem_of_getElem? (i := 529) (by decide +kernel), List.mem_of_getElem? (i := 617) (by decide +kernel), List.mem_of_getElem? (i := 618) (by decide +kernel)⟩
theorem lw_p45 : lw_okq (⟨"ClockCrossingsModel", "sort", "(I)I"⟩, 17) := ⟨⟨by decide +kernel, by decide +kernel⟩, List.mem_of_getElem? (i := 529) (by decide +kernel), List.mem_of_getElem? (i := 621) (by decide +kernel), List.mem_of_getElem? (i := 622) (by decide +kernel)⟩
theorem lw_p46 : lw_okq (⟨"ClockCrossingsModel", "tick", "([I)V"⟩, 17) := ⟨⟨by decide +kernel, by decide +kernel⟩, List.mem_of_getElem? (i := 529) (by decide +kernel), List.mem_of_getElem? (i := 629) (by decide +kernel), List.mem_of_getElem? (i := 630) (by decide +kernel)⟩
theorem lw_p47 : lw_okq (⟨"ClockCrossingsModel", "findValues", "([I)V"⟩, 17) := ⟨⟨by decide +kernel, by decide +kernel⟩, List.mem_of_getElem? (i := 529) (by decide +kernel), List.mem_of_getElem? (i := 633) (by decide +kernel), List.mem_of_getElem? (i := 634) (by decide +kernel)⟩
def lw_privs_3 : List (MethodName × Nat) := [(⟨"ClockCrossings$Circuit", "isCrossing", "(I)Z"⟩, 11), (⟨"ClockCrossings$Circuit", "isSafe", "(II)Z"⟩, 11), (⟨"ClockCrossings$Circuit", "isHeld", "(II)Z"⟩, 11), (⟨"ClockCrossings$Circuit", "backFrom", "(II)I"⟩, 11), (⟨"ClockCrossings$Circuit", "passes", "(II)Z"⟩, 11), (⟨"ClockCrossings$Circuit", "whereJoined", "(II)I"⟩, 11), (⟨"ClockCrossings$Circuit", "reachedFrom", "(I)I"⟩, 11), (⟨"ClockCrossings$Circuit", "weightOf", "(II)F"⟩, 11), (⟨"ClockCrossingsModel", "start", "()V"⟩, 17), (⟨"ClockCrossingsModel", "note", "()V"⟩, 17), (⟨"ClockCrossingsModel", "isInput", "(I)Z"⟩, 17), (⟨"ClockCrossingsModel", "isNode", "(I)Z"⟩, 17), (⟨"ClockCrossingsModel", "many", "()I"⟩, 17), (⟨"ClockCrossingsModel", "sort", "(I)I"⟩, 17), (⟨"ClockCrossingsModel", "tick", "([I)V"⟩, 17), (⟨"ClockCrossingsModel", "findValues", "([I)V"⟩, 17)]
theorem lw_r3 : ∀ q ∈ lw_privs_3, lw_okq q := List.forall_mem_cons.mpr ⟨lw_p32, List.forall_mem_cons.mpr ⟨lw_p33, List.forall_mem_cons.mpr ⟨lw_p34, List.forall_mem_cons.mpr ⟨lw_p35, List.forall_mem_cons.mpr ⟨lw_p36, List.forall_mem_cons.mpr ⟨lw_p37, List.forall_mem_cons.mpr ⟨lw_p38, List.forall_mem_cons.mpr ⟨lw_p39, List.forall_mem_cons.mpr ⟨lw_p40, List.forall_mem_cons.mpr ⟨lw_p41, List.forall_mem_cons.mpr ⟨lw_p42, List.forall_mem_cons.mpr ⟨lw_p43, List.forall_mem_cons.mpr ⟨lw_p44, List.forall_mem_cons.mpr ⟨lw_p45, List.forall_mem_cons.mpr ⟨lw_p46, List.forall_mem_cons.mpr ⟨lw_p47, fun _ h => absurd h List.not_mem_nil⟩⟩⟩⟩⟩⟩⟩⟩⟩⟩⟩⟩⟩⟩⟩⟩
theorem lw_p48 : lw_okq (⟨"ClockCrossingsModel", "isLeaf", "(I)Z"⟩, 17) := ⟨⟨by decide +kernel, by decide +kernel⟩, List.mem_of_getElem? (i := 529) (by decide +kernel), List.mem_of_getElem? (i := 637) (by decide +kernel), List.mem_of_getElem? (i := 638) (by decide +kernel)⟩
theorem lw_p49 : lw_okq (⟨"ClockCrossingsModel", "gate", "(I)I"⟩, 17) := ⟨⟨by decide +kernel, by decide +kernel⟩, List.mem_of_getElem? (i := 529) (by decide +kernel), List.mem_of_getElem? (i := 641) (by decide +kernel), List.mem_of_getElem? (i := 642) (by decide +kernel)⟩
theorem lw_p50 : lw_okq (⟨"ClockCrossingsModel", "of", "(II)I"⟩, 17) := ⟨⟨by decide +kernel, by decide +kernel⟩, List.mem_of_getElem? (i := 529) (by decide +kernel), List.mem_of_getElem? (i := 645) (by decide +kernel), List.mem_of_getElem? (i := 646) (by decide +kernel)⟩
theorem lw_p51 : lw_okq (⟨"ClockCrossingsModel", "clock", "(I)I"⟩, 17) := ⟨⟨by decide +kernel, by decide +kernel⟩, List.mem_of_getElem? (i := 529) (by decide +kernel), List.mem_of_getElem? (i := 661) (by decide +kernel), List.mem_of_getElem? (i := 662) (by decide +kernel)⟩
theorem lw_p52 : lw_okq (⟨"ClockCrossingsModel", "foreign", "(I)I"⟩, 17) := ⟨⟨by decide +kernel, by decide +kernel⟩, List.mem_of_getElem? (i := 529) (by decide +kernel), List.mem_of_getElem? (i := 665) (by decide +kernel), List.mem_of_getElem? (i := 666) (by decide +kernel)⟩
theorem lw_p53 : lw_okq (⟨"ClockCrossingsModel", "leavesOf", "(I)I"⟩, 17) := ⟨⟨by decide +kernel, by decide +kernel⟩, List.mem_of_getElem? (i := 529) (by decide +kernel), List.mem_of_getElem? (i := 669) (by decide +kernel), List.mem_of_getElem? (i := 670) (by decide +kernel)⟩
theorem lw_p54 : lw_okq (⟨"ClockCrossingsModel", "findLeaves", "()V"⟩, 17) := ⟨⟨by decide +kernel, by decide +kernel⟩, List.mem_of_getElem? (i := 529) (by decide +kernel), List.mem_of_getElem? (i := 673) (by decide +kernel), List.mem_of_getElem? (i := 674) (by decide +kernel)⟩
theorem lw_p55 : lw_okq (⟨"ClockCrossingsModel", "taken", "(I)I"⟩, 17) := ⟨⟨by decide +kernel, by decide +kernel⟩, List.mem_of_getElem? (i := 529) (by decide +kernel), List.mem_of_getElem? (i := 680) (by decide +kernel), List.mem_of_getElem? (i := 681) (by decide +kernel)⟩
theorem lw_p56 : lw_okq (⟨"ClockCrossingsModel", "isSettled", "(I)Z"⟩, 17) := ⟨⟨by decide +kernel, by decide +kernel⟩, List.mem_of_getElem? (i := 529) (by decide +kernel), List.mem_of_getElem? (i := 684) (by decide +kernel), List.mem_of_getElem? (i := 685) (by decide +kernel)⟩
theorem lw_p57 : lw_okq (⟨"ClockCrossingsModel", "isDirect", "(I)Z"⟩, 17) := ⟨⟨by decide +kernel, by decide +kernel⟩, List.mem_of_getElem? (i := 529) (by decide +kernel), List.mem_of_getElem? (i := 688) (by decide +kernel), List.mem_of_getElem? (i := 689) (by decide +kernel)⟩
theorem lw_p58 : lw_okq (⟨"ClockCrossingsModel", "sourcesOf", "(I)I"⟩, 17) := ⟨⟨by decide +kernel, by decide +kernel⟩, List.mem_of_getElem? (i := 529) (by decide +kernel), List.mem_of_getElem? (i := 703) (by decide +kernel), List.mem_of_getElem? (i := 704) (by decide +kernel)⟩
theorem lw_p59 : lw_okq (⟨"ClockCrossingsModel", "isRegister", "(I)Z"⟩, 17) := ⟨⟨by decide +kernel, by decide +kernel⟩, List.mem_of_getElem? (i := 529) (by decide +kernel), List.mem_of_getElem? (i := 711) (by decide +kernel), List.mem_of_getElem? (i := 712) (by decide +kernel)⟩
theorem lw_p60 : lw_okq (⟨"ClockCrossingsModel", "depth", "(I)I"⟩, 17) := ⟨⟨by decide +kernel, by decide +kernel⟩, List.mem_of_getElem? (i := 529) (by decide +kernel), List.mem_of_getElem? (i := 715) (by decide +kernel), List.mem_of_getElem? (i := 716) (by decide +kernel)⟩
theorem lw_p61 : lw_okq (⟨"ClockCrossingsModel", "onlyOne", "(I)I"⟩, 17) := ⟨⟨by decide +kernel, by decide +kernel⟩, List.mem_of_getElem? (i := 529) (by decide +kernel), List.mem_of_getElem? (i := 719) (by decide +kernel), List.mem_of_getElem? (i := 720) (by decide +kernel)⟩
theorem lw_p62 : lw_okq (⟨"ClockCrossingsModel", "often", "(II)I"⟩, 17) := ⟨⟨by decide +kernel, by decide +kernel⟩, List.mem_of_getElem? (i := 529) (by decide +kernel), List.mem_of_getElem? (i := 723) (by decide +kernel), List.mem_of_getElem? (i := 724) (by decide +kernel)⟩
theorem lw_p63 : lw_okq (⟨"ClockCrossingsModel", "kindOf", "(I)I"⟩, 17) := ⟨⟨by decide +kernel, by decide +kernel⟩, List.mem_of_getElem? (i := 529) (by decide +kernel), List.mem_of_getElem? (i := 727) (by decide +kernel), List.mem_of_getElem? (i := 728) (by decide +kernel)⟩
def lw_privs_4 : List (MethodName × Nat) := [(⟨"ClockCrossingsModel", "isLeaf", "(I)Z"⟩, 17), (⟨"ClockCrossingsModel", "gate", "(I)I"⟩, 17), (⟨"ClockCrossingsModel", "of", "(II)I"⟩, 17), (⟨"ClockCrossingsModel", "clock", "(I)I"⟩, 17), (⟨"ClockCrossingsModel", "foreign", "(I)I"⟩, 17), (⟨"ClockCrossingsModel", "leavesOf", "(I)I"⟩, 17), (⟨"ClockCrossingsModel", "findLeaves", "()V"⟩, 17), (⟨"ClockCrossingsModel", "taken", "(I)I"⟩, 17), (⟨"ClockCrossingsModel", "isSettled", "(I)Z"⟩, 17), (⟨"ClockCrossingsModel", "isDirect", "(I)Z"⟩, 17), (⟨"ClockCrossingsModel", "sourcesOf", "(I)I"⟩, 17), (⟨"ClockCrossingsModel", "isRegister", "(I)Z"⟩, 17), (⟨"ClockCrossingsModel", "depth", "(I)I"⟩, 17), (⟨"ClockCrossingsModel", "onlyOne", "(I)I"⟩, 17), (⟨"ClockCrossingsModel", "often", "(II)I"⟩, 17), (⟨"ClockCrossingsModel", "kindOf", "(I)I"⟩, 17)]
theorem lw_r4 : ∀ q ∈ lw_privs_4, lw_okq q := List.forall_mem_cons.mpr ⟨lw_p48, List.forall_mem_cons.mpr ⟨lw_p49, List.forall_mem_cons.mpr ⟨lw_p50, List.forall_mem_cons.mpr ⟨lw_p51, List.forall_mem_cons.mpr ⟨lw_p52, List.forall_mem_cons.mpr ⟨lw_p53, List.forall_mem_cons.mpr ⟨lw_p54, List.forall_mem_cons.mpr ⟨lw_p55, List.forall_mem_cons.mpr ⟨lw_p56, List.forall_mem_cons.mpr ⟨lw_p57, List.forall_mem_cons.mpr ⟨lw_p58, List.forall_mem_cons.mpr ⟨lw_p59, List.forall_mem_cons.mpr ⟨lw_p60, List.forall_mem_cons.mpr ⟨lw_p61, List.forall_mem_cons.mpr ⟨lw_p62, List.forall_mem_cons.mpr ⟨lw_p63, fun _ h => absurd h List.not_mem_nil⟩⟩⟩⟩⟩⟩⟩⟩⟩⟩⟩⟩⟩⟩⟩⟩
theorem lw_p64 : lw_okq (⟨"ClockCrossingsModel", "isSafe", "(I)Z"⟩, 17) := ⟨⟨by decide +kernel, by decide +kernel⟩, List.mem_of_getElem? (i := 529) (by decide +kernel), List.mem_of_getElem? (i := 731) (by decide +kernel), List.mem_of_getElem? (i := 732) (by decide +kernel)⟩
theorem lw_p65 : lw_okq (⟨"ClockCrossingsModel", "isHeld", "(I)Z"⟩, 17) := ⟨⟨by decide +kernel, by decide +kernel⟩, List.mem_of_getElem? (i := 529) (by decide +kernel), List.mem_of_getElem? (i := 735) (by decide +kernel), List.mem_of_getElem? (i := 736) (by decide +kernel)⟩
theorem lw_p66 : lw_okq (⟨"ClockCrossingsModel", "backFrom", "(II)I"⟩, 17) := ⟨⟨by decide +kernel, by decide +kernel⟩, List.mem_of_getElem? (i := 529) (by decide +kernel), List.mem_of_getElem? (i := 739) (by decide +kernel), List.mem_of_getElem? (i := 740) (by decide +kernel)⟩
theorem lw_p67 : lw_okq (⟨"ClockCrossingsModel", "kindAt", "(I)I"⟩, 17) := ⟨⟨by decide +kernel, by decide +kernel⟩, List.mem_of_getElem? (i := 529) (by decide +kernel), List.mem_of_getElem? (i := 747) (by decide +kernel), List.mem_of_getElem? (i := 748) (by decide +kernel)⟩
theorem lw_p68 : lw_okq (⟨"ClockCrossingsModel", "joinAt", "(II)I"⟩, 17) := ⟨⟨by decide +kernel, by decide +kernel⟩, List.mem_of_getElem? (i := 529) (by decide +kernel), List.mem_of_getElem? (i := 759) (by decide +kernel), List.mem_of_getElem? (i := 760) (by decide +kernel)⟩
theorem lw_p69 : lw_okq (⟨"ClockCrossingsModel", "areApart", "(II)Z"⟩, 17) := ⟨⟨by decide +kernel, by decide +kernel⟩, List.mem_of_getElem? (i := 529) (by decide +kernel), List.mem_of_getElem? (i := 763) (by decide +kernel), List.mem_of_getElem? (i := 764) (by decide +kernel)⟩
theorem lw_p70 : lw_okq (⟨"ClockCrossingsModel", "areMarked", "(II)Z"⟩, 17) := ⟨⟨by decide +kernel, by decide +kernel⟩, List.mem_of_getElem? (i := 529) (by decide +kernel), List.mem_of_getElem? (i := 767) (by decide +kernel), List.mem_of_getElem? (i := 768) (by decide +kernel)⟩
theorem lw_p71 : lw_okq (⟨"ClockCrossingsModel", "reached", "(I)I"⟩, 17) := ⟨⟨by decide +kernel, by decide +kernel⟩, List.mem_of_getElem? (i := 529) (by decide +kernel), List.mem_of_getElem? (i := 771) (by decide +kernel), List.mem_of_getElem? (i := 772) (by decide +kernel)⟩
theorem lw_p72 : lw_okq (⟨"ClockCrossingsModel", "weight", "(II)F"⟩, 17) := ⟨⟨by decide +kernel, by decide +kernel⟩, List.mem_of_getElem? (i := 529) (by decide +kernel), List.mem_of_getElem? (i := 782) (by decide +kernel), List.mem_of_getElem? (i := 783) (by decide +kernel)⟩
theorem lw_p73 : lw_okq (⟨"ClockCrossingsModel", "next", "()V"⟩, 17) := ⟨⟨by decide +kernel, by decide +kernel⟩, List.mem_of_getElem? (i := 529) (by decide +kernel), List.mem_of_getElem? (i := 827) (by decide +kernel), List.mem_of_getElem? (i := 828) (by decide +kernel)⟩
theorem lw_p74 : lw_okq (⟨"ClockCrossingsModel", "readItem", "()V"⟩, 17) := ⟨⟨by decide +kernel, by decide +kernel⟩, List.mem_of_getElem? (i := 529) (by decide +kernel), List.mem_of_getElem? (i := 834) (by decide +kernel), List.mem_of_getElem? (i := 835) (by decide +kernel)⟩
theorem lw_p75 : lw_okq (⟨"ClockCrossingsModel", "must", "(Z)I"⟩, 17) := ⟨⟨by decide +kernel, by decide +kernel⟩, List.mem_of_getElem? (i := 529) (by decide +kernel), List.mem_of_getElem? (i := 841) (by decide +kernel), List.mem_of_getElem? (i := 842) (by decide +kernel)⟩
theorem lw_p76 : lw_okq (⟨"ClockCrossingsModel", "readNode", "(I)V"⟩, 17) := ⟨⟨by decide +kernel, by decide +kernel⟩, List.mem_of_getElem? (i := 529) (by decide +kernel), List.mem_of_getElem? (i := 845) (by decide +kernel), List.mem_of_getElem? (i := 846) (by decide +kernel)⟩
theorem lw_p77 : lw_okq (⟨"ClockCrossingsModel", "number", "(II)I"⟩, 17) := ⟨⟨by decide +kernel, by decide +kernel⟩, List.mem_of_getElem? (i := 529) (by decide +kernel), List.mem_of_getElem? (i := 849) (by decide +kernel), List.mem_of_getElem? (i := 850) (by decide +kernel)⟩
theorem lw_p78 : lw_okq (⟨"ClockCrossingsModel", "readMark", "()V"⟩, 17) := ⟨⟨by decide +kernel, by decide +kernel⟩, List.mem_of_getElem? (i := 529) (by decide +kernel), List.mem_of_getElem? (i := 853) (by decide +kernel), List.mem_of_getElem? (i := 854) (by decide +kernel)⟩
theorem lw_p79 : lw_okq (⟨"ClockCrossingsModel", "isToldLeaf", "()Z"⟩, 17) := ⟨⟨by decide +kernel, by decide +kernel⟩, List.mem_of_getElem? (i := 529) (by decide +kernel), List.mem_of_getElem? (i := 857) (by decide +kernel), List.mem_of_getElem? (i := 858) (by decide +kernel)⟩
def lw_privs_5 : List (MethodName × Nat) := [(⟨"ClockCrossingsModel", "isSafe", "(I)Z"⟩, 17), (⟨"ClockCrossingsModel", "isHeld", "(I)Z"⟩, 17), (⟨"ClockCrossingsModel", "backFrom", "(II)I"⟩, 17), (⟨"ClockCrossingsModel", "kindAt", "(I)I"⟩, 17), (⟨"ClockCrossingsModel", "joinAt", "(II)I"⟩, 17), (⟨"ClockCrossingsModel", "areApart", "(II)Z"⟩, 17), (⟨"ClockCrossingsModel", "areMarked", "(II)Z"⟩, 17), (⟨"ClockCrossingsModel", "reached", "(I)I"⟩, 17), (⟨"ClockCrossingsModel", "weight", "(II)F"⟩, 17), (⟨"ClockCrossingsModel", "next", "()V"⟩, 17), (⟨"ClockCrossingsModel", "readItem", "()V"⟩, 17), (⟨"ClockCrossingsModel", "must", "(Z)I"⟩, 17), (⟨"ClockCrossingsModel", "readNode", "(I)V"⟩, 17), (⟨"ClockCrossingsModel", "number", "(II)I"⟩, 17), (⟨"ClockCrossingsModel", "readMark", "()V"⟩, 17), (⟨"ClockCrossingsModel", "isToldLeaf", "()Z"⟩, 17)]
theorem lw_r5 : ∀ q ∈ lw_privs_5, lw_okq q := List.forall_mem_cons.mpr ⟨lw_p64, List.forall_mem_cons.mpr ⟨lw_p65, List.forall_mem_cons.mpr ⟨lw_p66, List.forall_mem_cons.mpr ⟨lw_p67, List.forall_mem_cons.mpr ⟨lw_p68, List.forall_mem_cons.mpr ⟨lw_p69, List.forall_mem_cons.mpr ⟨lw_p70, List.forall_mem_cons.mpr ⟨lw_p71, List.forall_mem_cons.mpr ⟨lw_p72, List.forall_mem_cons.mpr ⟨lw_p73, List.forall_mem_cons.mpr ⟨lw_p74, List.forall_mem_cons.mpr ⟨lw_p75, List.forall_mem_cons.mpr ⟨lw_p76, List.forall_mem_cons.mpr ⟨lw_p77, List.forall_mem_cons.mpr ⟨lw_p78, List.forall_mem_cons.mpr ⟨lw_p79, fun _ h => absurd h List.not_mem_nil⟩⟩⟩⟩⟩⟩⟩⟩⟩⟩⟩⟩⟩⟩⟩⟩
def lw_privs : List (MethodName × Nat) := lw_privs_1 ++ (lw_privs_2 ++ (lw_privs_3 ++ (lw_privs_4 ++ (lw_privs_5))))
def lw_tbl : List Cond := k2_sels lw_privs ++ tables_1
theorem lw_privs_ok : ∀ q ∈ lw_privs, lw_okq q := by
  show ∀ q ∈ lw_privs_1 ++ (lw_privs_2 ++ (lw_privs_3 ++ (lw_privs_4 ++ (lw_privs_5)))), lw_okq q
  exact List.forall_mem_append.mpr ⟨lw_r1, List.forall_mem_append.mpr ⟨lw_r2, List.forall_mem_append.mpr ⟨lw_r3, List.forall_mem_append.mpr ⟨lw_r4, lw_r5⟩⟩⟩⟩
/-- the streams that the claim lets the run draw from -/
abbrev lw_cs : List Choice := [Jvm.Choice.named "NaN.bits"]
theorem lw_bits : nanBits ∈ lw_cs := by first | decide | exact List.mem_cons_self | simp [lw_cs, nanBits]
end
section
def RX0 : String := "ClockCrossings$Circuit"
def TX0 : u_T := fun k => match k with
  | 0 => ("ClockCrossings$Circuit", "nodes", "I", false)
  | 1 => ("ClockCrossings$Circuit", "marks", "I", false)
  | 2 => ("ClockCrossings$Circuit", "whats", "[I", true)
  | 3 => ("ClockCrossings$Circuit", "clocks", "[I", true)
  | 4 => ("ClockCrossings$Circuit", "parts", "[I", true)
  | 5 => ("ClockCrossings$Circuit", "partBits", "[I", true)
  | 6 => ("ClockCrossings$Circuit", "leaves", "[I", true)
  | 7 => ("ClockCrossings$Circuit", "foreign", "[I", true)
  | 8 => ("ClockCrossings$Circuit", "depths", "[I", true)
  | 9 => ("ClockCrossings$Circuit", "marked", "[I", true)
  | _ => ("ClockCrossings$Circuit", "periods", "[I", true)
def tyX0 : Nat → FieldType := fun k => match k with
  | 0 => .int
  | 1 => .int
  | 2 => .array .int
  | 3 => .array .int
  | 4 => .array .int
  | 5 => .array .int
  | 6 => .array .int
  | 7 => .array .int
  | 8 => .array .int
  | 9 => .array .int
  | _ => .array .int
theorem nmX0 : ∀ a, a < 11 → ∀ b, b < 11 → a ≠ b → (TX0 a).2.1 ≠ (TX0 b).2.1 := by decide +kernel
theorem tyX0_ok : ∀ k, k < 11 → parseFieldDescriptor (TX0 k).2.2.1 = some (tyX0 k) := by decide +kernel
abbrev cX0_init : ByteArray := prog_2_method_1_code
def yX0_init : MethodName := ⟨RX0, "<init>", "()V"⟩
abbrev cX0_empty : ByteArray := prog_2_method_2_code
def yX0_empty : MethodName := ⟨RX0, "empty", "()V"⟩
abbrev cX0_isNode : ByteArray := prog_2_method_3_code
def yX0_isNode : MethodName := ⟨RX0, "isNode", "(I)Z"⟩
abbrev cX0_isOf : ByteArray := prog_2_method_4_code
def yX0_isOf : MethodName := ⟨RX0, "isOf", "(II)Z"⟩
abbrev cX0_isLeaf : ByteArray := prog_2_method_5_code
def yX0_isLeaf : MethodName := ⟨RX0, "isLeaf", "(I)Z"⟩
abbrev cX0_partOf : ByteArray := prog_2_method_6_code
def yX0_partOf : MethodName := ⟨RX0, "partOf", "(II)I"⟩
abbrev cX0_periodOf : ByteArray := prog_2_method_7_code
def yX0_periodOf : MethodName := ⟨RX0, "periodOf", "(I)I"⟩
abbrev cX0_edgesAt : ByteArray := prog_2_method_8_code
def yX0_edgesAt : MethodName := ⟨RX0, "edgesAt", "(I)I"⟩
abbrev cX0_hasRoomFor : ByteArray := prog_2_method_9_code
def yX0_hasRoomFor : MethodName := ⟨RX0, "hasRoomFor", "(I)Z"⟩
abbrev cX0_allows : ByteArray := prog_2_method_10_code
def yX0_allows : MethodName := ⟨RX0, "allows", "(III)Z"⟩
abbrev cX0_add : ByteArray := prog_2_method_11_code
def yX0_add : MethodName := ⟨RX0, "add", "(IIII)V"⟩
abbrev cX0_addNode : ByteArray := prog_2_method_12_code
def yX0_addNode : MethodName := ⟨RX0, "addNode", "(IIIII)V"⟩
abbrev cX0_addPart : ByteArray := prog_2_method_13_code
def yX0_addPart : MethodName := ⟨RX0, "addPart", "(III)V"⟩
abbrev cX0_setPeriod : ByteArray := prog_2_method_14_code
def yX0_setPeriod : MethodName := ⟨RX0, "setPeriod", "(II)V"⟩
abbrev cX0_addMark : ByteArray := prog_2_method_15_code
def yX0_addMark : MethodName := ⟨RX0, "addMark", "(II)V"⟩
abbrev cX0_measureDepths : ByteArray := prog_2_method_16_code
def yX0_measureDepths : MethodName := ⟨RX0, "measureDepths", "()V"⟩
abbrev cX0_onlyHaver : ByteArray := prog_2_method_17_code
def yX0_onlyHaver : MethodName := ⟨RX0, "onlyHaver", "(I)I"⟩
abbrev cX0_clocksOf : ByteArray := prog_2_method_18_code
def yX0_clocksOf : MethodName := ⟨RX0, "clocksOf", "(I)I"⟩
abbrev cX0_unlikeClock : ByteArray := prog_2_method_19_code
def yX0_unlikeClock : MethodName := ⟨RX0, "unlikeClock", "(II)I"⟩
abbrev cX0_isCrossing : ByteArray := prog_2_method_20_code
def yX0_isCrossing : MethodName := ⟨RX0, "isCrossing", "(I)Z"⟩
abbrev cX0_isDirect : ByteArray := prog_2_method_21_code
def yX0_isDirect : MethodName := ⟨RX0, "isDirect", "(I)Z"⟩
abbrev cX0_isSafe : ByteArray := prog_2_method_22_code
def yX0_isSafe : MethodName := ⟨RX0, "isSafe", "(II)Z"⟩
abbrev cX0_kindOf : ByteArray := prog_2_method_23_code
def yX0_kindOf : MethodName := ⟨RX0, "kindOf", "(II)I"⟩
abbrev cX0_isHeld : ByteArray := prog_2_method_24_code
def yX0_isHeld : MethodName := ⟨RX0, "isHeld", "(II)Z"⟩
abbrev cX0_backFrom : ByteArray := prog_2_method_25_code
def yX0_backFrom : MethodName := ⟨RX0, "backFrom", "(II)I"⟩
abbrev cX0_reachedFrom : ByteArray := prog_2_method_26_code
def yX0_reachedFrom : MethodName := ⟨RX0, "reachedFrom", "(I)I"⟩
abbrev cX0_passes : ByteArray := prog_2_method_27_code
def yX0_passes : MethodName := ⟨RX0, "passes", "(II)Z"⟩
abbrev cX0_whereJoined : ByteArray := prog_2_method_28_code
def yX0_whereJoined : MethodName := ⟨RX0, "whereJoined", "(II)I"⟩
abbrev cX0_lowestBit : ByteArray := prog_2_method_29_code
def yX0_lowestBit : MethodName := ⟨RX0, "lowestBit", "(I)I"⟩
abbrev cX0_weightOf : ByteArray := prog_2_method_30_code
def yX0_weightOf : MethodName := ⟨RX0, "weightOf", "(II)F"⟩
abbrev cX0_halved : ByteArray := prog_2_method_31_code
def yX0_halved : MethodName := ⟨RX0, "halved", "(I)F"⟩
def RX1 : String := "ClockCrossings$Moment"
def TX1 : u_T := fun k => match k with
  | 0 => ("ClockCrossings$Moment", "need", "I", false)
  | 1 => ("ClockCrossings$Moment", "time", "I", false)
  | 2 => ("ClockCrossings$Moment", "struck", "I", false)
  | 3 => ("ClockCrossings$Moment", "leaked", "I", false)
  | 4 => ("ClockCrossings$Moment", "values", "[I", true)
  | _ => ("ClockCrossings$Moment", "wishes", "[I", true)
def tyX1 : Nat → FieldType := fun k => match k with
  | 0 => .int
  | 1 => .int
  | 2 => .int
  | 3 => .int
  | 4 => .array .int
  | _ => .array .int
theorem nmX1 : ∀ a, a < 6 → ∀ b, b < 6 → a ≠ b → (TX1 a).2.1 ≠ (TX1 b).2.1 := by decide +kernel
theorem tyX1_ok : ∀ k, k < 6 → parseFieldDescriptor (TX1 k).2.2.1 = some (tyX1 k) := by decide +kernel
abbrev cX1_init : ByteArray := prog_3_method_1_code
def yX1_init : MethodName := ⟨RX1, "<init>", "()V"⟩
abbrev cX1_begin : ByteArray := prog_3_method_2_code
def yX1_begin : MethodName := ⟨RX1, "begin", "()V"⟩
abbrev cX1_copy : ByteArray := prog_3_method_3_code
def yX1_copy : MethodName := ⟨RX1, "copy", "(LClockCrossings$Moment;)V"⟩
abbrev cX1_follow : ByteArray := prog_3_method_4_code
def yX1_follow : MethodName := ⟨RX1, "follow", "(LClockCrossings$Moment;LClockCrossings$Circuit;)V"⟩
abbrev cX1_leafValue : ByteArray := prog_3_method_5_code
def yX1_leafValue : MethodName := ⟨RX1, "leafValue", "(ILClockCrossings$Moment;LClockCrossings$Circuit;I)I"⟩
abbrev cX1_gateValue : ByteArray := prog_3_method_6_code
def yX1_gateValue : MethodName := ⟨RX1, "gateValue", "(ILClockCrossings$Circuit;)I"⟩
abbrev cX1_ruledBy : ByteArray := prog_3_method_7_code
def yX1_ruledBy : MethodName := ⟨RX1, "ruledBy", "(III)I"⟩
abbrev cX1_chosen : ByteArray := prog_3_method_8_code
def yX1_chosen : MethodName := ⟨RX1, "chosen", "(III)I"⟩
def RX2 : String := "ClockCrossings$Text"
def TX2 : u_T := fun k => match k with
  | 0 => ("ClockCrossings$Text", "letters", "[C", true)
  | 1 => ("ClockCrossings$Text", "size", "I", false)
  | 2 => ("ClockCrossings$Text", "next", "I", false)
  | 3 => ("ClockCrossings$Text", "place", "I", false)
  | 4 => ("ClockCrossings$Text", "token", "I", false)
  | 5 => ("ClockCrossings$Text", "number", "I", false)
  | _ => ("ClockCrossings$Text", "numbers", "[I", true)
def tyX2 : Nat → FieldType := fun k => match k with
  | 0 => .array .char
  | 1 => .int
  | 2 => .int
  | 3 => .int
  | 4 => .int
  | 5 => .int
  | _ => .array .int
theorem nmX2 : ∀ a, a < 7 → ∀ b, b < 7 → a ≠ b → (TX2 a).2.1 ≠ (TX2 b).2.1 := by decide +kernel
theorem tyX2_ok : ∀ k, k < 7 → parseFieldDescriptor (TX2 k).2.2.1 = some (tyX2 k) := by decide +kernel
abbrev cX2_init : ByteArray := prog_4_method_1_code
def yX2_init : MethodName := ⟨RX2, "<init>", "()V"⟩
abbrev cX2_put : ByteArray := prog_4_method_2_code
def yX2_put : MethodName := ⟨RX2, "put", "(I)Z"⟩
abbrev cX2_readInto : ByteArray := prog_4_method_3_code
def yX2_readInto : MethodName := ⟨RX2, "readInto", "(LClockCrossings$Circuit;)I"⟩
abbrev cX2_readItem : ByteArray := prog_4_method_4_code
def yX2_readItem : MethodName := ⟨RX2, "readItem", "(LClockCrossings$Circuit;)Z"⟩
abbrev cX2_shapeOf : ByteArray := prog_4_method_5_code
def yX2_shapeOf : MethodName := ⟨RX2, "shapeOf", "(I)Ljava/lang/String;"⟩
abbrev cX2_readToken : ByteArray := prog_4_method_6_code
def yX2_readToken : MethodName := ⟨RX2, "readToken", "()V"⟩
abbrev cX2_readNumber : ByteArray := prog_4_method_7_code
def yX2_readNumber : MethodName := ⟨RX2, "readNumber", "()V"⟩
abbrev cX2_isFigure : ByteArray := prog_4_method_8_code
def yX2_isFigure : MethodName := ⟨RX2, "isFigure", "(C)Z"⟩
def RX3 : String := "ClockCrossings"
def TX3 : u_T := fun k => match k with
  | 0 => ("ClockCrossings", "text", "LClockCrossings$Text;", true)
  | 1 => ("ClockCrossings", "circuit", "LClockCrossings$Circuit;", false)
  | 2 => ("ClockCrossings", "draft", "LClockCrossings$Circuit;", false)
  | 3 => ("ClockCrossings", "now", "LClockCrossings$Moment;", true)
  | 4 => ("ClockCrossings", "past", "[LClockCrossings$Moment;", true)
  | 5 => ("ClockCrossings", "undoable", "I", false)
  | 6 => ("ClockCrossings", "images", "[LClockCrossings$Moment;", true)
  | 7 => ("ClockCrossings", "kept", "[Z", true)
  | 8 => ("ClockCrossings", "before", "LClockCrossings$Moment;", true)
  | _ => ("ClockCrossings", "later", "LClockCrossings$Moment;", true)
def tyX3 : Nat → FieldType := fun k => match k with
  | 0 => .object "ClockCrossings$Text"
  | 1 => .object "ClockCrossings$Circuit"
  | 2 => .object "ClockCrossings$Circuit"
  | 3 => .object "ClockCrossings$Moment"
  | 4 => .array (.object "ClockCrossings$Moment")
  | 5 => .int
  | 6 => .array (.object "ClockCrossings$Moment")
  | 7 => .array .boolean
  | 8 => .object "ClockCrossings$Moment"
  | _ => .object "ClockCrossings$Moment"
theorem nmX3 : ∀ a, a < 10 → ∀ b, b < 10 → a ≠ b → (TX3 a).2.1 ≠ (TX3 b).2.1 := by decide +kernel
theorem tyX3_ok : ∀ k, k < 10 → parseFieldDescriptor (TX3 k).2.2.1 = some (tyX3 k) := by decide +kernel
abbrev cX3_init : ByteArray := prog_1_method_1_code
def yX3_init : MethodName := ⟨RX3, "<init>", "()V"⟩
abbrev cX3_type : ByteArray := prog_1_method_2_code
def yX3_type : MethodName := ⟨RX3, "type", "(I)I"⟩
abbrev cX3_clear : ByteArray := prog_1_method_3_code
def yX3_clear : MethodName := ⟨RX3, "clear", "()I"⟩
abbrev cX3_tells : ByteArray := prog_1_method_4_code
def yX3_tells : MethodName := ⟨RX3, "tells", "()I"⟩
abbrev cX3_needs : ByteArray := prog_1_method_5_code
def yX3_needs : MethodName := ⟨RX3, "needs", "(I)I"⟩
abbrev cX3_wishes : ByteArray := prog_1_method_6_code
def yX3_wishes : MethodName := ⟨RX3, "wishes", "(II)I"⟩
abbrev cX3_ticks : ByteArray := prog_1_method_7_code
def yX3_ticks : MethodName := ⟨RX3, "ticks", "(I)I"⟩
abbrev cX3_undo : ByteArray := prog_1_method_8_code
def yX3_undo : MethodName := ⟨RX3, "undo", "()I"⟩
abbrev cX3_node : ByteArray := prog_1_method_9_code
def yX3_node : MethodName := ⟨RX3, "node", "(II)I"⟩
abbrev cX3_register : ByteArray := prog_1_method_10_code
def yX3_register : MethodName := ⟨RX3, "register", "(II)I"⟩
abbrev cX3_crossing : ByteArray := prog_1_method_11_code
def yX3_crossing : MethodName := ⟨RX3, "crossing", "(I)I"⟩
abbrev cX3_kinds : ByteArray := prog_1_method_12_code
def yX3_kinds : MethodName := ⟨RX3, "kinds", "(I)I"⟩
abbrev cX3_join : ByteArray := prog_1_method_13_code
def yX3_join : MethodName := ⟨RX3, "join", "(II)I"⟩
abbrev cX3_risk : ByteArray := prog_1_method_14_code
def yX3_risk : MethodName := ⟨RX3, "risk", "()I"⟩
abbrev cX3_period : ByteArray := prog_1_method_15_code
def yX3_period : MethodName := ⟨RX3, "period", "(I)I"⟩
abbrev cX3_wish : ByteArray := prog_1_method_16_code
def yX3_wish : MethodName := ⟨RX3, "wish", "(I)I"⟩
abbrev cX3_when : ByteArray := prog_1_method_17_code
def yX3_when : MethodName := ⟨RX3, "when", "(II)I"⟩
abbrev cX3_keep : ByteArray := prog_1_method_18_code
def yX3_keep : MethodName := ⟨RX3, "keep", "(I)I"⟩
abbrev cX3_back : ByteArray := prog_1_method_19_code
def yX3_back : MethodName := ⟨RX3, "back", "(I)I"⟩
abbrev cX3_count : ByteArray := prog_1_method_20_code
def yX3_count : MethodName := ⟨RX3, "count", "(I)I"⟩
abbrev cX3_tick : ByteArray := prog_1_method_21_code
def yX3_tick : MethodName := ⟨RX3, "tick", "(LClockCrossings$Moment;)V"⟩
abbrev cX3_remember : ByteArray := prog_1_method_22_code
def yX3_remember : MethodName := ⟨RX3, "remember", "()V"⟩
abbrev cX3_at : ByteArray := prog_1_method_23_code
def yX3_at : MethodName := ⟨RX3, "at", "([II)I"⟩
abbrev cX3_hasBit : ByteArray := prog_1_method_24_code
def yX3_hasBit : MethodName := ⟨RX3, "hasBit", "(II)Z"⟩
def RX4 : String := "ClockCrossingsModel"
def TX4 : u_T := fun k => match k with
  | 0 => ("ClockCrossingsModel", "told", "[I", true)
  | 1 => ("ClockCrossingsModel", "draft", "[I", true)
  | 2 => ("ClockCrossingsModel", "now", "[I", true)
  | 3 => ("ClockCrossingsModel", "tried", "[I", true)
  | 4 => ("ClockCrossingsModel", "past", "[I", true)
  | 5 => ("ClockCrossingsModel", "pasts", "I", false)
  | 6 => ("ClockCrossingsModel", "images", "[I", true)
  | 7 => ("ClockCrossingsModel", "isKept", "[Z", true)
  | 8 => ("ClockCrossingsModel", "leaves", "[I", true)
  | 9 => ("ClockCrossingsModel", "values", "[I", true)
  | 10 => ("ClockCrossingsModel", "text", "[I", true)
  | 11 => ("ClockCrossingsModel", "typed", "I", false)
  | 12 => ("ClockCrossingsModel", "at", "I", false)
  | 13 => ("ClockCrossingsModel", "tokenAt", "I", false)
  | 14 => ("ClockCrossingsModel", "token", "I", false)
  | 15 => ("ClockCrossingsModel", "value", "I", false)
  | _ => ("ClockCrossingsModel", "fault", "I", false)
def tyX4 : Nat → FieldType := fun k => match k with
  | 0 => .array .int
  | 1 => .array .int
  | 2 => .array .int
  | 3 => .array .int
  | 4 => .array .int
  | 5 => .int
  | 6 => .array .int
  | 7 => .array .boolean
  | 8 => .array .int
  | 9 => .array .int
  | 10 => .array .int
  | 11 => .int
  | 12 => .int
  | 13 => .int
  | 14 => .int
  | 15 => .int
  | _ => .int
theorem nmX4 : ∀ a, a < 17 → ∀ b, b < 17 → a ≠ b → (TX4 a).2.1 ≠ (TX4 b).2.1 := by decide +kernel
theorem tyX4_ok : ∀ k, k < 17 → parseFieldDescriptor (TX4 k).2.2.1 = some (tyX4 k) := by decide +kernel
abbrev cX4_init : ByteArray := prog_6_method_1_code
def yX4_init : MethodName := ⟨RX4, "<init>", "()V"⟩
abbrev cX4_in : ByteArray := prog_6_method_2_code
def yX4_in : MethodName := ⟨RX4, "in", "(III)Z"⟩
abbrev cX4_has : ByteArray := prog_6_method_3_code
def yX4_has : MethodName := ⟨RX4, "has", "(II)Z"⟩
abbrev cX4_begin : ByteArray := prog_6_method_4_code
def yX4_begin : MethodName := ⟨RX4, "begin", "([I)V"⟩
abbrev cX4_start : ByteArray := prog_6_method_5_code
def yX4_start : MethodName := ⟨RX4, "start", "()V"⟩
abbrev cX4_many : ByteArray := prog_6_method_6_code
def yX4_many : MethodName := ⟨RX4, "many", "()I"⟩
abbrev cX4_isNode : ByteArray := prog_6_method_7_code
def yX4_isNode : MethodName := ⟨RX4, "isNode", "(I)Z"⟩
abbrev cX4_sort : ByteArray := prog_6_method_8_code
def yX4_sort : MethodName := ⟨RX4, "sort", "(I)I"⟩
abbrev cX4_isLeaf : ByteArray := prog_6_method_9_code
def yX4_isLeaf : MethodName := ⟨RX4, "isLeaf", "(I)Z"⟩
abbrev cX4_isRegister : ByteArray := prog_6_method_10_code
def yX4_isRegister : MethodName := ⟨RX4, "isRegister", "(I)Z"⟩
abbrev cX4_clock : ByteArray := prog_6_method_11_code
def yX4_clock : MethodName := ⟨RX4, "clock", "(I)I"⟩
abbrev cX4_of : ByteArray := prog_6_method_12_code
def yX4_of : MethodName := ⟨RX4, "of", "(II)I"⟩
abbrev cX4_hasMany : ByteArray := prog_6_method_13_code
def yX4_hasMany : MethodName := ⟨RX4, "hasMany", "(I)I"⟩
abbrev cX4_often : ByteArray := prog_6_method_14_code
def yX4_often : MethodName := ⟨RX4, "often", "(II)I"⟩
abbrev cX4_findLeaves : ByteArray := prog_6_method_15_code
def yX4_findLeaves : MethodName := ⟨RX4, "findLeaves", "()V"⟩
abbrev cX4_leavesOf : ByteArray := prog_6_method_16_code
def yX4_leavesOf : MethodName := ⟨RX4, "leavesOf", "(I)I"⟩
abbrev cX4_sourcesOf : ByteArray := prog_6_method_17_code
def yX4_sourcesOf : MethodName := ⟨RX4, "sourcesOf", "(I)I"⟩
abbrev cX4_foreign : ByteArray := prog_6_method_18_code
def yX4_foreign : MethodName := ⟨RX4, "foreign", "(I)I"⟩
abbrev cX4_isDirect : ByteArray := prog_6_method_19_code
def yX4_isDirect : MethodName := ⟨RX4, "isDirect", "(I)Z"⟩
abbrev cX4_onlyOne : ByteArray := prog_6_method_20_code
def yX4_onlyOne : MethodName := ⟨RX4, "onlyOne", "(I)I"⟩
abbrev cX4_depth : ByteArray := prog_6_method_21_code
def yX4_depth : MethodName := ⟨RX4, "depth", "(I)I"⟩
abbrev cX4_isSafe : ByteArray := prog_6_method_22_code
def yX4_isSafe : MethodName := ⟨RX4, "isSafe", "(I)Z"⟩
abbrev cX4_backFrom : ByteArray := prog_6_method_23_code
def yX4_backFrom : MethodName := ⟨RX4, "backFrom", "(II)I"⟩
abbrev cX4_isHeld : ByteArray := prog_6_method_24_code
def yX4_isHeld : MethodName := ⟨RX4, "isHeld", "(I)Z"⟩
abbrev cX4_kindOf : ByteArray := prog_6_method_25_code
def yX4_kindOf : MethodName := ⟨RX4, "kindOf", "(I)I"⟩
abbrev cX4_kindAt : ByteArray := prog_6_method_26_code
def yX4_kindAt : MethodName := ⟨RX4, "kindAt", "(I)I"⟩
abbrev cX4_reached : ByteArray := prog_6_method_27_code
def yX4_reached : MethodName := ⟨RX4, "reached", "(I)I"⟩
abbrev cX4_areMarked : ByteArray := prog_6_method_28_code
def yX4_areMarked : MethodName := ⟨RX4, "areMarked", "(II)Z"⟩
abbrev cX4_areApart : ByteArray := prog_6_method_29_code
def yX4_areApart : MethodName := ⟨RX4, "areApart", "(II)Z"⟩
abbrev cX4_lowest : ByteArray := prog_6_method_30_code
def yX4_lowest : MethodName := ⟨RX4, "lowest", "(I)I"⟩
abbrev cX4_joinAt : ByteArray := prog_6_method_31_code
def yX4_joinAt : MethodName := ⟨RX4, "joinAt", "(II)I"⟩
abbrev cX4_and : ByteArray := prog_6_method_32_code
def yX4_and : MethodName := ⟨RX4, "and", "(II)I"⟩
abbrev cX4_or : ByteArray := prog_6_method_33_code
def yX4_or : MethodName := ⟨RX4, "or", "(II)I"⟩
abbrev cX4_xor : ByteArray := prog_6_method_34_code
def yX4_xor : MethodName := ⟨RX4, "xor", "(II)I"⟩
abbrev cX4_choose : ByteArray := prog_6_method_35_code
def yX4_choose : MethodName := ⟨RX4, "choose", "(III)I"⟩
abbrev cX4_gate : ByteArray := prog_6_method_36_code
def yX4_gate : MethodName := ⟨RX4, "gate", "(I)I"⟩
abbrev cX4_findValues : ByteArray := prog_6_method_37_code
def yX4_findValues : MethodName := ⟨RX4, "findValues", "([I)V"⟩
abbrev cX4_tick : ByteArray := prog_6_method_38_code
def yX4_tick : MethodName := ⟨RX4, "tick", "([I)V"⟩
abbrev cX4_isSettled : ByteArray := prog_6_method_39_code
def yX4_isSettled : MethodName := ⟨RX4, "isSettled", "(I)Z"⟩
abbrev cX4_taken : ByteArray := prog_6_method_40_code
def yX4_taken : MethodName := ⟨RX4, "taken", "(I)I"⟩
abbrev cX4_note : ByteArray := prog_6_method_41_code
def yX4_note : MethodName := ⟨RX4, "note", "()V"⟩
abbrev cX4_needs : ByteArray := prog_6_method_42_code
def yX4_needs : MethodName := ⟨RX4, "needs", "(I)I"⟩
abbrev cX4_isInput : ByteArray := prog_6_method_43_code
def yX4_isInput : MethodName := ⟨RX4, "isInput", "(I)Z"⟩
abbrev cX4_wishes : ByteArray := prog_6_method_44_code
def yX4_wishes : MethodName := ⟨RX4, "wishes", "(II)I"⟩
abbrev cX4_ticks : ByteArray := prog_6_method_45_code
def yX4_ticks : MethodName := ⟨RX4, "ticks", "(I)I"⟩
abbrev cX4_undo : ByteArray := prog_6_method_46_code
def yX4_undo : MethodName := ⟨RX4, "undo", "()I"⟩
abbrev cX4_node : ByteArray := prog_6_method_47_code
def yX4_node : MethodName := ⟨RX4, "node", "(II)I"⟩
abbrev cX4_register : ByteArray := prog_6_method_48_code
def yX4_register : MethodName := ⟨RX4, "register", "(II)I"⟩
abbrev cX4_crossing : ByteArray := prog_6_method_49_code
def yX4_crossing : MethodName := ⟨RX4, "crossing", "(I)I"⟩
abbrev cX4_kinds : ByteArray := prog_6_method_50_code
def yX4_kinds : MethodName := ⟨RX4, "kinds", "(I)I"⟩
abbrev cX4_join : ByteArray := prog_6_method_51_code
def yX4_join : MethodName := ⟨RX4, "join", "(II)I"⟩
abbrev cX4_weight : ByteArray := prog_6_method_52_code
def yX4_weight : MethodName := ⟨RX4, "weight", "(II)F"⟩
abbrev cX4_risk : ByteArray := prog_6_method_53_code
def yX4_risk : MethodName := ⟨RX4, "risk", "()I"⟩
abbrev cX4_period : ByteArray := prog_6_method_54_code
def yX4_period : MethodName := ⟨RX4, "period", "(I)I"⟩
abbrev cX4_wish : ByteArray := prog_6_method_55_code
def yX4_wish : MethodName := ⟨RX4, "wish", "(I)I"⟩
abbrev cX4_when : ByteArray := prog_6_method_56_code
def yX4_when : MethodName := ⟨RX4, "when", "(II)I"⟩
abbrev cX4_keep : ByteArray := prog_6_method_57_code
def yX4_keep : MethodName := ⟨RX4, "keep", "(I)I"⟩
abbrev cX4_back : ByteArray := prog_6_method_58_code
def yX4_back : MethodName := ⟨RX4, "back", "(I)I"⟩
abbrev cX4_count : ByteArray := prog_6_method_59_code
def yX4_count : MethodName := ⟨RX4, "count", "(I)I"⟩
abbrev cX4_type : ByteArray := prog_6_method_60_code
def yX4_type : MethodName := ⟨RX4, "type", "(I)I"⟩
abbrev cX4_clear : ByteArray := prog_6_method_61_code
def yX4_clear : MethodName := ⟨RX4, "clear", "()I"⟩
abbrev cX4_isItem : ByteArray := prog_6_method_62_code
def yX4_isItem : MethodName := ⟨RX4, "isItem", "(I)Z"⟩
abbrev cX4_next : ByteArray := prog_6_method_63_code
def yX4_next : MethodName := ⟨RX4, "next", "()V"⟩
abbrev cX4_must : ByteArray := prog_6_method_64_code
def yX4_must : MethodName := ⟨RX4, "must", "(Z)I"⟩
abbrev cX4_number : ByteArray := prog_6_method_65_code
def yX4_number : MethodName := ⟨RX4, "number", "(II)I"⟩
abbrev cX4_sortOf : ByteArray := prog_6_method_66_code
def yX4_sortOf : MethodName := ⟨RX4, "sortOf", "(I)I"⟩
abbrev cX4_readNode : ByteArray := prog_6_method_67_code
def yX4_readNode : MethodName := ⟨RX4, "readNode", "(I)V"⟩
abbrev cX4_isToldLeaf : ByteArray := prog_6_method_68_code
def yX4_isToldLeaf : MethodName := ⟨RX4, "isToldLeaf", "()Z"⟩
abbrev cX4_readMark : ByteArray := prog_6_method_69_code
def yX4_readMark : MethodName := ⟨RX4, "readMark", "()V"⟩
abbrev cX4_readItem : ByteArray := prog_6_method_70_code
def yX4_readItem : MethodName := ⟨RX4, "readItem", "()V"⟩
abbrev cX4_tells : ByteArray := prog_6_method_71_code
def yX4_tells : MethodName := ⟨RX4, "tells", "()I"⟩
def RJx8e188 : String := "java/lang/Cloneable"
def TJx8e188 : u_T := fun k => match k with
  | _ => ("", "", "", false)
def tyJx8e188 : Nat → FieldType := fun k => match k with
  | _ => .int
theorem nmJx8e188 : ∀ a, a < 0 → ∀ b, b < 0 → a ≠ b → (TJx8e188 a).2.1 ≠ (TJx8e188 b).2.1 := by decide +kernel
theorem tyJx8e188_ok : ∀ k, k < 0 → parseFieldDescriptor (TJx8e188 k).2.2.1 = some (tyJx8e188 k) := by decide +kernel
def RJ6 : String := "java/lang/Integer"
def TJ6 : u_T := fun k => match k with
  | _ => ("", "", "", false)
def tyJ6 : Nat → FieldType := fun k => match k with
  | _ => .int
theorem nmJ6 : ∀ a, a < 0 → ∀ b, b < 0 → a ≠ b → (TJ6 a).2.1 ≠ (TJ6 b).2.1 := by decide +kernel
theorem tyJ6_ok : ∀ k, k < 0 → parseFieldDescriptor (TJ6 k).2.2.1 = some (tyJ6 k) := by decide +kernel
abbrev cJ6_bitCount_0f7a4 : ByteArray := prog_8_method_49_code
def yJ6_bitCount_0f7a4 : MethodName := ⟨RJ6, "bitCount", "(I)I"⟩
def RJ9 : String := "java/lang/Math"
def TJ9 : u_T := fun k => match k with
  | _ => ("", "", "", false)
def tyJ9 : Nat → FieldType := fun k => match k with
  | _ => .int
theorem nmJ9 : ∀ a, a < 0 → ∀ b, b < 0 → a ≠ b → (TJ9 a).2.1 ≠ (TJ9 b).2.1 := by decide +kernel
theorem tyJ9_ok : ∀ k, k < 0 → parseFieldDescriptor (TJ9 k).2.2.1 = some (tyJ9 k) := by decide +kernel
abbrev cJ9_min_7cf53 : ByteArray := prog_9_method_69_code
def yJ9_min_7cf53 : MethodName := ⟨RJ9, "min", "(II)I"⟩
def RJ0 : String := "java/lang/String"
def TJ0 : u_T := fun k => match k with
  | _ => ("", "", "", false)
def tyJ0 : Nat → FieldType := fun k => match k with
  | _ => .int
theorem nmJ0 : ∀ a, a < 0 → ∀ b, b < 0 → a ≠ b → (TJ0 a).2.1 ≠ (TJ0 b).2.1 := by decide +kernel
theorem tyJ0_ok : ∀ k, k < 0 → parseFieldDescriptor (TJ0 k).2.2.1 = some (tyJ0 k) := by decide +kernel
abbrev cJ0_length_8abf5 : ByteArray := prog_10_method_54_code
def yJ0_length_8abf5 : MethodName := ⟨RJ0, "length", "()I"⟩
abbrev cJ0_isEmpty_aae02 : ByteArray := prog_10_method_55_code
def yJ0_isEmpty_aae02 : MethodName := ⟨RJ0, "isEmpty", "()Z"⟩
abbrev cJ0_charAt_5068e : ByteArray := prog_10_method_56_code
def yJ0_charAt_5068e : MethodName := ⟨RJ0, "charAt", "(I)C"⟩
abbrev cJ0_coder_7d493 : ByteArray := prog_10_method_152_code
def yJ0_coder_7d493 : MethodName := ⟨RJ0, "coder", "()B"⟩
abbrev cJ0_isLatin1_aae02 : ByteArray := prog_10_method_154_code
def yJ0_isLatin1_aae02 : MethodName := ⟨RJ0, "isLatin1", "()Z"⟩
abbrev cJ0_checkIndex_df160 : ByteArray := prog_10_method_155_code
def yJ0_checkIndex_df160 : MethodName := ⟨RJ0, "checkIndex", "(II)V"⟩
def RJ1 : String := "java/lang/StringLatin1"
def TJ1 : u_T := fun k => match k with
  | _ => ("", "", "", false)
def tyJ1 : Nat → FieldType := fun k => match k with
  | _ => .int
theorem nmJ1 : ∀ a, a < 0 → ∀ b, b < 0 → a ≠ b → (TJ1 a).2.1 ≠ (TJ1 b).2.1 := by decide +kernel
theorem tyJ1_ok : ∀ k, k < 0 → parseFieldDescriptor (TJ1 k).2.2.1 = some (tyJ1 k) := by decide +kernel
abbrev cJ1_charAt_3b067 : ByteArray := prog_11_method_2_code
def yJ1_charAt_3b067 : MethodName := ⟨RJ1, "charAt", "([BI)C"⟩
def RJ2 : String := "java/lang/StringUTF16"
def TJ2 : u_T := fun k => match k with
  | _ => ("", "", "", false)
def tyJ2 : Nat → FieldType := fun k => match k with
  | _ => .int
theorem nmJ2 : ∀ a, a < 0 → ∀ b, b < 0 → a ≠ b → (TJ2 a).2.1 ≠ (TJ2 b).2.1 := by decide +kernel
theorem tyJ2_ok : ∀ k, k < 0 → parseFieldDescriptor (TJ2 k).2.2.1 = some (tyJ2 k) := by decide +kernel
abbrev cJ2_getChar_3b067 : ByteArray := prog_12_method_5_code
def yJ2_getChar_3b067 : MethodName := ⟨RJ2, "getChar", "([BI)C"⟩
abbrev cJ2_length_9d52b : ByteArray := prog_12_method_6_code
def yJ2_length_9d52b : MethodName := ⟨RJ2, "length", "([B)I"⟩
abbrev cJ2_charAt_3b067 : ByteArray := prog_12_method_83_code
def yJ2_charAt_3b067 : MethodName := ⟨RJ2, "charAt", "([BI)C"⟩
abbrev cJ2_checkIndex_2214a : ByteArray := prog_12_method_91_code
def yJ2_checkIndex_2214a : MethodName := ⟨RJ2, "checkIndex", "(I[B)V"⟩
def RJ10 : String := "java/lang/System"
def TJ10 : u_T := fun k => match k with
  | _ => ("", "", "", false)
def tyJ10 : Nat → FieldType := fun k => match k with
  | _ => .int
theorem nmJ10 : ∀ a, a < 0 → ∀ b, b < 0 → a ≠ b → (TJ10 a).2.1 ≠ (TJ10 b).2.1 := by decide +kernel
theorem tyJ10_ok : ∀ k, k < 0 → parseFieldDescriptor (TJ10 k).2.2.1 = some (tyJ10 k) := by decide +kernel
def RJ3 : String := "jdk/internal/util/Preconditions"
def TJ3 : u_T := fun k => match k with
  | _ => ("", "", "", false)
def tyJ3 : Nat → FieldType := fun k => match k with
  | _ => .int
theorem nmJ3 : ∀ a, a < 0 → ∀ b, b < 0 → a ≠ b → (TJ3 a).2.1 ≠ (TJ3 b).2.1 := by decide +kernel
theorem tyJ3_ok : ∀ k, k < 0 → parseFieldDescriptor (TJ3 k).2.2.1 = some (tyJ3 k) := by decide +kernel
abbrev cJ3_checkIndex_8e157 : ByteArray := prog_14_method_11_code
def yJ3_checkIndex_8e157 : MethodName := ⟨RJ3, "checkIndex", "(IILjava/util/function/BiFunction;)I"⟩
def RL : String := "ClockCrossingsLaw"
abbrev cL_law : ByteArray := code
def yL_law : MethodName := ⟨RL, "law", "([I)Z"⟩
abbrev vwCl : List vw_C := [(RX0, TX0, 11), (RX1, TX1, 6), (RX2, TX2, 7), (RX3, TX3, 10), (RX4, TX4, 17)]
end
section
theorem dX0_init_0 : decode cX0_init 0 = .ok (.aload_n 0, 1) := by decide +kernel
theorem dX0_init_1 : decode cX0_init 1 = .ok (.invokespecial 3, 3) := by decide +kernel
theorem dX0_init_4 : decode cX0_init 4 = .ok (.aload_n 0, 1) := by decide +kernel
theorem dX0_init_5 : decode cX0_init 5 = .ok (.bipush 16, 2) := by decide +kernel
theorem dX0_init_7 : decode cX0_init 7 = .ok (.newarray .int, 2) := by decide +kernel
theorem dX0_init_9 : decode cX0_init 9 = .ok (.putfield 9, 3) := by decide +kernel
theorem dX0_init_12 : decode cX0_init 12 = .ok (.aload_n 0, 1) := by decide +kernel
theorem dX0_init_13 : decode cX0_init 13 = .ok (.bipush 16, 2) := by decide +kernel
theorem dX0_init_15 : decode cX0_init 15 = .ok (.newarray .int, 2) := by decide +kernel
theorem dX0_init_17 : decode cX0_init 17 = .ok (.putfield 15, 3) := by decide +kernel
theorem dX0_init_20 : decode cX0_init 20 = .ok (.aload_n 0, 1) := by decide +kernel
theorem dX0_init_21 : decode cX0_init 21 = .ok (.bipush 48, 2) := by decide +kernel
theorem dX0_init_23 : decode cX0_init 23 = .ok (.newarray .int, 2) := by decide +kernel
theorem dX0_init_25 : decode cX0_init 25 = .ok (.putfield 18, 3) := by decide +kernel
theorem dX0_init_28 : decode cX0_init 28 = .ok (.aload_n 0, 1) := by decide +kernel
theorem dX0_init_29 : decode cX0_init 29 = .ok (.bipush 16, 2) := by decide +kernel
theorem dX0_init_31 : decode cX0_init 31 = .ok (.newarray .int, 2) := by decide +kernel
theorem dX0_init_33 : decode cX0_init 33 = .ok (.putfield 21, 3) := by decide +kernel
theorem dX0_init_36 : decode cX0_init 36 = .ok (.aload_n 0, 1) := by decide +kernel
theorem dX0_init_37 : decode cX0_init 37 = .ok (.bipush 16, 2) := by decide +kernel
theorem dX0_init_39 : decode cX0_init 39 = .ok (.newarray .int, 2) := by decide +kernel
theorem dX0_init_41 : decode cX0_init 41 = .ok (.putfield 24, 3) := by decide +kernel
theorem dX0_init_44 : decode cX0_init 44 = .ok (.aload_n 0, 1) := by decide +kernel
theorem dX0_init_45 : decode cX0_init 45 = .ok (.bipush 16, 2) := by decide +kernel
theorem dX0_init_47 : decode cX0_init 47 = .ok (.newarray .int, 2) := by decide +kernel
theorem dX0_init_49 : decode cX0_init 49 = .ok (.putfield 27, 3) := by decide +kernel
theorem dX0_init_52 : decode cX0_init 52 = .ok (.aload_n 0, 1) := by decide +kernel
theorem dX0_init_53 : decode cX0_init 53 = .ok (.bipush 16, 2) := by decide +kernel
theorem dX0_init_55 : decode cX0_init 55 = .ok (.newarray .int, 2) := by decide +kernel
theorem dX0_init_57 : decode cX0_init 57 = .ok (.putfield 30, 3) := by decide +kernel
theorem dX0_init_60 : decode cX0_init 60 = .ok (.aload_n 0, 1) := by decide +kernel
theorem dX0_init_61 : decode cX0_init 61 = .ok (.bipush 16, 2) := by decide +kernel
theorem dX0_init_63 : decode cX0_init 63 = .ok (.newarray .int, 2) := by decide +kernel
theorem dX0_init_65 : decode cX0_init 65 = .ok (.putfield 33, 3) := by decide +kernel
theorem dX0_init_68 : decode cX0_init 68 = .ok (.aload_n 0, 1) := by decide +kernel
theorem dX0_init_69 : decode cX0_init 69 = .ok (.getstatic 36, 3) := by decide +kernel
theorem dX0_init_72 : decode cX0_init 72 = .ok (.invokevirtual 39, 3) := by decide +kernel
theorem dX0_init_75 : decode cX0_init 75 = .ok (.checkcast 40, 3) := by decide +kernel
theorem dX0_init_78 : decode cX0_init 78 = .ok (.putfield 44, 3) := by decide +kernel
theorem dX0_init_81 : decode cX0_init 81 = .ok (.return_, 1) := by decide +kernel
theorem dX0_empty_0 : decode cX0_empty 0 = .ok (.aload_n 0, 1) := by decide +kernel
theorem dX0_empty_1 : decode cX0_empty 1 = .ok (.iconst 0, 1) := by decide +kernel
theorem dX0_empty_2 : decode cX0_empty 2 = .ok (.putfield 47, 3) := by decide +kernel
theorem dX0_empty_5 : decode cX0_empty 5 = .ok (.aload_n 0, 1) := by decide +kernel
theorem dX0_empty_6 : decode cX0_empty 6 = .ok (.iconst 0, 1) := by decide +kernel
theorem dX0_empty_7 : decode cX0_empty 7 = .ok (.putfield 51, 3) := by decide +kernel
theorem dX0_empty_10 : decode cX0_empty 10 = .ok (.getstatic 36, 3) := by decide +kernel
theorem dX0_empty_13 : decode cX0_empty 13 = .ok (.iconst 0, 1) := by decide +kernel
theorem dX0_empty_14 : decode cX0_empty 14 = .ok (.aload_n 0, 1) := by decide +kernel
theorem dX0_empty_15 : decode cX0_empty 15 = .ok (.getfield 44, 3) := by decide +kernel
theorem dX0_empty_18 : decode cX0_empty 18 = .ok (.iconst 0, 1) := by decide +kernel
theorem dX0_empty_19 : decode cX0_empty 19 = .ok (.iconst 3, 1) := by decide +kernel
theorem dX0_empty_20 : decode cX0_empty 20 = .ok (.invokestatic 54, 3) := by decide +kernel
theorem dX0_empty_23 : decode cX0_empty 23 = .ok (.return_, 1) := by decide +kernel
theorem dX0_isNode_0 : decode cX0_isNode 0 = .ok (.iload_n 1, 1) := by decide +kernel
theorem dX0_isNode_1 : decode cX0_isNode 1 = .ok (.ifCond .lt 15, 3) := by decide +kernel
theorem dX0_isNode_4 : decode cX0_isNode 4 = .ok (.iload_n 1, 1) := by decide +kernel
theorem dX0_isNode_5 : decode cX0_isNode 5 = .ok (.aload_n 0, 1) := by decide +kernel
theorem dX0_isNode_6 : decode cX0_isNode 6 = .ok (.getfield 47, 3) := by decide +kernel
theorem dX0_isNode_9 : decode cX0_isNode 9 = .ok (.if_icmp .ge 7, 3) := by decide +kernel
theorem dX0_isNode_12 : decode cX0_isNode 12 = .ok (.iconst 1, 1) := by decide +kernel
theorem dX0_isNode_13 : decode cX0_isNode 13 = .ok (.goto 4, 3) := by decide +kernel
theorem dX0_isNode_16 : decode cX0_isNode 16 = .ok (.iconst 0, 1) := by decide +kernel
theorem dX0_isNode_17 : decode cX0_isNode 17 = .ok (.ireturn, 1) := by decide +kernel
theorem dX0_isOf_0 : decode cX0_isOf 0 = .ok (.iload_n 1, 1) := by decide +kernel
theorem dX0_isOf_1 : decode cX0_isOf 1 = .ok (.ifCond .lt 25, 3) := by decide +kernel
theorem dX0_isOf_4 : decode cX0_isOf 4 = .ok (.iload_n 1, 1) := by decide +kernel
theorem dX0_isOf_5 : decode cX0_isOf 5 = .ok (.aload_n 0, 1) := by decide +kernel
theorem dX0_isOf_6 : decode cX0_isOf 6 = .ok (.getfield 47, 3) := by decide +kernel
theorem dX0_isOf_9 : decode cX0_isOf 9 = .ok (.if_icmp .ge 17, 3) := by decide +kernel
theorem dX0_isOf_12 : decode cX0_isOf 12 = .ok (.aload_n 0, 1) := by decide +kernel
theorem dX0_isOf_13 : decode cX0_isOf 13 = .ok (.getfield 9, 3) := by decide +kernel
theorem dX0_isOf_16 : decode cX0_isOf 16 = .ok (.iload_n 1, 1) := by decide +kernel
theorem dX0_isOf_17 : decode cX0_isOf 17 = .ok (.iaload, 1) := by decide +kernel
theorem dX0_isOf_18 : decode cX0_isOf 18 = .ok (.iload_n 2, 1) := by decide +kernel
theorem dX0_isOf_19 : decode cX0_isOf 19 = .ok (.if_icmp .ne 7, 3) := by decide +kernel
theorem dX0_isOf_22 : decode cX0_isOf 22 = .ok (.iconst 1, 1) := by decide +kernel
theorem dX0_isOf_23 : decode cX0_isOf 23 = .ok (.goto 4, 3) := by decide +kernel
theorem dX0_isOf_26 : decode cX0_isOf 26 = .ok (.iconst 0, 1) := by decide +kernel
theorem dX0_isOf_27 : decode cX0_isOf 27 = .ok (.ireturn, 1) := by decide +kernel
theorem dX0_isLeaf_0 : decode cX0_isLeaf 0 = .ok (.iload_n 1, 1) := by decide +kernel
theorem dX0_isLeaf_1 : decode cX0_isLeaf 1 = .ok (.ifCond .lt 34, 3) := by decide +kernel
theorem dX0_isLeaf_4 : decode cX0_isLeaf 4 = .ok (.iload_n 1, 1) := by decide +kernel
theorem dX0_isLeaf_5 : decode cX0_isLeaf 5 = .ok (.aload_n 0, 1) := by decide +kernel
theorem dX0_isLeaf_6 : decode cX0_isLeaf 6 = .ok (.getfield 47, 3) := by decide +kernel
theorem dX0_isLeaf_9 : decode cX0_isLeaf 9 = .ok (.if_icmp .ge 26, 3) := by decide +kernel
theorem dX0_isLeaf_12 : decode cX0_isLeaf 12 = .ok (.aload_n 0, 1) := by decide +kernel
theorem dX0_isLeaf_13 : decode cX0_isLeaf 13 = .ok (.getfield 9, 3) := by decide +kernel
theorem dX0_isLeaf_16 : decode cX0_isLeaf 16 = .ok (.iload_n 1, 1) := by decide +kernel
theorem dX0_isLeaf_17 : decode cX0_isLeaf 17 = .ok (.iaload, 1) := by decide +kernel
theorem dX0_isLeaf_18 : decode cX0_isLeaf 18 = .ok (.ifCond .eq 13, 3) := by decide +kernel
theorem dX0_isLeaf_21 : decode cX0_isLeaf 21 = .ok (.aload_n 0, 1) := by decide +kernel
theorem dX0_isLeaf_22 : decode cX0_isLeaf 22 = .ok (.getfield 9, 3) := by decide +kernel
theorem dX0_isLeaf_25 : decode cX0_isLeaf 25 = .ok (.iload_n 1, 1) := by decide +kernel
theorem dX0_isLeaf_26 : decode cX0_isLeaf 26 = .ok (.iaload, 1) := by decide +kernel
theorem dX0_isLeaf_27 : decode cX0_isLeaf 27 = .ok (.iconst 1, 1) := by decide +kernel
theorem dX0_isLeaf_28 : decode cX0_isLeaf 28 = .ok (.if_icmp .ne 7, 3) := by decide +kernel
theorem dX0_isLeaf_31 : decode cX0_isLeaf 31 = .ok (.iconst 1, 1) := by decide +kernel
theorem dX0_isLeaf_32 : decode cX0_isLeaf 32 = .ok (.goto 4, 3) := by decide +kernel
theorem dX0_isLeaf_35 : decode cX0_isLeaf 35 = .ok (.iconst 0, 1) := by decide +kernel
theorem dX0_isLeaf_36 : decode cX0_isLeaf 36 = .ok (.ireturn, 1) := by decide +kernel
theorem dX0_partOf_0 : decode cX0_partOf 0 = .ok (.aload_n 0, 1) := by decide +kernel
theorem dX0_partOf_1 : decode cX0_partOf 1 = .ok (.getfield 18, 3) := by decide +kernel
theorem dX0_partOf_4 : decode cX0_partOf 4 = .ok (.iload_n 1, 1) := by decide +kernel
theorem dX0_partOf_5 : decode cX0_partOf 5 = .ok (.iconst 3, 1) := by decide +kernel
theorem dX0_partOf_6 : decode cX0_partOf 6 = .ok (.imul, 1) := by decide +kernel
theorem dX0_partOf_7 : decode cX0_partOf 7 = .ok (.iload_n 2, 1) := by decide +kernel
theorem dX0_partOf_8 : decode cX0_partOf 8 = .ok (.iadd, 1) := by decide +kernel
theorem dX0_partOf_9 : decode cX0_partOf 9 = .ok (.invokestatic 60, 3) := by decide +kernel
theorem dX0_partOf_12 : decode cX0_partOf 12 = .ok (.ireturn, 1) := by decide +kernel
theorem dX0_periodOf_0 : decode cX0_periodOf 0 = .ok (.aload_n 0, 1) := by decide +kernel
theorem dX0_periodOf_1 : decode cX0_periodOf 1 = .ok (.getfield 44, 3) := by decide +kernel
theorem dX0_periodOf_4 : decode cX0_periodOf 4 = .ok (.iload_n 1, 1) := by decide +kernel
theorem dX0_periodOf_5 : decode cX0_periodOf 5 = .ok (.invokestatic 60, 3) := by decide +kernel
theorem dX0_periodOf_8 : decode cX0_periodOf 8 = .ok (.istore_n 2, 1) := by decide +kernel
theorem dX0_periodOf_9 : decode cX0_periodOf 9 = .ok (.iload_n 2, 1) := by decide +kernel
theorem dX0_periodOf_10 : decode cX0_periodOf 10 = .ok (.iconst 1, 1) := by decide +kernel
theorem dX0_periodOf_11 : decode cX0_periodOf 11 = .ok (.if_icmp .lt 7, 3) := by decide +kernel
theorem dX0_periodOf_14 : decode cX0_periodOf 14 = .ok (.iload_n 2, 1) := by decide +kernel
theorem dX0_periodOf_15 : decode cX0_periodOf 15 = .ok (.goto 4, 3) := by decide +kernel
theorem dX0_periodOf_18 : decode cX0_periodOf 18 = .ok (.iconst 1, 1) := by decide +kernel
theorem dX0_periodOf_19 : decode cX0_periodOf 19 = .ok (.ireturn, 1) := by decide +kernel
theorem dX0_edgesAt_0 : decode cX0_edgesAt 0 = .ok (.iconst 0, 1) := by decide +kernel
theorem dX0_edgesAt_1 : decode cX0_edgesAt 1 = .ok (.istore_n 2, 1) := by decide +kernel
theorem dX0_edgesAt_2 : decode cX0_edgesAt 2 = .ok (.iconst 0, 1) := by decide +kernel
theorem dX0_edgesAt_3 : decode cX0_edgesAt 3 = .ok (.istore_n 3, 1) := by decide +kernel
theorem dX0_edgesAt_4 : decode cX0_edgesAt 4 = .ok (.iload_n 3, 1) := by decide +kernel
theorem dX0_edgesAt_5 : decode cX0_edgesAt 5 = .ok (.iconst 3, 1) := by decide +kernel
theorem dX0_edgesAt_6 : decode cX0_edgesAt 6 = .ok (.if_icmp .ge 25, 3) := by decide +kernel
theorem dX0_edgesAt_9 : decode cX0_edgesAt 9 = .ok (.iload_n 1, 1) := by decide +kernel
theorem dX0_edgesAt_10 : decode cX0_edgesAt 10 = .ok (.aload_n 0, 1) := by decide +kernel
theorem dX0_edgesAt_11 : decode cX0_edgesAt 11 = .ok (.iload_n 3, 1) := by decide +kernel
theorem dX0_edgesAt_12 : decode cX0_edgesAt 12 = .ok (.invokevirtual 64, 3) := by decide +kernel
theorem dX0_edgesAt_15 : decode cX0_edgesAt 15 = .ok (.irem, 1) := by decide +kernel
theorem dX0_edgesAt_16 : decode cX0_edgesAt 16 = .ok (.ifCond .ne 9, 3) := by decide +kernel
theorem dX0_edgesAt_19 : decode cX0_edgesAt 19 = .ok (.iload_n 2, 1) := by decide +kernel
theorem dX0_edgesAt_20 : decode cX0_edgesAt 20 = .ok (.iconst 1, 1) := by decide +kernel
theorem dX0_edgesAt_21 : decode cX0_edgesAt 21 = .ok (.iload_n 3, 1) := by decide +kernel
theorem dX0_edgesAt_22 : decode cX0_edgesAt 22 = .ok (.ishl, 1) := by decide +kernel
theorem dX0_edgesAt_23 : decode cX0_edgesAt 23 = .ok (.ior, 1) := by decide +kernel
theorem dX0_edgesAt_24 : decode cX0_edgesAt 24 = .ok (.istore_n 2, 1) := by decide +kernel
theorem dX0_edgesAt_25 : decode cX0_edgesAt 25 = .ok (.iinc 3 1, 3) := by decide +kernel
theorem dX0_edgesAt_28 : decode cX0_edgesAt 28 = .ok (.goto (-24), 3) := by decide +kernel
theorem dX0_edgesAt_31 : decode cX0_edgesAt 31 = .ok (.iload_n 2, 1) := by decide +kernel
theorem dX0_edgesAt_32 : decode cX0_edgesAt 32 = .ok (.ireturn, 1) := by decide +kernel
theorem dX0_hasRoomFor_0 : decode cX0_hasRoomFor 0 = .ok (.iload_n 1, 1) := by decide +kernel
theorem dX0_hasRoomFor_1 : decode cX0_hasRoomFor 1 = .ok (.lookupswitch 52 #[(101, 37), (103, 37), (112, 35)], 35) := by decide +kernel
theorem dX0_hasRoomFor_36 : decode cX0_hasRoomFor 36 = .ok (.iconst 1, 1) := by decide +kernel
theorem dX0_hasRoomFor_37 : decode cX0_hasRoomFor 37 = .ok (.ireturn, 1) := by decide +kernel
theorem dX0_hasRoomFor_38 : decode cX0_hasRoomFor 38 = .ok (.aload_n 0, 1) := by decide +kernel
theorem dX0_hasRoomFor_39 : decode cX0_hasRoomFor 39 = .ok (.getfield 51, 3) := by decide +kernel
theorem dX0_hasRoomFor_42 : decode cX0_hasRoomFor 42 = .ok (.bipush 6, 2) := by decide +kernel
theorem dX0_hasRoomFor_44 : decode cX0_hasRoomFor 44 = .ok (.if_icmp .ge 7, 3) := by decide +kernel
theorem dX0_hasRoomFor_47 : decode cX0_hasRoomFor 47 = .ok (.iconst 1, 1) := by decide +kernel
theorem dX0_hasRoomFor_48 : decode cX0_hasRoomFor 48 = .ok (.goto 4, 3) := by decide +kernel
theorem dX0_hasRoomFor_51 : decode cX0_hasRoomFor 51 = .ok (.iconst 0, 1) := by decide +kernel
theorem dX0_hasRoomFor_52 : decode cX0_hasRoomFor 52 = .ok (.ireturn, 1) := by decide +kernel
theorem dX0_hasRoomFor_53 : decode cX0_hasRoomFor 53 = .ok (.aload_n 0, 1) := by decide +kernel
theorem dX0_hasRoomFor_54 : decode cX0_hasRoomFor 54 = .ok (.getfield 47, 3) := by decide +kernel
theorem dX0_hasRoomFor_57 : decode cX0_hasRoomFor 57 = .ok (.bipush 16, 2) := by decide +kernel
theorem dX0_hasRoomFor_59 : decode cX0_hasRoomFor 59 = .ok (.if_icmp .ge 7, 3) := by decide +kernel
theorem dX0_hasRoomFor_62 : decode cX0_hasRoomFor 62 = .ok (.iconst 1, 1) := by decide +kernel
theorem dX0_hasRoomFor_63 : decode cX0_hasRoomFor 63 = .ok (.goto 4, 3) := by decide +kernel
theorem dX0_hasRoomFor_66 : decode cX0_hasRoomFor 66 = .ok (.iconst 0, 1) := by decide +kernel
theorem dX0_hasRoomFor_67 : decode cX0_hasRoomFor 67 = .ok (.ireturn, 1) := by decide +kernel
theorem dX0_allows_0 : decode cX0_allows 0 = .ok (.iload_n 1, 1) := by decide +kernel
theorem dX0_allows_1 : decode cX0_allows 1 = .ok (.tableswitch 130 67 80 #[71, 130, 130, 130, 130, 130, 130, 130, 130, 105, 111, 99, 130, 82], 71) := by decide +kernel
theorem dX0_allows_72 : decode cX0_allows 72 = .ok (.iload_n 2, 1) := by decide +kernel
theorem dX0_allows_73 : decode cX0_allows 73 = .ok (.iconst 3, 1) := by decide +kernel
theorem dX0_allows_74 : decode cX0_allows 74 = .ok (.if_icmp .ge 7, 3) := by decide +kernel
theorem dX0_allows_77 : decode cX0_allows 77 = .ok (.iconst 1, 1) := by decide +kernel
theorem dX0_allows_78 : decode cX0_allows 78 = .ok (.goto 4, 3) := by decide +kernel
theorem dX0_allows_81 : decode cX0_allows 81 = .ok (.iconst 0, 1) := by decide +kernel
theorem dX0_allows_82 : decode cX0_allows 82 = .ok (.ireturn, 1) := by decide +kernel
theorem dX0_allows_83 : decode cX0_allows 83 = .ok (.iload_n 2, 1) := by decide +kernel
theorem dX0_allows_84 : decode cX0_allows 84 = .ok (.iconst 1, 1) := by decide +kernel
theorem dX0_allows_85 : decode cX0_allows 85 = .ok (.if_icmp .lt 13, 3) := by decide +kernel
theorem dX0_allows_88 : decode cX0_allows 88 = .ok (.iload_n 2, 1) := by decide +kernel
theorem dX0_allows_89 : decode cX0_allows 89 = .ok (.bipush 9, 2) := by decide +kernel
theorem dX0_allows_91 : decode cX0_allows 91 = .ok (.if_icmp .gt 7, 3) := by decide +kernel
theorem dX0_allows_94 : decode cX0_allows 94 = .ok (.iconst 1, 1) := by decide +kernel
theorem dX0_allows_95 : decode cX0_allows 95 = .ok (.goto 4, 3) := by decide +kernel
theorem dX0_allows_98 : decode cX0_allows 98 = .ok (.iconst 0, 1) := by decide +kernel
theorem dX0_allows_99 : decode cX0_allows 99 = .ok (.ireturn, 1) := by decide +kernel
theorem dX0_allows_100 : decode cX0_allows 100 = .ok (.aload_n 0, 1) := by decide +kernel
theorem dX0_allows_101 : decode cX0_allows 101 = .ok (.iload_n 2, 1) := by decide +kernel
theorem dX0_allows_102 : decode cX0_allows 102 = .ok (.invokevirtual 68, 3) := by decide +kernel
theorem dX0_allows_105 : decode cX0_allows 105 = .ok (.ireturn, 1) := by decide +kernel
theorem dX0_allows_106 : decode cX0_allows 106 = .ok (.aload_n 0, 1) := by decide +kernel
theorem dX0_allows_107 : decode cX0_allows 107 = .ok (.iload_n 2, 1) := by decide +kernel
theorem dX0_allows_108 : decode cX0_allows 108 = .ok (.invokevirtual 72, 3) := by decide +kernel
theorem dX0_allows_111 : decode cX0_allows 111 = .ok (.ireturn, 1) := by decide +kernel
theorem dX0_allows_112 : decode cX0_allows 112 = .ok (.aload_n 0, 1) := by decide +kernel
theorem dX0_allows_113 : decode cX0_allows 113 = .ok (.iload_n 2, 1) := by decide +kernel
theorem dX0_allows_114 : decode cX0_allows 114 = .ok (.invokevirtual 72, 3) := by decide +kernel
theorem dX0_allows_117 : decode cX0_allows 117 = .ok (.ifCond .eq 12, 3) := by decide +kernel
theorem dX0_allows_120 : decode cX0_allows 120 = .ok (.iload_n 2, 1) := by decide +kernel
theorem dX0_allows_121 : decode cX0_allows 121 = .ok (.iload_n 3, 1) := by decide +kernel
theorem dX0_allows_122 : decode cX0_allows 122 = .ok (.if_icmp .eq 7, 3) := by decide +kernel
theorem dX0_allows_125 : decode cX0_allows 125 = .ok (.iconst 1, 1) := by decide +kernel
theorem dX0_allows_126 : decode cX0_allows 126 = .ok (.goto 4, 3) := by decide +kernel
theorem dX0_allows_129 : decode cX0_allows 129 = .ok (.iconst 0, 1) := by decide +kernel
theorem dX0_allows_130 : decode cX0_allows 130 = .ok (.ireturn, 1) := by decide +kernel
theorem dX0_allows_131 : decode cX0_allows 131 = .ok (.iconst 0, 1) := by decide +kernel
theorem dX0_allows_132 : decode cX0_allows 132 = .ok (.ireturn, 1) := by decide +kernel
theorem dX0_add_0 : decode cX0_add 0 = .ok (.iload_n 1, 1) := by decide +kernel
theorem dX0_add_1 : decode cX0_add 1 = .ok (.tableswitch 205 97 120 #[140, 205, 205, 205, 205, 205, 205, 205, 111, 205, 205, 205, 182, 205, 154, 196, 205, 126, 205, 205, 205, 205, 205, 168], 111) := by decide +kernel
theorem dX0_add_112 : decode cX0_add 112 = .ok (.aload_n 0, 1) := by decide +kernel
theorem dX0_add_113 : decode cX0_add 113 = .ok (.iconst 0, 1) := by decide +kernel
theorem dX0_add_114 : decode cX0_add 114 = .ok (.iload_n 2, 1) := by decide +kernel
theorem dX0_add_115 : decode cX0_add 115 = .ok (.bipush (-9), 2) := by decide +kernel
theorem dX0_add_117 : decode cX0_add 117 = .ok (.bipush (-9), 2) := by decide +kernel
theorem dX0_add_119 : decode cX0_add 119 = .ok (.bipush (-9), 2) := by decide +kernel
theorem dX0_add_121 : decode cX0_add 121 = .ok (.invokevirtual 75, 3) := by decide +kernel
theorem dX0_add_124 : decode cX0_add 124 = .ok (.goto 88, 3) := by decide +kernel
theorem dX0_add_127 : decode cX0_add 127 = .ok (.aload_n 0, 1) := by decide +kernel
theorem dX0_add_128 : decode cX0_add 128 = .ok (.iconst 1, 1) := by decide +kernel
theorem dX0_add_129 : decode cX0_add 129 = .ok (.iload_n 2, 1) := by decide +kernel
theorem dX0_add_130 : decode cX0_add 130 = .ok (.iload_n 3, 1) := by decide +kernel
theorem dX0_add_131 : decode cX0_add 131 = .ok (.bipush (-9), 2) := by decide +kernel
theorem dX0_add_133 : decode cX0_add 133 = .ok (.bipush (-9), 2) := by decide +kernel
theorem dX0_add_135 : decode cX0_add 135 = .ok (.invokevirtual 75, 3) := by decide +kernel
theorem dX0_add_138 : decode cX0_add 138 = .ok (.goto 74, 3) := by decide +kernel
theorem dX0_add_141 : decode cX0_add 141 = .ok (.aload_n 0, 1) := by decide +kernel
theorem dX0_add_142 : decode cX0_add 142 = .ok (.iconst 2, 1) := by decide +kernel
theorem dX0_add_143 : decode cX0_add 143 = .ok (.bipush (-9), 2) := by decide +kernel
theorem dX0_add_145 : decode cX0_add 145 = .ok (.iload_n 2, 1) := by decide +kernel
theorem dX0_add_146 : decode cX0_add 146 = .ok (.iload_n 3, 1) := by decide +kernel
theorem dX0_add_147 : decode cX0_add 147 = .ok (.bipush (-9), 2) := by decide +kernel
theorem dX0_add_149 : decode cX0_add 149 = .ok (.invokevirtual 75, 3) := by decide +kernel
theorem dX0_add_152 : decode cX0_add 152 = .ok (.goto 60, 3) := by decide +kernel
theorem dX0_add_155 : decode cX0_add 155 = .ok (.aload_n 0, 1) := by decide +kernel
theorem dX0_add_156 : decode cX0_add 156 = .ok (.iconst 3, 1) := by decide +kernel
theorem dX0_add_157 : decode cX0_add 157 = .ok (.bipush (-9), 2) := by decide +kernel
theorem dX0_add_159 : decode cX0_add 159 = .ok (.iload_n 2, 1) := by decide +kernel
theorem dX0_add_160 : decode cX0_add 160 = .ok (.iload_n 3, 1) := by decide +kernel
theorem dX0_add_161 : decode cX0_add 161 = .ok (.bipush (-9), 2) := by decide +kernel
theorem dX0_add_163 : decode cX0_add 163 = .ok (.invokevirtual 75, 3) := by decide +kernel
theorem dX0_add_166 : decode cX0_add 166 = .ok (.goto 46, 3) := by decide +kernel
theorem dX0_add_169 : decode cX0_add 169 = .ok (.aload_n 0, 1) := by decide +kernel
theorem dX0_add_170 : decode cX0_add 170 = .ok (.iconst 4, 1) := by decide +kernel
theorem dX0_add_171 : decode cX0_add 171 = .ok (.bipush (-9), 2) := by decide +kernel
theorem dX0_add_173 : decode cX0_add 173 = .ok (.iload_n 2, 1) := by decide +kernel
theorem dX0_add_174 : decode cX0_add 174 = .ok (.iload_n 3, 1) := by decide +kernel
theorem dX0_add_175 : decode cX0_add 175 = .ok (.bipush (-9), 2) := by decide +kernel
theorem dX0_add_177 : decode cX0_add 177 = .ok (.invokevirtual 75, 3) := by decide +kernel
theorem dX0_add_180 : decode cX0_add 180 = .ok (.goto 32, 3) := by decide +kernel
theorem dX0_add_183 : decode cX0_add 183 = .ok (.aload_n 0, 1) := by decide +kernel
theorem dX0_add_184 : decode cX0_add 184 = .ok (.iconst 5, 1) := by decide +kernel
theorem dX0_add_185 : decode cX0_add 185 = .ok (.bipush (-9), 2) := by decide +kernel
theorem dX0_add_187 : decode cX0_add 187 = .ok (.iload_n 2, 1) := by decide +kernel
theorem dX0_add_188 : decode cX0_add 188 = .ok (.iload_n 3, 1) := by decide +kernel
theorem dX0_add_189 : decode cX0_add 189 = .ok (.iload 4, 2) := by decide +kernel
theorem dX0_add_191 : decode cX0_add 191 = .ok (.invokevirtual 75, 3) := by decide +kernel
theorem dX0_add_194 : decode cX0_add 194 = .ok (.goto 18, 3) := by decide +kernel
theorem dX0_add_197 : decode cX0_add 197 = .ok (.aload_n 0, 1) := by decide +kernel
theorem dX0_add_198 : decode cX0_add 198 = .ok (.iload_n 2, 1) := by decide +kernel
theorem dX0_add_199 : decode cX0_add 199 = .ok (.iload_n 3, 1) := by decide +kernel
theorem dX0_add_200 : decode cX0_add 200 = .ok (.invokevirtual 79, 3) := by decide +kernel
theorem dX0_add_203 : decode cX0_add 203 = .ok (.goto 9, 3) := by decide +kernel
theorem dX0_add_206 : decode cX0_add 206 = .ok (.aload_n 0, 1) := by decide +kernel
theorem dX0_add_207 : decode cX0_add 207 = .ok (.iload_n 2, 1) := by decide +kernel
theorem dX0_add_208 : decode cX0_add 208 = .ok (.iload_n 3, 1) := by decide +kernel
theorem dX0_add_209 : decode cX0_add 209 = .ok (.invokevirtual 83, 3) := by decide +kernel
theorem dX0_add_212 : decode cX0_add 212 = .ok (.return_, 1) := by decide +kernel
theorem dX0_addNode_0 : decode cX0_addNode 0 = .ok (.aload_n 0, 1) := by decide +kernel
theorem dX0_addNode_1 : decode cX0_addNode 1 = .ok (.getfield 47, 3) := by decide +kernel
theorem dX0_addNode_4 : decode cX0_addNode 4 = .ok (.bipush 16, 2) := by decide +kernel
theorem dX0_addNode_6 : decode cX0_addNode 6 = .ok (.if_icmp .lt 4, 3) := by decide +kernel
theorem dX0_addNode_9 : decode cX0_addNode 9 = .ok (.return_, 1) := by decide +kernel
theorem dX0_addNode_10 : decode cX0_addNode 10 = .ok (.aload_n 0, 1) := by decide +kernel
theorem dX0_addNode_11 : decode cX0_addNode 11 = .ok (.getfield 47, 3) := by decide +kernel
theorem dX0_addNode_14 : decode cX0_addNode 14 = .ok (.istore 6, 2) := by decide +kernel
theorem dX0_addNode_16 : decode cX0_addNode 16 = .ok (.aload_n 0, 1) := by decide +kernel
theorem dX0_addNode_17 : decode cX0_addNode 17 = .ok (.getfield 9, 3) := by decide +kernel
theorem dX0_addNode_20 : decode cX0_addNode 20 = .ok (.iload 6, 2) := by decide +kernel
theorem dX0_addNode_22 : decode cX0_addNode 22 = .ok (.iload_n 1, 1) := by decide +kernel
theorem dX0_addNode_23 : decode cX0_addNode 23 = .ok (.iastore, 1) := by decide +kernel
theorem dX0_addNode_24 : decode cX0_addNode 24 = .ok (.aload_n 0, 1) := by decide +kernel
theorem dX0_addNode_25 : decode cX0_addNode 25 = .ok (.getfield 15, 3) := by decide +kernel
theorem dX0_addNode_28 : decode cX0_addNode 28 = .ok (.iload 6, 2) := by decide +kernel
theorem dX0_addNode_30 : decode cX0_addNode 30 = .ok (.iload_n 2, 1) := by decide +kernel
theorem dX0_addNode_31 : decode cX0_addNode 31 = .ok (.iastore, 1) := by decide +kernel
theorem dX0_addNode_32 : decode cX0_addNode 32 = .ok (.aload_n 0, 1) := by decide +kernel
theorem dX0_addNode_33 : decode cX0_addNode 33 = .ok (.getfield 33, 3) := by decide +kernel
theorem dX0_addNode_36 : decode cX0_addNode 36 = .ok (.iload 6, 2) := by decide +kernel
theorem dX0_addNode_38 : decode cX0_addNode 38 = .ok (.iconst 0, 1) := by decide +kernel
theorem dX0_addNode_39 : decode cX0_addNode 39 = .ok (.iastore, 1) := by decide +kernel
theorem dX0_addNode_40 : decode cX0_addNode 40 = .ok (.aload_n 0, 1) := by decide +kernel
theorem dX0_addNode_41 : decode cX0_addNode 41 = .ok (.getfield 21, 3) := by decide +kernel
theorem dX0_addNode_44 : decode cX0_addNode 44 = .ok (.iload 6, 2) := by decide +kernel
theorem dX0_addNode_46 : decode cX0_addNode 46 = .ok (.iconst 0, 1) := by decide +kernel
theorem dX0_addNode_47 : decode cX0_addNode 47 = .ok (.iastore, 1) := by decide +kernel
theorem dX0_addNode_48 : decode cX0_addNode 48 = .ok (.aload_n 0, 1) := by decide +kernel
theorem dX0_addNode_49 : decode cX0_addNode 49 = .ok (.getfield 24, 3) := by decide +kernel
theorem dX0_addNode_52 : decode cX0_addNode 52 = .ok (.iload 6, 2) := by decide +kernel
theorem dX0_addNode_54 : decode cX0_addNode 54 = .ok (.iload_n 1, 1) := by decide +kernel
theorem dX0_addNode_55 : decode cX0_addNode 55 = .ok (.ifCond .eq 8, 3) := by decide +kernel
theorem dX0_addNode_58 : decode cX0_addNode 58 = .ok (.iload_n 1, 1) := by decide +kernel
theorem dX0_addNode_59 : decode cX0_addNode 59 = .ok (.iconst 1, 1) := by decide +kernel
theorem dX0_addNode_60 : decode cX0_addNode 60 = .ok (.if_icmp .ne 10, 3) := by decide +kernel
theorem dX0_addNode_63 : decode cX0_addNode 63 = .ok (.iconst 1, 1) := by decide +kernel
theorem dX0_addNode_64 : decode cX0_addNode 64 = .ok (.iload 6, 2) := by decide +kernel
theorem dX0_addNode_66 : decode cX0_addNode 66 = .ok (.ishl, 1) := by decide +kernel
theorem dX0_addNode_67 : decode cX0_addNode 67 = .ok (.goto 4, 3) := by decide +kernel
theorem dX0_addNode_70 : decode cX0_addNode 70 = .ok (.iconst 0, 1) := by decide +kernel
theorem dX0_addNode_71 : decode cX0_addNode 71 = .ok (.iastore, 1) := by decide +kernel
theorem dX0_addNode_72 : decode cX0_addNode 72 = .ok (.aload_n 0, 1) := by decide +kernel
theorem dX0_addNode_73 : decode cX0_addNode 73 = .ok (.iload 6, 2) := by decide +kernel
theorem dX0_addNode_75 : decode cX0_addNode 75 = .ok (.iconst 0, 1) := by decide +kernel
theorem dX0_addNode_76 : decode cX0_addNode 76 = .ok (.iload_n 3, 1) := by decide +kernel
theorem dX0_addNode_77 : decode cX0_addNode 77 = .ok (.invokevirtual 86, 3) := by decide +kernel
theorem dX0_addNode_80 : decode cX0_addNode 80 = .ok (.aload_n 0, 1) := by decide +kernel
theorem dX0_addNode_81 : decode cX0_addNode 81 = .ok (.iload 6, 2) := by decide +kernel
theorem dX0_addNode_83 : decode cX0_addNode 83 = .ok (.iconst 1, 1) := by decide +kernel
theorem dX0_addNode_84 : decode cX0_addNode 84 = .ok (.iload 4, 2) := by decide +kernel
theorem dX0_addNode_86 : decode cX0_addNode 86 = .ok (.invokevirtual 86, 3) := by decide +kernel
theorem dX0_addNode_89 : decode cX0_addNode 89 = .ok (.aload_n 0, 1) := by decide +kernel
theorem dX0_addNode_90 : decode cX0_addNode 90 = .ok (.iload 6, 2) := by decide +kernel
theorem dX0_addNode_92 : decode cX0_addNode 92 = .ok (.iconst 2, 1) := by decide +kernel
theorem dX0_addNode_93 : decode cX0_addNode 93 = .ok (.iload 5, 2) := by decide +kernel
theorem dX0_addNode_95 : decode cX0_addNode 95 = .ok (.invokevirtual 86, 3) := by decide +kernel
theorem dX0_addNode_98 : decode cX0_addNode 98 = .ok (.aload_n 0, 1) := by decide +kernel
theorem dX0_addNode_99 : decode cX0_addNode 99 = .ok (.getfield 27, 3) := by decide +kernel
theorem dX0_addNode_102 : decode cX0_addNode 102 = .ok (.iload 6, 2) := by decide +kernel
theorem dX0_addNode_104 : decode cX0_addNode 104 = .ok (.iload_n 1, 1) := by decide +kernel
theorem dX0_addNode_105 : decode cX0_addNode 105 = .ok (.iconst 1, 1) := by decide +kernel
theorem dX0_addNode_106 : decode cX0_addNode 106 = .ok (.if_icmp .ne 19, 3) := by decide +kernel
theorem dX0_addNode_109 : decode cX0_addNode 109 = .ok (.aload_n 0, 1) := by decide +kernel
theorem dX0_addNode_110 : decode cX0_addNode 110 = .ok (.aload_n 0, 1) := by decide +kernel
theorem dX0_addNode_111 : decode cX0_addNode 111 = .ok (.getfield 24, 3) := by decide +kernel
theorem dX0_addNode_114 : decode cX0_addNode 114 = .ok (.iload_n 3, 1) := by decide +kernel
theorem dX0_addNode_115 : decode cX0_addNode 115 = .ok (.invokestatic 60, 3) := by decide +kernel
theorem dX0_addNode_118 : decode cX0_addNode 118 = .ok (.iload_n 2, 1) := by decide +kernel
theorem dX0_addNode_119 : decode cX0_addNode 119 = .ok (.invokevirtual 90, 3) := by decide +kernel
theorem dX0_addNode_122 : decode cX0_addNode 122 = .ok (.goto 4, 3) := by decide +kernel
theorem dX0_addNode_125 : decode cX0_addNode 125 = .ok (.iconst 0, 1) := by decide +kernel
theorem dX0_addNode_126 : decode cX0_addNode 126 = .ok (.iastore, 1) := by decide +kernel
theorem dX0_addNode_127 : decode cX0_addNode 127 = .ok (.aload_n 0, 1) := by decide +kernel
theorem dX0_addNode_128 : decode cX0_addNode 128 = .ok (.dup, 1) := by decide +kernel
theorem dX0_addNode_129 : decode cX0_addNode 129 = .ok (.getfield 47, 3) := by decide +kernel
theorem dX0_addNode_132 : decode cX0_addNode 132 = .ok (.iconst 1, 1) := by decide +kernel
theorem dX0_addNode_133 : decode cX0_addNode 133 = .ok (.iadd, 1) := by decide +kernel
theorem dX0_addNode_134 : decode cX0_addNode 134 = .ok (.putfield 47, 3) := by decide +kernel
theorem dX0_addNode_137 : decode cX0_addNode 137 = .ok (.return_, 1) := by decide +kernel
theorem dX0_addPart_0 : decode cX0_addPart 0 = .ok (.aload_n 0, 1) := by decide +kernel
theorem dX0_addPart_1 : decode cX0_addPart 1 = .ok (.getfield 18, 3) := by decide +kernel
theorem dX0_addPart_4 : decode cX0_addPart 4 = .ok (.iload_n 1, 1) := by decide +kernel
theorem dX0_addPart_5 : decode cX0_addPart 5 = .ok (.iconst 3, 1) := by decide +kernel
theorem dX0_addPart_6 : decode cX0_addPart 6 = .ok (.imul, 1) := by decide +kernel
theorem dX0_addPart_7 : decode cX0_addPart 7 = .ok (.iload_n 2, 1) := by decide +kernel
theorem dX0_addPart_8 : decode cX0_addPart 8 = .ok (.iadd, 1) := by decide +kernel
theorem dX0_addPart_9 : decode cX0_addPart 9 = .ok (.iload_n 3, 1) := by decide +kernel
theorem dX0_addPart_10 : decode cX0_addPart 10 = .ok (.iastore, 1) := by decide +kernel
theorem dX0_addPart_11 : decode cX0_addPart 11 = .ok (.aload_n 0, 1) := by decide +kernel
theorem dX0_addPart_12 : decode cX0_addPart 12 = .ok (.iload_n 3, 1) := by decide +kernel
theorem dX0_addPart_13 : decode cX0_addPart 13 = .ok (.invokevirtual 68, 3) := by decide +kernel
theorem dX0_addPart_16 : decode cX0_addPart 16 = .ok (.ifCond .eq 40, 3) := by decide +kernel
theorem dX0_addPart_19 : decode cX0_addPart 19 = .ok (.aload_n 0, 1) := by decide +kernel
theorem dX0_addPart_20 : decode cX0_addPart 20 = .ok (.getfield 21, 3) := by decide +kernel
theorem dX0_addPart_23 : decode cX0_addPart 23 = .ok (.iload_n 1, 1) := by decide +kernel
theorem dX0_addPart_24 : decode cX0_addPart 24 = .ok (.dup2, 1) := by decide +kernel
theorem dX0_addPart_25 : decode cX0_addPart 25 = .ok (.iaload, 1) := by decide +kernel
theorem dX0_addPart_26 : decode cX0_addPart 26 = .ok (.iconst 1, 1) := by decide +kernel
theorem dX0_addPart_27 : decode cX0_addPart 27 = .ok (.iload_n 3, 1) := by decide +kernel
theorem dX0_addPart_28 : decode cX0_addPart 28 = .ok (.ishl, 1) := by decide +kernel
theorem dX0_addPart_29 : decode cX0_addPart 29 = .ok (.ior, 1) := by decide +kernel
theorem dX0_addPart_30 : decode cX0_addPart 30 = .ok (.iastore, 1) := by decide +kernel
theorem dX0_addPart_31 : decode cX0_addPart 31 = .ok (.aload_n 0, 1) := by decide +kernel
theorem dX0_addPart_32 : decode cX0_addPart 32 = .ok (.getfield 9, 3) := by decide +kernel
theorem dX0_addPart_35 : decode cX0_addPart 35 = .ok (.iload_n 1, 1) := by decide +kernel
theorem dX0_addPart_36 : decode cX0_addPart 36 = .ok (.iaload, 1) := by decide +kernel
theorem dX0_addPart_37 : decode cX0_addPart 37 = .ok (.iconst 1, 1) := by decide +kernel
theorem dX0_addPart_38 : decode cX0_addPart 38 = .ok (.if_icmp .eq 18, 3) := by decide +kernel
theorem dX0_addPart_41 : decode cX0_addPart 41 = .ok (.aload_n 0, 1) := by decide +kernel
theorem dX0_addPart_42 : decode cX0_addPart 42 = .ok (.getfield 24, 3) := by decide +kernel
theorem dX0_addPart_45 : decode cX0_addPart 45 = .ok (.iload_n 1, 1) := by decide +kernel
theorem dX0_addPart_46 : decode cX0_addPart 46 = .ok (.dup2, 1) := by decide +kernel
theorem dX0_addPart_47 : decode cX0_addPart 47 = .ok (.iaload, 1) := by decide +kernel
theorem dX0_addPart_48 : decode cX0_addPart 48 = .ok (.aload_n 0, 1) := by decide +kernel
theorem dX0_addPart_49 : decode cX0_addPart 49 = .ok (.getfield 24, 3) := by decide +kernel
theorem dX0_addPart_52 : decode cX0_addPart 52 = .ok (.iload_n 3, 1) := by decide +kernel
theorem dX0_addPart_53 : decode cX0_addPart 53 = .ok (.iaload, 1) := by decide +kernel
theorem dX0_addPart_54 : decode cX0_addPart 54 = .ok (.ior, 1) := by decide +kernel
theorem dX0_addPart_55 : decode cX0_addPart 55 = .ok (.iastore, 1) := by decide +kernel
theorem dX0_addPart_56 : decode cX0_addPart 56 = .ok (.return_, 1) := by decide +kernel
theorem dX0_setPeriod_0 : decode cX0_setPeriod 0 = .ok (.iload_n 1, 1) := by decide +kernel
theorem dX0_setPeriod_1 : decode cX0_setPeriod 1 = .ok (.ifCond .lt 15, 3) := by decide +kernel
theorem dX0_setPeriod_4 : decode cX0_setPeriod 4 = .ok (.iload_n 1, 1) := by decide +kernel
theorem dX0_setPeriod_5 : decode cX0_setPeriod 5 = .ok (.iconst 3, 1) := by decide +kernel
theorem dX0_setPeriod_6 : decode cX0_setPeriod 6 = .ok (.if_icmp .ge 10, 3) := by decide +kernel
theorem dX0_setPeriod_9 : decode cX0_setPeriod 9 = .ok (.aload_n 0, 1) := by decide +kernel
theorem dX0_setPeriod_10 : decode cX0_setPeriod 10 = .ok (.getfield 44, 3) := by decide +kernel
theorem dX0_setPeriod_13 : decode cX0_setPeriod 13 = .ok (.iload_n 1, 1) := by decide +kernel
theorem dX0_setPeriod_14 : decode cX0_setPeriod 14 = .ok (.iload_n 2, 1) := by decide +kernel
theorem dX0_setPeriod_15 : decode cX0_setPeriod 15 = .ok (.iastore, 1) := by decide +kernel
theorem dX0_setPeriod_16 : decode cX0_setPeriod 16 = .ok (.return_, 1) := by decide +kernel
theorem dX0_addMark_0 : decode cX0_addMark 0 = .ok (.aload_n 0, 1) := by decide +kernel
theorem dX0_addMark_1 : decode cX0_addMark 1 = .ok (.iload_n 1, 1) := by decide +kernel
theorem dX0_addMark_2 : decode cX0_addMark 2 = .ok (.invokevirtual 68, 3) := by decide +kernel
theorem dX0_addMark_5 : decode cX0_addMark 5 = .ok (.ifCond .eq 45, 3) := by decide +kernel
theorem dX0_addMark_8 : decode cX0_addMark 8 = .ok (.aload_n 0, 1) := by decide +kernel
theorem dX0_addMark_9 : decode cX0_addMark 9 = .ok (.iload_n 2, 1) := by decide +kernel
theorem dX0_addMark_10 : decode cX0_addMark 10 = .ok (.invokevirtual 68, 3) := by decide +kernel
theorem dX0_addMark_13 : decode cX0_addMark 13 = .ok (.ifCond .eq 37, 3) := by decide +kernel
theorem dX0_addMark_16 : decode cX0_addMark 16 = .ok (.aload_n 0, 1) := by decide +kernel
theorem dX0_addMark_17 : decode cX0_addMark 17 = .ok (.getfield 33, 3) := by decide +kernel
theorem dX0_addMark_20 : decode cX0_addMark 20 = .ok (.iload_n 1, 1) := by decide +kernel
theorem dX0_addMark_21 : decode cX0_addMark 21 = .ok (.dup2, 1) := by decide +kernel
theorem dX0_addMark_22 : decode cX0_addMark 22 = .ok (.iaload, 1) := by decide +kernel
theorem dX0_addMark_23 : decode cX0_addMark 23 = .ok (.iconst 1, 1) := by decide +kernel
theorem dX0_addMark_24 : decode cX0_addMark 24 = .ok (.iload_n 2, 1) := by decide +kernel
theorem dX0_addMark_25 : decode cX0_addMark 25 = .ok (.ishl, 1) := by decide +kernel
theorem dX0_addMark_26 : decode cX0_addMark 26 = .ok (.ior, 1) := by decide +kernel
theorem dX0_addMark_27 : decode cX0_addMark 27 = .ok (.iastore, 1) := by decide +kernel
theorem dX0_addMark_28 : decode cX0_addMark 28 = .ok (.aload_n 0, 1) := by decide +kernel
theorem dX0_addMark_29 : decode cX0_addMark 29 = .ok (.getfield 33, 3) := by decide +kernel
theorem dX0_addMark_32 : decode cX0_addMark 32 = .ok (.iload_n 2, 1) := by decide +kernel
theorem dX0_addMark_33 : decode cX0_addMark 33 = .ok (.dup2, 1) := by decide +kernel
theorem dX0_addMark_34 : decode cX0_addMark 34 = .ok (.iaload, 1) := by decide +kernel
theorem dX0_addMark_35 : decode cX0_addMark 35 = .ok (.iconst 1, 1) := by decide +kernel
theorem dX0_addMark_36 : decode cX0_addMark 36 = .ok (.iload_n 1, 1) := by decide +kernel
theorem dX0_addMark_37 : decode cX0_addMark 37 = .ok (.ishl, 1) := by decide +kernel
theorem dX0_addMark_38 : decode cX0_addMark 38 = .ok (.ior, 1) := by decide +kernel
theorem dX0_addMark_39 : decode cX0_addMark 39 = .ok (.iastore, 1) := by decide +kernel
theorem dX0_addMark_40 : decode cX0_addMark 40 = .ok (.aload_n 0, 1) := by decide +kernel
theorem dX0_addMark_41 : decode cX0_addMark 41 = .ok (.dup, 1) := by decide +kernel
theorem dX0_addMark_42 : decode cX0_addMark 42 = .ok (.getfield 51, 3) := by decide +kernel
theorem dX0_addMark_45 : decode cX0_addMark 45 = .ok (.iconst 1, 1) := by decide +kernel
theorem dX0_addMark_46 : decode cX0_addMark 46 = .ok (.iadd, 1) := by decide +kernel
theorem dX0_addMark_47 : decode cX0_addMark 47 = .ok (.putfield 51, 3) := by decide +kernel
theorem dX0_addMark_50 : decode cX0_addMark 50 = .ok (.return_, 1) := by decide +kernel
theorem dX0_measureDepths_0 : decode cX0_measureDepths 0 = .ok (.aload_n 0, 1) := by decide +kernel
theorem dX0_measureDepths_1 : decode cX0_measureDepths 1 = .ok (.getfield 47, 3) := by decide +kernel
theorem dX0_measureDepths_4 : decode cX0_measureDepths 4 = .ok (.iconst 1, 1) := by decide +kernel
theorem dX0_measureDepths_5 : decode cX0_measureDepths 5 = .ok (.isub, 1) := by decide +kernel
theorem dX0_measureDepths_6 : decode cX0_measureDepths 6 = .ok (.istore_n 1, 1) := by decide +kernel
theorem dX0_measureDepths_7 : decode cX0_measureDepths 7 = .ok (.iload_n 1, 1) := by decide +kernel
theorem dX0_measureDepths_8 : decode cX0_measureDepths 8 = .ok (.ifCond .lt 76, 3) := by decide +kernel
theorem dX0_measureDepths_11 : decode cX0_measureDepths 11 = .ok (.aload_n 0, 1) := by decide +kernel
theorem dX0_measureDepths_12 : decode cX0_measureDepths 12 = .ok (.iload_n 1, 1) := by decide +kernel
theorem dX0_measureDepths_13 : decode cX0_measureDepths 13 = .ok (.invokevirtual 94, 3) := by decide +kernel
theorem dX0_measureDepths_16 : decode cX0_measureDepths 16 = .ok (.istore_n 2, 1) := by decide +kernel
theorem dX0_measureDepths_17 : decode cX0_measureDepths 17 = .ok (.aload_n 0, 1) := by decide +kernel
theorem dX0_measureDepths_18 : decode cX0_measureDepths 18 = .ok (.iload_n 1, 1) := by decide +kernel
theorem dX0_measureDepths_19 : decode cX0_measureDepths 19 = .ok (.iconst 1, 1) := by decide +kernel
theorem dX0_measureDepths_20 : decode cX0_measureDepths 20 = .ok (.invokevirtual 97, 3) := by decide +kernel
theorem dX0_measureDepths_23 : decode cX0_measureDepths 23 = .ok (.ifCond .eq 31, 3) := by decide +kernel
theorem dX0_measureDepths_26 : decode cX0_measureDepths 26 = .ok (.aload_n 0, 1) := by decide +kernel
theorem dX0_measureDepths_27 : decode cX0_measureDepths 27 = .ok (.iload_n 2, 1) := by decide +kernel
theorem dX0_measureDepths_28 : decode cX0_measureDepths 28 = .ok (.iconst 1, 1) := by decide +kernel
theorem dX0_measureDepths_29 : decode cX0_measureDepths 29 = .ok (.invokevirtual 97, 3) := by decide +kernel
theorem dX0_measureDepths_32 : decode cX0_measureDepths 32 = .ok (.ifCond .eq 22, 3) := by decide +kernel
theorem dX0_measureDepths_35 : decode cX0_measureDepths 35 = .ok (.aload_n 0, 1) := by decide +kernel
theorem dX0_measureDepths_36 : decode cX0_measureDepths 36 = .ok (.getfield 15, 3) := by decide +kernel
theorem dX0_measureDepths_39 : decode cX0_measureDepths 39 = .ok (.iload_n 2, 1) := by decide +kernel
theorem dX0_measureDepths_40 : decode cX0_measureDepths 40 = .ok (.iaload, 1) := by decide +kernel
theorem dX0_measureDepths_41 : decode cX0_measureDepths 41 = .ok (.aload_n 0, 1) := by decide +kernel
theorem dX0_measureDepths_42 : decode cX0_measureDepths 42 = .ok (.getfield 15, 3) := by decide +kernel
theorem dX0_measureDepths_45 : decode cX0_measureDepths 45 = .ok (.iload_n 1, 1) := by decide +kernel
theorem dX0_measureDepths_46 : decode cX0_measureDepths 46 = .ok (.iaload, 1) := by decide +kernel
theorem dX0_measureDepths_47 : decode cX0_measureDepths 47 = .ok (.if_icmp .ne 7, 3) := by decide +kernel
theorem dX0_measureDepths_50 : decode cX0_measureDepths 50 = .ok (.iconst 1, 1) := by decide +kernel
theorem dX0_measureDepths_51 : decode cX0_measureDepths 51 = .ok (.goto 4, 3) := by decide +kernel
theorem dX0_measureDepths_54 : decode cX0_measureDepths 54 = .ok (.iconst 0, 1) := by decide +kernel
theorem dX0_measureDepths_55 : decode cX0_measureDepths 55 = .ok (.istore_n 3, 1) := by decide +kernel
theorem dX0_measureDepths_56 : decode cX0_measureDepths 56 = .ok (.aload_n 0, 1) := by decide +kernel
theorem dX0_measureDepths_57 : decode cX0_measureDepths 57 = .ok (.getfield 30, 3) := by decide +kernel
theorem dX0_measureDepths_60 : decode cX0_measureDepths 60 = .ok (.iload_n 1, 1) := by decide +kernel
theorem dX0_measureDepths_61 : decode cX0_measureDepths 61 = .ok (.iload_n 3, 1) := by decide +kernel
theorem dX0_measureDepths_62 : decode cX0_measureDepths 62 = .ok (.ifCond .eq 14, 3) := by decide +kernel
theorem dX0_measureDepths_65 : decode cX0_measureDepths 65 = .ok (.aload_n 0, 1) := by decide +kernel
theorem dX0_measureDepths_66 : decode cX0_measureDepths 66 = .ok (.getfield 30, 3) := by decide +kernel
theorem dX0_measureDepths_69 : decode cX0_measureDepths 69 = .ok (.iload_n 2, 1) := by decide +kernel
theorem dX0_measureDepths_70 : decode cX0_measureDepths 70 = .ok (.iaload, 1) := by decide +kernel
theorem dX0_measureDepths_71 : decode cX0_measureDepths 71 = .ok (.iconst 1, 1) := by decide +kernel
theorem dX0_measureDepths_72 : decode cX0_measureDepths 72 = .ok (.iadd, 1) := by decide +kernel
theorem dX0_measureDepths_73 : decode cX0_measureDepths 73 = .ok (.goto 4, 3) := by decide +kernel
theorem dX0_measureDepths_76 : decode cX0_measureDepths 76 = .ok (.iconst 1, 1) := by decide +kernel
theorem dX0_measureDepths_77 : decode cX0_measureDepths 77 = .ok (.iastore, 1) := by decide +kernel
theorem dX0_measureDepths_78 : decode cX0_measureDepths 78 = .ok (.iinc 1 (-1), 3) := by decide +kernel
theorem dX0_measureDepths_81 : decode cX0_measureDepths 81 = .ok (.goto (-74), 3) := by decide +kernel
theorem dX0_measureDepths_84 : decode cX0_measureDepths 84 = .ok (.return_, 1) := by decide +kernel
theorem dX0_onlyHaver_0 : decode cX0_onlyHaver 0 = .ok (.bipush (-9), 2) := by decide +kernel
theorem dX0_onlyHaver_2 : decode cX0_onlyHaver 2 = .ok (.istore_n 2, 1) := by decide +kernel
theorem dX0_onlyHaver_3 : decode cX0_onlyHaver 3 = .ok (.iload_n 1, 1) := by decide +kernel
theorem dX0_onlyHaver_4 : decode cX0_onlyHaver 4 = .ok (.iconst 1, 1) := by decide +kernel
theorem dX0_onlyHaver_5 : decode cX0_onlyHaver 5 = .ok (.iadd, 1) := by decide +kernel
theorem dX0_onlyHaver_6 : decode cX0_onlyHaver 6 = .ok (.istore_n 3, 1) := by decide +kernel
theorem dX0_onlyHaver_7 : decode cX0_onlyHaver 7 = .ok (.iload_n 3, 1) := by decide +kernel
theorem dX0_onlyHaver_8 : decode cX0_onlyHaver 8 = .ok (.aload_n 0, 1) := by decide +kernel
theorem dX0_onlyHaver_9 : decode cX0_onlyHaver 9 = .ok (.getfield 47, 3) := by decide +kernel
theorem dX0_onlyHaver_12 : decode cX0_onlyHaver 12 = .ok (.if_icmp .ge 33, 3) := by decide +kernel
theorem dX0_onlyHaver_15 : decode cX0_onlyHaver 15 = .ok (.aload_n 0, 1) := by decide +kernel
theorem dX0_onlyHaver_16 : decode cX0_onlyHaver 16 = .ok (.getfield 21, 3) := by decide +kernel
theorem dX0_onlyHaver_19 : decode cX0_onlyHaver 19 = .ok (.iload_n 3, 1) := by decide +kernel
theorem dX0_onlyHaver_20 : decode cX0_onlyHaver 20 = .ok (.iaload, 1) := by decide +kernel
theorem dX0_onlyHaver_21 : decode cX0_onlyHaver 21 = .ok (.iload_n 1, 1) := by decide +kernel
theorem dX0_onlyHaver_22 : decode cX0_onlyHaver 22 = .ok (.invokestatic 101, 3) := by decide +kernel
theorem dX0_onlyHaver_25 : decode cX0_onlyHaver 25 = .ok (.ifCond .eq 14, 3) := by decide +kernel
theorem dX0_onlyHaver_28 : decode cX0_onlyHaver 28 = .ok (.iload_n 2, 1) := by decide +kernel
theorem dX0_onlyHaver_29 : decode cX0_onlyHaver 29 = .ok (.bipush (-9), 2) := by decide +kernel
theorem dX0_onlyHaver_31 : decode cX0_onlyHaver 31 = .ok (.if_icmp .eq 6, 3) := by decide +kernel
theorem dX0_onlyHaver_34 : decode cX0_onlyHaver 34 = .ok (.bipush (-9), 2) := by decide +kernel
theorem dX0_onlyHaver_36 : decode cX0_onlyHaver 36 = .ok (.ireturn, 1) := by decide +kernel
theorem dX0_onlyHaver_37 : decode cX0_onlyHaver 37 = .ok (.iload_n 3, 1) := by decide +kernel
theorem dX0_onlyHaver_38 : decode cX0_onlyHaver 38 = .ok (.istore_n 2, 1) := by decide +kernel
theorem dX0_onlyHaver_39 : decode cX0_onlyHaver 39 = .ok (.iinc 3 1, 3) := by decide +kernel
theorem dX0_onlyHaver_42 : decode cX0_onlyHaver 42 = .ok (.goto (-35), 3) := by decide +kernel
theorem dX0_onlyHaver_45 : decode cX0_onlyHaver 45 = .ok (.iload_n 2, 1) := by decide +kernel
theorem dX0_onlyHaver_46 : decode cX0_onlyHaver 46 = .ok (.ireturn, 1) := by decide +kernel
theorem dX0_clocksOf_0 : decode cX0_clocksOf 0 = .ok (.iconst 0, 1) := by decide +kernel
theorem dX0_clocksOf_1 : decode cX0_clocksOf 1 = .ok (.istore_n 2, 1) := by decide +kernel
theorem dX0_clocksOf_2 : decode cX0_clocksOf 2 = .ok (.iconst 0, 1) := by decide +kernel
theorem dX0_clocksOf_3 : decode cX0_clocksOf 3 = .ok (.istore_n 3, 1) := by decide +kernel
theorem dX0_clocksOf_4 : decode cX0_clocksOf 4 = .ok (.iload_n 3, 1) := by decide +kernel
theorem dX0_clocksOf_5 : decode cX0_clocksOf 5 = .ok (.aload_n 0, 1) := by decide +kernel
theorem dX0_clocksOf_6 : decode cX0_clocksOf 6 = .ok (.getfield 47, 3) := by decide +kernel
theorem dX0_clocksOf_9 : decode cX0_clocksOf 9 = .ok (.if_icmp .ge 36, 3) := by decide +kernel
theorem dX0_clocksOf_12 : decode cX0_clocksOf 12 = .ok (.iload_n 1, 1) := by decide +kernel
theorem dX0_clocksOf_13 : decode cX0_clocksOf 13 = .ok (.iload_n 3, 1) := by decide +kernel
theorem dX0_clocksOf_14 : decode cX0_clocksOf 14 = .ok (.invokestatic 101, 3) := by decide +kernel
theorem dX0_clocksOf_17 : decode cX0_clocksOf 17 = .ok (.ifCond .eq 22, 3) := by decide +kernel
theorem dX0_clocksOf_20 : decode cX0_clocksOf 20 = .ok (.aload_n 0, 1) := by decide +kernel
theorem dX0_clocksOf_21 : decode cX0_clocksOf 21 = .ok (.iload_n 3, 1) := by decide +kernel
theorem dX0_clocksOf_22 : decode cX0_clocksOf 22 = .ok (.invokevirtual 72, 3) := by decide +kernel
theorem dX0_clocksOf_25 : decode cX0_clocksOf 25 = .ok (.ifCond .eq 14, 3) := by decide +kernel
theorem dX0_clocksOf_28 : decode cX0_clocksOf 28 = .ok (.iload_n 2, 1) := by decide +kernel
theorem dX0_clocksOf_29 : decode cX0_clocksOf 29 = .ok (.iconst 1, 1) := by decide +kernel
theorem dX0_clocksOf_30 : decode cX0_clocksOf 30 = .ok (.aload_n 0, 1) := by decide +kernel
theorem dX0_clocksOf_31 : decode cX0_clocksOf 31 = .ok (.getfield 15, 3) := by decide +kernel
theorem dX0_clocksOf_34 : decode cX0_clocksOf 34 = .ok (.iload_n 3, 1) := by decide +kernel
theorem dX0_clocksOf_35 : decode cX0_clocksOf 35 = .ok (.iaload, 1) := by decide +kernel
theorem dX0_clocksOf_36 : decode cX0_clocksOf 36 = .ok (.ishl, 1) := by decide +kernel
theorem dX0_clocksOf_37 : decode cX0_clocksOf 37 = .ok (.ior, 1) := by decide +kernel
theorem dX0_clocksOf_38 : decode cX0_clocksOf 38 = .ok (.istore_n 2, 1) := by decide +kernel
theorem dX0_clocksOf_39 : decode cX0_clocksOf 39 = .ok (.iinc 3 1, 3) := by decide +kernel
theorem dX0_clocksOf_42 : decode cX0_clocksOf 42 = .ok (.goto (-38), 3) := by decide +kernel
theorem dX0_clocksOf_45 : decode cX0_clocksOf 45 = .ok (.iload_n 2, 1) := by decide +kernel
theorem dX0_clocksOf_46 : decode cX0_clocksOf 46 = .ok (.ireturn, 1) := by decide +kernel
theorem dX0_unlikeClock_0 : decode cX0_unlikeClock 0 = .ok (.iload_n 1, 1) := by decide +kernel
theorem dX0_unlikeClock_1 : decode cX0_unlikeClock 1 = .ok (.istore_n 3, 1) := by decide +kernel
theorem dX0_unlikeClock_2 : decode cX0_unlikeClock 2 = .ok (.iconst 0, 1) := by decide +kernel
theorem dX0_unlikeClock_3 : decode cX0_unlikeClock 3 = .ok (.istore 4, 2) := by decide +kernel
theorem dX0_unlikeClock_5 : decode cX0_unlikeClock 5 = .ok (.iload 4, 2) := by decide +kernel
theorem dX0_unlikeClock_7 : decode cX0_unlikeClock 7 = .ok (.aload_n 0, 1) := by decide +kernel
theorem dX0_unlikeClock_8 : decode cX0_unlikeClock 8 = .ok (.getfield 47, 3) := by decide +kernel
theorem dX0_unlikeClock_11 : decode cX0_unlikeClock 11 = .ok (.if_icmp .ge 29, 3) := by decide +kernel
theorem dX0_unlikeClock_14 : decode cX0_unlikeClock 14 = .ok (.aload_n 0, 1) := by decide +kernel
theorem dX0_unlikeClock_15 : decode cX0_unlikeClock 15 = .ok (.getfield 15, 3) := by decide +kernel
theorem dX0_unlikeClock_18 : decode cX0_unlikeClock 18 = .ok (.iload 4, 2) := by decide +kernel
theorem dX0_unlikeClock_20 : decode cX0_unlikeClock 20 = .ok (.iaload, 1) := by decide +kernel
theorem dX0_unlikeClock_21 : decode cX0_unlikeClock 21 = .ok (.iload_n 2, 1) := by decide +kernel
theorem dX0_unlikeClock_22 : decode cX0_unlikeClock 22 = .ok (.if_icmp .ne 12, 3) := by decide +kernel
theorem dX0_unlikeClock_25 : decode cX0_unlikeClock 25 = .ok (.iload_n 3, 1) := by decide +kernel
theorem dX0_unlikeClock_26 : decode cX0_unlikeClock 26 = .ok (.iconst 1, 1) := by decide +kernel
theorem dX0_unlikeClock_27 : decode cX0_unlikeClock 27 = .ok (.iload 4, 2) := by decide +kernel
theorem dX0_unlikeClock_29 : decode cX0_unlikeClock 29 = .ok (.ishl, 1) := by decide +kernel
theorem dX0_unlikeClock_30 : decode cX0_unlikeClock 30 = .ok (.iconst (-1), 1) := by decide +kernel
theorem dX0_unlikeClock_31 : decode cX0_unlikeClock 31 = .ok (.ixor, 1) := by decide +kernel
theorem dX0_unlikeClock_32 : decode cX0_unlikeClock 32 = .ok (.iand, 1) := by decide +kernel
theorem dX0_unlikeClock_33 : decode cX0_unlikeClock 33 = .ok (.istore_n 3, 1) := by decide +kernel
theorem dX0_unlikeClock_34 : decode cX0_unlikeClock 34 = .ok (.iinc 4 1, 3) := by decide +kernel
theorem dX0_unlikeClock_37 : decode cX0_unlikeClock 37 = .ok (.goto (-32), 3) := by decide +kernel
theorem dX0_unlikeClock_40 : decode cX0_unlikeClock 40 = .ok (.iload_n 3, 1) := by decide +kernel
theorem dX0_unlikeClock_41 : decode cX0_unlikeClock 41 = .ok (.ireturn, 1) := by decide +kernel
theorem dX0_isCrossing_0 : decode cX0_isCrossing 0 = .ok (.aload_n 0, 1) := by decide +kernel
theorem dX0_isCrossing_1 : decode cX0_isCrossing 1 = .ok (.iload_n 1, 1) := by decide +kernel
theorem dX0_isCrossing_2 : decode cX0_isCrossing 2 = .ok (.invokevirtual 68, 3) := by decide +kernel
theorem dX0_isCrossing_5 : decode cX0_isCrossing 5 = .ok (.ifCond .eq 16, 3) := by decide +kernel
theorem dX0_isCrossing_8 : decode cX0_isCrossing 8 = .ok (.aload_n 0, 1) := by decide +kernel
theorem dX0_isCrossing_9 : decode cX0_isCrossing 9 = .ok (.getfield 27, 3) := by decide +kernel
theorem dX0_isCrossing_12 : decode cX0_isCrossing 12 = .ok (.iload_n 1, 1) := by decide +kernel
theorem dX0_isCrossing_13 : decode cX0_isCrossing 13 = .ok (.iaload, 1) := by decide +kernel
theorem dX0_isCrossing_14 : decode cX0_isCrossing 14 = .ok (.ifCond .eq 7, 3) := by decide +kernel
theorem dX0_isCrossing_17 : decode cX0_isCrossing 17 = .ok (.iconst 1, 1) := by decide +kernel
theorem dX0_isCrossing_18 : decode cX0_isCrossing 18 = .ok (.goto 4, 3) := by decide +kernel
theorem dX0_isCrossing_21 : decode cX0_isCrossing 21 = .ok (.iconst 0, 1) := by decide +kernel
theorem dX0_isCrossing_22 : decode cX0_isCrossing 22 = .ok (.ireturn, 1) := by decide +kernel
theorem dX0_isDirect_0 : decode cX0_isDirect 0 = .ok (.aload_n 0, 1) := by decide +kernel
theorem dX0_isDirect_1 : decode cX0_isDirect 1 = .ok (.iload_n 1, 1) := by decide +kernel
theorem dX0_isDirect_2 : decode cX0_isDirect 2 = .ok (.invokevirtual 68, 3) := by decide +kernel
theorem dX0_isDirect_5 : decode cX0_isDirect 5 = .ok (.ifCond .eq 27, 3) := by decide +kernel
theorem dX0_isDirect_8 : decode cX0_isDirect 8 = .ok (.aload_n 0, 1) := by decide +kernel
theorem dX0_isDirect_9 : decode cX0_isDirect 9 = .ok (.getfield 27, 3) := by decide +kernel
theorem dX0_isDirect_12 : decode cX0_isDirect 12 = .ok (.iload_n 1, 1) := by decide +kernel
theorem dX0_isDirect_13 : decode cX0_isDirect 13 = .ok (.iaload, 1) := by decide +kernel
theorem dX0_isDirect_14 : decode cX0_isDirect 14 = .ok (.aload_n 0, 1) := by decide +kernel
theorem dX0_isDirect_15 : decode cX0_isDirect 15 = .ok (.getfield 18, 3) := by decide +kernel
theorem dX0_isDirect_18 : decode cX0_isDirect 18 = .ok (.iload_n 1, 1) := by decide +kernel
theorem dX0_isDirect_19 : decode cX0_isDirect 19 = .ok (.iconst 3, 1) := by decide +kernel
theorem dX0_isDirect_20 : decode cX0_isDirect 20 = .ok (.imul, 1) := by decide +kernel
theorem dX0_isDirect_21 : decode cX0_isDirect 21 = .ok (.iaload, 1) := by decide +kernel
theorem dX0_isDirect_22 : decode cX0_isDirect 22 = .ok (.invokestatic 101, 3) := by decide +kernel
theorem dX0_isDirect_25 : decode cX0_isDirect 25 = .ok (.ifCond .eq 7, 3) := by decide +kernel
theorem dX0_isDirect_28 : decode cX0_isDirect 28 = .ok (.iconst 1, 1) := by decide +kernel
theorem dX0_isDirect_29 : decode cX0_isDirect 29 = .ok (.goto 4, 3) := by decide +kernel
theorem dX0_isDirect_32 : decode cX0_isDirect 32 = .ok (.iconst 0, 1) := by decide +kernel
theorem dX0_isDirect_33 : decode cX0_isDirect 33 = .ok (.ireturn, 1) := by decide +kernel
theorem dX0_isSafe_0 : decode cX0_isSafe 0 = .ok (.aload_n 0, 1) := by decide +kernel
theorem dX0_isSafe_1 : decode cX0_isSafe 1 = .ok (.iload_n 1, 1) := by decide +kernel
theorem dX0_isSafe_2 : decode cX0_isSafe 2 = .ok (.invokevirtual 104, 3) := by decide +kernel
theorem dX0_isSafe_5 : decode cX0_isSafe 5 = .ok (.ifCond .eq 19, 3) := by decide +kernel
theorem dX0_isSafe_8 : decode cX0_isSafe 8 = .ok (.aload_n 0, 1) := by decide +kernel
theorem dX0_isSafe_9 : decode cX0_isSafe 9 = .ok (.getfield 30, 3) := by decide +kernel
theorem dX0_isSafe_12 : decode cX0_isSafe 12 = .ok (.iload_n 1, 1) := by decide +kernel
theorem dX0_isSafe_13 : decode cX0_isSafe 13 = .ok (.invokestatic 60, 3) := by decide +kernel
theorem dX0_isSafe_16 : decode cX0_isSafe 16 = .ok (.iload_n 2, 1) := by decide +kernel
theorem dX0_isSafe_17 : decode cX0_isSafe 17 = .ok (.if_icmp .lt 7, 3) := by decide +kernel
theorem dX0_isSafe_20 : decode cX0_isSafe 20 = .ok (.iconst 1, 1) := by decide +kernel
theorem dX0_isSafe_21 : decode cX0_isSafe 21 = .ok (.goto 4, 3) := by decide +kernel
theorem dX0_isSafe_24 : decode cX0_isSafe 24 = .ok (.iconst 0, 1) := by decide +kernel
theorem dX0_isSafe_25 : decode cX0_isSafe 25 = .ok (.ireturn, 1) := by decide +kernel
theorem dX0_kindOf_0 : decode cX0_kindOf 0 = .ok (.aload_n 0, 1) := by decide +kernel
theorem dX0_kindOf_1 : decode cX0_kindOf 1 = .ok (.iload_n 1, 1) := by decide +kernel
theorem dX0_kindOf_2 : decode cX0_kindOf 2 = .ok (.invokevirtual 107, 3) := by decide +kernel
theorem dX0_kindOf_5 : decode cX0_kindOf 5 = .ok (.ifCond .ne 6, 3) := by decide +kernel
theorem dX0_kindOf_8 : decode cX0_kindOf 8 = .ok (.bipush (-9), 2) := by decide +kernel
theorem dX0_kindOf_10 : decode cX0_kindOf 10 = .ok (.ireturn, 1) := by decide +kernel
theorem dX0_kindOf_11 : decode cX0_kindOf 11 = .ok (.aload_n 0, 1) := by decide +kernel
theorem dX0_kindOf_12 : decode cX0_kindOf 12 = .ok (.iload_n 1, 1) := by decide +kernel
theorem dX0_kindOf_13 : decode cX0_kindOf 13 = .ok (.invokevirtual 104, 3) := by decide +kernel
theorem dX0_kindOf_16 : decode cX0_kindOf 16 = .ok (.ifCond .eq 18, 3) := by decide +kernel
theorem dX0_kindOf_19 : decode cX0_kindOf 19 = .ok (.aload_n 0, 1) := by decide +kernel
theorem dX0_kindOf_20 : decode cX0_kindOf 20 = .ok (.iload_n 1, 1) := by decide +kernel
theorem dX0_kindOf_21 : decode cX0_kindOf 21 = .ok (.iload_n 2, 1) := by decide +kernel
theorem dX0_kindOf_22 : decode cX0_kindOf 22 = .ok (.invokevirtual 110, 3) := by decide +kernel
theorem dX0_kindOf_25 : decode cX0_kindOf 25 = .ok (.ifCond .eq 7, 3) := by decide +kernel
theorem dX0_kindOf_28 : decode cX0_kindOf 28 = .ok (.iconst 0, 1) := by decide +kernel
theorem dX0_kindOf_29 : decode cX0_kindOf 29 = .ok (.goto 4, 3) := by decide +kernel
theorem dX0_kindOf_32 : decode cX0_kindOf 32 = .ok (.iconst 1, 1) := by decide +kernel
theorem dX0_kindOf_33 : decode cX0_kindOf 33 = .ok (.ireturn, 1) := by decide +kernel
theorem dX0_kindOf_34 : decode cX0_kindOf 34 = .ok (.aload_n 0, 1) := by decide +kernel
theorem dX0_kindOf_35 : decode cX0_kindOf 35 = .ok (.iload_n 1, 1) := by decide +kernel
theorem dX0_kindOf_36 : decode cX0_kindOf 36 = .ok (.iload_n 2, 1) := by decide +kernel
theorem dX0_kindOf_37 : decode cX0_kindOf 37 = .ok (.invokevirtual 113, 3) := by decide +kernel
theorem dX0_kindOf_40 : decode cX0_kindOf 40 = .ok (.ifCond .eq 7, 3) := by decide +kernel
theorem dX0_kindOf_43 : decode cX0_kindOf 43 = .ok (.iconst 2, 1) := by decide +kernel
theorem dX0_kindOf_44 : decode cX0_kindOf 44 = .ok (.goto 4, 3) := by decide +kernel
theorem dX0_kindOf_47 : decode cX0_kindOf 47 = .ok (.iconst 3, 1) := by decide +kernel
theorem dX0_kindOf_48 : decode cX0_kindOf 48 = .ok (.ireturn, 1) := by decide +kernel
theorem dX0_isHeld_0 : decode cX0_isHeld 0 = .ok (.aload_n 0, 1) := by decide +kernel
theorem dX0_isHeld_1 : decode cX0_isHeld 1 = .ok (.iload_n 1, 1) := by decide +kernel
theorem dX0_isHeld_2 : decode cX0_isHeld 2 = .ok (.iconst 0, 1) := by decide +kernel
theorem dX0_isHeld_3 : decode cX0_isHeld 3 = .ok (.invokevirtual 116, 3) := by decide +kernel
theorem dX0_isHeld_6 : decode cX0_isHeld 6 = .ok (.istore_n 3, 1) := by decide +kernel
theorem dX0_isHeld_7 : decode cX0_isHeld 7 = .ok (.aload_n 0, 1) := by decide +kernel
theorem dX0_isHeld_8 : decode cX0_isHeld 8 = .ok (.getfield 15, 3) := by decide +kernel
theorem dX0_isHeld_11 : decode cX0_isHeld 11 = .ok (.iload_n 1, 1) := by decide +kernel
theorem dX0_isHeld_12 : decode cX0_isHeld 12 = .ok (.invokestatic 60, 3) := by decide +kernel
theorem dX0_isHeld_15 : decode cX0_isHeld 15 = .ok (.istore 4, 2) := by decide +kernel
theorem dX0_isHeld_17 : decode cX0_isHeld 17 = .ok (.aload_n 0, 1) := by decide +kernel
theorem dX0_isHeld_18 : decode cX0_isHeld 18 = .ok (.aload_n 0, 1) := by decide +kernel
theorem dX0_isHeld_19 : decode cX0_isHeld 19 = .ok (.getfield 27, 3) := by decide +kernel
theorem dX0_isHeld_22 : decode cX0_isHeld 22 = .ok (.iload_n 1, 1) := by decide +kernel
theorem dX0_isHeld_23 : decode cX0_isHeld 23 = .ok (.invokestatic 60, 3) := by decide +kernel
theorem dX0_isHeld_26 : decode cX0_isHeld 26 = .ok (.invokevirtual 119, 3) := by decide +kernel
theorem dX0_isHeld_29 : decode cX0_isHeld 29 = .ok (.istore 5, 2) := by decide +kernel
theorem dX0_isHeld_31 : decode cX0_isHeld 31 = .ok (.aload_n 0, 1) := by decide +kernel
theorem dX0_isHeld_32 : decode cX0_isHeld 32 = .ok (.iload_n 3, 1) := by decide +kernel
theorem dX0_isHeld_33 : decode cX0_isHeld 33 = .ok (.iconst 5, 1) := by decide +kernel
theorem dX0_isHeld_34 : decode cX0_isHeld 34 = .ok (.invokevirtual 97, 3) := by decide +kernel
theorem dX0_isHeld_37 : decode cX0_isHeld 37 = .ok (.ifCond .eq 12, 3) := by decide +kernel
theorem dX0_isHeld_40 : decode cX0_isHeld 40 = .ok (.iload 5, 2) := by decide +kernel
theorem dX0_isHeld_42 : decode cX0_isHeld 42 = .ok (.invokestatic 122, 3) := by decide +kernel
theorem dX0_isHeld_45 : decode cX0_isHeld 45 = .ok (.iconst 1, 1) := by decide +kernel
theorem dX0_isHeld_46 : decode cX0_isHeld 46 = .ok (.if_icmp .eq 5, 3) := by decide +kernel
theorem dX0_isHeld_49 : decode cX0_isHeld 49 = .ok (.iconst 0, 1) := by decide +kernel
theorem dX0_isHeld_50 : decode cX0_isHeld 50 = .ok (.ireturn, 1) := by decide +kernel
theorem dX0_isHeld_51 : decode cX0_isHeld 51 = .ok (.aload_n 0, 1) := by decide +kernel
theorem dX0_isHeld_52 : decode cX0_isHeld 52 = .ok (.iload_n 3, 1) := by decide +kernel
theorem dX0_isHeld_53 : decode cX0_isHeld 53 = .ok (.iconst 0, 1) := by decide +kernel
theorem dX0_isHeld_54 : decode cX0_isHeld 54 = .ok (.invokevirtual 116, 3) := by decide +kernel
theorem dX0_isHeld_57 : decode cX0_isHeld 57 = .ok (.istore 6, 2) := by decide +kernel
theorem dX0_isHeld_59 : decode cX0_isHeld 59 = .ok (.aload_n 0, 1) := by decide +kernel
theorem dX0_isHeld_60 : decode cX0_isHeld 60 = .ok (.aload_n 0, 1) := by decide +kernel
theorem dX0_isHeld_61 : decode cX0_isHeld 61 = .ok (.getfield 24, 3) := by decide +kernel
theorem dX0_isHeld_64 : decode cX0_isHeld 64 = .ok (.iload 6, 2) := by decide +kernel
theorem dX0_isHeld_66 : decode cX0_isHeld 66 = .ok (.invokestatic 60, 3) := by decide +kernel
theorem dX0_isHeld_69 : decode cX0_isHeld 69 = .ok (.invokevirtual 119, 3) := by decide +kernel
theorem dX0_isHeld_72 : decode cX0_isHeld 72 = .ok (.iconst 1, 1) := by decide +kernel
theorem dX0_isHeld_73 : decode cX0_isHeld 73 = .ok (.iload 4, 2) := by decide +kernel
theorem dX0_isHeld_75 : decode cX0_isHeld 75 = .ok (.ishl, 1) := by decide +kernel
theorem dX0_isHeld_76 : decode cX0_isHeld 76 = .ok (.if_icmp .eq 5, 3) := by decide +kernel
theorem dX0_isHeld_79 : decode cX0_isHeld 79 = .ok (.iconst 0, 1) := by decide +kernel
theorem dX0_isHeld_80 : decode cX0_isHeld 80 = .ok (.ireturn, 1) := by decide +kernel
theorem dX0_isHeld_81 : decode cX0_isHeld 81 = .ok (.aload_n 0, 1) := by decide +kernel
theorem dX0_isHeld_82 : decode cX0_isHeld 82 = .ok (.iload 6, 2) := by decide +kernel
theorem dX0_isHeld_84 : decode cX0_isHeld 84 = .ok (.iload 4, 2) := by decide +kernel
theorem dX0_isHeld_86 : decode cX0_isHeld 86 = .ok (.invokevirtual 127, 3) := by decide +kernel
theorem dX0_isHeld_89 : decode cX0_isHeld 89 = .ok (.istore 7, 2) := by decide +kernel
theorem dX0_isHeld_91 : decode cX0_isHeld 91 = .ok (.iconst 0, 1) := by decide +kernel
theorem dX0_isHeld_92 : decode cX0_isHeld 92 = .ok (.istore 8, 2) := by decide +kernel
theorem dX0_isHeld_94 : decode cX0_isHeld 94 = .ok (.iload 8, 2) := by decide +kernel
theorem dX0_isHeld_96 : decode cX0_isHeld 96 = .ok (.aload_n 0, 1) := by decide +kernel
theorem dX0_isHeld_97 : decode cX0_isHeld 97 = .ok (.getfield 47, 3) := by decide +kernel
theorem dX0_isHeld_100 : decode cX0_isHeld 100 = .ok (.if_icmp .ge 59, 3) := by decide +kernel
theorem dX0_isHeld_103 : decode cX0_isHeld 103 = .ok (.iload 7, 2) := by decide +kernel
theorem dX0_isHeld_105 : decode cX0_isHeld 105 = .ok (.iload 8, 2) := by decide +kernel
theorem dX0_isHeld_107 : decode cX0_isHeld 107 = .ok (.invokestatic 101, 3) := by decide +kernel
theorem dX0_isHeld_110 : decode cX0_isHeld 110 = .ok (.ifCond .eq 43, 3) := by decide +kernel
theorem dX0_isHeld_113 : decode cX0_isHeld 113 = .ok (.aload_n 0, 1) := by decide +kernel
theorem dX0_isHeld_114 : decode cX0_isHeld 114 = .ok (.getfield 15, 3) := by decide +kernel
theorem dX0_isHeld_117 : decode cX0_isHeld 117 = .ok (.iload 8, 2) := by decide +kernel
theorem dX0_isHeld_119 : decode cX0_isHeld 119 = .ok (.iaload, 1) := by decide +kernel
theorem dX0_isHeld_120 : decode cX0_isHeld 120 = .ok (.iload 4, 2) := by decide +kernel
theorem dX0_isHeld_122 : decode cX0_isHeld 122 = .ok (.if_icmp .ne 31, 3) := by decide +kernel
theorem dX0_isHeld_125 : decode cX0_isHeld 125 = .ok (.aload_n 0, 1) := by decide +kernel
theorem dX0_isHeld_126 : decode cX0_isHeld 126 = .ok (.iload 8, 2) := by decide +kernel
theorem dX0_isHeld_128 : decode cX0_isHeld 128 = .ok (.iload_n 2, 1) := by decide +kernel
theorem dX0_isHeld_129 : decode cX0_isHeld 129 = .ok (.invokevirtual 110, 3) := by decide +kernel
theorem dX0_isHeld_132 : decode cX0_isHeld 132 = .ok (.ifCond .eq 21, 3) := by decide +kernel
theorem dX0_isHeld_135 : decode cX0_isHeld 135 = .ok (.aload_n 0, 1) := by decide +kernel
theorem dX0_isHeld_136 : decode cX0_isHeld 136 = .ok (.aload_n 0, 1) := by decide +kernel
theorem dX0_isHeld_137 : decode cX0_isHeld 137 = .ok (.getfield 27, 3) := by decide +kernel
theorem dX0_isHeld_140 : decode cX0_isHeld 140 = .ok (.iload 8, 2) := by decide +kernel
theorem dX0_isHeld_142 : decode cX0_isHeld 142 = .ok (.iaload, 1) := by decide +kernel
theorem dX0_isHeld_143 : decode cX0_isHeld 143 = .ok (.invokevirtual 119, 3) := by decide +kernel
theorem dX0_isHeld_146 : decode cX0_isHeld 146 = .ok (.iload 5, 2) := by decide +kernel
theorem dX0_isHeld_148 : decode cX0_isHeld 148 = .ok (.if_icmp .ne 5, 3) := by decide +kernel
theorem dX0_isHeld_151 : decode cX0_isHeld 151 = .ok (.iconst 1, 1) := by decide +kernel
theorem dX0_isHeld_152 : decode cX0_isHeld 152 = .ok (.ireturn, 1) := by decide +kernel
theorem dX0_isHeld_153 : decode cX0_isHeld 153 = .ok (.iinc 8 1, 3) := by decide +kernel
theorem dX0_isHeld_156 : decode cX0_isHeld 156 = .ok (.goto (-62), 3) := by decide +kernel
theorem dX0_isHeld_159 : decode cX0_isHeld 159 = .ok (.iconst 0, 1) := by decide +kernel
theorem dX0_isHeld_160 : decode cX0_isHeld 160 = .ok (.ireturn, 1) := by decide +kernel
theorem dX0_backFrom_0 : decode cX0_backFrom 0 = .ok (.iconst 1, 1) := by decide +kernel
theorem dX0_backFrom_1 : decode cX0_backFrom 1 = .ok (.iload_n 1, 1) := by decide +kernel
theorem dX0_backFrom_2 : decode cX0_backFrom 2 = .ok (.ishl, 1) := by decide +kernel
theorem dX0_backFrom_3 : decode cX0_backFrom 3 = .ok (.istore_n 3, 1) := by decide +kernel
theorem dX0_backFrom_4 : decode cX0_backFrom 4 = .ok (.iload_n 1, 1) := by decide +kernel
theorem dX0_backFrom_5 : decode cX0_backFrom 5 = .ok (.istore 4, 2) := by decide +kernel
theorem dX0_backFrom_7 : decode cX0_backFrom 7 = .ok (.iload 4, 2) := by decide +kernel
theorem dX0_backFrom_9 : decode cX0_backFrom 9 = .ok (.ifCond .lt 40, 3) := by decide +kernel
theorem dX0_backFrom_12 : decode cX0_backFrom 12 = .ok (.iload_n 3, 1) := by decide +kernel
theorem dX0_backFrom_13 : decode cX0_backFrom 13 = .ok (.iload 4, 2) := by decide +kernel
theorem dX0_backFrom_15 : decode cX0_backFrom 15 = .ok (.invokestatic 101, 3) := by decide +kernel
theorem dX0_backFrom_18 : decode cX0_backFrom 18 = .ok (.ifCond .eq 25, 3) := by decide +kernel
theorem dX0_backFrom_21 : decode cX0_backFrom 21 = .ok (.aload_n 0, 1) := by decide +kernel
theorem dX0_backFrom_22 : decode cX0_backFrom 22 = .ok (.iload 4, 2) := by decide +kernel
theorem dX0_backFrom_24 : decode cX0_backFrom 24 = .ok (.iload_n 2, 1) := by decide +kernel
theorem dX0_backFrom_25 : decode cX0_backFrom 25 = .ok (.invokevirtual 130, 3) := by decide +kernel
theorem dX0_backFrom_28 : decode cX0_backFrom 28 = .ok (.ifCond .eq 15, 3) := by decide +kernel
theorem dX0_backFrom_31 : decode cX0_backFrom 31 = .ok (.iload_n 3, 1) := by decide +kernel
theorem dX0_backFrom_32 : decode cX0_backFrom 32 = .ok (.aload_n 0, 1) := by decide +kernel
theorem dX0_backFrom_33 : decode cX0_backFrom 33 = .ok (.getfield 21, 3) := by decide +kernel
theorem dX0_backFrom_36 : decode cX0_backFrom 36 = .ok (.iload 4, 2) := by decide +kernel
theorem dX0_backFrom_38 : decode cX0_backFrom 38 = .ok (.invokestatic 60, 3) := by decide +kernel
theorem dX0_backFrom_41 : decode cX0_backFrom 41 = .ok (.ior, 1) := by decide +kernel
theorem dX0_backFrom_42 : decode cX0_backFrom 42 = .ok (.istore_n 3, 1) := by decide +kernel
theorem dX0_backFrom_43 : decode cX0_backFrom 43 = .ok (.iinc 4 (-1), 3) := by decide +kernel
theorem dX0_backFrom_46 : decode cX0_backFrom 46 = .ok (.goto (-39), 3) := by decide +kernel
theorem dX0_backFrom_49 : decode cX0_backFrom 49 = .ok (.iload_n 3, 1) := by decide +kernel
theorem dX0_backFrom_50 : decode cX0_backFrom 50 = .ok (.ireturn, 1) := by decide +kernel
theorem dX0_reachedFrom_0 : decode cX0_reachedFrom 0 = .ok (.iconst 1, 1) := by decide +kernel
theorem dX0_reachedFrom_1 : decode cX0_reachedFrom 1 = .ok (.iload_n 1, 1) := by decide +kernel
theorem dX0_reachedFrom_2 : decode cX0_reachedFrom 2 = .ok (.ishl, 1) := by decide +kernel
theorem dX0_reachedFrom_3 : decode cX0_reachedFrom 3 = .ok (.istore_n 2, 1) := by decide +kernel
theorem dX0_reachedFrom_4 : decode cX0_reachedFrom 4 = .ok (.aload_n 0, 1) := by decide +kernel
theorem dX0_reachedFrom_5 : decode cX0_reachedFrom 5 = .ok (.getfield 15, 3) := by decide +kernel
theorem dX0_reachedFrom_8 : decode cX0_reachedFrom 8 = .ok (.iload_n 1, 1) := by decide +kernel
theorem dX0_reachedFrom_9 : decode cX0_reachedFrom 9 = .ok (.invokestatic 60, 3) := by decide +kernel
theorem dX0_reachedFrom_12 : decode cX0_reachedFrom 12 = .ok (.istore_n 3, 1) := by decide +kernel
theorem dX0_reachedFrom_13 : decode cX0_reachedFrom 13 = .ok (.iload_n 1, 1) := by decide +kernel
theorem dX0_reachedFrom_14 : decode cX0_reachedFrom 14 = .ok (.iconst 1, 1) := by decide +kernel
theorem dX0_reachedFrom_15 : decode cX0_reachedFrom 15 = .ok (.iadd, 1) := by decide +kernel
theorem dX0_reachedFrom_16 : decode cX0_reachedFrom 16 = .ok (.istore 4, 2) := by decide +kernel
theorem dX0_reachedFrom_18 : decode cX0_reachedFrom 18 = .ok (.iload 4, 2) := by decide +kernel
theorem dX0_reachedFrom_20 : decode cX0_reachedFrom 20 = .ok (.aload_n 0, 1) := by decide +kernel
theorem dX0_reachedFrom_21 : decode cX0_reachedFrom 21 = .ok (.getfield 47, 3) := by decide +kernel
theorem dX0_reachedFrom_24 : decode cX0_reachedFrom 24 = .ok (.if_icmp .ge 38, 3) := by decide +kernel
theorem dX0_reachedFrom_27 : decode cX0_reachedFrom 27 = .ok (.aload_n 0, 1) := by decide +kernel
theorem dX0_reachedFrom_28 : decode cX0_reachedFrom 28 = .ok (.getfield 21, 3) := by decide +kernel
theorem dX0_reachedFrom_31 : decode cX0_reachedFrom 31 = .ok (.iload 4, 2) := by decide +kernel
theorem dX0_reachedFrom_33 : decode cX0_reachedFrom 33 = .ok (.iaload, 1) := by decide +kernel
theorem dX0_reachedFrom_34 : decode cX0_reachedFrom 34 = .ok (.iload_n 2, 1) := by decide +kernel
theorem dX0_reachedFrom_35 : decode cX0_reachedFrom 35 = .ok (.iand, 1) := by decide +kernel
theorem dX0_reachedFrom_36 : decode cX0_reachedFrom 36 = .ok (.ifCond .eq 20, 3) := by decide +kernel
theorem dX0_reachedFrom_39 : decode cX0_reachedFrom 39 = .ok (.aload_n 0, 1) := by decide +kernel
theorem dX0_reachedFrom_40 : decode cX0_reachedFrom 40 = .ok (.iload 4, 2) := by decide +kernel
theorem dX0_reachedFrom_42 : decode cX0_reachedFrom 42 = .ok (.iload_n 3, 1) := by decide +kernel
theorem dX0_reachedFrom_43 : decode cX0_reachedFrom 43 = .ok (.invokevirtual 130, 3) := by decide +kernel
theorem dX0_reachedFrom_46 : decode cX0_reachedFrom 46 = .ok (.ifCond .eq 10, 3) := by decide +kernel
theorem dX0_reachedFrom_49 : decode cX0_reachedFrom 49 = .ok (.iload_n 2, 1) := by decide +kernel
theorem dX0_reachedFrom_50 : decode cX0_reachedFrom 50 = .ok (.iconst 1, 1) := by decide +kernel
theorem dX0_reachedFrom_51 : decode cX0_reachedFrom 51 = .ok (.iload 4, 2) := by decide +kernel
theorem dX0_reachedFrom_53 : decode cX0_reachedFrom 53 = .ok (.ishl, 1) := by decide +kernel
theorem dX0_reachedFrom_54 : decode cX0_reachedFrom 54 = .ok (.ior, 1) := by decide +kernel
theorem dX0_reachedFrom_55 : decode cX0_reachedFrom 55 = .ok (.istore_n 2, 1) := by decide +kernel
theorem dX0_reachedFrom_56 : decode cX0_reachedFrom 56 = .ok (.iinc 4 1, 3) := by decide +kernel
theorem dX0_reachedFrom_59 : decode cX0_reachedFrom 59 = .ok (.goto (-41), 3) := by decide +kernel
theorem dX0_reachedFrom_62 : decode cX0_reachedFrom 62 = .ok (.iload_n 2, 1) := by decide +kernel
theorem dX0_reachedFrom_63 : decode cX0_reachedFrom 63 = .ok (.ireturn, 1) := by decide +kernel
theorem dX0_passes_0 : decode cX0_passes 0 = .ok (.aload_n 0, 1) := by decide +kernel
theorem dX0_passes_1 : decode cX0_passes 1 = .ok (.iload_n 1, 1) := by decide +kernel
theorem dX0_passes_2 : decode cX0_passes 2 = .ok (.invokevirtual 72, 3) := by decide +kernel
theorem dX0_passes_5 : decode cX0_passes 5 = .ok (.ifCond .eq 24, 3) := by decide +kernel
theorem dX0_passes_8 : decode cX0_passes 8 = .ok (.aload_n 0, 1) := by decide +kernel
theorem dX0_passes_9 : decode cX0_passes 9 = .ok (.iload_n 1, 1) := by decide +kernel
theorem dX0_passes_10 : decode cX0_passes 10 = .ok (.iconst 1, 1) := by decide +kernel
theorem dX0_passes_11 : decode cX0_passes 11 = .ok (.invokevirtual 97, 3) := by decide +kernel
theorem dX0_passes_14 : decode cX0_passes 14 = .ok (.ifCond .eq 19, 3) := by decide +kernel
theorem dX0_passes_17 : decode cX0_passes 17 = .ok (.aload_n 0, 1) := by decide +kernel
theorem dX0_passes_18 : decode cX0_passes 18 = .ok (.getfield 15, 3) := by decide +kernel
theorem dX0_passes_21 : decode cX0_passes 21 = .ok (.iload_n 1, 1) := by decide +kernel
theorem dX0_passes_22 : decode cX0_passes 22 = .ok (.invokestatic 60, 3) := by decide +kernel
theorem dX0_passes_25 : decode cX0_passes 25 = .ok (.iload_n 2, 1) := by decide +kernel
theorem dX0_passes_26 : decode cX0_passes 26 = .ok (.if_icmp .ne 7, 3) := by decide +kernel
theorem dX0_passes_29 : decode cX0_passes 29 = .ok (.iconst 1, 1) := by decide +kernel
theorem dX0_passes_30 : decode cX0_passes 30 = .ok (.goto 4, 3) := by decide +kernel
theorem dX0_passes_33 : decode cX0_passes 33 = .ok (.iconst 0, 1) := by decide +kernel
theorem dX0_passes_34 : decode cX0_passes 34 = .ok (.ireturn, 1) := by decide +kernel
theorem dX0_whereJoined_0 : decode cX0_whereJoined 0 = .ok (.aload_n 0, 1) := by decide +kernel
theorem dX0_whereJoined_1 : decode cX0_whereJoined 1 = .ok (.iload_n 1, 1) := by decide +kernel
theorem dX0_whereJoined_2 : decode cX0_whereJoined 2 = .ok (.invokevirtual 104, 3) := by decide +kernel
theorem dX0_whereJoined_5 : decode cX0_whereJoined 5 = .ok (.ifCond .eq 30, 3) := by decide +kernel
theorem dX0_whereJoined_8 : decode cX0_whereJoined 8 = .ok (.aload_n 0, 1) := by decide +kernel
theorem dX0_whereJoined_9 : decode cX0_whereJoined 9 = .ok (.iload_n 2, 1) := by decide +kernel
theorem dX0_whereJoined_10 : decode cX0_whereJoined 10 = .ok (.invokevirtual 104, 3) := by decide +kernel
theorem dX0_whereJoined_13 : decode cX0_whereJoined 13 = .ok (.ifCond .eq 22, 3) := by decide +kernel
theorem dX0_whereJoined_16 : decode cX0_whereJoined 16 = .ok (.aload_n 0, 1) := by decide +kernel
theorem dX0_whereJoined_17 : decode cX0_whereJoined 17 = .ok (.getfield 15, 3) := by decide +kernel
theorem dX0_whereJoined_20 : decode cX0_whereJoined 20 = .ok (.iload_n 1, 1) := by decide +kernel
theorem dX0_whereJoined_21 : decode cX0_whereJoined 21 = .ok (.invokestatic 60, 3) := by decide +kernel
theorem dX0_whereJoined_24 : decode cX0_whereJoined 24 = .ok (.aload_n 0, 1) := by decide +kernel
theorem dX0_whereJoined_25 : decode cX0_whereJoined 25 = .ok (.getfield 15, 3) := by decide +kernel
theorem dX0_whereJoined_28 : decode cX0_whereJoined 28 = .ok (.iload_n 2, 1) := by decide +kernel
theorem dX0_whereJoined_29 : decode cX0_whereJoined 29 = .ok (.invokestatic 60, 3) := by decide +kernel
theorem dX0_whereJoined_32 : decode cX0_whereJoined 32 = .ok (.if_icmp .eq 6, 3) := by decide +kernel
theorem dX0_whereJoined_35 : decode cX0_whereJoined 35 = .ok (.bipush (-9), 2) := by decide +kernel
theorem dX0_whereJoined_37 : decode cX0_whereJoined 37 = .ok (.ireturn, 1) := by decide +kernel
theorem dX0_whereJoined_38 : decode cX0_whereJoined 38 = .ok (.aload_n 0, 1) := by decide +kernel
theorem dX0_whereJoined_39 : decode cX0_whereJoined 39 = .ok (.iload_n 1, 1) := by decide +kernel
theorem dX0_whereJoined_40 : decode cX0_whereJoined 40 = .ok (.iconst 0, 1) := by decide +kernel
theorem dX0_whereJoined_41 : decode cX0_whereJoined 41 = .ok (.invokevirtual 116, 3) := by decide +kernel
theorem dX0_whereJoined_44 : decode cX0_whereJoined 44 = .ok (.istore_n 3, 1) := by decide +kernel
theorem dX0_whereJoined_45 : decode cX0_whereJoined 45 = .ok (.aload_n 0, 1) := by decide +kernel
theorem dX0_whereJoined_46 : decode cX0_whereJoined 46 = .ok (.iload_n 2, 1) := by decide +kernel
theorem dX0_whereJoined_47 : decode cX0_whereJoined 47 = .ok (.iconst 0, 1) := by decide +kernel
theorem dX0_whereJoined_48 : decode cX0_whereJoined 48 = .ok (.invokevirtual 116, 3) := by decide +kernel
theorem dX0_whereJoined_51 : decode cX0_whereJoined 51 = .ok (.istore 4, 2) := by decide +kernel
theorem dX0_whereJoined_53 : decode cX0_whereJoined 53 = .ok (.iload_n 3, 1) := by decide +kernel
theorem dX0_whereJoined_54 : decode cX0_whereJoined 54 = .ok (.iload 4, 2) := by decide +kernel
theorem dX0_whereJoined_56 : decode cX0_whereJoined 56 = .ok (.if_icmp .eq 39, 3) := by decide +kernel
theorem dX0_whereJoined_59 : decode cX0_whereJoined 59 = .ok (.aload_n 0, 1) := by decide +kernel
theorem dX0_whereJoined_60 : decode cX0_whereJoined 60 = .ok (.getfield 15, 3) := by decide +kernel
theorem dX0_whereJoined_63 : decode cX0_whereJoined 63 = .ok (.iload_n 3, 1) := by decide +kernel
theorem dX0_whereJoined_64 : decode cX0_whereJoined 64 = .ok (.invokestatic 60, 3) := by decide +kernel
theorem dX0_whereJoined_67 : decode cX0_whereJoined 67 = .ok (.aload_n 0, 1) := by decide +kernel
theorem dX0_whereJoined_68 : decode cX0_whereJoined 68 = .ok (.getfield 15, 3) := by decide +kernel
theorem dX0_whereJoined_71 : decode cX0_whereJoined 71 = .ok (.iload 4, 2) := by decide +kernel
theorem dX0_whereJoined_73 : decode cX0_whereJoined 73 = .ok (.invokestatic 60, 3) := by decide +kernel
theorem dX0_whereJoined_76 : decode cX0_whereJoined 76 = .ok (.if_icmp .ne 19, 3) := by decide +kernel
theorem dX0_whereJoined_79 : decode cX0_whereJoined 79 = .ok (.aload_n 0, 1) := by decide +kernel
theorem dX0_whereJoined_80 : decode cX0_whereJoined 80 = .ok (.getfield 33, 3) := by decide +kernel
theorem dX0_whereJoined_83 : decode cX0_whereJoined 83 = .ok (.iload_n 3, 1) := by decide +kernel
theorem dX0_whereJoined_84 : decode cX0_whereJoined 84 = .ok (.invokestatic 60, 3) := by decide +kernel
theorem dX0_whereJoined_87 : decode cX0_whereJoined 87 = .ok (.iload 4, 2) := by decide +kernel
theorem dX0_whereJoined_89 : decode cX0_whereJoined 89 = .ok (.invokestatic 101, 3) := by decide +kernel
theorem dX0_whereJoined_92 : decode cX0_whereJoined 92 = .ok (.ifCond .eq 6, 3) := by decide +kernel
theorem dX0_whereJoined_95 : decode cX0_whereJoined 95 = .ok (.bipush (-9), 2) := by decide +kernel
theorem dX0_whereJoined_97 : decode cX0_whereJoined 97 = .ok (.ireturn, 1) := by decide +kernel
theorem dX0_whereJoined_98 : decode cX0_whereJoined 98 = .ok (.aload_n 0, 1) := by decide +kernel
theorem dX0_whereJoined_99 : decode cX0_whereJoined 99 = .ok (.iload_n 1, 1) := by decide +kernel
theorem dX0_whereJoined_100 : decode cX0_whereJoined 100 = .ok (.invokevirtual 133, 3) := by decide +kernel
theorem dX0_whereJoined_103 : decode cX0_whereJoined 103 = .ok (.aload_n 0, 1) := by decide +kernel
theorem dX0_whereJoined_104 : decode cX0_whereJoined 104 = .ok (.iload_n 2, 1) := by decide +kernel
theorem dX0_whereJoined_105 : decode cX0_whereJoined 105 = .ok (.invokevirtual 133, 3) := by decide +kernel
theorem dX0_whereJoined_108 : decode cX0_whereJoined 108 = .ok (.iand, 1) := by decide +kernel
theorem dX0_whereJoined_109 : decode cX0_whereJoined 109 = .ok (.invokestatic 136, 3) := by decide +kernel
theorem dX0_whereJoined_112 : decode cX0_whereJoined 112 = .ok (.ireturn, 1) := by decide +kernel
theorem dX0_lowestBit_0 : decode cX0_lowestBit 0 = .ok (.iconst 0, 1) := by decide +kernel
theorem dX0_lowestBit_1 : decode cX0_lowestBit 1 = .ok (.istore_n 1, 1) := by decide +kernel
theorem dX0_lowestBit_2 : decode cX0_lowestBit 2 = .ok (.iload_n 1, 1) := by decide +kernel
theorem dX0_lowestBit_3 : decode cX0_lowestBit 3 = .ok (.bipush 16, 2) := by decide +kernel
theorem dX0_lowestBit_5 : decode cX0_lowestBit 5 = .ok (.if_icmp .ge 19, 3) := by decide +kernel
theorem dX0_lowestBit_8 : decode cX0_lowestBit 8 = .ok (.iload_n 0, 1) := by decide +kernel
theorem dX0_lowestBit_9 : decode cX0_lowestBit 9 = .ok (.iload_n 1, 1) := by decide +kernel
theorem dX0_lowestBit_10 : decode cX0_lowestBit 10 = .ok (.invokestatic 101, 3) := by decide +kernel
theorem dX0_lowestBit_13 : decode cX0_lowestBit 13 = .ok (.ifCond .eq 5, 3) := by decide +kernel
theorem dX0_lowestBit_16 : decode cX0_lowestBit 16 = .ok (.iload_n 1, 1) := by decide +kernel
theorem dX0_lowestBit_17 : decode cX0_lowestBit 17 = .ok (.ireturn, 1) := by decide +kernel
theorem dX0_lowestBit_18 : decode cX0_lowestBit 18 = .ok (.iinc 1 1, 3) := by decide +kernel
theorem dX0_lowestBit_21 : decode cX0_lowestBit 21 = .ok (.goto (-19), 3) := by decide +kernel
theorem dX0_lowestBit_24 : decode cX0_lowestBit 24 = .ok (.bipush (-9), 2) := by decide +kernel
theorem dX0_lowestBit_26 : decode cX0_lowestBit 26 = .ok (.ireturn, 1) := by decide +kernel
theorem dX0_weightOf_0 : decode cX0_weightOf 0 = .ok (.aload_n 0, 1) := by decide +kernel
theorem dX0_weightOf_1 : decode cX0_weightOf 1 = .ok (.iload_n 1, 1) := by decide +kernel
theorem dX0_weightOf_2 : decode cX0_weightOf 2 = .ok (.iload_n 2, 1) := by decide +kernel
theorem dX0_weightOf_3 : decode cX0_weightOf 3 = .ok (.invokevirtual 139, 3) := by decide +kernel
theorem dX0_weightOf_6 : decode cX0_weightOf 6 = .ok (.tableswitch 44 0 2 #[26, 38, 41], 26) := by decide +kernel
theorem dX0_weightOf_32 : decode cX0_weightOf 32 = .ok (.aload_n 0, 1) := by decide +kernel
theorem dX0_weightOf_33 : decode cX0_weightOf 33 = .ok (.getfield 30, 3) := by decide +kernel
theorem dX0_weightOf_36 : decode cX0_weightOf 36 = .ok (.iload_n 1, 1) := by decide +kernel
theorem dX0_weightOf_37 : decode cX0_weightOf 37 = .ok (.invokestatic 60, 3) := by decide +kernel
theorem dX0_weightOf_40 : decode cX0_weightOf 40 = .ok (.invokestatic 142, 3) := by decide +kernel
theorem dX0_weightOf_43 : decode cX0_weightOf 43 = .ok (.freturn, 1) := by decide +kernel
theorem dX0_weightOf_44 : decode cX0_weightOf 44 = .ok (.ldc 146, 2) := by decide +kernel
theorem dX0_weightOf_46 : decode cX0_weightOf 46 = .ok (.freturn, 1) := by decide +kernel
theorem dX0_weightOf_47 : decode cX0_weightOf 47 = .ok (.ldc 147, 2) := by decide +kernel
theorem dX0_weightOf_49 : decode cX0_weightOf 49 = .ok (.freturn, 1) := by decide +kernel
theorem dX0_weightOf_50 : decode cX0_weightOf 50 = .ok (.ldc 148, 2) := by decide +kernel
theorem dX0_weightOf_52 : decode cX0_weightOf 52 = .ok (.freturn, 1) := by decide +kernel
theorem dX0_halved_0 : decode cX0_halved 0 = .ok (.fconst 1, 1) := by decide +kernel
theorem dX0_halved_1 : decode cX0_halved 1 = .ok (.fstore_n 1, 1) := by decide +kernel
theorem dX0_halved_2 : decode cX0_halved 2 = .ok (.iconst 0, 1) := by decide +kernel
theorem dX0_halved_3 : decode cX0_halved 3 = .ok (.istore_n 2, 1) := by decide +kernel
theorem dX0_halved_4 : decode cX0_halved 4 = .ok (.iload_n 2, 1) := by decide +kernel
theorem dX0_halved_5 : decode cX0_halved 5 = .ok (.iload_n 0, 1) := by decide +kernel
theorem dX0_halved_6 : decode cX0_halved 6 = .ok (.if_icmp .ge 14, 3) := by decide +kernel
theorem dX0_halved_9 : decode cX0_halved 9 = .ok (.fload_n 1, 1) := by decide +kernel
theorem dX0_halved_10 : decode cX0_halved 10 = .ok (.ldc 149, 2) := by decide +kernel
theorem dX0_halved_12 : decode cX0_halved 12 = .ok (.fmul, 1) := by decide +kernel
theorem dX0_halved_13 : decode cX0_halved 13 = .ok (.fstore_n 1, 1) := by decide +kernel
theorem dX0_halved_14 : decode cX0_halved 14 = .ok (.iinc 2 1, 3) := by decide +kernel
theorem dX0_halved_17 : decode cX0_halved 17 = .ok (.goto (-13), 3) := by decide +kernel
theorem dX0_halved_20 : decode cX0_halved 20 = .ok (.fload_n 1, 1) := by decide +kernel
theorem dX0_halved_21 : decode cX0_halved 21 = .ok (.freturn, 1) := by decide +kernel
theorem dX1_init_0 : decode cX1_init 0 = .ok (.aload_n 0, 1) := by decide +kernel
theorem dX1_init_1 : decode cX1_init 1 = .ok (.invokespecial 3, 3) := by decide +kernel
theorem dX1_init_4 : decode cX1_init 4 = .ok (.aload_n 0, 1) := by decide +kernel
theorem dX1_init_5 : decode cX1_init 5 = .ok (.bipush 16, 2) := by decide +kernel
theorem dX1_init_7 : decode cX1_init 7 = .ok (.newarray .int, 2) := by decide +kernel
theorem dX1_init_9 : decode cX1_init 9 = .ok (.putfield 9, 3) := by decide +kernel
theorem dX1_init_12 : decode cX1_init 12 = .ok (.aload_n 0, 1) := by decide +kernel
theorem dX1_init_13 : decode cX1_init 13 = .ok (.bipush 16, 2) := by decide +kernel
theorem dX1_init_15 : decode cX1_init 15 = .ok (.newarray .int, 2) := by decide +kernel
theorem dX1_init_17 : decode cX1_init 17 = .ok (.putfield 15, 3) := by decide +kernel
theorem dX1_init_20 : decode cX1_init 20 = .ok (.aload_n 0, 1) := by decide +kernel
theorem dX1_init_21 : decode cX1_init 21 = .ok (.iconst 2, 1) := by decide +kernel
theorem dX1_init_22 : decode cX1_init 22 = .ok (.putfield 18, 3) := by decide +kernel
theorem dX1_init_25 : decode cX1_init 25 = .ok (.return_, 1) := by decide +kernel
theorem dX1_begin_0 : decode cX1_begin 0 = .ok (.aload_n 0, 1) := by decide +kernel
theorem dX1_begin_1 : decode cX1_begin 1 = .ok (.iconst 2, 1) := by decide +kernel
theorem dX1_begin_2 : decode cX1_begin 2 = .ok (.putfield 18, 3) := by decide +kernel
theorem dX1_begin_5 : decode cX1_begin 5 = .ok (.aload_n 0, 1) := by decide +kernel
theorem dX1_begin_6 : decode cX1_begin 6 = .ok (.iconst 0, 1) := by decide +kernel
theorem dX1_begin_7 : decode cX1_begin 7 = .ok (.putfield 22, 3) := by decide +kernel
theorem dX1_begin_10 : decode cX1_begin 10 = .ok (.aload_n 0, 1) := by decide +kernel
theorem dX1_begin_11 : decode cX1_begin 11 = .ok (.iconst 0, 1) := by decide +kernel
theorem dX1_begin_12 : decode cX1_begin 12 = .ok (.putfield 25, 3) := by decide +kernel
theorem dX1_begin_15 : decode cX1_begin 15 = .ok (.aload_n 0, 1) := by decide +kernel
theorem dX1_begin_16 : decode cX1_begin 16 = .ok (.iconst 0, 1) := by decide +kernel
theorem dX1_begin_17 : decode cX1_begin 17 = .ok (.putfield 28, 3) := by decide +kernel
theorem dX1_begin_20 : decode cX1_begin 20 = .ok (.iconst 0, 1) := by decide +kernel
theorem dX1_begin_21 : decode cX1_begin 21 = .ok (.istore_n 1, 1) := by decide +kernel
theorem dX1_begin_22 : decode cX1_begin 22 = .ok (.iload_n 1, 1) := by decide +kernel
theorem dX1_begin_23 : decode cX1_begin 23 = .ok (.bipush 16, 2) := by decide +kernel
theorem dX1_begin_25 : decode cX1_begin 25 = .ok (.if_icmp .ge 23, 3) := by decide +kernel
theorem dX1_begin_28 : decode cX1_begin 28 = .ok (.aload_n 0, 1) := by decide +kernel
theorem dX1_begin_29 : decode cX1_begin 29 = .ok (.getfield 9, 3) := by decide +kernel
theorem dX1_begin_32 : decode cX1_begin 32 = .ok (.iload_n 1, 1) := by decide +kernel
theorem dX1_begin_33 : decode cX1_begin 33 = .ok (.iconst 0, 1) := by decide +kernel
theorem dX1_begin_34 : decode cX1_begin 34 = .ok (.iastore, 1) := by decide +kernel
theorem dX1_begin_35 : decode cX1_begin 35 = .ok (.aload_n 0, 1) := by decide +kernel
theorem dX1_begin_36 : decode cX1_begin 36 = .ok (.getfield 15, 3) := by decide +kernel
theorem dX1_begin_39 : decode cX1_begin 39 = .ok (.iload_n 1, 1) := by decide +kernel
theorem dX1_begin_40 : decode cX1_begin 40 = .ok (.iconst 0, 1) := by decide +kernel
theorem dX1_begin_41 : decode cX1_begin 41 = .ok (.iastore, 1) := by decide +kernel
theorem dX1_begin_42 : decode cX1_begin 42 = .ok (.iinc 1 1, 3) := by decide +kernel
theorem dX1_begin_45 : decode cX1_begin 45 = .ok (.goto (-23), 3) := by decide +kernel
theorem dX1_begin_48 : decode cX1_begin 48 = .ok (.return_, 1) := by decide +kernel
theorem dX1_copy_0 : decode cX1_copy 0 = .ok (.aload_n 0, 1) := by decide +kernel
theorem dX1_copy_1 : decode cX1_copy 1 = .ok (.aload_n 1, 1) := by decide +kernel
theorem dX1_copy_2 : decode cX1_copy 2 = .ok (.getfield 18, 3) := by decide +kernel
theorem dX1_copy_5 : decode cX1_copy 5 = .ok (.putfield 18, 3) := by decide +kernel
theorem dX1_copy_8 : decode cX1_copy 8 = .ok (.aload_n 0, 1) := by decide +kernel
theorem dX1_copy_9 : decode cX1_copy 9 = .ok (.aload_n 1, 1) := by decide +kernel
theorem dX1_copy_10 : decode cX1_copy 10 = .ok (.getfield 22, 3) := by decide +kernel
theorem dX1_copy_13 : decode cX1_copy 13 = .ok (.putfield 22, 3) := by decide +kernel
theorem dX1_copy_16 : decode cX1_copy 16 = .ok (.aload_n 0, 1) := by decide +kernel
theorem dX1_copy_17 : decode cX1_copy 17 = .ok (.aload_n 1, 1) := by decide +kernel
theorem dX1_copy_18 : decode cX1_copy 18 = .ok (.getfield 25, 3) := by decide +kernel
theorem dX1_copy_21 : decode cX1_copy 21 = .ok (.putfield 25, 3) := by decide +kernel
theorem dX1_copy_24 : decode cX1_copy 24 = .ok (.aload_n 0, 1) := by decide +kernel
theorem dX1_copy_25 : decode cX1_copy 25 = .ok (.aload_n 1, 1) := by decide +kernel
theorem dX1_copy_26 : decode cX1_copy 26 = .ok (.getfield 28, 3) := by decide +kernel
theorem dX1_copy_29 : decode cX1_copy 29 = .ok (.putfield 28, 3) := by decide +kernel
theorem dX1_copy_32 : decode cX1_copy 32 = .ok (.aload_n 1, 1) := by decide +kernel
theorem dX1_copy_33 : decode cX1_copy 33 = .ok (.getfield 9, 3) := by decide +kernel
theorem dX1_copy_36 : decode cX1_copy 36 = .ok (.iconst 0, 1) := by decide +kernel
theorem dX1_copy_37 : decode cX1_copy 37 = .ok (.aload_n 0, 1) := by decide +kernel
theorem dX1_copy_38 : decode cX1_copy 38 = .ok (.getfield 9, 3) := by decide +kernel
theorem dX1_copy_41 : decode cX1_copy 41 = .ok (.iconst 0, 1) := by decide +kernel
theorem dX1_copy_42 : decode cX1_copy 42 = .ok (.bipush 16, 2) := by decide +kernel
theorem dX1_copy_44 : decode cX1_copy 44 = .ok (.invokestatic 31, 3) := by decide +kernel
theorem dX1_copy_47 : decode cX1_copy 47 = .ok (.aload_n 1, 1) := by decide +kernel
theorem dX1_copy_48 : decode cX1_copy 48 = .ok (.getfield 15, 3) := by decide +kernel
theorem dX1_copy_51 : decode cX1_copy 51 = .ok (.iconst 0, 1) := by decide +kernel
theorem dX1_copy_52 : decode cX1_copy 52 = .ok (.aload_n 0, 1) := by decide +kernel
theorem dX1_copy_53 : decode cX1_copy 53 = .ok (.getfield 15, 3) := by decide +kernel
theorem dX1_copy_56 : decode cX1_copy 56 = .ok (.iconst 0, 1) := by decide +kernel
theorem dX1_copy_57 : decode cX1_copy 57 = .ok (.bipush 16, 2) := by decide +kernel
theorem dX1_copy_59 : decode cX1_copy 59 = .ok (.invokestatic 31, 3) := by decide +kernel
theorem dX1_copy_62 : decode cX1_copy 62 = .ok (.return_, 1) := by decide +kernel
theorem dX1_follow_0 : decode cX1_follow 0 = .ok (.aload_n 0, 1) := by decide +kernel
theorem dX1_follow_1 : decode cX1_follow 1 = .ok (.aload_n 1, 1) := by decide +kernel
theorem dX1_follow_2 : decode cX1_follow 2 = .ok (.getfield 22, 3) := by decide +kernel
theorem dX1_follow_5 : decode cX1_follow 5 = .ok (.iconst 1, 1) := by decide +kernel
theorem dX1_follow_6 : decode cX1_follow 6 = .ok (.iadd, 1) := by decide +kernel
theorem dX1_follow_7 : decode cX1_follow 7 = .ok (.putfield 22, 3) := by decide +kernel
theorem dX1_follow_10 : decode cX1_follow 10 = .ok (.aload_n 2, 1) := by decide +kernel
theorem dX1_follow_11 : decode cX1_follow 11 = .ok (.aload_n 0, 1) := by decide +kernel
theorem dX1_follow_12 : decode cX1_follow 12 = .ok (.getfield 22, 3) := by decide +kernel
theorem dX1_follow_15 : decode cX1_follow 15 = .ok (.invokevirtual 37, 3) := by decide +kernel
theorem dX1_follow_18 : decode cX1_follow 18 = .ok (.istore_n 3, 1) := by decide +kernel
theorem dX1_follow_19 : decode cX1_follow 19 = .ok (.iconst 0, 1) := by decide +kernel
theorem dX1_follow_20 : decode cX1_follow 20 = .ok (.istore 4, 2) := by decide +kernel
theorem dX1_follow_22 : decode cX1_follow 22 = .ok (.iconst 0, 1) := by decide +kernel
theorem dX1_follow_23 : decode cX1_follow 23 = .ok (.istore 5, 2) := by decide +kernel
theorem dX1_follow_25 : decode cX1_follow 25 = .ok (.iload 5, 2) := by decide +kernel
theorem dX1_follow_27 : decode cX1_follow 27 = .ok (.aload_n 2, 1) := by decide +kernel
theorem dX1_follow_28 : decode cX1_follow 28 = .ok (.getfield 43, 3) := by decide +kernel
theorem dX1_follow_31 : decode cX1_follow 31 = .ok (.if_icmp .ge 94, 3) := by decide +kernel
theorem dX1_follow_34 : decode cX1_follow 34 = .ok (.aload_n 2, 1) := by decide +kernel
theorem dX1_follow_35 : decode cX1_follow 35 = .ok (.iload 5, 2) := by decide +kernel
theorem dX1_follow_37 : decode cX1_follow 37 = .ok (.invokevirtual 46, 3) := by decide +kernel
theorem dX1_follow_40 : decode cX1_follow 40 = .ok (.ifCond .ne 20, 3) := by decide +kernel
theorem dX1_follow_43 : decode cX1_follow 43 = .ok (.aload_n 0, 1) := by decide +kernel
theorem dX1_follow_44 : decode cX1_follow 44 = .ok (.getfield 9, 3) := by decide +kernel
theorem dX1_follow_47 : decode cX1_follow 47 = .ok (.iload 5, 2) := by decide +kernel
theorem dX1_follow_49 : decode cX1_follow 49 = .ok (.aload_n 0, 1) := by decide +kernel
theorem dX1_follow_50 : decode cX1_follow 50 = .ok (.iload 5, 2) := by decide +kernel
theorem dX1_follow_52 : decode cX1_follow 52 = .ok (.aload_n 2, 1) := by decide +kernel
theorem dX1_follow_53 : decode cX1_follow 53 = .ok (.invokevirtual 50, 3) := by decide +kernel
theorem dX1_follow_56 : decode cX1_follow 56 = .ok (.iastore, 1) := by decide +kernel
theorem dX1_follow_57 : decode cX1_follow 57 = .ok (.goto 62, 3) := by decide +kernel
theorem dX1_follow_60 : decode cX1_follow 60 = .ok (.iload_n 3, 1) := by decide +kernel
theorem dX1_follow_61 : decode cX1_follow 61 = .ok (.aload_n 2, 1) := by decide +kernel
theorem dX1_follow_62 : decode cX1_follow 62 = .ok (.getfield 54, 3) := by decide +kernel
theorem dX1_follow_65 : decode cX1_follow 65 = .ok (.iload 5, 2) := by decide +kernel
theorem dX1_follow_67 : decode cX1_follow 67 = .ok (.invokestatic 57, 3) := by decide +kernel
theorem dX1_follow_70 : decode cX1_follow 70 = .ok (.invokestatic 61, 3) := by decide +kernel
theorem dX1_follow_73 : decode cX1_follow 73 = .ok (.ifCond .eq 46, 3) := by decide +kernel
theorem dX1_follow_76 : decode cX1_follow 76 = .ok (.aload_n 0, 1) := by decide +kernel
theorem dX1_follow_77 : decode cX1_follow 77 = .ok (.getfield 9, 3) := by decide +kernel
theorem dX1_follow_80 : decode cX1_follow 80 = .ok (.iload 5, 2) := by decide +kernel
theorem dX1_follow_82 : decode cX1_follow 82 = .ok (.aload_n 0, 1) := by decide +kernel
theorem dX1_follow_83 : decode cX1_follow 83 = .ok (.iload 5, 2) := by decide +kernel
theorem dX1_follow_85 : decode cX1_follow 85 = .ok (.aload_n 1, 1) := by decide +kernel
theorem dX1_follow_86 : decode cX1_follow 86 = .ok (.aload_n 2, 1) := by decide +kernel
theorem dX1_follow_87 : decode cX1_follow 87 = .ok (.iload 4, 2) := by decide +kernel
theorem dX1_follow_89 : decode cX1_follow 89 = .ok (.invokevirtual 65, 3) := by decide +kernel
theorem dX1_follow_92 : decode cX1_follow 92 = .ok (.iastore, 1) := by decide +kernel
theorem dX1_follow_93 : decode cX1_follow 93 = .ok (.aload_n 0, 1) := by decide +kernel
theorem dX1_follow_94 : decode cX1_follow 94 = .ok (.getfield 9, 3) := by decide +kernel
theorem dX1_follow_97 : decode cX1_follow 97 = .ok (.iload 5, 2) := by decide +kernel
theorem dX1_follow_99 : decode cX1_follow 99 = .ok (.iaload, 1) := by decide +kernel
theorem dX1_follow_100 : decode cX1_follow 100 = .ok (.aload_n 1, 1) := by decide +kernel
theorem dX1_follow_101 : decode cX1_follow 101 = .ok (.getfield 9, 3) := by decide +kernel
theorem dX1_follow_104 : decode cX1_follow 104 = .ok (.iload 5, 2) := by decide +kernel
theorem dX1_follow_106 : decode cX1_follow 106 = .ok (.iaload, 1) := by decide +kernel
theorem dX1_follow_107 : decode cX1_follow 107 = .ok (.if_icmp .eq 12, 3) := by decide +kernel
theorem dX1_follow_110 : decode cX1_follow 110 = .ok (.iload 4, 2) := by decide +kernel
theorem dX1_follow_112 : decode cX1_follow 112 = .ok (.iconst 1, 1) := by decide +kernel
theorem dX1_follow_113 : decode cX1_follow 113 = .ok (.iload 5, 2) := by decide +kernel
theorem dX1_follow_115 : decode cX1_follow 115 = .ok (.ishl, 1) := by decide +kernel
theorem dX1_follow_116 : decode cX1_follow 116 = .ok (.ior, 1) := by decide +kernel
theorem dX1_follow_117 : decode cX1_follow 117 = .ok (.istore 4, 2) := by decide +kernel
theorem dX1_follow_119 : decode cX1_follow 119 = .ok (.iinc 5 1, 3) := by decide +kernel
theorem dX1_follow_122 : decode cX1_follow 122 = .ok (.goto (-97), 3) := by decide +kernel
theorem dX1_follow_125 : decode cX1_follow 125 = .ok (.return_, 1) := by decide +kernel
theorem dX1_leafValue_0 : decode cX1_leafValue 0 = .ok (.aload_n 3, 1) := by decide +kernel
theorem dX1_leafValue_1 : decode cX1_leafValue 1 = .ok (.iload_n 1, 1) := by decide +kernel
theorem dX1_leafValue_2 : decode cX1_leafValue 2 = .ok (.iconst 0, 1) := by decide +kernel
theorem dX1_leafValue_3 : decode cX1_leafValue 3 = .ok (.invokevirtual 69, 3) := by decide +kernel
theorem dX1_leafValue_6 : decode cX1_leafValue 6 = .ok (.ifCond .eq 12, 3) := by decide +kernel
theorem dX1_leafValue_9 : decode cX1_leafValue 9 = .ok (.aload_n 2, 1) := by decide +kernel
theorem dX1_leafValue_10 : decode cX1_leafValue 10 = .ok (.getfield 15, 3) := by decide +kernel
theorem dX1_leafValue_13 : decode cX1_leafValue 13 = .ok (.iload_n 1, 1) := by decide +kernel
theorem dX1_leafValue_14 : decode cX1_leafValue 14 = .ok (.invokestatic 57, 3) := by decide +kernel
theorem dX1_leafValue_17 : decode cX1_leafValue 17 = .ok (.ireturn, 1) := by decide +kernel
theorem dX1_leafValue_18 : decode cX1_leafValue 18 = .ok (.aload_n 3, 1) := by decide +kernel
theorem dX1_leafValue_19 : decode cX1_leafValue 19 = .ok (.getfield 72, 3) := by decide +kernel
theorem dX1_leafValue_22 : decode cX1_leafValue 22 = .ok (.iload_n 1, 1) := by decide +kernel
theorem dX1_leafValue_23 : decode cX1_leafValue 23 = .ok (.invokestatic 57, 3) := by decide +kernel
theorem dX1_leafValue_26 : decode cX1_leafValue 26 = .ok (.iload 4, 2) := by decide +kernel
theorem dX1_leafValue_28 : decode cX1_leafValue 28 = .ok (.iand, 1) := by decide +kernel
theorem dX1_leafValue_29 : decode cX1_leafValue 29 = .ok (.ifCond .eq 15, 3) := by decide +kernel
theorem dX1_leafValue_32 : decode cX1_leafValue 32 = .ok (.aload_n 0, 1) := by decide +kernel
theorem dX1_leafValue_33 : decode cX1_leafValue 33 = .ok (.dup, 1) := by decide +kernel
theorem dX1_leafValue_34 : decode cX1_leafValue 34 = .ok (.getfield 25, 3) := by decide +kernel
theorem dX1_leafValue_37 : decode cX1_leafValue 37 = .ok (.iconst 1, 1) := by decide +kernel
theorem dX1_leafValue_38 : decode cX1_leafValue 38 = .ok (.iadd, 1) := by decide +kernel
theorem dX1_leafValue_39 : decode cX1_leafValue 39 = .ok (.putfield 25, 3) := by decide +kernel
theorem dX1_leafValue_42 : decode cX1_leafValue 42 = .ok (.iconst 2, 1) := by decide +kernel
theorem dX1_leafValue_43 : decode cX1_leafValue 43 = .ok (.ireturn, 1) := by decide +kernel
theorem dX1_leafValue_44 : decode cX1_leafValue 44 = .ok (.aload_n 3, 1) := by decide +kernel
theorem dX1_leafValue_45 : decode cX1_leafValue 45 = .ok (.iload_n 1, 1) := by decide +kernel
theorem dX1_leafValue_46 : decode cX1_leafValue 46 = .ok (.iconst 0, 1) := by decide +kernel
theorem dX1_leafValue_47 : decode cX1_leafValue 47 = .ok (.invokevirtual 75, 3) := by decide +kernel
theorem dX1_leafValue_50 : decode cX1_leafValue 50 = .ok (.istore 5, 2) := by decide +kernel
theorem dX1_leafValue_52 : decode cX1_leafValue 52 = .ok (.aload_n 2, 1) := by decide +kernel
theorem dX1_leafValue_53 : decode cX1_leafValue 53 = .ok (.getfield 9, 3) := by decide +kernel
theorem dX1_leafValue_56 : decode cX1_leafValue 56 = .ok (.iload 5, 2) := by decide +kernel
theorem dX1_leafValue_58 : decode cX1_leafValue 58 = .ok (.invokestatic 57, 3) := by decide +kernel
theorem dX1_leafValue_61 : decode cX1_leafValue 61 = .ok (.istore 6, 2) := by decide +kernel
theorem dX1_leafValue_63 : decode cX1_leafValue 63 = .ok (.iload 6, 2) := by decide +kernel
theorem dX1_leafValue_65 : decode cX1_leafValue 65 = .ok (.iconst 2, 1) := by decide +kernel
theorem dX1_leafValue_66 : decode cX1_leafValue 66 = .ok (.if_icmp .ne 61, 3) := by decide +kernel
theorem dX1_leafValue_69 : decode cX1_leafValue 69 = .ok (.aload_n 3, 1) := by decide +kernel
theorem dX1_leafValue_70 : decode cX1_leafValue 70 = .ok (.iload 5, 2) := by decide +kernel
theorem dX1_leafValue_72 : decode cX1_leafValue 72 = .ok (.invokevirtual 79, 3) := by decide +kernel
theorem dX1_leafValue_75 : decode cX1_leafValue 75 = .ok (.ifCond .eq 52, 3) := by decide +kernel
theorem dX1_leafValue_78 : decode cX1_leafValue 78 = .ok (.aload_n 3, 1) := by decide +kernel
theorem dX1_leafValue_79 : decode cX1_leafValue 79 = .ok (.getfield 54, 3) := by decide +kernel
theorem dX1_leafValue_82 : decode cX1_leafValue 82 = .ok (.iload 5, 2) := by decide +kernel
theorem dX1_leafValue_84 : decode cX1_leafValue 84 = .ok (.invokestatic 57, 3) := by decide +kernel
theorem dX1_leafValue_87 : decode cX1_leafValue 87 = .ok (.aload_n 3, 1) := by decide +kernel
theorem dX1_leafValue_88 : decode cX1_leafValue 88 = .ok (.getfield 54, 3) := by decide +kernel
theorem dX1_leafValue_91 : decode cX1_leafValue 91 = .ok (.iload_n 1, 1) := by decide +kernel
theorem dX1_leafValue_92 : decode cX1_leafValue 92 = .ok (.invokestatic 57, 3) := by decide +kernel
theorem dX1_leafValue_95 : decode cX1_leafValue 95 = .ok (.if_icmp .ne 32, 3) := by decide +kernel
theorem dX1_leafValue_98 : decode cX1_leafValue 98 = .ok (.aload_n 2, 1) := by decide +kernel
theorem dX1_leafValue_99 : decode cX1_leafValue 99 = .ok (.getfield 9, 3) := by decide +kernel
theorem dX1_leafValue_102 : decode cX1_leafValue 102 = .ok (.aload_n 3, 1) := by decide +kernel
theorem dX1_leafValue_103 : decode cX1_leafValue 103 = .ok (.iload 5, 2) := by decide +kernel
theorem dX1_leafValue_105 : decode cX1_leafValue 105 = .ok (.iconst 0, 1) := by decide +kernel
theorem dX1_leafValue_106 : decode cX1_leafValue 106 = .ok (.invokevirtual 75, 3) := by decide +kernel
theorem dX1_leafValue_109 : decode cX1_leafValue 109 = .ok (.invokestatic 57, 3) := by decide +kernel
theorem dX1_leafValue_112 : decode cX1_leafValue 112 = .ok (.istore 7, 2) := by decide +kernel
theorem dX1_leafValue_114 : decode cX1_leafValue 114 = .ok (.iload 7, 2) := by decide +kernel
theorem dX1_leafValue_116 : decode cX1_leafValue 116 = .ok (.iconst 2, 1) := by decide +kernel
theorem dX1_leafValue_117 : decode cX1_leafValue 117 = .ok (.if_icmp .ne 7, 3) := by decide +kernel
theorem dX1_leafValue_120 : decode cX1_leafValue 120 = .ok (.iconst 0, 1) := by decide +kernel
theorem dX1_leafValue_121 : decode cX1_leafValue 121 = .ok (.goto 5, 3) := by decide +kernel
theorem dX1_leafValue_124 : decode cX1_leafValue 124 = .ok (.iload 7, 2) := by decide +kernel
theorem dX1_leafValue_126 : decode cX1_leafValue 126 = .ok (.ireturn, 1) := by decide +kernel
theorem dX1_leafValue_127 : decode cX1_leafValue 127 = .ok (.iload 6, 2) := by decide +kernel
theorem dX1_leafValue_129 : decode cX1_leafValue 129 = .ok (.iconst 2, 1) := by decide +kernel
theorem dX1_leafValue_130 : decode cX1_leafValue 130 = .ok (.if_icmp .ne 13, 3) := by decide +kernel
theorem dX1_leafValue_133 : decode cX1_leafValue 133 = .ok (.aload_n 0, 1) := by decide +kernel
theorem dX1_leafValue_134 : decode cX1_leafValue 134 = .ok (.dup, 1) := by decide +kernel
theorem dX1_leafValue_135 : decode cX1_leafValue 135 = .ok (.getfield 28, 3) := by decide +kernel
theorem dX1_leafValue_138 : decode cX1_leafValue 138 = .ok (.iconst 1, 1) := by decide +kernel
theorem dX1_leafValue_139 : decode cX1_leafValue 139 = .ok (.iadd, 1) := by decide +kernel
theorem dX1_leafValue_140 : decode cX1_leafValue 140 = .ok (.putfield 28, 3) := by decide +kernel
theorem dX1_leafValue_143 : decode cX1_leafValue 143 = .ok (.iload 6, 2) := by decide +kernel
theorem dX1_leafValue_145 : decode cX1_leafValue 145 = .ok (.ireturn, 1) := by decide +kernel
theorem dX1_gateValue_0 : decode cX1_gateValue 0 = .ok (.aload_n 0, 1) := by decide +kernel
theorem dX1_gateValue_1 : decode cX1_gateValue 1 = .ok (.getfield 9, 3) := by decide +kernel
theorem dX1_gateValue_4 : decode cX1_gateValue 4 = .ok (.aload_n 2, 1) := by decide +kernel
theorem dX1_gateValue_5 : decode cX1_gateValue 5 = .ok (.iload_n 1, 1) := by decide +kernel
theorem dX1_gateValue_6 : decode cX1_gateValue 6 = .ok (.iconst 0, 1) := by decide +kernel
theorem dX1_gateValue_7 : decode cX1_gateValue 7 = .ok (.invokevirtual 75, 3) := by decide +kernel
theorem dX1_gateValue_10 : decode cX1_gateValue 10 = .ok (.invokestatic 57, 3) := by decide +kernel
theorem dX1_gateValue_13 : decode cX1_gateValue 13 = .ok (.istore_n 3, 1) := by decide +kernel
theorem dX1_gateValue_14 : decode cX1_gateValue 14 = .ok (.aload_n 0, 1) := by decide +kernel
theorem dX1_gateValue_15 : decode cX1_gateValue 15 = .ok (.getfield 9, 3) := by decide +kernel
theorem dX1_gateValue_18 : decode cX1_gateValue 18 = .ok (.aload_n 2, 1) := by decide +kernel
theorem dX1_gateValue_19 : decode cX1_gateValue 19 = .ok (.iload_n 1, 1) := by decide +kernel
theorem dX1_gateValue_20 : decode cX1_gateValue 20 = .ok (.iconst 1, 1) := by decide +kernel
theorem dX1_gateValue_21 : decode cX1_gateValue 21 = .ok (.invokevirtual 75, 3) := by decide +kernel
theorem dX1_gateValue_24 : decode cX1_gateValue 24 = .ok (.invokestatic 57, 3) := by decide +kernel
theorem dX1_gateValue_27 : decode cX1_gateValue 27 = .ok (.istore 4, 2) := by decide +kernel
theorem dX1_gateValue_29 : decode cX1_gateValue 29 = .ok (.aload_n 2, 1) := by decide +kernel
theorem dX1_gateValue_30 : decode cX1_gateValue 30 = .ok (.getfield 82, 3) := by decide +kernel
theorem dX1_gateValue_33 : decode cX1_gateValue 33 = .ok (.iload_n 1, 1) := by decide +kernel
theorem dX1_gateValue_34 : decode cX1_gateValue 34 = .ok (.invokestatic 57, 3) := by decide +kernel
theorem dX1_gateValue_37 : decode cX1_gateValue 37 = .ok (.tableswitch 63 2 4 #[27, 35, 43], 27) := by decide +kernel
theorem dX1_gateValue_64 : decode cX1_gateValue 64 = .ok (.iconst 0, 1) := by decide +kernel
theorem dX1_gateValue_65 : decode cX1_gateValue 65 = .ok (.iload_n 3, 1) := by decide +kernel
theorem dX1_gateValue_66 : decode cX1_gateValue 66 = .ok (.iload 4, 2) := by decide +kernel
theorem dX1_gateValue_68 : decode cX1_gateValue 68 = .ok (.invokestatic 85, 3) := by decide +kernel
theorem dX1_gateValue_71 : decode cX1_gateValue 71 = .ok (.ireturn, 1) := by decide +kernel
theorem dX1_gateValue_72 : decode cX1_gateValue 72 = .ok (.iconst 1, 1) := by decide +kernel
theorem dX1_gateValue_73 : decode cX1_gateValue 73 = .ok (.iload_n 3, 1) := by decide +kernel
theorem dX1_gateValue_74 : decode cX1_gateValue 74 = .ok (.iload 4, 2) := by decide +kernel
theorem dX1_gateValue_76 : decode cX1_gateValue 76 = .ok (.invokestatic 85, 3) := by decide +kernel
theorem dX1_gateValue_79 : decode cX1_gateValue 79 = .ok (.ireturn, 1) := by decide +kernel
theorem dX1_gateValue_80 : decode cX1_gateValue 80 = .ok (.iload_n 3, 1) := by decide +kernel
theorem dX1_gateValue_81 : decode cX1_gateValue 81 = .ok (.iconst 2, 1) := by decide +kernel
theorem dX1_gateValue_82 : decode cX1_gateValue 82 = .ok (.if_icmp .eq 9, 3) := by decide +kernel
theorem dX1_gateValue_85 : decode cX1_gateValue 85 = .ok (.iload 4, 2) := by decide +kernel
theorem dX1_gateValue_87 : decode cX1_gateValue 87 = .ok (.iconst 2, 1) := by decide +kernel
theorem dX1_gateValue_88 : decode cX1_gateValue 88 = .ok (.if_icmp .ne 7, 3) := by decide +kernel
theorem dX1_gateValue_91 : decode cX1_gateValue 91 = .ok (.iconst 2, 1) := by decide +kernel
theorem dX1_gateValue_92 : decode cX1_gateValue 92 = .ok (.goto 7, 3) := by decide +kernel
theorem dX1_gateValue_95 : decode cX1_gateValue 95 = .ok (.iload_n 3, 1) := by decide +kernel
theorem dX1_gateValue_96 : decode cX1_gateValue 96 = .ok (.iload 4, 2) := by decide +kernel
theorem dX1_gateValue_98 : decode cX1_gateValue 98 = .ok (.ixor, 1) := by decide +kernel
theorem dX1_gateValue_99 : decode cX1_gateValue 99 = .ok (.ireturn, 1) := by decide +kernel
theorem dX1_gateValue_100 : decode cX1_gateValue 100 = .ok (.iload_n 3, 1) := by decide +kernel
theorem dX1_gateValue_101 : decode cX1_gateValue 101 = .ok (.iload 4, 2) := by decide +kernel
theorem dX1_gateValue_103 : decode cX1_gateValue 103 = .ok (.aload_n 0, 1) := by decide +kernel
theorem dX1_gateValue_104 : decode cX1_gateValue 104 = .ok (.getfield 9, 3) := by decide +kernel
theorem dX1_gateValue_107 : decode cX1_gateValue 107 = .ok (.aload_n 2, 1) := by decide +kernel
theorem dX1_gateValue_108 : decode cX1_gateValue 108 = .ok (.iload_n 1, 1) := by decide +kernel
theorem dX1_gateValue_109 : decode cX1_gateValue 109 = .ok (.iconst 2, 1) := by decide +kernel
theorem dX1_gateValue_110 : decode cX1_gateValue 110 = .ok (.invokevirtual 75, 3) := by decide +kernel
theorem dX1_gateValue_113 : decode cX1_gateValue 113 = .ok (.invokestatic 57, 3) := by decide +kernel
theorem dX1_gateValue_116 : decode cX1_gateValue 116 = .ok (.invokestatic 89, 3) := by decide +kernel
theorem dX1_gateValue_119 : decode cX1_gateValue 119 = .ok (.ireturn, 1) := by decide +kernel
theorem dX1_ruledBy_0 : decode cX1_ruledBy 0 = .ok (.iload_n 1, 1) := by decide +kernel
theorem dX1_ruledBy_1 : decode cX1_ruledBy 1 = .ok (.iload_n 0, 1) := by decide +kernel
theorem dX1_ruledBy_2 : decode cX1_ruledBy 2 = .ok (.if_icmp .eq 8, 3) := by decide +kernel
theorem dX1_ruledBy_5 : decode cX1_ruledBy 5 = .ok (.iload_n 2, 1) := by decide +kernel
theorem dX1_ruledBy_6 : decode cX1_ruledBy 6 = .ok (.iload_n 0, 1) := by decide +kernel
theorem dX1_ruledBy_7 : decode cX1_ruledBy 7 = .ok (.if_icmp .ne 5, 3) := by decide +kernel
theorem dX1_ruledBy_10 : decode cX1_ruledBy 10 = .ok (.iload_n 0, 1) := by decide +kernel
theorem dX1_ruledBy_11 : decode cX1_ruledBy 11 = .ok (.ireturn, 1) := by decide +kernel
theorem dX1_ruledBy_12 : decode cX1_ruledBy 12 = .ok (.iload_n 1, 1) := by decide +kernel
theorem dX1_ruledBy_13 : decode cX1_ruledBy 13 = .ok (.iconst 2, 1) := by decide +kernel
theorem dX1_ruledBy_14 : decode cX1_ruledBy 14 = .ok (.if_icmp .eq 8, 3) := by decide +kernel
theorem dX1_ruledBy_17 : decode cX1_ruledBy 17 = .ok (.iload_n 2, 1) := by decide +kernel
theorem dX1_ruledBy_18 : decode cX1_ruledBy 18 = .ok (.iconst 2, 1) := by decide +kernel
theorem dX1_ruledBy_19 : decode cX1_ruledBy 19 = .ok (.if_icmp .ne 7, 3) := by decide +kernel
theorem dX1_ruledBy_22 : decode cX1_ruledBy 22 = .ok (.iconst 2, 1) := by decide +kernel
theorem dX1_ruledBy_23 : decode cX1_ruledBy 23 = .ok (.goto 6, 3) := by decide +kernel
theorem dX1_ruledBy_26 : decode cX1_ruledBy 26 = .ok (.iconst 1, 1) := by decide +kernel
theorem dX1_ruledBy_27 : decode cX1_ruledBy 27 = .ok (.iload_n 0, 1) := by decide +kernel
theorem dX1_ruledBy_28 : decode cX1_ruledBy 28 = .ok (.isub, 1) := by decide +kernel
theorem dX1_ruledBy_29 : decode cX1_ruledBy 29 = .ok (.ireturn, 1) := by decide +kernel
theorem dX1_chosen_0 : decode cX1_chosen 0 = .ok (.iload_n 0, 1) := by decide +kernel
theorem dX1_chosen_1 : decode cX1_chosen 1 = .ok (.iconst 2, 1) := by decide +kernel
theorem dX1_chosen_2 : decode cX1_chosen 2 = .ok (.if_icmp .ne 14, 3) := by decide +kernel
theorem dX1_chosen_5 : decode cX1_chosen 5 = .ok (.iload_n 1, 1) := by decide +kernel
theorem dX1_chosen_6 : decode cX1_chosen 6 = .ok (.iload_n 2, 1) := by decide +kernel
theorem dX1_chosen_7 : decode cX1_chosen 7 = .ok (.if_icmp .ne 7, 3) := by decide +kernel
theorem dX1_chosen_10 : decode cX1_chosen 10 = .ok (.iload_n 1, 1) := by decide +kernel
theorem dX1_chosen_11 : decode cX1_chosen 11 = .ok (.goto 4, 3) := by decide +kernel
theorem dX1_chosen_14 : decode cX1_chosen 14 = .ok (.iconst 2, 1) := by decide +kernel
theorem dX1_chosen_15 : decode cX1_chosen 15 = .ok (.ireturn, 1) := by decide +kernel
theorem dX1_chosen_16 : decode cX1_chosen 16 = .ok (.iload_n 0, 1) := by decide +kernel
theorem dX1_chosen_17 : decode cX1_chosen 17 = .ok (.ifCond .ne 7, 3) := by decide +kernel
theorem dX1_chosen_20 : decode cX1_chosen 20 = .ok (.iload_n 1, 1) := by decide +kernel
theorem dX1_chosen_21 : decode cX1_chosen 21 = .ok (.goto 4, 3) := by decide +kernel
theorem dX1_chosen_24 : decode cX1_chosen 24 = .ok (.iload_n 2, 1) := by decide +kernel
theorem dX1_chosen_25 : decode cX1_chosen 25 = .ok (.ireturn, 1) := by decide +kernel
theorem dX2_init_0 : decode cX2_init 0 = .ok (.aload_n 0, 1) := by decide +kernel
theorem dX2_init_1 : decode cX2_init 1 = .ok (.invokespecial 3, 3) := by decide +kernel
theorem dX2_init_4 : decode cX2_init 4 = .ok (.aload_n 0, 1) := by decide +kernel
theorem dX2_init_5 : decode cX2_init 5 = .ok (.sipush 160, 3) := by decide +kernel
theorem dX2_init_8 : decode cX2_init 8 = .ok (.newarray .char, 2) := by decide +kernel
theorem dX2_init_10 : decode cX2_init 10 = .ok (.putfield 9, 3) := by decide +kernel
theorem dX2_init_13 : decode cX2_init 13 = .ok (.aload_n 0, 1) := by decide +kernel
theorem dX2_init_14 : decode cX2_init 14 = .ok (.iconst 3, 1) := by decide +kernel
theorem dX2_init_15 : decode cX2_init 15 = .ok (.newarray .int, 2) := by decide +kernel
theorem dX2_init_17 : decode cX2_init 17 = .ok (.putfield 15, 3) := by decide +kernel
theorem dX2_init_20 : decode cX2_init 20 = .ok (.return_, 1) := by decide +kernel
theorem dX2_put_0 : decode cX2_put 0 = .ok (.aload_n 0, 1) := by decide +kernel
theorem dX2_put_1 : decode cX2_put 1 = .ok (.getfield 19, 3) := by decide +kernel
theorem dX2_put_4 : decode cX2_put 4 = .ok (.sipush 160, 3) := by decide +kernel
theorem dX2_put_7 : decode cX2_put 7 = .ok (.if_icmp .lt 5, 3) := by decide +kernel
theorem dX2_put_10 : decode cX2_put 10 = .ok (.iconst 0, 1) := by decide +kernel
theorem dX2_put_11 : decode cX2_put 11 = .ok (.ireturn, 1) := by decide +kernel
theorem dX2_put_12 : decode cX2_put 12 = .ok (.aload_n 0, 1) := by decide +kernel
theorem dX2_put_13 : decode cX2_put 13 = .ok (.getfield 9, 3) := by decide +kernel
theorem dX2_put_16 : decode cX2_put 16 = .ok (.aload_n 0, 1) := by decide +kernel
theorem dX2_put_17 : decode cX2_put 17 = .ok (.getfield 19, 3) := by decide +kernel
theorem dX2_put_20 : decode cX2_put 20 = .ok (.iload_n 1, 1) := by decide +kernel
theorem dX2_put_21 : decode cX2_put 21 = .ok (.i2c, 1) := by decide +kernel
theorem dX2_put_22 : decode cX2_put 22 = .ok (.castore, 1) := by decide +kernel
theorem dX2_put_23 : decode cX2_put 23 = .ok (.aload_n 0, 1) := by decide +kernel
theorem dX2_put_24 : decode cX2_put 24 = .ok (.dup, 1) := by decide +kernel
theorem dX2_put_25 : decode cX2_put 25 = .ok (.getfield 19, 3) := by decide +kernel
theorem dX2_put_28 : decode cX2_put 28 = .ok (.iconst 1, 1) := by decide +kernel
theorem dX2_put_29 : decode cX2_put 29 = .ok (.iadd, 1) := by decide +kernel
theorem dX2_put_30 : decode cX2_put 30 = .ok (.putfield 19, 3) := by decide +kernel
theorem dX2_put_33 : decode cX2_put 33 = .ok (.iconst 1, 1) := by decide +kernel
theorem dX2_put_34 : decode cX2_put 34 = .ok (.ireturn, 1) := by decide +kernel
theorem dX2_readInto_0 : decode cX2_readInto 0 = .ok (.aload_n 1, 1) := by decide +kernel
theorem dX2_readInto_1 : decode cX2_readInto 1 = .ok (.invokevirtual 23, 3) := by decide +kernel
theorem dX2_readInto_4 : decode cX2_readInto 4 = .ok (.aload_n 0, 1) := by decide +kernel
theorem dX2_readInto_5 : decode cX2_readInto 5 = .ok (.iconst 0, 1) := by decide +kernel
theorem dX2_readInto_6 : decode cX2_readInto 6 = .ok (.putfield 28, 3) := by decide +kernel
theorem dX2_readInto_9 : decode cX2_readInto 9 = .ok (.iconst 0, 1) := by decide +kernel
theorem dX2_readInto_10 : decode cX2_readInto 10 = .ok (.istore_n 2, 1) := by decide +kernel
theorem dX2_readInto_11 : decode cX2_readInto 11 = .ok (.iload_n 2, 1) := by decide +kernel
theorem dX2_readInto_12 : decode cX2_readInto 12 = .ok (.sipush 160, 3) := by decide +kernel
theorem dX2_readInto_15 : decode cX2_readInto 15 = .ok (.if_icmp .gt 39, 3) := by decide +kernel
theorem dX2_readInto_18 : decode cX2_readInto 18 = .ok (.aload_n 0, 1) := by decide +kernel
theorem dX2_readInto_19 : decode cX2_readInto 19 = .ok (.invokevirtual 31, 3) := by decide +kernel
theorem dX2_readInto_22 : decode cX2_readInto 22 = .ok (.aload_n 0, 1) := by decide +kernel
theorem dX2_readInto_23 : decode cX2_readInto 23 = .ok (.getfield 34, 3) := by decide +kernel
theorem dX2_readInto_26 : decode cX2_readInto 26 = .ok (.bipush (-2), 2) := by decide +kernel
theorem dX2_readInto_28 : decode cX2_readInto 28 = .ok (.if_icmp .ne 9, 3) := by decide +kernel
theorem dX2_readInto_31 : decode cX2_readInto 31 = .ok (.aload_n 1, 1) := by decide +kernel
theorem dX2_readInto_32 : decode cX2_readInto 32 = .ok (.invokevirtual 37, 3) := by decide +kernel
theorem dX2_readInto_35 : decode cX2_readInto 35 = .ok (.iload_n 2, 1) := by decide +kernel
theorem dX2_readInto_36 : decode cX2_readInto 36 = .ok (.ireturn, 1) := by decide +kernel
theorem dX2_readInto_37 : decode cX2_readInto 37 = .ok (.aload_n 0, 1) := by decide +kernel
theorem dX2_readInto_38 : decode cX2_readInto 38 = .ok (.aload_n 1, 1) := by decide +kernel
theorem dX2_readInto_39 : decode cX2_readInto 39 = .ok (.invokevirtual 40, 3) := by decide +kernel
theorem dX2_readInto_42 : decode cX2_readInto 42 = .ok (.ifCond .ne 6, 3) := by decide +kernel
theorem dX2_readInto_45 : decode cX2_readInto 45 = .ok (.goto 9, 3) := by decide +kernel
theorem dX2_readInto_48 : decode cX2_readInto 48 = .ok (.iinc 2 1, 3) := by decide +kernel
theorem dX2_readInto_51 : decode cX2_readInto 51 = .ok (.goto (-40), 3) := by decide +kernel
theorem dX2_readInto_54 : decode cX2_readInto 54 = .ok (.bipush (-10), 2) := by decide +kernel
theorem dX2_readInto_56 : decode cX2_readInto 56 = .ok (.aload_n 0, 1) := by decide +kernel
theorem dX2_readInto_57 : decode cX2_readInto 57 = .ok (.getfield 44, 3) := by decide +kernel
theorem dX2_readInto_60 : decode cX2_readInto 60 = .ok (.isub, 1) := by decide +kernel
theorem dX2_readInto_61 : decode cX2_readInto 61 = .ok (.ireturn, 1) := by decide +kernel
theorem dX2_readItem_0 : decode cX2_readItem 0 = .ok (.aload_n 0, 1) := by decide +kernel
theorem dX2_readItem_1 : decode cX2_readItem 1 = .ok (.getfield 34, 3) := by decide +kernel
theorem dX2_readItem_4 : decode cX2_readItem 4 = .ok (.istore_n 2, 1) := by decide +kernel
theorem dX2_readItem_5 : decode cX2_readItem 5 = .ok (.iload_n 2, 1) := by decide +kernel
theorem dX2_readItem_6 : decode cX2_readItem 6 = .ok (.invokestatic 47, 3) := by decide +kernel
theorem dX2_readItem_9 : decode cX2_readItem 9 = .ok (.astore_n 3, 1) := by decide +kernel
theorem dX2_readItem_10 : decode cX2_readItem 10 = .ok (.aload_n 3, 1) := by decide +kernel
end
section
theorem dX2_readItem_11 : decode cX2_readItem 11 = .ok (.invokevirtual 51, 3) := by decide +kernel
theorem dX2_readItem_14 : decode cX2_readItem 14 = .ok (.ifCond .ne 11, 3) := by decide +kernel
theorem dX2_readItem_17 : decode cX2_readItem 17 = .ok (.aload_n 1, 1) := by decide +kernel
theorem dX2_readItem_18 : decode cX2_readItem 18 = .ok (.iload_n 2, 1) := by decide +kernel
theorem dX2_readItem_19 : decode cX2_readItem 19 = .ok (.invokevirtual 57, 3) := by decide +kernel
theorem dX2_readItem_22 : decode cX2_readItem 22 = .ok (.ifCond .ne 5, 3) := by decide +kernel
theorem dX2_readItem_25 : decode cX2_readItem 25 = .ok (.iconst 0, 1) := by decide +kernel
theorem dX2_readItem_26 : decode cX2_readItem 26 = .ok (.ireturn, 1) := by decide +kernel
theorem dX2_readItem_27 : decode cX2_readItem 27 = .ok (.iconst 0, 1) := by decide +kernel
theorem dX2_readItem_28 : decode cX2_readItem 28 = .ok (.istore 4, 2) := by decide +kernel
theorem dX2_readItem_30 : decode cX2_readItem 30 = .ok (.iload 4, 2) := by decide +kernel
theorem dX2_readItem_32 : decode cX2_readItem 32 = .ok (.aload_n 3, 1) := by decide +kernel
theorem dX2_readItem_33 : decode cX2_readItem 33 = .ok (.invokevirtual 61, 3) := by decide +kernel
theorem dX2_readItem_36 : decode cX2_readItem 36 = .ok (.if_icmp .ge 63, 3) := by decide +kernel
theorem dX2_readItem_39 : decode cX2_readItem 39 = .ok (.iload 4, 2) := by decide +kernel
theorem dX2_readItem_41 : decode cX2_readItem 41 = .ok (.iconst 3, 1) := by decide +kernel
theorem dX2_readItem_42 : decode cX2_readItem 42 = .ok (.if_icmp .ge 57, 3) := by decide +kernel
theorem dX2_readItem_45 : decode cX2_readItem 45 = .ok (.aload_n 0, 1) := by decide +kernel
theorem dX2_readItem_46 : decode cX2_readItem 46 = .ok (.invokevirtual 31, 3) := by decide +kernel
theorem dX2_readItem_49 : decode cX2_readItem 49 = .ok (.aload_n 0, 1) := by decide +kernel
theorem dX2_readItem_50 : decode cX2_readItem 50 = .ok (.getfield 34, 3) := by decide +kernel
theorem dX2_readItem_53 : decode cX2_readItem 53 = .ok (.iconst (-1), 1) := by decide +kernel
theorem dX2_readItem_54 : decode cX2_readItem 54 = .ok (.if_icmp .ne 26, 3) := by decide +kernel
theorem dX2_readItem_57 : decode cX2_readItem 57 = .ok (.aload_n 1, 1) := by decide +kernel
theorem dX2_readItem_58 : decode cX2_readItem 58 = .ok (.aload_n 3, 1) := by decide +kernel
theorem dX2_readItem_59 : decode cX2_readItem 59 = .ok (.iload 4, 2) := by decide +kernel
theorem dX2_readItem_61 : decode cX2_readItem 61 = .ok (.invokevirtual 65, 3) := by decide +kernel
theorem dX2_readItem_64 : decode cX2_readItem 64 = .ok (.aload_n 0, 1) := by decide +kernel
theorem dX2_readItem_65 : decode cX2_readItem 65 = .ok (.getfield 69, 3) := by decide +kernel
theorem dX2_readItem_68 : decode cX2_readItem 68 = .ok (.aload_n 0, 1) := by decide +kernel
theorem dX2_readItem_69 : decode cX2_readItem 69 = .ok (.getfield 15, 3) := by decide +kernel
theorem dX2_readItem_72 : decode cX2_readItem 72 = .ok (.iconst 0, 1) := by decide +kernel
theorem dX2_readItem_73 : decode cX2_readItem 73 = .ok (.iaload, 1) := by decide +kernel
theorem dX2_readItem_74 : decode cX2_readItem 74 = .ok (.invokevirtual 72, 3) := by decide +kernel
theorem dX2_readItem_77 : decode cX2_readItem 77 = .ok (.ifCond .ne 5, 3) := by decide +kernel
theorem dX2_readItem_80 : decode cX2_readItem 80 = .ok (.iconst 0, 1) := by decide +kernel
theorem dX2_readItem_81 : decode cX2_readItem 81 = .ok (.ireturn, 1) := by decide +kernel
theorem dX2_readItem_82 : decode cX2_readItem 82 = .ok (.aload_n 0, 1) := by decide +kernel
theorem dX2_readItem_83 : decode cX2_readItem 83 = .ok (.getfield 15, 3) := by decide +kernel
theorem dX2_readItem_86 : decode cX2_readItem 86 = .ok (.iload 4, 2) := by decide +kernel
theorem dX2_readItem_88 : decode cX2_readItem 88 = .ok (.aload_n 0, 1) := by decide +kernel
theorem dX2_readItem_89 : decode cX2_readItem 89 = .ok (.getfield 69, 3) := by decide +kernel
theorem dX2_readItem_92 : decode cX2_readItem 92 = .ok (.iastore, 1) := by decide +kernel
theorem dX2_readItem_93 : decode cX2_readItem 93 = .ok (.iinc 4 1, 3) := by decide +kernel
theorem dX2_readItem_96 : decode cX2_readItem 96 = .ok (.goto (-66), 3) := by decide +kernel
theorem dX2_readItem_99 : decode cX2_readItem 99 = .ok (.aload_n 0, 1) := by decide +kernel
theorem dX2_readItem_100 : decode cX2_readItem 100 = .ok (.invokevirtual 31, 3) := by decide +kernel
theorem dX2_readItem_103 : decode cX2_readItem 103 = .ok (.aload_n 0, 1) := by decide +kernel
theorem dX2_readItem_104 : decode cX2_readItem 104 = .ok (.getfield 34, 3) := by decide +kernel
theorem dX2_readItem_107 : decode cX2_readItem 107 = .ok (.bipush 59, 2) := by decide +kernel
theorem dX2_readItem_109 : decode cX2_readItem 109 = .ok (.if_icmp .eq 5, 3) := by decide +kernel
theorem dX2_readItem_112 : decode cX2_readItem 112 = .ok (.iconst 0, 1) := by decide +kernel
theorem dX2_readItem_113 : decode cX2_readItem 113 = .ok (.ireturn, 1) := by decide +kernel
theorem dX2_readItem_114 : decode cX2_readItem 114 = .ok (.aload_n 1, 1) := by decide +kernel
theorem dX2_readItem_115 : decode cX2_readItem 115 = .ok (.iload_n 2, 1) := by decide +kernel
theorem dX2_readItem_116 : decode cX2_readItem 116 = .ok (.aload_n 0, 1) := by decide +kernel
theorem dX2_readItem_117 : decode cX2_readItem 117 = .ok (.getfield 15, 3) := by decide +kernel
theorem dX2_readItem_120 : decode cX2_readItem 120 = .ok (.iconst 0, 1) := by decide +kernel
theorem dX2_readItem_121 : decode cX2_readItem 121 = .ok (.iaload, 1) := by decide +kernel
theorem dX2_readItem_122 : decode cX2_readItem 122 = .ok (.aload_n 0, 1) := by decide +kernel
theorem dX2_readItem_123 : decode cX2_readItem 123 = .ok (.getfield 15, 3) := by decide +kernel
theorem dX2_readItem_126 : decode cX2_readItem 126 = .ok (.iconst 1, 1) := by decide +kernel
theorem dX2_readItem_127 : decode cX2_readItem 127 = .ok (.iaload, 1) := by decide +kernel
theorem dX2_readItem_128 : decode cX2_readItem 128 = .ok (.aload_n 0, 1) := by decide +kernel
theorem dX2_readItem_129 : decode cX2_readItem 129 = .ok (.getfield 15, 3) := by decide +kernel
theorem dX2_readItem_132 : decode cX2_readItem 132 = .ok (.iconst 2, 1) := by decide +kernel
theorem dX2_readItem_133 : decode cX2_readItem 133 = .ok (.iaload, 1) := by decide +kernel
theorem dX2_readItem_134 : decode cX2_readItem 134 = .ok (.invokevirtual 76, 3) := by decide +kernel
theorem dX2_readItem_137 : decode cX2_readItem 137 = .ok (.iconst 1, 1) := by decide +kernel
theorem dX2_readItem_138 : decode cX2_readItem 138 = .ok (.ireturn, 1) := by decide +kernel
theorem dX2_shapeOf_0 : decode cX2_shapeOf 0 = .ok (.iload_n 0, 1) := by decide +kernel
theorem dX2_shapeOf_1 : decode cX2_shapeOf 1 = .ok (.tableswitch 129 97 120 #[117, 129, 129, 129, 126, 129, 126, 129, 111, 129, 129, 129, 120, 129, 117, 123, 129, 114, 129, 129, 129, 129, 129, 117], 111) := by decide +kernel
theorem dX2_shapeOf_112 : decode cX2_shapeOf 112 = .ok (.ldc 80, 2) := by decide +kernel
theorem dX2_shapeOf_114 : decode cX2_shapeOf 114 = .ok (.areturn, 1) := by decide +kernel
theorem dX2_shapeOf_115 : decode cX2_shapeOf 115 = .ok (.ldc 82, 2) := by decide +kernel
theorem dX2_shapeOf_117 : decode cX2_shapeOf 117 = .ok (.areturn, 1) := by decide +kernel
theorem dX2_shapeOf_118 : decode cX2_shapeOf 118 = .ok (.ldc 84, 2) := by decide +kernel
theorem dX2_shapeOf_120 : decode cX2_shapeOf 120 = .ok (.areturn, 1) := by decide +kernel
theorem dX2_shapeOf_121 : decode cX2_shapeOf 121 = .ok (.ldc 86, 2) := by decide +kernel
theorem dX2_shapeOf_123 : decode cX2_shapeOf 123 = .ok (.areturn, 1) := by decide +kernel
theorem dX2_shapeOf_124 : decode cX2_shapeOf 124 = .ok (.ldc 88, 2) := by decide +kernel
theorem dX2_shapeOf_126 : decode cX2_shapeOf 126 = .ok (.areturn, 1) := by decide +kernel
theorem dX2_shapeOf_127 : decode cX2_shapeOf 127 = .ok (.ldc 90, 2) := by decide +kernel
theorem dX2_shapeOf_129 : decode cX2_shapeOf 129 = .ok (.areturn, 1) := by decide +kernel
theorem dX2_shapeOf_130 : decode cX2_shapeOf 130 = .ok (.ldc 92, 2) := by decide +kernel
theorem dX2_shapeOf_132 : decode cX2_shapeOf 132 = .ok (.areturn, 1) := by decide +kernel
theorem dX2_readToken_0 : decode cX2_readToken 0 = .ok (.aload_n 0, 1) := by decide +kernel
theorem dX2_readToken_1 : decode cX2_readToken 1 = .ok (.getfield 28, 3) := by decide +kernel
theorem dX2_readToken_4 : decode cX2_readToken 4 = .ok (.aload_n 0, 1) := by decide +kernel
theorem dX2_readToken_5 : decode cX2_readToken 5 = .ok (.getfield 19, 3) := by decide +kernel
theorem dX2_readToken_8 : decode cX2_readToken 8 = .ok (.if_icmp .ge 30, 3) := by decide +kernel
theorem dX2_readToken_11 : decode cX2_readToken 11 = .ok (.aload_n 0, 1) := by decide +kernel
theorem dX2_readToken_12 : decode cX2_readToken 12 = .ok (.getfield 9, 3) := by decide +kernel
theorem dX2_readToken_15 : decode cX2_readToken 15 = .ok (.aload_n 0, 1) := by decide +kernel
theorem dX2_readToken_16 : decode cX2_readToken 16 = .ok (.getfield 28, 3) := by decide +kernel
theorem dX2_readToken_19 : decode cX2_readToken 19 = .ok (.caload, 1) := by decide +kernel
theorem dX2_readToken_20 : decode cX2_readToken 20 = .ok (.bipush 32, 2) := by decide +kernel
theorem dX2_readToken_22 : decode cX2_readToken 22 = .ok (.if_icmp .ne 16, 3) := by decide +kernel
theorem dX2_readToken_25 : decode cX2_readToken 25 = .ok (.aload_n 0, 1) := by decide +kernel
theorem dX2_readToken_26 : decode cX2_readToken 26 = .ok (.dup, 1) := by decide +kernel
theorem dX2_readToken_27 : decode cX2_readToken 27 = .ok (.getfield 28, 3) := by decide +kernel
theorem dX2_readToken_30 : decode cX2_readToken 30 = .ok (.iconst 1, 1) := by decide +kernel
theorem dX2_readToken_31 : decode cX2_readToken 31 = .ok (.iadd, 1) := by decide +kernel
theorem dX2_readToken_32 : decode cX2_readToken 32 = .ok (.putfield 28, 3) := by decide +kernel
theorem dX2_readToken_35 : decode cX2_readToken 35 = .ok (.goto (-35), 3) := by decide +kernel
theorem dX2_readToken_38 : decode cX2_readToken 38 = .ok (.aload_n 0, 1) := by decide +kernel
theorem dX2_readToken_39 : decode cX2_readToken 39 = .ok (.aload_n 0, 1) := by decide +kernel
theorem dX2_readToken_40 : decode cX2_readToken 40 = .ok (.getfield 28, 3) := by decide +kernel
theorem dX2_readToken_43 : decode cX2_readToken 43 = .ok (.putfield 44, 3) := by decide +kernel
theorem dX2_readToken_46 : decode cX2_readToken 46 = .ok (.aload_n 0, 1) := by decide +kernel
theorem dX2_readToken_47 : decode cX2_readToken 47 = .ok (.getfield 28, 3) := by decide +kernel
theorem dX2_readToken_50 : decode cX2_readToken 50 = .ok (.aload_n 0, 1) := by decide +kernel
theorem dX2_readToken_51 : decode cX2_readToken 51 = .ok (.getfield 19, 3) := by decide +kernel
theorem dX2_readToken_54 : decode cX2_readToken 54 = .ok (.if_icmp .lt 12, 3) := by decide +kernel
theorem dX2_readToken_57 : decode cX2_readToken 57 = .ok (.aload_n 0, 1) := by decide +kernel
theorem dX2_readToken_58 : decode cX2_readToken 58 = .ok (.bipush (-2), 2) := by decide +kernel
theorem dX2_readToken_60 : decode cX2_readToken 60 = .ok (.putfield 34, 3) := by decide +kernel
theorem dX2_readToken_63 : decode cX2_readToken 63 = .ok (.goto 48, 3) := by decide +kernel
theorem dX2_readToken_66 : decode cX2_readToken 66 = .ok (.aload_n 0, 1) := by decide +kernel
theorem dX2_readToken_67 : decode cX2_readToken 67 = .ok (.getfield 9, 3) := by decide +kernel
theorem dX2_readToken_70 : decode cX2_readToken 70 = .ok (.aload_n 0, 1) := by decide +kernel
theorem dX2_readToken_71 : decode cX2_readToken 71 = .ok (.getfield 28, 3) := by decide +kernel
theorem dX2_readToken_74 : decode cX2_readToken 74 = .ok (.caload, 1) := by decide +kernel
theorem dX2_readToken_75 : decode cX2_readToken 75 = .ok (.invokestatic 94, 3) := by decide +kernel
theorem dX2_readToken_78 : decode cX2_readToken 78 = .ok (.ifCond .eq 10, 3) := by decide +kernel
theorem dX2_readToken_81 : decode cX2_readToken 81 = .ok (.aload_n 0, 1) := by decide +kernel
theorem dX2_readToken_82 : decode cX2_readToken 82 = .ok (.invokevirtual 98, 3) := by decide +kernel
theorem dX2_readToken_85 : decode cX2_readToken 85 = .ok (.goto 26, 3) := by decide +kernel
theorem dX2_readToken_88 : decode cX2_readToken 88 = .ok (.aload_n 0, 1) := by decide +kernel
theorem dX2_readToken_89 : decode cX2_readToken 89 = .ok (.aload_n 0, 1) := by decide +kernel
theorem dX2_readToken_90 : decode cX2_readToken 90 = .ok (.getfield 9, 3) := by decide +kernel
theorem dX2_readToken_93 : decode cX2_readToken 93 = .ok (.aload_n 0, 1) := by decide +kernel
theorem dX2_readToken_94 : decode cX2_readToken 94 = .ok (.getfield 28, 3) := by decide +kernel
theorem dX2_readToken_97 : decode cX2_readToken 97 = .ok (.caload, 1) := by decide +kernel
theorem dX2_readToken_98 : decode cX2_readToken 98 = .ok (.putfield 34, 3) := by decide +kernel
theorem dX2_readToken_101 : decode cX2_readToken 101 = .ok (.aload_n 0, 1) := by decide +kernel
theorem dX2_readToken_102 : decode cX2_readToken 102 = .ok (.dup, 1) := by decide +kernel
theorem dX2_readToken_103 : decode cX2_readToken 103 = .ok (.getfield 28, 3) := by decide +kernel
theorem dX2_readToken_106 : decode cX2_readToken 106 = .ok (.iconst 1, 1) := by decide +kernel
theorem dX2_readToken_107 : decode cX2_readToken 107 = .ok (.iadd, 1) := by decide +kernel
theorem dX2_readToken_108 : decode cX2_readToken 108 = .ok (.putfield 28, 3) := by decide +kernel
theorem dX2_readToken_111 : decode cX2_readToken 111 = .ok (.return_, 1) := by decide +kernel
theorem dX2_readNumber_0 : decode cX2_readNumber 0 = .ok (.aload_n 0, 1) := by decide +kernel
theorem dX2_readNumber_1 : decode cX2_readNumber 1 = .ok (.iconst 0, 1) := by decide +kernel
theorem dX2_readNumber_2 : decode cX2_readNumber 2 = .ok (.putfield 69, 3) := by decide +kernel
theorem dX2_readNumber_5 : decode cX2_readNumber 5 = .ok (.aload_n 0, 1) := by decide +kernel
theorem dX2_readNumber_6 : decode cX2_readNumber 6 = .ok (.getfield 28, 3) := by decide +kernel
theorem dX2_readNumber_9 : decode cX2_readNumber 9 = .ok (.aload_n 0, 1) := by decide +kernel
theorem dX2_readNumber_10 : decode cX2_readNumber 10 = .ok (.getfield 19, 3) := by decide +kernel
theorem dX2_readNumber_13 : decode cX2_readNumber 13 = .ok (.if_icmp .ge 60, 3) := by decide +kernel
theorem dX2_readNumber_16 : decode cX2_readNumber 16 = .ok (.aload_n 0, 1) := by decide +kernel
theorem dX2_readNumber_17 : decode cX2_readNumber 17 = .ok (.getfield 9, 3) := by decide +kernel
theorem dX2_readNumber_20 : decode cX2_readNumber 20 = .ok (.aload_n 0, 1) := by decide +kernel
theorem dX2_readNumber_21 : decode cX2_readNumber 21 = .ok (.getfield 28, 3) := by decide +kernel
theorem dX2_readNumber_24 : decode cX2_readNumber 24 = .ok (.caload, 1) := by decide +kernel
theorem dX2_readNumber_25 : decode cX2_readNumber 25 = .ok (.invokestatic 94, 3) := by decide +kernel
theorem dX2_readNumber_28 : decode cX2_readNumber 28 = .ok (.ifCond .eq 45, 3) := by decide +kernel
theorem dX2_readNumber_31 : decode cX2_readNumber 31 = .ok (.aload_n 0, 1) := by decide +kernel
theorem dX2_readNumber_32 : decode cX2_readNumber 32 = .ok (.bipush 100, 2) := by decide +kernel
theorem dX2_readNumber_34 : decode cX2_readNumber 34 = .ok (.aload_n 0, 1) := by decide +kernel
theorem dX2_readNumber_35 : decode cX2_readNumber 35 = .ok (.getfield 69, 3) := by decide +kernel
theorem dX2_readNumber_38 : decode cX2_readNumber 38 = .ok (.bipush 10, 2) := by decide +kernel
theorem dX2_readNumber_40 : decode cX2_readNumber 40 = .ok (.imul, 1) := by decide +kernel
theorem dX2_readNumber_41 : decode cX2_readNumber 41 = .ok (.aload_n 0, 1) := by decide +kernel
theorem dX2_readNumber_42 : decode cX2_readNumber 42 = .ok (.getfield 9, 3) := by decide +kernel
theorem dX2_readNumber_45 : decode cX2_readNumber 45 = .ok (.aload_n 0, 1) := by decide +kernel
theorem dX2_readNumber_46 : decode cX2_readNumber 46 = .ok (.getfield 28, 3) := by decide +kernel
theorem dX2_readNumber_49 : decode cX2_readNumber 49 = .ok (.caload, 1) := by decide +kernel
theorem dX2_readNumber_50 : decode cX2_readNumber 50 = .ok (.iadd, 1) := by decide +kernel
theorem dX2_readNumber_51 : decode cX2_readNumber 51 = .ok (.bipush 48, 2) := by decide +kernel
theorem dX2_readNumber_53 : decode cX2_readNumber 53 = .ok (.isub, 1) := by decide +kernel
theorem dX2_readNumber_54 : decode cX2_readNumber 54 = .ok (.invokestatic 101, 3) := by decide +kernel
theorem dX2_readNumber_57 : decode cX2_readNumber 57 = .ok (.putfield 69, 3) := by decide +kernel
theorem dX2_readNumber_60 : decode cX2_readNumber 60 = .ok (.aload_n 0, 1) := by decide +kernel
theorem dX2_readNumber_61 : decode cX2_readNumber 61 = .ok (.dup, 1) := by decide +kernel
theorem dX2_readNumber_62 : decode cX2_readNumber 62 = .ok (.getfield 28, 3) := by decide +kernel
theorem dX2_readNumber_65 : decode cX2_readNumber 65 = .ok (.iconst 1, 1) := by decide +kernel
theorem dX2_readNumber_66 : decode cX2_readNumber 66 = .ok (.iadd, 1) := by decide +kernel
theorem dX2_readNumber_67 : decode cX2_readNumber 67 = .ok (.putfield 28, 3) := by decide +kernel
theorem dX2_readNumber_70 : decode cX2_readNumber 70 = .ok (.goto (-65), 3) := by decide +kernel
theorem dX2_readNumber_73 : decode cX2_readNumber 73 = .ok (.aload_n 0, 1) := by decide +kernel
theorem dX2_readNumber_74 : decode cX2_readNumber 74 = .ok (.getfield 9, 3) := by decide +kernel
theorem dX2_readNumber_77 : decode cX2_readNumber 77 = .ok (.aload_n 0, 1) := by decide +kernel
theorem dX2_readNumber_78 : decode cX2_readNumber 78 = .ok (.getfield 44, 3) := by decide +kernel
theorem dX2_readNumber_81 : decode cX2_readNumber 81 = .ok (.caload, 1) := by decide +kernel
theorem dX2_readNumber_82 : decode cX2_readNumber 82 = .ok (.bipush 48, 2) := by decide +kernel
theorem dX2_readNumber_84 : decode cX2_readNumber 84 = .ok (.if_icmp .ne 20, 3) := by decide +kernel
theorem dX2_readNumber_87 : decode cX2_readNumber 87 = .ok (.aload_n 0, 1) := by decide +kernel
theorem dX2_readNumber_88 : decode cX2_readNumber 88 = .ok (.getfield 28, 3) := by decide +kernel
theorem dX2_readNumber_91 : decode cX2_readNumber 91 = .ok (.aload_n 0, 1) := by decide +kernel
theorem dX2_readNumber_92 : decode cX2_readNumber 92 = .ok (.getfield 44, 3) := by decide +kernel
theorem dX2_readNumber_95 : decode cX2_readNumber 95 = .ok (.isub, 1) := by decide +kernel
theorem dX2_readNumber_96 : decode cX2_readNumber 96 = .ok (.iconst 1, 1) := by decide +kernel
theorem dX2_readNumber_97 : decode cX2_readNumber 97 = .ok (.if_icmp .le 7, 3) := by decide +kernel
theorem dX2_readNumber_100 : decode cX2_readNumber 100 = .ok (.iconst 1, 1) := by decide +kernel
theorem dX2_readNumber_101 : decode cX2_readNumber 101 = .ok (.goto 4, 3) := by decide +kernel
theorem dX2_readNumber_104 : decode cX2_readNumber 104 = .ok (.iconst 0, 1) := by decide +kernel
theorem dX2_readNumber_105 : decode cX2_readNumber 105 = .ok (.istore_n 1, 1) := by decide +kernel
theorem dX2_readNumber_106 : decode cX2_readNumber 106 = .ok (.aload_n 0, 1) := by decide +kernel
theorem dX2_readNumber_107 : decode cX2_readNumber 107 = .ok (.iload_n 1, 1) := by decide +kernel
theorem dX2_readNumber_108 : decode cX2_readNumber 108 = .ok (.ifCond .ne 12, 3) := by decide +kernel
theorem dX2_readNumber_111 : decode cX2_readNumber 111 = .ok (.aload_n 0, 1) := by decide +kernel
theorem dX2_readNumber_112 : decode cX2_readNumber 112 = .ok (.getfield 69, 3) := by decide +kernel
theorem dX2_readNumber_115 : decode cX2_readNumber 115 = .ok (.bipush 99, 2) := by decide +kernel
theorem dX2_readNumber_117 : decode cX2_readNumber 117 = .ok (.if_icmp .le 8, 3) := by decide +kernel
theorem dX2_readNumber_120 : decode cX2_readNumber 120 = .ok (.bipush (-3), 2) := by decide +kernel
theorem dX2_readNumber_122 : decode cX2_readNumber 122 = .ok (.goto 4, 3) := by decide +kernel
theorem dX2_readNumber_125 : decode cX2_readNumber 125 = .ok (.iconst (-1), 1) := by decide +kernel
theorem dX2_readNumber_126 : decode cX2_readNumber 126 = .ok (.putfield 34, 3) := by decide +kernel
theorem dX2_readNumber_129 : decode cX2_readNumber 129 = .ok (.return_, 1) := by decide +kernel
theorem dX2_isFigure_0 : decode cX2_isFigure 0 = .ok (.iload_n 0, 1) := by decide +kernel
theorem dX2_isFigure_1 : decode cX2_isFigure 1 = .ok (.bipush 48, 2) := by decide +kernel
theorem dX2_isFigure_3 : decode cX2_isFigure 3 = .ok (.if_icmp .lt 13, 3) := by decide +kernel
theorem dX2_isFigure_6 : decode cX2_isFigure 6 = .ok (.iload_n 0, 1) := by decide +kernel
theorem dX2_isFigure_7 : decode cX2_isFigure 7 = .ok (.bipush 57, 2) := by decide +kernel
theorem dX2_isFigure_9 : decode cX2_isFigure 9 = .ok (.if_icmp .gt 7, 3) := by decide +kernel
theorem dX2_isFigure_12 : decode cX2_isFigure 12 = .ok (.iconst 1, 1) := by decide +kernel
theorem dX2_isFigure_13 : decode cX2_isFigure 13 = .ok (.goto 4, 3) := by decide +kernel
theorem dX2_isFigure_16 : decode cX2_isFigure 16 = .ok (.iconst 0, 1) := by decide +kernel
theorem dX2_isFigure_17 : decode cX2_isFigure 17 = .ok (.ireturn, 1) := by decide +kernel
theorem dX3_init_0 : decode cX3_init 0 = .ok (.aload_n 0, 1) := by decide +kernel
theorem dX3_init_1 : decode cX3_init 1 = .ok (.invokespecial 1, 3) := by decide +kernel
theorem dX3_init_4 : decode cX3_init 4 = .ok (.aload_n 0, 1) := by decide +kernel
theorem dX3_init_5 : decode cX3_init 5 = .ok (.new 7, 3) := by decide +kernel
theorem dX3_init_8 : decode cX3_init 8 = .ok (.dup, 1) := by decide +kernel
theorem dX3_init_9 : decode cX3_init 9 = .ok (.invokespecial 9, 3) := by decide +kernel
theorem dX3_init_12 : decode cX3_init 12 = .ok (.putfield 10, 3) := by decide +kernel
theorem dX3_init_15 : decode cX3_init 15 = .ok (.aload_n 0, 1) := by decide +kernel
theorem dX3_init_16 : decode cX3_init 16 = .ok (.new 16, 3) := by decide +kernel
theorem dX3_init_19 : decode cX3_init 19 = .ok (.dup, 1) := by decide +kernel
theorem dX3_init_20 : decode cX3_init 20 = .ok (.invokespecial 18, 3) := by decide +kernel
theorem dX3_init_23 : decode cX3_init 23 = .ok (.putfield 19, 3) := by decide +kernel
theorem dX3_init_26 : decode cX3_init 26 = .ok (.aload_n 0, 1) := by decide +kernel
theorem dX3_init_27 : decode cX3_init 27 = .ok (.new 16, 3) := by decide +kernel
theorem dX3_init_30 : decode cX3_init 30 = .ok (.dup, 1) := by decide +kernel
theorem dX3_init_31 : decode cX3_init 31 = .ok (.invokespecial 18, 3) := by decide +kernel
theorem dX3_init_34 : decode cX3_init 34 = .ok (.putfield 23, 3) := by decide +kernel
theorem dX3_init_37 : decode cX3_init 37 = .ok (.aload_n 0, 1) := by decide +kernel
theorem dX3_init_38 : decode cX3_init 38 = .ok (.new 26, 3) := by decide +kernel
theorem dX3_init_41 : decode cX3_init 41 = .ok (.dup, 1) := by decide +kernel
theorem dX3_init_42 : decode cX3_init 42 = .ok (.invokespecial 28, 3) := by decide +kernel
theorem dX3_init_45 : decode cX3_init 45 = .ok (.putfield 29, 3) := by decide +kernel
theorem dX3_init_48 : decode cX3_init 48 = .ok (.aload_n 0, 1) := by decide +kernel
theorem dX3_init_49 : decode cX3_init 49 = .ok (.new 26, 3) := by decide +kernel
theorem dX3_init_52 : decode cX3_init 52 = .ok (.dup, 1) := by decide +kernel
theorem dX3_init_53 : decode cX3_init 53 = .ok (.invokespecial 28, 3) := by decide +kernel
theorem dX3_init_56 : decode cX3_init 56 = .ok (.putfield 33, 3) := by decide +kernel
theorem dX3_init_59 : decode cX3_init 59 = .ok (.aload_n 0, 1) := by decide +kernel
theorem dX3_init_60 : decode cX3_init 60 = .ok (.new 26, 3) := by decide +kernel
theorem dX3_init_63 : decode cX3_init 63 = .ok (.dup, 1) := by decide +kernel
theorem dX3_init_64 : decode cX3_init 64 = .ok (.invokespecial 28, 3) := by decide +kernel
theorem dX3_init_67 : decode cX3_init 67 = .ok (.putfield 36, 3) := by decide +kernel
theorem dX3_init_70 : decode cX3_init 70 = .ok (.aload_n 0, 1) := by decide +kernel
theorem dX3_init_71 : decode cX3_init 71 = .ok (.bipush 6, 2) := by decide +kernel
theorem dX3_init_73 : decode cX3_init 73 = .ok (.anewarray 26, 3) := by decide +kernel
theorem dX3_init_76 : decode cX3_init 76 = .ok (.putfield 39, 3) := by decide +kernel
theorem dX3_init_79 : decode cX3_init 79 = .ok (.iconst 0, 1) := by decide +kernel
theorem dX3_init_80 : decode cX3_init 80 = .ok (.istore_n 1, 1) := by decide +kernel
theorem dX3_init_81 : decode cX3_init 81 = .ok (.iload_n 1, 1) := by decide +kernel
theorem dX3_init_82 : decode cX3_init 82 = .ok (.aload_n 0, 1) := by decide +kernel
theorem dX3_init_83 : decode cX3_init 83 = .ok (.getfield 39, 3) := by decide +kernel
theorem dX3_init_86 : decode cX3_init 86 = .ok (.arraylength, 1) := by decide +kernel
theorem dX3_init_87 : decode cX3_init 87 = .ok (.if_icmp .ge 22, 3) := by decide +kernel
theorem dX3_init_90 : decode cX3_init 90 = .ok (.aload_n 0, 1) := by decide +kernel
theorem dX3_init_91 : decode cX3_init 91 = .ok (.getfield 39, 3) := by decide +kernel
theorem dX3_init_94 : decode cX3_init 94 = .ok (.iload_n 1, 1) := by decide +kernel
theorem dX3_init_95 : decode cX3_init 95 = .ok (.new 26, 3) := by decide +kernel
theorem dX3_init_98 : decode cX3_init 98 = .ok (.dup, 1) := by decide +kernel
theorem dX3_init_99 : decode cX3_init 99 = .ok (.invokespecial 28, 3) := by decide +kernel
theorem dX3_init_102 : decode cX3_init 102 = .ok (.aastore, 1) := by decide +kernel
theorem dX3_init_103 : decode cX3_init 103 = .ok (.iinc 1 1, 3) := by decide +kernel
theorem dX3_init_106 : decode cX3_init 106 = .ok (.goto (-25), 3) := by decide +kernel
theorem dX3_init_109 : decode cX3_init 109 = .ok (.aload_n 0, 1) := by decide +kernel
theorem dX3_init_110 : decode cX3_init 110 = .ok (.iconst 2, 1) := by decide +kernel
theorem dX3_init_111 : decode cX3_init 111 = .ok (.anewarray 26, 3) := by decide +kernel
theorem dX3_init_114 : decode cX3_init 114 = .ok (.putfield 43, 3) := by decide +kernel
theorem dX3_init_117 : decode cX3_init 117 = .ok (.iconst 0, 1) := by decide +kernel
theorem dX3_init_118 : decode cX3_init 118 = .ok (.istore_n 1, 1) := by decide +kernel
theorem dX3_init_119 : decode cX3_init 119 = .ok (.iload_n 1, 1) := by decide +kernel
theorem dX3_init_120 : decode cX3_init 120 = .ok (.aload_n 0, 1) := by decide +kernel
theorem dX3_init_121 : decode cX3_init 121 = .ok (.getfield 43, 3) := by decide +kernel
theorem dX3_init_124 : decode cX3_init 124 = .ok (.arraylength, 1) := by decide +kernel
theorem dX3_init_125 : decode cX3_init 125 = .ok (.if_icmp .ge 22, 3) := by decide +kernel
theorem dX3_init_128 : decode cX3_init 128 = .ok (.aload_n 0, 1) := by decide +kernel
theorem dX3_init_129 : decode cX3_init 129 = .ok (.getfield 43, 3) := by decide +kernel
theorem dX3_init_132 : decode cX3_init 132 = .ok (.iload_n 1, 1) := by decide +kernel
theorem dX3_init_133 : decode cX3_init 133 = .ok (.new 26, 3) := by decide +kernel
theorem dX3_init_136 : decode cX3_init 136 = .ok (.dup, 1) := by decide +kernel
theorem dX3_init_137 : decode cX3_init 137 = .ok (.invokespecial 28, 3) := by decide +kernel
theorem dX3_init_140 : decode cX3_init 140 = .ok (.aastore, 1) := by decide +kernel
theorem dX3_init_141 : decode cX3_init 141 = .ok (.iinc 1 1, 3) := by decide +kernel
theorem dX3_init_144 : decode cX3_init 144 = .ok (.goto (-25), 3) := by decide +kernel
theorem dX3_init_147 : decode cX3_init 147 = .ok (.aload_n 0, 1) := by decide +kernel
theorem dX3_init_148 : decode cX3_init 148 = .ok (.iconst 2, 1) := by decide +kernel
theorem dX3_init_149 : decode cX3_init 149 = .ok (.newarray .boolean, 2) := by decide +kernel
theorem dX3_init_151 : decode cX3_init 151 = .ok (.putfield 46, 3) := by decide +kernel
theorem dX3_init_154 : decode cX3_init 154 = .ok (.return_, 1) := by decide +kernel
theorem dX3_type_0 : decode cX3_type 0 = .ok (.iload_n 1, 1) := by decide +kernel
theorem dX3_type_1 : decode cX3_type 1 = .ok (.ifCond .lt 10, 3) := by decide +kernel
theorem dX3_type_4 : decode cX3_type 4 = .ok (.iload_n 1, 1) := by decide +kernel
theorem dX3_type_5 : decode cX3_type 5 = .ok (.sipush 255, 3) := by decide +kernel
theorem dX3_type_8 : decode cX3_type 8 = .ok (.if_icmp .le 5, 3) := by decide +kernel
theorem dX3_type_11 : decode cX3_type 11 = .ok (.iconst (-1), 1) := by decide +kernel
theorem dX3_type_12 : decode cX3_type 12 = .ok (.ireturn, 1) := by decide +kernel
theorem dX3_type_13 : decode cX3_type 13 = .ok (.aload_n 0, 1) := by decide +kernel
theorem dX3_type_14 : decode cX3_type 14 = .ok (.getfield 10, 3) := by decide +kernel
theorem dX3_type_17 : decode cX3_type 17 = .ok (.iload_n 1, 1) := by decide +kernel
theorem dX3_type_18 : decode cX3_type 18 = .ok (.invokevirtual 50, 3) := by decide +kernel
theorem dX3_type_21 : decode cX3_type 21 = .ok (.ifCond .eq 13, 3) := by decide +kernel
theorem dX3_type_24 : decode cX3_type 24 = .ok (.aload_n 0, 1) := by decide +kernel
theorem dX3_type_25 : decode cX3_type 25 = .ok (.getfield 10, 3) := by decide +kernel
theorem dX3_type_28 : decode cX3_type 28 = .ok (.getfield 54, 3) := by decide +kernel
theorem dX3_type_31 : decode cX3_type 31 = .ok (.goto 5, 3) := by decide +kernel
theorem dX3_type_34 : decode cX3_type 34 = .ok (.bipush (-3), 2) := by decide +kernel
theorem dX3_type_36 : decode cX3_type 36 = .ok (.ireturn, 1) := by decide +kernel
theorem dX3_clear_0 : decode cX3_clear 0 = .ok (.aload_n 0, 1) := by decide +kernel
theorem dX3_clear_1 : decode cX3_clear 1 = .ok (.getfield 10, 3) := by decide +kernel
theorem dX3_clear_4 : decode cX3_clear 4 = .ok (.getfield 54, 3) := by decide +kernel
theorem dX3_clear_7 : decode cX3_clear 7 = .ok (.istore_n 1, 1) := by decide +kernel
theorem dX3_clear_8 : decode cX3_clear 8 = .ok (.aload_n 0, 1) := by decide +kernel
theorem dX3_clear_9 : decode cX3_clear 9 = .ok (.getfield 10, 3) := by decide +kernel
theorem dX3_clear_12 : decode cX3_clear 12 = .ok (.iconst 0, 1) := by decide +kernel
theorem dX3_clear_13 : decode cX3_clear 13 = .ok (.putfield 54, 3) := by decide +kernel
theorem dX3_clear_16 : decode cX3_clear 16 = .ok (.iload_n 1, 1) := by decide +kernel
theorem dX3_clear_17 : decode cX3_clear 17 = .ok (.ireturn, 1) := by decide +kernel
theorem dX3_tells_0 : decode cX3_tells 0 = .ok (.aload_n 0, 1) := by decide +kernel
theorem dX3_tells_1 : decode cX3_tells 1 = .ok (.getfield 10, 3) := by decide +kernel
theorem dX3_tells_4 : decode cX3_tells 4 = .ok (.aload_n 0, 1) := by decide +kernel
theorem dX3_tells_5 : decode cX3_tells 5 = .ok (.getfield 23, 3) := by decide +kernel
theorem dX3_tells_8 : decode cX3_tells 8 = .ok (.invokevirtual 58, 3) := by decide +kernel
theorem dX3_tells_11 : decode cX3_tells 11 = .ok (.istore_n 1, 1) := by decide +kernel
theorem dX3_tells_12 : decode cX3_tells 12 = .ok (.iload_n 1, 1) := by decide +kernel
theorem dX3_tells_13 : decode cX3_tells 13 = .ok (.ifCond .ge 5, 3) := by decide +kernel
theorem dX3_tells_16 : decode cX3_tells 16 = .ok (.iload_n 1, 1) := by decide +kernel
theorem dX3_tells_17 : decode cX3_tells 17 = .ok (.ireturn, 1) := by decide +kernel
theorem dX3_tells_18 : decode cX3_tells 18 = .ok (.aload_n 0, 1) := by decide +kernel
theorem dX3_tells_19 : decode cX3_tells 19 = .ok (.getfield 23, 3) := by decide +kernel
theorem dX3_tells_22 : decode cX3_tells 22 = .ok (.astore_n 2, 1) := by decide +kernel
theorem dX3_tells_23 : decode cX3_tells 23 = .ok (.aload_n 0, 1) := by decide +kernel
theorem dX3_tells_24 : decode cX3_tells 24 = .ok (.aload_n 0, 1) := by decide +kernel
theorem dX3_tells_25 : decode cX3_tells 25 = .ok (.getfield 19, 3) := by decide +kernel
theorem dX3_tells_28 : decode cX3_tells 28 = .ok (.putfield 23, 3) := by decide +kernel
theorem dX3_tells_31 : decode cX3_tells 31 = .ok (.aload_n 0, 1) := by decide +kernel
theorem dX3_tells_32 : decode cX3_tells 32 = .ok (.aload_n 2, 1) := by decide +kernel
theorem dX3_tells_33 : decode cX3_tells 33 = .ok (.putfield 19, 3) := by decide +kernel
theorem dX3_tells_36 : decode cX3_tells 36 = .ok (.aload_n 0, 1) := by decide +kernel
theorem dX3_tells_37 : decode cX3_tells 37 = .ok (.getfield 10, 3) := by decide +kernel
theorem dX3_tells_40 : decode cX3_tells 40 = .ok (.iconst 0, 1) := by decide +kernel
theorem dX3_tells_41 : decode cX3_tells 41 = .ok (.putfield 54, 3) := by decide +kernel
theorem dX3_tells_44 : decode cX3_tells 44 = .ok (.aload_n 0, 1) := by decide +kernel
theorem dX3_tells_45 : decode cX3_tells 45 = .ok (.getfield 29, 3) := by decide +kernel
theorem dX3_tells_48 : decode cX3_tells 48 = .ok (.invokevirtual 62, 3) := by decide +kernel
theorem dX3_tells_51 : decode cX3_tells 51 = .ok (.aload_n 0, 1) := by decide +kernel
theorem dX3_tells_52 : decode cX3_tells 52 = .ok (.iconst 0, 1) := by decide +kernel
theorem dX3_tells_53 : decode cX3_tells 53 = .ok (.putfield 65, 3) := by decide +kernel
theorem dX3_tells_56 : decode cX3_tells 56 = .ok (.iconst 0, 1) := by decide +kernel
theorem dX3_tells_57 : decode cX3_tells 57 = .ok (.istore_n 3, 1) := by decide +kernel
theorem dX3_tells_58 : decode cX3_tells 58 = .ok (.iload_n 3, 1) := by decide +kernel
theorem dX3_tells_59 : decode cX3_tells 59 = .ok (.aload_n 0, 1) := by decide +kernel
theorem dX3_tells_60 : decode cX3_tells 60 = .ok (.getfield 46, 3) := by decide +kernel
theorem dX3_tells_63 : decode cX3_tells 63 = .ok (.arraylength, 1) := by decide +kernel
theorem dX3_tells_64 : decode cX3_tells 64 = .ok (.if_icmp .ge 16, 3) := by decide +kernel
theorem dX3_tells_67 : decode cX3_tells 67 = .ok (.aload_n 0, 1) := by decide +kernel
theorem dX3_tells_68 : decode cX3_tells 68 = .ok (.getfield 46, 3) := by decide +kernel
theorem dX3_tells_71 : decode cX3_tells 71 = .ok (.iload_n 3, 1) := by decide +kernel
theorem dX3_tells_72 : decode cX3_tells 72 = .ok (.iconst 0, 1) := by decide +kernel
theorem dX3_tells_73 : decode cX3_tells 73 = .ok (.bastore, 1) := by decide +kernel
theorem dX3_tells_74 : decode cX3_tells 74 = .ok (.iinc 3 1, 3) := by decide +kernel
theorem dX3_tells_77 : decode cX3_tells 77 = .ok (.goto (-19), 3) := by decide +kernel
theorem dX3_tells_80 : decode cX3_tells 80 = .ok (.iload_n 1, 1) := by decide +kernel
theorem dX3_tells_81 : decode cX3_tells 81 = .ok (.ireturn, 1) := by decide +kernel
theorem dX3_needs_0 : decode cX3_needs 0 = .ok (.iload_n 1, 1) := by decide +kernel
theorem dX3_needs_1 : decode cX3_needs 1 = .ok (.iconst 2, 1) := by decide +kernel
theorem dX3_needs_2 : decode cX3_needs 2 = .ok (.if_icmp .lt 8, 3) := by decide +kernel
theorem dX3_needs_5 : decode cX3_needs 5 = .ok (.iload_n 1, 1) := by decide +kernel
theorem dX3_needs_6 : decode cX3_needs 6 = .ok (.iconst 4, 1) := by decide +kernel
theorem dX3_needs_7 : decode cX3_needs 7 = .ok (.if_icmp .le 5, 3) := by decide +kernel
theorem dX3_needs_10 : decode cX3_needs 10 = .ok (.iconst (-1), 1) := by decide +kernel
theorem dX3_needs_11 : decode cX3_needs 11 = .ok (.ireturn, 1) := by decide +kernel
theorem dX3_needs_12 : decode cX3_needs 12 = .ok (.aload_n 0, 1) := by decide +kernel
theorem dX3_needs_13 : decode cX3_needs 13 = .ok (.getfield 29, 3) := by decide +kernel
theorem dX3_needs_16 : decode cX3_needs 16 = .ok (.getfield 68, 3) := by decide +kernel
theorem dX3_needs_19 : decode cX3_needs 19 = .ok (.istore_n 2, 1) := by decide +kernel
theorem dX3_needs_20 : decode cX3_needs 20 = .ok (.iload_n 2, 1) := by decide +kernel
theorem dX3_needs_21 : decode cX3_needs 21 = .ok (.iload_n 1, 1) := by decide +kernel
theorem dX3_needs_22 : decode cX3_needs 22 = .ok (.if_icmp .ne 6, 3) := by decide +kernel
theorem dX3_needs_25 : decode cX3_needs 25 = .ok (.bipush (-2), 2) := by decide +kernel
theorem dX3_needs_27 : decode cX3_needs 27 = .ok (.ireturn, 1) := by decide +kernel
theorem dX3_needs_28 : decode cX3_needs 28 = .ok (.aload_n 0, 1) := by decide +kernel
theorem dX3_needs_29 : decode cX3_needs 29 = .ok (.invokevirtual 71, 3) := by decide +kernel
theorem dX3_needs_32 : decode cX3_needs 32 = .ok (.aload_n 0, 1) := by decide +kernel
theorem dX3_needs_33 : decode cX3_needs 33 = .ok (.getfield 29, 3) := by decide +kernel
theorem dX3_needs_36 : decode cX3_needs 36 = .ok (.iload_n 1, 1) := by decide +kernel
theorem dX3_needs_37 : decode cX3_needs 37 = .ok (.putfield 68, 3) := by decide +kernel
theorem dX3_needs_40 : decode cX3_needs 40 = .ok (.iload_n 2, 1) := by decide +kernel
theorem dX3_needs_41 : decode cX3_needs 41 = .ok (.ireturn, 1) := by decide +kernel
theorem dX3_wishes_0 : decode cX3_wishes 0 = .ok (.aload_n 0, 1) := by decide +kernel
theorem dX3_wishes_1 : decode cX3_wishes 1 = .ok (.getfield 19, 3) := by decide +kernel
theorem dX3_wishes_4 : decode cX3_wishes 4 = .ok (.iload_n 1, 1) := by decide +kernel
theorem dX3_wishes_5 : decode cX3_wishes 5 = .ok (.iconst 0, 1) := by decide +kernel
theorem dX3_wishes_6 : decode cX3_wishes 6 = .ok (.invokevirtual 74, 3) := by decide +kernel
theorem dX3_wishes_9 : decode cX3_wishes 9 = .ok (.ifCond .eq 12, 3) := by decide +kernel
theorem dX3_wishes_12 : decode cX3_wishes 12 = .ok (.iload_n 2, 1) := by decide +kernel
theorem dX3_wishes_13 : decode cX3_wishes 13 = .ok (.ifCond .lt 8, 3) := by decide +kernel
theorem dX3_wishes_16 : decode cX3_wishes 16 = .ok (.iload_n 2, 1) := by decide +kernel
theorem dX3_wishes_17 : decode cX3_wishes 17 = .ok (.iconst 1, 1) := by decide +kernel
theorem dX3_wishes_18 : decode cX3_wishes 18 = .ok (.if_icmp .le 5, 3) := by decide +kernel
theorem dX3_wishes_21 : decode cX3_wishes 21 = .ok (.iconst (-1), 1) := by decide +kernel
theorem dX3_wishes_22 : decode cX3_wishes 22 = .ok (.ireturn, 1) := by decide +kernel
theorem dX3_wishes_23 : decode cX3_wishes 23 = .ok (.aload_n 0, 1) := by decide +kernel
theorem dX3_wishes_24 : decode cX3_wishes 24 = .ok (.getfield 29, 3) := by decide +kernel
theorem dX3_wishes_27 : decode cX3_wishes 27 = .ok (.getfield 78, 3) := by decide +kernel
theorem dX3_wishes_30 : decode cX3_wishes 30 = .ok (.iload_n 1, 1) := by decide +kernel
theorem dX3_wishes_31 : decode cX3_wishes 31 = .ok (.iaload, 1) := by decide +kernel
theorem dX3_wishes_32 : decode cX3_wishes 32 = .ok (.istore_n 3, 1) := by decide +kernel
theorem dX3_wishes_33 : decode cX3_wishes 33 = .ok (.iload_n 3, 1) := by decide +kernel
theorem dX3_wishes_34 : decode cX3_wishes 34 = .ok (.iload_n 2, 1) := by decide +kernel
theorem dX3_wishes_35 : decode cX3_wishes 35 = .ok (.if_icmp .ne 6, 3) := by decide +kernel
theorem dX3_wishes_38 : decode cX3_wishes 38 = .ok (.bipush (-2), 2) := by decide +kernel
theorem dX3_wishes_40 : decode cX3_wishes 40 = .ok (.ireturn, 1) := by decide +kernel
theorem dX3_wishes_41 : decode cX3_wishes 41 = .ok (.aload_n 0, 1) := by decide +kernel
theorem dX3_wishes_42 : decode cX3_wishes 42 = .ok (.invokevirtual 71, 3) := by decide +kernel
theorem dX3_wishes_45 : decode cX3_wishes 45 = .ok (.aload_n 0, 1) := by decide +kernel
theorem dX3_wishes_46 : decode cX3_wishes 46 = .ok (.getfield 29, 3) := by decide +kernel
theorem dX3_wishes_49 : decode cX3_wishes 49 = .ok (.getfield 78, 3) := by decide +kernel
theorem dX3_wishes_52 : decode cX3_wishes 52 = .ok (.iload_n 1, 1) := by decide +kernel
theorem dX3_wishes_53 : decode cX3_wishes 53 = .ok (.iload_n 2, 1) := by decide +kernel
theorem dX3_wishes_54 : decode cX3_wishes 54 = .ok (.iastore, 1) := by decide +kernel
theorem dX3_wishes_55 : decode cX3_wishes 55 = .ok (.iload_n 3, 1) := by decide +kernel
theorem dX3_wishes_56 : decode cX3_wishes 56 = .ok (.ireturn, 1) := by decide +kernel
theorem dX3_ticks_0 : decode cX3_ticks 0 = .ok (.iload_n 1, 1) := by decide +kernel
theorem dX3_ticks_1 : decode cX3_ticks 1 = .ok (.iconst 1, 1) := by decide +kernel
theorem dX3_ticks_2 : decode cX3_ticks 2 = .ok (.if_icmp .lt 9, 3) := by decide +kernel
theorem dX3_ticks_5 : decode cX3_ticks 5 = .ok (.iload_n 1, 1) := by decide +kernel
theorem dX3_ticks_6 : decode cX3_ticks 6 = .ok (.bipush 99, 2) := by decide +kernel
theorem dX3_ticks_8 : decode cX3_ticks 8 = .ok (.if_icmp .le 5, 3) := by decide +kernel
theorem dX3_ticks_11 : decode cX3_ticks 11 = .ok (.iconst (-1), 1) := by decide +kernel
theorem dX3_ticks_12 : decode cX3_ticks 12 = .ok (.ireturn, 1) := by decide +kernel
theorem dX3_ticks_13 : decode cX3_ticks 13 = .ok (.aload_n 0, 1) := by decide +kernel
theorem dX3_ticks_14 : decode cX3_ticks 14 = .ok (.getfield 29, 3) := by decide +kernel
theorem dX3_ticks_17 : decode cX3_ticks 17 = .ok (.getfield 82, 3) := by decide +kernel
theorem dX3_ticks_20 : decode cX3_ticks 20 = .ok (.iload_n 1, 1) := by decide +kernel
theorem dX3_ticks_21 : decode cX3_ticks 21 = .ok (.iadd, 1) := by decide +kernel
theorem dX3_ticks_22 : decode cX3_ticks 22 = .ok (.sipush 999, 3) := by decide +kernel
theorem dX3_ticks_25 : decode cX3_ticks 25 = .ok (.if_icmp .le 6, 3) := by decide +kernel
theorem dX3_ticks_28 : decode cX3_ticks 28 = .ok (.bipush (-2), 2) := by decide +kernel
theorem dX3_ticks_30 : decode cX3_ticks 30 = .ok (.ireturn, 1) := by decide +kernel
theorem dX3_ticks_31 : decode cX3_ticks 31 = .ok (.aload_n 0, 1) := by decide +kernel
theorem dX3_ticks_32 : decode cX3_ticks 32 = .ok (.invokevirtual 71, 3) := by decide +kernel
theorem dX3_ticks_35 : decode cX3_ticks 35 = .ok (.aload_n 0, 1) := by decide +kernel
theorem dX3_ticks_36 : decode cX3_ticks 36 = .ok (.getfield 29, 3) := by decide +kernel
theorem dX3_ticks_39 : decode cX3_ticks 39 = .ok (.getfield 85, 3) := by decide +kernel
theorem dX3_ticks_42 : decode cX3_ticks 42 = .ok (.istore_n 2, 1) := by decide +kernel
theorem dX3_ticks_43 : decode cX3_ticks 43 = .ok (.iconst 0, 1) := by decide +kernel
theorem dX3_ticks_44 : decode cX3_ticks 44 = .ok (.istore_n 3, 1) := by decide +kernel
theorem dX3_ticks_45 : decode cX3_ticks 45 = .ok (.iload_n 3, 1) := by decide +kernel
theorem dX3_ticks_46 : decode cX3_ticks 46 = .ok (.iload_n 1, 1) := by decide +kernel
theorem dX3_ticks_47 : decode cX3_ticks 47 = .ok (.if_icmp .ge 17, 3) := by decide +kernel
theorem dX3_ticks_50 : decode cX3_ticks 50 = .ok (.aload_n 0, 1) := by decide +kernel
theorem dX3_ticks_51 : decode cX3_ticks 51 = .ok (.aload_n 0, 1) := by decide +kernel
theorem dX3_ticks_52 : decode cX3_ticks 52 = .ok (.getfield 29, 3) := by decide +kernel
theorem dX3_ticks_55 : decode cX3_ticks 55 = .ok (.invokevirtual 88, 3) := by decide +kernel
theorem dX3_ticks_58 : decode cX3_ticks 58 = .ok (.iinc 3 1, 3) := by decide +kernel
theorem dX3_ticks_61 : decode cX3_ticks 61 = .ok (.goto (-16), 3) := by decide +kernel
theorem dX3_ticks_64 : decode cX3_ticks 64 = .ok (.aload_n 0, 1) := by decide +kernel
theorem dX3_ticks_65 : decode cX3_ticks 65 = .ok (.getfield 29, 3) := by decide +kernel
theorem dX3_ticks_68 : decode cX3_ticks 68 = .ok (.getfield 85, 3) := by decide +kernel
theorem dX3_ticks_71 : decode cX3_ticks 71 = .ok (.iload_n 2, 1) := by decide +kernel
theorem dX3_ticks_72 : decode cX3_ticks 72 = .ok (.isub, 1) := by decide +kernel
theorem dX3_ticks_73 : decode cX3_ticks 73 = .ok (.ireturn, 1) := by decide +kernel
theorem dX3_undo_0 : decode cX3_undo 0 = .ok (.aload_n 0, 1) := by decide +kernel
theorem dX3_undo_1 : decode cX3_undo 1 = .ok (.getfield 65, 3) := by decide +kernel
theorem dX3_undo_4 : decode cX3_undo 4 = .ok (.ifCond .gt 6, 3) := by decide +kernel
theorem dX3_undo_7 : decode cX3_undo 7 = .ok (.bipush (-2), 2) := by decide +kernel
theorem dX3_undo_9 : decode cX3_undo 9 = .ok (.ireturn, 1) := by decide +kernel
theorem dX3_undo_10 : decode cX3_undo 10 = .ok (.aload_n 0, 1) := by decide +kernel
theorem dX3_undo_11 : decode cX3_undo 11 = .ok (.getfield 39, 3) := by decide +kernel
theorem dX3_undo_14 : decode cX3_undo 14 = .ok (.iconst 0, 1) := by decide +kernel
theorem dX3_undo_15 : decode cX3_undo 15 = .ok (.aaload, 1) := by decide +kernel
theorem dX3_undo_16 : decode cX3_undo 16 = .ok (.astore_n 1, 1) := by decide +kernel
theorem dX3_undo_17 : decode cX3_undo 17 = .ok (.aload_n 0, 1) := by decide +kernel
theorem dX3_undo_18 : decode cX3_undo 18 = .ok (.getfield 29, 3) := by decide +kernel
theorem dX3_undo_21 : decode cX3_undo 21 = .ok (.aload_n 1, 1) := by decide +kernel
theorem dX3_undo_22 : decode cX3_undo 22 = .ok (.invokevirtual 92, 3) := by decide +kernel
theorem dX3_undo_25 : decode cX3_undo 25 = .ok (.iconst 1, 1) := by decide +kernel
theorem dX3_undo_26 : decode cX3_undo 26 = .ok (.istore_n 2, 1) := by decide +kernel
theorem dX3_undo_27 : decode cX3_undo 27 = .ok (.iload_n 2, 1) := by decide +kernel
theorem dX3_undo_28 : decode cX3_undo 28 = .ok (.aload_n 0, 1) := by decide +kernel
theorem dX3_undo_29 : decode cX3_undo 29 = .ok (.getfield 39, 3) := by decide +kernel
theorem dX3_undo_32 : decode cX3_undo 32 = .ok (.arraylength, 1) := by decide +kernel
theorem dX3_undo_33 : decode cX3_undo 33 = .ok (.if_icmp .ge 23, 3) := by decide +kernel
theorem dX3_undo_36 : decode cX3_undo 36 = .ok (.aload_n 0, 1) := by decide +kernel
theorem dX3_undo_37 : decode cX3_undo 37 = .ok (.getfield 39, 3) := by decide +kernel
theorem dX3_undo_40 : decode cX3_undo 40 = .ok (.iload_n 2, 1) := by decide +kernel
theorem dX3_undo_41 : decode cX3_undo 41 = .ok (.iconst 1, 1) := by decide +kernel
theorem dX3_undo_42 : decode cX3_undo 42 = .ok (.isub, 1) := by decide +kernel
theorem dX3_undo_43 : decode cX3_undo 43 = .ok (.aload_n 0, 1) := by decide +kernel
theorem dX3_undo_44 : decode cX3_undo 44 = .ok (.getfield 39, 3) := by decide +kernel
theorem dX3_undo_47 : decode cX3_undo 47 = .ok (.iload_n 2, 1) := by decide +kernel
theorem dX3_undo_48 : decode cX3_undo 48 = .ok (.aaload, 1) := by decide +kernel
theorem dX3_undo_49 : decode cX3_undo 49 = .ok (.aastore, 1) := by decide +kernel
theorem dX3_undo_50 : decode cX3_undo 50 = .ok (.iinc 2 1, 3) := by decide +kernel
theorem dX3_undo_53 : decode cX3_undo 53 = .ok (.goto (-26), 3) := by decide +kernel
theorem dX3_undo_56 : decode cX3_undo 56 = .ok (.aload_n 0, 1) := by decide +kernel
theorem dX3_undo_57 : decode cX3_undo 57 = .ok (.getfield 39, 3) := by decide +kernel
theorem dX3_undo_60 : decode cX3_undo 60 = .ok (.aload_n 0, 1) := by decide +kernel
theorem dX3_undo_61 : decode cX3_undo 61 = .ok (.getfield 39, 3) := by decide +kernel
theorem dX3_undo_64 : decode cX3_undo 64 = .ok (.arraylength, 1) := by decide +kernel
theorem dX3_undo_65 : decode cX3_undo 65 = .ok (.iconst 1, 1) := by decide +kernel
theorem dX3_undo_66 : decode cX3_undo 66 = .ok (.isub, 1) := by decide +kernel
theorem dX3_undo_67 : decode cX3_undo 67 = .ok (.aload_n 1, 1) := by decide +kernel
theorem dX3_undo_68 : decode cX3_undo 68 = .ok (.aastore, 1) := by decide +kernel
theorem dX3_undo_69 : decode cX3_undo 69 = .ok (.aload_n 0, 1) := by decide +kernel
theorem dX3_undo_70 : decode cX3_undo 70 = .ok (.dup, 1) := by decide +kernel
theorem dX3_undo_71 : decode cX3_undo 71 = .ok (.getfield 65, 3) := by decide +kernel
theorem dX3_undo_74 : decode cX3_undo 74 = .ok (.iconst 1, 1) := by decide +kernel
theorem dX3_undo_75 : decode cX3_undo 75 = .ok (.isub, 1) := by decide +kernel
theorem dX3_undo_76 : decode cX3_undo 76 = .ok (.putfield 65, 3) := by decide +kernel
theorem dX3_undo_79 : decode cX3_undo 79 = .ok (.aload_n 0, 1) := by decide +kernel
theorem dX3_undo_80 : decode cX3_undo 80 = .ok (.getfield 65, 3) := by decide +kernel
theorem dX3_undo_83 : decode cX3_undo 83 = .ok (.ireturn, 1) := by decide +kernel
theorem dX3_node_0 : decode cX3_node 0 = .ok (.aload_n 0, 1) := by decide +kernel
theorem dX3_node_1 : decode cX3_node 1 = .ok (.getfield 19, 3) := by decide +kernel
theorem dX3_node_4 : decode cX3_node 4 = .ok (.iload_n 1, 1) := by decide +kernel
theorem dX3_node_5 : decode cX3_node 5 = .ok (.invokevirtual 95, 3) := by decide +kernel
theorem dX3_node_8 : decode cX3_node 8 = .ok (.ifCond .ne 5, 3) := by decide +kernel
theorem dX3_node_11 : decode cX3_node 11 = .ok (.iconst (-1), 1) := by decide +kernel
theorem dX3_node_12 : decode cX3_node 12 = .ok (.ireturn, 1) := by decide +kernel
theorem dX3_node_13 : decode cX3_node 13 = .ok (.iload_n 2, 1) := by decide +kernel
theorem dX3_node_14 : decode cX3_node 14 = .ok (.tableswitch 143 0 7 #[46, 58, 70, 80, 90, 100, 119, 131], 46) := by decide +kernel
theorem dX3_node_60 : decode cX3_node 60 = .ok (.aload_n 0, 1) := by decide +kernel
theorem dX3_node_61 : decode cX3_node 61 = .ok (.getfield 19, 3) := by decide +kernel
theorem dX3_node_64 : decode cX3_node 64 = .ok (.getfield 98, 3) := by decide +kernel
theorem dX3_node_67 : decode cX3_node 67 = .ok (.iload_n 1, 1) := by decide +kernel
theorem dX3_node_68 : decode cX3_node 68 = .ok (.invokestatic 101, 3) := by decide +kernel
theorem dX3_node_71 : decode cX3_node 71 = .ok (.ireturn, 1) := by decide +kernel
theorem dX3_node_72 : decode cX3_node 72 = .ok (.aload_n 0, 1) := by decide +kernel
theorem dX3_node_73 : decode cX3_node 73 = .ok (.getfield 19, 3) := by decide +kernel
theorem dX3_node_76 : decode cX3_node 76 = .ok (.getfield 105, 3) := by decide +kernel
theorem dX3_node_79 : decode cX3_node 79 = .ok (.iload_n 1, 1) := by decide +kernel
theorem dX3_node_80 : decode cX3_node 80 = .ok (.invokestatic 101, 3) := by decide +kernel
theorem dX3_node_83 : decode cX3_node 83 = .ok (.ireturn, 1) := by decide +kernel
theorem dX3_node_84 : decode cX3_node 84 = .ok (.aload_n 0, 1) := by decide +kernel
theorem dX3_node_85 : decode cX3_node 85 = .ok (.getfield 19, 3) := by decide +kernel
theorem dX3_node_88 : decode cX3_node 88 = .ok (.iload_n 1, 1) := by decide +kernel
theorem dX3_node_89 : decode cX3_node 89 = .ok (.iconst 0, 1) := by decide +kernel
theorem dX3_node_90 : decode cX3_node 90 = .ok (.invokevirtual 108, 3) := by decide +kernel
theorem dX3_node_93 : decode cX3_node 93 = .ok (.ireturn, 1) := by decide +kernel
theorem dX3_node_94 : decode cX3_node 94 = .ok (.aload_n 0, 1) := by decide +kernel
theorem dX3_node_95 : decode cX3_node 95 = .ok (.getfield 19, 3) := by decide +kernel
theorem dX3_node_98 : decode cX3_node 98 = .ok (.iload_n 1, 1) := by decide +kernel
theorem dX3_node_99 : decode cX3_node 99 = .ok (.iconst 1, 1) := by decide +kernel
theorem dX3_node_100 : decode cX3_node 100 = .ok (.invokevirtual 108, 3) := by decide +kernel
theorem dX3_node_103 : decode cX3_node 103 = .ok (.ireturn, 1) := by decide +kernel
theorem dX3_node_104 : decode cX3_node 104 = .ok (.aload_n 0, 1) := by decide +kernel
theorem dX3_node_105 : decode cX3_node 105 = .ok (.getfield 19, 3) := by decide +kernel
theorem dX3_node_108 : decode cX3_node 108 = .ok (.iload_n 1, 1) := by decide +kernel
theorem dX3_node_109 : decode cX3_node 109 = .ok (.iconst 2, 1) := by decide +kernel
theorem dX3_node_110 : decode cX3_node 110 = .ok (.invokevirtual 108, 3) := by decide +kernel
theorem dX3_node_113 : decode cX3_node 113 = .ok (.ireturn, 1) := by decide +kernel
theorem dX3_node_114 : decode cX3_node 114 = .ok (.aload_n 0, 1) := by decide +kernel
theorem dX3_node_115 : decode cX3_node 115 = .ok (.getfield 19, 3) := by decide +kernel
theorem dX3_node_118 : decode cX3_node 118 = .ok (.aload_n 0, 1) := by decide +kernel
theorem dX3_node_119 : decode cX3_node 119 = .ok (.getfield 19, 3) := by decide +kernel
theorem dX3_node_122 : decode cX3_node 122 = .ok (.getfield 112, 3) := by decide +kernel
theorem dX3_node_125 : decode cX3_node 125 = .ok (.iload_n 1, 1) := by decide +kernel
theorem dX3_node_126 : decode cX3_node 126 = .ok (.invokestatic 101, 3) := by decide +kernel
theorem dX3_node_129 : decode cX3_node 129 = .ok (.invokevirtual 115, 3) := by decide +kernel
theorem dX3_node_132 : decode cX3_node 132 = .ok (.ireturn, 1) := by decide +kernel
theorem dX3_node_133 : decode cX3_node 133 = .ok (.aload_n 0, 1) := by decide +kernel
theorem dX3_node_134 : decode cX3_node 134 = .ok (.getfield 19, 3) := by decide +kernel
theorem dX3_node_137 : decode cX3_node 137 = .ok (.getfield 112, 3) := by decide +kernel
theorem dX3_node_140 : decode cX3_node 140 = .ok (.iload_n 1, 1) := by decide +kernel
theorem dX3_node_141 : decode cX3_node 141 = .ok (.invokestatic 101, 3) := by decide +kernel
theorem dX3_node_144 : decode cX3_node 144 = .ok (.ireturn, 1) := by decide +kernel
theorem dX3_node_145 : decode cX3_node 145 = .ok (.aload_n 0, 1) := by decide +kernel
theorem dX3_node_146 : decode cX3_node 146 = .ok (.getfield 29, 3) := by decide +kernel
theorem dX3_node_149 : decode cX3_node 149 = .ok (.getfield 119, 3) := by decide +kernel
theorem dX3_node_152 : decode cX3_node 152 = .ok (.iload_n 1, 1) := by decide +kernel
theorem dX3_node_153 : decode cX3_node 153 = .ok (.invokestatic 101, 3) := by decide +kernel
theorem dX3_node_156 : decode cX3_node 156 = .ok (.ireturn, 1) := by decide +kernel
theorem dX3_node_157 : decode cX3_node 157 = .ok (.iconst (-1), 1) := by decide +kernel
theorem dX3_node_158 : decode cX3_node 158 = .ok (.ireturn, 1) := by decide +kernel
theorem dX3_register_0 : decode cX3_register 0 = .ok (.aload_n 0, 1) := by decide +kernel
theorem dX3_register_1 : decode cX3_register 1 = .ok (.getfield 19, 3) := by decide +kernel
theorem dX3_register_4 : decode cX3_register 4 = .ok (.iload_n 1, 1) := by decide +kernel
theorem dX3_register_5 : decode cX3_register 5 = .ok (.iconst 1, 1) := by decide +kernel
theorem dX3_register_6 : decode cX3_register 6 = .ok (.invokevirtual 74, 3) := by decide +kernel
theorem dX3_register_9 : decode cX3_register 9 = .ok (.ifCond .ne 5, 3) := by decide +kernel
theorem dX3_register_12 : decode cX3_register 12 = .ok (.iconst (-1), 1) := by decide +kernel
theorem dX3_register_13 : decode cX3_register 13 = .ok (.ireturn, 1) := by decide +kernel
theorem dX3_register_14 : decode cX3_register 14 = .ok (.iload_n 2, 1) := by decide +kernel
theorem dX3_register_15 : decode cX3_register 15 = .ok (.tableswitch 65 0 2 #[25, 37, 49], 25) := by decide +kernel
theorem dX3_register_40 : decode cX3_register 40 = .ok (.aload_n 0, 1) := by decide +kernel
theorem dX3_register_41 : decode cX3_register 41 = .ok (.getfield 19, 3) := by decide +kernel
theorem dX3_register_44 : decode cX3_register 44 = .ok (.getfield 122, 3) := by decide +kernel
theorem dX3_register_47 : decode cX3_register 47 = .ok (.iload_n 1, 1) := by decide +kernel
theorem dX3_register_48 : decode cX3_register 48 = .ok (.invokestatic 101, 3) := by decide +kernel
theorem dX3_register_51 : decode cX3_register 51 = .ok (.ireturn, 1) := by decide +kernel
theorem dX3_register_52 : decode cX3_register 52 = .ok (.aload_n 0, 1) := by decide +kernel
theorem dX3_register_53 : decode cX3_register 53 = .ok (.getfield 19, 3) := by decide +kernel
theorem dX3_register_56 : decode cX3_register 56 = .ok (.getfield 125, 3) := by decide +kernel
theorem dX3_register_59 : decode cX3_register 59 = .ok (.iload_n 1, 1) := by decide +kernel
theorem dX3_register_60 : decode cX3_register 60 = .ok (.invokestatic 101, 3) := by decide +kernel
theorem dX3_register_63 : decode cX3_register 63 = .ok (.ireturn, 1) := by decide +kernel
theorem dX3_register_64 : decode cX3_register 64 = .ok (.aload_n 0, 1) := by decide +kernel
theorem dX3_register_65 : decode cX3_register 65 = .ok (.getfield 19, 3) := by decide +kernel
theorem dX3_register_68 : decode cX3_register 68 = .ok (.iload_n 1, 1) := by decide +kernel
theorem dX3_register_69 : decode cX3_register 69 = .ok (.aload_n 0, 1) := by decide +kernel
theorem dX3_register_70 : decode cX3_register 70 = .ok (.getfield 29, 3) := by decide +kernel
theorem dX3_register_73 : decode cX3_register 73 = .ok (.getfield 68, 3) := by decide +kernel
theorem dX3_register_76 : decode cX3_register 76 = .ok (.invokevirtual 128, 3) := by decide +kernel
theorem dX3_register_79 : decode cX3_register 79 = .ok (.ireturn, 1) := by decide +kernel
theorem dX3_register_80 : decode cX3_register 80 = .ok (.iconst (-1), 1) := by decide +kernel
theorem dX3_register_81 : decode cX3_register 81 = .ok (.ireturn, 1) := by decide +kernel
theorem dX3_crossing_0 : decode cX3_crossing 0 = .ok (.iload_n 1, 1) := by decide +kernel
theorem dX3_crossing_1 : decode cX3_crossing 1 = .ok (.iconst (-1), 1) := by decide +kernel
theorem dX3_crossing_2 : decode cX3_crossing 2 = .ok (.if_icmp .ge 5, 3) := by decide +kernel
theorem dX3_crossing_5 : decode cX3_crossing 5 = .ok (.iconst (-1), 1) := by decide +kernel
theorem dX3_crossing_6 : decode cX3_crossing 6 = .ok (.ireturn, 1) := by decide +kernel
theorem dX3_crossing_7 : decode cX3_crossing 7 = .ok (.iconst 0, 1) := by decide +kernel
theorem dX3_crossing_8 : decode cX3_crossing 8 = .ok (.istore_n 2, 1) := by decide +kernel
theorem dX3_crossing_9 : decode cX3_crossing 9 = .ok (.iconst 0, 1) := by decide +kernel
theorem dX3_crossing_10 : decode cX3_crossing 10 = .ok (.istore_n 3, 1) := by decide +kernel
theorem dX3_crossing_11 : decode cX3_crossing 11 = .ok (.iload_n 3, 1) := by decide +kernel
theorem dX3_crossing_12 : decode cX3_crossing 12 = .ok (.aload_n 0, 1) := by decide +kernel
theorem dX3_crossing_13 : decode cX3_crossing 13 = .ok (.getfield 19, 3) := by decide +kernel
theorem dX3_crossing_16 : decode cX3_crossing 16 = .ok (.getfield 131, 3) := by decide +kernel
theorem dX3_crossing_19 : decode cX3_crossing 19 = .ok (.if_icmp .ge 30, 3) := by decide +kernel
theorem dX3_crossing_22 : decode cX3_crossing 22 = .ok (.aload_n 0, 1) := by decide +kernel
theorem dX3_crossing_23 : decode cX3_crossing 23 = .ok (.getfield 19, 3) := by decide +kernel
theorem dX3_crossing_26 : decode cX3_crossing 26 = .ok (.iload_n 3, 1) := by decide +kernel
theorem dX3_crossing_27 : decode cX3_crossing 27 = .ok (.invokevirtual 134, 3) := by decide +kernel
theorem dX3_crossing_30 : decode cX3_crossing 30 = .ok (.ifCond .eq 13, 3) := by decide +kernel
theorem dX3_crossing_33 : decode cX3_crossing 33 = .ok (.iload_n 2, 1) := by decide +kernel
theorem dX3_crossing_34 : decode cX3_crossing 34 = .ok (.iload_n 1, 1) := by decide +kernel
theorem dX3_crossing_35 : decode cX3_crossing 35 = .ok (.if_icmp .ne 5, 3) := by decide +kernel
theorem dX3_crossing_38 : decode cX3_crossing 38 = .ok (.iload_n 3, 1) := by decide +kernel
theorem dX3_crossing_39 : decode cX3_crossing 39 = .ok (.ireturn, 1) := by decide +kernel
theorem dX3_crossing_40 : decode cX3_crossing 40 = .ok (.iinc 2 1, 3) := by decide +kernel
theorem dX3_crossing_43 : decode cX3_crossing 43 = .ok (.iinc 3 1, 3) := by decide +kernel
theorem dX3_crossing_46 : decode cX3_crossing 46 = .ok (.goto (-35), 3) := by decide +kernel
theorem dX3_crossing_49 : decode cX3_crossing 49 = .ok (.iload_n 1, 1) := by decide +kernel
theorem dX3_crossing_50 : decode cX3_crossing 50 = .ok (.iconst (-1), 1) := by decide +kernel
theorem dX3_crossing_51 : decode cX3_crossing 51 = .ok (.if_icmp .ne 7, 3) := by decide +kernel
theorem dX3_crossing_54 : decode cX3_crossing 54 = .ok (.iload_n 2, 1) := by decide +kernel
theorem dX3_crossing_55 : decode cX3_crossing 55 = .ok (.goto 5, 3) := by decide +kernel
theorem dX3_crossing_58 : decode cX3_crossing 58 = .ok (.bipush (-9), 2) := by decide +kernel
theorem dX3_crossing_60 : decode cX3_crossing 60 = .ok (.ireturn, 1) := by decide +kernel
theorem dX3_kinds_0 : decode cX3_kinds 0 = .ok (.iload_n 1, 1) := by decide +kernel
theorem dX3_kinds_1 : decode cX3_kinds 1 = .ok (.ifCond .lt 8, 3) := by decide +kernel
theorem dX3_kinds_4 : decode cX3_kinds 4 = .ok (.iload_n 1, 1) := by decide +kernel
theorem dX3_kinds_5 : decode cX3_kinds 5 = .ok (.iconst 3, 1) := by decide +kernel
theorem dX3_kinds_6 : decode cX3_kinds 6 = .ok (.if_icmp .le 5, 3) := by decide +kernel
theorem dX3_kinds_9 : decode cX3_kinds 9 = .ok (.iconst (-1), 1) := by decide +kernel
theorem dX3_kinds_10 : decode cX3_kinds 10 = .ok (.ireturn, 1) := by decide +kernel
theorem dX3_kinds_11 : decode cX3_kinds 11 = .ok (.iconst 0, 1) := by decide +kernel
theorem dX3_kinds_12 : decode cX3_kinds 12 = .ok (.istore_n 2, 1) := by decide +kernel
theorem dX3_kinds_13 : decode cX3_kinds 13 = .ok (.iconst 0, 1) := by decide +kernel
theorem dX3_kinds_14 : decode cX3_kinds 14 = .ok (.istore_n 3, 1) := by decide +kernel
theorem dX3_kinds_15 : decode cX3_kinds 15 = .ok (.iload_n 3, 1) := by decide +kernel
theorem dX3_kinds_16 : decode cX3_kinds 16 = .ok (.aload_n 0, 1) := by decide +kernel
theorem dX3_kinds_17 : decode cX3_kinds 17 = .ok (.getfield 19, 3) := by decide +kernel
theorem dX3_kinds_20 : decode cX3_kinds 20 = .ok (.getfield 131, 3) := by decide +kernel
theorem dX3_kinds_23 : decode cX3_kinds 23 = .ok (.if_icmp .ge 31, 3) := by decide +kernel
theorem dX3_kinds_26 : decode cX3_kinds 26 = .ok (.aload_n 0, 1) := by decide +kernel
theorem dX3_kinds_27 : decode cX3_kinds 27 = .ok (.getfield 19, 3) := by decide +kernel
theorem dX3_kinds_30 : decode cX3_kinds 30 = .ok (.iload_n 3, 1) := by decide +kernel
theorem dX3_kinds_31 : decode cX3_kinds 31 = .ok (.aload_n 0, 1) := by decide +kernel
theorem dX3_kinds_32 : decode cX3_kinds 32 = .ok (.getfield 29, 3) := by decide +kernel
theorem dX3_kinds_35 : decode cX3_kinds 35 = .ok (.getfield 68, 3) := by decide +kernel
theorem dX3_kinds_38 : decode cX3_kinds 38 = .ok (.invokevirtual 128, 3) := by decide +kernel
theorem dX3_kinds_41 : decode cX3_kinds 41 = .ok (.iload_n 1, 1) := by decide +kernel
theorem dX3_kinds_42 : decode cX3_kinds 42 = .ok (.if_icmp .ne 6, 3) := by decide +kernel
theorem dX3_kinds_45 : decode cX3_kinds 45 = .ok (.iinc 2 1, 3) := by decide +kernel
theorem dX3_kinds_48 : decode cX3_kinds 48 = .ok (.iinc 3 1, 3) := by decide +kernel
theorem dX3_kinds_51 : decode cX3_kinds 51 = .ok (.goto (-36), 3) := by decide +kernel
theorem dX3_kinds_54 : decode cX3_kinds 54 = .ok (.iload_n 2, 1) := by decide +kernel
theorem dX3_kinds_55 : decode cX3_kinds 55 = .ok (.ireturn, 1) := by decide +kernel
theorem dX3_join_0 : decode cX3_join 0 = .ok (.iload_n 1, 1) := by decide +kernel
theorem dX3_join_1 : decode cX3_join 1 = .ok (.iconst (-1), 1) := by decide +kernel
theorem dX3_join_2 : decode cX3_join 2 = .ok (.if_icmp .lt 21, 3) := by decide +kernel
theorem dX3_join_5 : decode cX3_join 5 = .ok (.iload_n 2, 1) := by decide +kernel
theorem dX3_join_6 : decode cX3_join 6 = .ok (.ifCond .lt 17, 3) := by decide +kernel
theorem dX3_join_9 : decode cX3_join 9 = .ok (.iload_n 2, 1) := by decide +kernel
theorem dX3_join_10 : decode cX3_join 10 = .ok (.iconst 2, 1) := by decide +kernel
theorem dX3_join_11 : decode cX3_join 11 = .ok (.if_icmp .gt 12, 3) := by decide +kernel
theorem dX3_join_14 : decode cX3_join 14 = .ok (.iload_n 1, 1) := by decide +kernel
theorem dX3_join_15 : decode cX3_join 15 = .ok (.iconst (-1), 1) := by decide +kernel
theorem dX3_join_16 : decode cX3_join 16 = .ok (.if_icmp .ne 9, 3) := by decide +kernel
theorem dX3_join_19 : decode cX3_join 19 = .ok (.iload_n 2, 1) := by decide +kernel
theorem dX3_join_20 : decode cX3_join 20 = .ok (.ifCond .eq 5, 3) := by decide +kernel
theorem dX3_join_23 : decode cX3_join 23 = .ok (.iconst (-1), 1) := by decide +kernel
theorem dX3_join_24 : decode cX3_join 24 = .ok (.ireturn, 1) := by decide +kernel
theorem dX3_join_25 : decode cX3_join 25 = .ok (.iconst 0, 1) := by decide +kernel
theorem dX3_join_26 : decode cX3_join 26 = .ok (.istore_n 3, 1) := by decide +kernel
theorem dX3_join_27 : decode cX3_join 27 = .ok (.iconst 0, 1) := by decide +kernel
theorem dX3_join_28 : decode cX3_join 28 = .ok (.istore 4, 2) := by decide +kernel
theorem dX3_join_30 : decode cX3_join 30 = .ok (.iload 4, 2) := by decide +kernel
theorem dX3_join_32 : decode cX3_join 32 = .ok (.aload_n 0, 1) := by decide +kernel
theorem dX3_join_33 : decode cX3_join 33 = .ok (.getfield 19, 3) := by decide +kernel
theorem dX3_join_36 : decode cX3_join 36 = .ok (.getfield 131, 3) := by decide +kernel
theorem dX3_join_39 : decode cX3_join 39 = .ok (.if_icmp .ge 83, 3) := by decide +kernel
theorem dX3_join_42 : decode cX3_join 42 = .ok (.iload 4, 2) := by decide +kernel
theorem dX3_join_44 : decode cX3_join 44 = .ok (.iconst 1, 1) := by decide +kernel
theorem dX3_join_45 : decode cX3_join 45 = .ok (.iadd, 1) := by decide +kernel
theorem dX3_join_46 : decode cX3_join 46 = .ok (.istore 5, 2) := by decide +kernel
theorem dX3_join_48 : decode cX3_join 48 = .ok (.iload 5, 2) := by decide +kernel
theorem dX3_join_50 : decode cX3_join 50 = .ok (.aload_n 0, 1) := by decide +kernel
theorem dX3_join_51 : decode cX3_join 51 = .ok (.getfield 19, 3) := by decide +kernel
theorem dX3_join_54 : decode cX3_join 54 = .ok (.getfield 131, 3) := by decide +kernel
theorem dX3_join_57 : decode cX3_join 57 = .ok (.if_icmp .ge 59, 3) := by decide +kernel
theorem dX3_join_60 : decode cX3_join 60 = .ok (.aload_n 0, 1) := by decide +kernel
theorem dX3_join_61 : decode cX3_join 61 = .ok (.getfield 19, 3) := by decide +kernel
theorem dX3_join_64 : decode cX3_join 64 = .ok (.iload 4, 2) := by decide +kernel
theorem dX3_join_66 : decode cX3_join 66 = .ok (.iload 5, 2) := by decide +kernel
theorem dX3_join_68 : decode cX3_join 68 = .ok (.invokevirtual 137, 3) := by decide +kernel
theorem dX3_join_71 : decode cX3_join 71 = .ok (.istore 6, 2) := by decide +kernel
theorem dX3_join_73 : decode cX3_join 73 = .ok (.iload 6, 2) := by decide +kernel
theorem dX3_join_75 : decode cX3_join 75 = .ok (.bipush (-9), 2) := by decide +kernel
theorem dX3_join_77 : decode cX3_join 77 = .ok (.if_icmp .eq 33, 3) := by decide +kernel
theorem dX3_join_80 : decode cX3_join 80 = .ok (.iload_n 3, 1) := by decide +kernel
theorem dX3_join_81 : decode cX3_join 81 = .ok (.iload_n 1, 1) := by decide +kernel
theorem dX3_join_82 : decode cX3_join 82 = .ok (.if_icmp .ne 25, 3) := by decide +kernel
theorem dX3_join_85 : decode cX3_join 85 = .ok (.iload_n 2, 1) := by decide +kernel
theorem dX3_join_86 : decode cX3_join 86 = .ok (.ifCond .ne 8, 3) := by decide +kernel
theorem dX3_join_89 : decode cX3_join 89 = .ok (.iload 4, 2) := by decide +kernel
theorem dX3_join_91 : decode cX3_join 91 = .ok (.goto 15, 3) := by decide +kernel
theorem dX3_join_94 : decode cX3_join 94 = .ok (.iload_n 2, 1) := by decide +kernel
theorem dX3_join_95 : decode cX3_join 95 = .ok (.iconst 1, 1) := by decide +kernel
theorem dX3_join_96 : decode cX3_join 96 = .ok (.if_icmp .ne 8, 3) := by decide +kernel
theorem dX3_join_99 : decode cX3_join 99 = .ok (.iload 5, 2) := by decide +kernel
theorem dX3_join_101 : decode cX3_join 101 = .ok (.goto 5, 3) := by decide +kernel
theorem dX3_join_104 : decode cX3_join 104 = .ok (.iload 6, 2) := by decide +kernel
theorem dX3_join_106 : decode cX3_join 106 = .ok (.ireturn, 1) := by decide +kernel
theorem dX3_join_107 : decode cX3_join 107 = .ok (.iinc 3 1, 3) := by decide +kernel
theorem dX3_join_110 : decode cX3_join 110 = .ok (.iinc 5 1, 3) := by decide +kernel
theorem dX3_join_113 : decode cX3_join 113 = .ok (.goto (-65), 3) := by decide +kernel
theorem dX3_join_116 : decode cX3_join 116 = .ok (.iinc 4 1, 3) := by decide +kernel
theorem dX3_join_119 : decode cX3_join 119 = .ok (.goto (-89), 3) := by decide +kernel
theorem dX3_join_122 : decode cX3_join 122 = .ok (.iload_n 1, 1) := by decide +kernel
theorem dX3_join_123 : decode cX3_join 123 = .ok (.iconst (-1), 1) := by decide +kernel
theorem dX3_join_124 : decode cX3_join 124 = .ok (.if_icmp .ne 7, 3) := by decide +kernel
theorem dX3_join_127 : decode cX3_join 127 = .ok (.iload_n 3, 1) := by decide +kernel
theorem dX3_join_128 : decode cX3_join 128 = .ok (.goto 5, 3) := by decide +kernel
theorem dX3_join_131 : decode cX3_join 131 = .ok (.bipush (-9), 2) := by decide +kernel
theorem dX3_join_133 : decode cX3_join 133 = .ok (.ireturn, 1) := by decide +kernel
theorem dX3_risk_0 : decode cX3_risk 0 = .ok (.fconst 0, 1) := by decide +kernel
theorem dX3_risk_1 : decode cX3_risk 1 = .ok (.fstore_n 1, 1) := by decide +kernel
theorem dX3_risk_2 : decode cX3_risk 2 = .ok (.iconst 0, 1) := by decide +kernel
theorem dX3_risk_3 : decode cX3_risk 3 = .ok (.istore_n 2, 1) := by decide +kernel
theorem dX3_risk_4 : decode cX3_risk 4 = .ok (.iload_n 2, 1) := by decide +kernel
theorem dX3_risk_5 : decode cX3_risk 5 = .ok (.aload_n 0, 1) := by decide +kernel
theorem dX3_risk_6 : decode cX3_risk 6 = .ok (.getfield 19, 3) := by decide +kernel
theorem dX3_risk_9 : decode cX3_risk 9 = .ok (.getfield 131, 3) := by decide +kernel
theorem dX3_risk_12 : decode cX3_risk 12 = .ok (.if_icmp .ge 58, 3) := by decide +kernel
theorem dX3_risk_15 : decode cX3_risk 15 = .ok (.aload_n 0, 1) := by decide +kernel
theorem dX3_risk_16 : decode cX3_risk 16 = .ok (.getfield 19, 3) := by decide +kernel
theorem dX3_risk_19 : decode cX3_risk 19 = .ok (.iload_n 2, 1) := by decide +kernel
theorem dX3_risk_20 : decode cX3_risk 20 = .ok (.invokevirtual 134, 3) := by decide +kernel
theorem dX3_risk_23 : decode cX3_risk 23 = .ok (.ifCond .eq 41, 3) := by decide +kernel
theorem dX3_risk_26 : decode cX3_risk 26 = .ok (.fload_n 1, 1) := by decide +kernel
theorem dX3_risk_27 : decode cX3_risk 27 = .ok (.aload_n 0, 1) := by decide +kernel
theorem dX3_risk_28 : decode cX3_risk 28 = .ok (.getfield 19, 3) := by decide +kernel
theorem dX3_risk_31 : decode cX3_risk 31 = .ok (.iload_n 2, 1) := by decide +kernel
theorem dX3_risk_32 : decode cX3_risk 32 = .ok (.aload_n 0, 1) := by decide +kernel
theorem dX3_risk_33 : decode cX3_risk 33 = .ok (.getfield 29, 3) := by decide +kernel
theorem dX3_risk_36 : decode cX3_risk 36 = .ok (.getfield 68, 3) := by decide +kernel
theorem dX3_risk_39 : decode cX3_risk 39 = .ok (.invokevirtual 140, 3) := by decide +kernel
theorem dX3_risk_42 : decode cX3_risk 42 = .ok (.aload_n 0, 1) := by decide +kernel
theorem dX3_risk_43 : decode cX3_risk 43 = .ok (.getfield 19, 3) := by decide +kernel
theorem dX3_risk_46 : decode cX3_risk 46 = .ok (.aload_n 0, 1) := by decide +kernel
theorem dX3_risk_47 : decode cX3_risk 47 = .ok (.getfield 19, 3) := by decide +kernel
theorem dX3_risk_50 : decode cX3_risk 50 = .ok (.getfield 105, 3) := by decide +kernel
theorem dX3_risk_53 : decode cX3_risk 53 = .ok (.iload_n 2, 1) := by decide +kernel
theorem dX3_risk_54 : decode cX3_risk 54 = .ok (.invokestatic 101, 3) := by decide +kernel
theorem dX3_risk_57 : decode cX3_risk 57 = .ok (.invokevirtual 144, 3) := by decide +kernel
theorem dX3_risk_60 : decode cX3_risk 60 = .ok (.i2f, 1) := by decide +kernel
theorem dX3_risk_61 : decode cX3_risk 61 = .ok (.fdiv, 1) := by decide +kernel
theorem dX3_risk_62 : decode cX3_risk 62 = .ok (.fadd, 1) := by decide +kernel
theorem dX3_risk_63 : decode cX3_risk 63 = .ok (.fstore_n 1, 1) := by decide +kernel
theorem dX3_risk_64 : decode cX3_risk 64 = .ok (.iinc 2 1, 3) := by decide +kernel
theorem dX3_risk_67 : decode cX3_risk 67 = .ok (.goto (-63), 3) := by decide +kernel
theorem dX3_risk_70 : decode cX3_risk 70 = .ok (.ldc 147, 2) := by decide +kernel
theorem dX3_risk_72 : decode cX3_risk 72 = .ok (.fload_n 1, 1) := by decide +kernel
theorem dX3_risk_73 : decode cX3_risk 73 = .ok (.fmul, 1) := by decide +kernel
theorem dX3_risk_74 : decode cX3_risk 74 = .ok (.f2i, 1) := by decide +kernel
theorem dX3_risk_75 : decode cX3_risk 75 = .ok (.ireturn, 1) := by decide +kernel
theorem dX3_period_0 : decode cX3_period 0 = .ok (.iload_n 1, 1) := by decide +kernel
theorem dX3_period_1 : decode cX3_period 1 = .ok (.ifCond .lt 8, 3) := by decide +kernel
theorem dX3_period_4 : decode cX3_period 4 = .ok (.iload_n 1, 1) := by decide +kernel
theorem dX3_period_5 : decode cX3_period 5 = .ok (.iconst 3, 1) := by decide +kernel
theorem dX3_period_6 : decode cX3_period 6 = .ok (.if_icmp .lt 7, 3) := by decide +kernel
theorem dX3_period_9 : decode cX3_period 9 = .ok (.iconst (-1), 1) := by decide +kernel
theorem dX3_period_10 : decode cX3_period 10 = .ok (.goto 11, 3) := by decide +kernel
theorem dX3_period_13 : decode cX3_period 13 = .ok (.aload_n 0, 1) := by decide +kernel
theorem dX3_period_14 : decode cX3_period 14 = .ok (.getfield 19, 3) := by decide +kernel
theorem dX3_period_17 : decode cX3_period 17 = .ok (.iload_n 1, 1) := by decide +kernel
theorem dX3_period_18 : decode cX3_period 18 = .ok (.invokevirtual 144, 3) := by decide +kernel
theorem dX3_period_21 : decode cX3_period 21 = .ok (.ireturn, 1) := by decide +kernel
theorem dX3_wish_0 : decode cX3_wish 0 = .ok (.aload_n 0, 1) := by decide +kernel
theorem dX3_wish_1 : decode cX3_wish 1 = .ok (.getfield 19, 3) := by decide +kernel
theorem dX3_wish_4 : decode cX3_wish 4 = .ok (.iload_n 1, 1) := by decide +kernel
theorem dX3_wish_5 : decode cX3_wish 5 = .ok (.iconst 0, 1) := by decide +kernel
theorem dX3_wish_6 : decode cX3_wish 6 = .ok (.invokevirtual 74, 3) := by decide +kernel
theorem dX3_wish_9 : decode cX3_wish 9 = .ok (.ifCond .eq 17, 3) := by decide +kernel
theorem dX3_wish_12 : decode cX3_wish 12 = .ok (.aload_n 0, 1) := by decide +kernel
theorem dX3_wish_13 : decode cX3_wish 13 = .ok (.getfield 29, 3) := by decide +kernel
theorem dX3_wish_16 : decode cX3_wish 16 = .ok (.getfield 78, 3) := by decide +kernel
theorem dX3_wish_19 : decode cX3_wish 19 = .ok (.iload_n 1, 1) := by decide +kernel
theorem dX3_wish_20 : decode cX3_wish 20 = .ok (.invokestatic 101, 3) := by decide +kernel
theorem dX3_wish_23 : decode cX3_wish 23 = .ok (.goto 4, 3) := by decide +kernel
theorem dX3_wish_26 : decode cX3_wish 26 = .ok (.iconst (-1), 1) := by decide +kernel
theorem dX3_wish_27 : decode cX3_wish 27 = .ok (.ireturn, 1) := by decide +kernel
theorem dX3_when_0 : decode cX3_when 0 = .ok (.aload_n 0, 1) := by decide +kernel
theorem dX3_when_1 : decode cX3_when 1 = .ok (.getfield 19, 3) := by decide +kernel
theorem dX3_when_4 : decode cX3_when 4 = .ok (.iload_n 1, 1) := by decide +kernel
theorem dX3_when_5 : decode cX3_when 5 = .ok (.invokevirtual 95, 3) := by decide +kernel
theorem dX3_when_8 : decode cX3_when 8 = .ok (.ifCond .eq 12, 3) := by decide +kernel
theorem dX3_when_11 : decode cX3_when 11 = .ok (.iload_n 2, 1) := by decide +kernel
theorem dX3_when_12 : decode cX3_when 12 = .ok (.ifCond .lt 8, 3) := by decide +kernel
theorem dX3_when_15 : decode cX3_when 15 = .ok (.iload_n 2, 1) := by decide +kernel
theorem dX3_when_16 : decode cX3_when 16 = .ok (.iconst 2, 1) := by decide +kernel
theorem dX3_when_17 : decode cX3_when 17 = .ok (.if_icmp .le 5, 3) := by decide +kernel
theorem dX3_when_20 : decode cX3_when 20 = .ok (.iconst (-1), 1) := by decide +kernel
theorem dX3_when_21 : decode cX3_when 21 = .ok (.ireturn, 1) := by decide +kernel
theorem dX3_when_22 : decode cX3_when 22 = .ok (.aload_n 0, 1) := by decide +kernel
theorem dX3_when_23 : decode cX3_when 23 = .ok (.getfield 36, 3) := by decide +kernel
theorem dX3_when_26 : decode cX3_when 26 = .ok (.aload_n 0, 1) := by decide +kernel
theorem dX3_when_27 : decode cX3_when 27 = .ok (.getfield 29, 3) := by decide +kernel
theorem dX3_when_30 : decode cX3_when 30 = .ok (.invokevirtual 92, 3) := by decide +kernel
theorem dX3_when_33 : decode cX3_when 33 = .ok (.iconst 0, 1) := by decide +kernel
theorem dX3_when_34 : decode cX3_when 34 = .ok (.istore_n 3, 1) := by decide +kernel
theorem dX3_when_35 : decode cX3_when 35 = .ok (.iload_n 3, 1) := by decide +kernel
theorem dX3_when_36 : decode cX3_when 36 = .ok (.bipush 99, 2) := by decide +kernel
theorem dX3_when_38 : decode cX3_when 38 = .ok (.if_icmp .gt 34, 3) := by decide +kernel
theorem dX3_when_41 : decode cX3_when 41 = .ok (.aload_n 0, 1) := by decide +kernel
theorem dX3_when_42 : decode cX3_when 42 = .ok (.getfield 36, 3) := by decide +kernel
theorem dX3_when_45 : decode cX3_when 45 = .ok (.getfield 119, 3) := by decide +kernel
theorem dX3_when_48 : decode cX3_when 48 = .ok (.iload_n 1, 1) := by decide +kernel
theorem dX3_when_49 : decode cX3_when 49 = .ok (.invokestatic 101, 3) := by decide +kernel
theorem dX3_when_52 : decode cX3_when 52 = .ok (.iload_n 2, 1) := by decide +kernel
theorem dX3_when_53 : decode cX3_when 53 = .ok (.if_icmp .ne 5, 3) := by decide +kernel
theorem dX3_when_56 : decode cX3_when 56 = .ok (.iload_n 3, 1) := by decide +kernel
theorem dX3_when_57 : decode cX3_when 57 = .ok (.ireturn, 1) := by decide +kernel
theorem dX3_when_58 : decode cX3_when 58 = .ok (.aload_n 0, 1) := by decide +kernel
theorem dX3_when_59 : decode cX3_when 59 = .ok (.aload_n 0, 1) := by decide +kernel
theorem dX3_when_60 : decode cX3_when 60 = .ok (.getfield 36, 3) := by decide +kernel
theorem dX3_when_63 : decode cX3_when 63 = .ok (.invokevirtual 88, 3) := by decide +kernel
theorem dX3_when_66 : decode cX3_when 66 = .ok (.iinc 3 1, 3) := by decide +kernel
theorem dX3_when_69 : decode cX3_when 69 = .ok (.goto (-34), 3) := by decide +kernel
theorem dX3_when_72 : decode cX3_when 72 = .ok (.bipush (-9), 2) := by decide +kernel
theorem dX3_when_74 : decode cX3_when 74 = .ok (.ireturn, 1) := by decide +kernel
theorem dX3_keep_0 : decode cX3_keep 0 = .ok (.iload_n 1, 1) := by decide +kernel
theorem dX3_keep_1 : decode cX3_keep 1 = .ok (.ifCond .lt 8, 3) := by decide +kernel
theorem dX3_keep_4 : decode cX3_keep 4 = .ok (.iload_n 1, 1) := by decide +kernel
theorem dX3_keep_5 : decode cX3_keep 5 = .ok (.iconst 2, 1) := by decide +kernel
theorem dX3_keep_6 : decode cX3_keep 6 = .ok (.if_icmp .lt 5, 3) := by decide +kernel
theorem dX3_keep_9 : decode cX3_keep 9 = .ok (.iconst (-1), 1) := by decide +kernel
theorem dX3_keep_10 : decode cX3_keep 10 = .ok (.ireturn, 1) := by decide +kernel
theorem dX3_keep_11 : decode cX3_keep 11 = .ok (.aload_n 0, 1) := by decide +kernel
theorem dX3_keep_12 : decode cX3_keep 12 = .ok (.getfield 43, 3) := by decide +kernel
theorem dX3_keep_15 : decode cX3_keep 15 = .ok (.iload_n 1, 1) := by decide +kernel
theorem dX3_keep_16 : decode cX3_keep 16 = .ok (.aaload, 1) := by decide +kernel
theorem dX3_keep_17 : decode cX3_keep 17 = .ok (.aload_n 0, 1) := by decide +kernel
theorem dX3_keep_18 : decode cX3_keep 18 = .ok (.getfield 29, 3) := by decide +kernel
theorem dX3_keep_21 : decode cX3_keep 21 = .ok (.invokevirtual 92, 3) := by decide +kernel
theorem dX3_keep_24 : decode cX3_keep 24 = .ok (.aload_n 0, 1) := by decide +kernel
theorem dX3_keep_25 : decode cX3_keep 25 = .ok (.getfield 46, 3) := by decide +kernel
theorem dX3_keep_28 : decode cX3_keep 28 = .ok (.iload_n 1, 1) := by decide +kernel
theorem dX3_keep_29 : decode cX3_keep 29 = .ok (.iconst 1, 1) := by decide +kernel
theorem dX3_keep_30 : decode cX3_keep 30 = .ok (.bastore, 1) := by decide +kernel
theorem dX3_keep_31 : decode cX3_keep 31 = .ok (.aload_n 0, 1) := by decide +kernel
theorem dX3_keep_32 : decode cX3_keep 32 = .ok (.getfield 29, 3) := by decide +kernel
theorem dX3_keep_35 : decode cX3_keep 35 = .ok (.getfield 82, 3) := by decide +kernel
theorem dX3_keep_38 : decode cX3_keep 38 = .ok (.ireturn, 1) := by decide +kernel
theorem dX3_back_0 : decode cX3_back 0 = .ok (.iload_n 1, 1) := by decide +kernel
theorem dX3_back_1 : decode cX3_back 1 = .ok (.ifCond .lt 8, 3) := by decide +kernel
theorem dX3_back_4 : decode cX3_back 4 = .ok (.iload_n 1, 1) := by decide +kernel
theorem dX3_back_5 : decode cX3_back 5 = .ok (.iconst 2, 1) := by decide +kernel
theorem dX3_back_6 : decode cX3_back 6 = .ok (.if_icmp .lt 5, 3) := by decide +kernel
theorem dX3_back_9 : decode cX3_back 9 = .ok (.iconst (-1), 1) := by decide +kernel
theorem dX3_back_10 : decode cX3_back 10 = .ok (.ireturn, 1) := by decide +kernel
theorem dX3_back_11 : decode cX3_back 11 = .ok (.aload_n 0, 1) := by decide +kernel
theorem dX3_back_12 : decode cX3_back 12 = .ok (.getfield 46, 3) := by decide +kernel
theorem dX3_back_15 : decode cX3_back 15 = .ok (.iload_n 1, 1) := by decide +kernel
theorem dX3_back_16 : decode cX3_back 16 = .ok (.baload, 1) := by decide +kernel
theorem dX3_back_17 : decode cX3_back 17 = .ok (.ifCond .ne 6, 3) := by decide +kernel
theorem dX3_back_20 : decode cX3_back 20 = .ok (.bipush (-2), 2) := by decide +kernel
theorem dX3_back_22 : decode cX3_back 22 = .ok (.ireturn, 1) := by decide +kernel
theorem dX3_back_23 : decode cX3_back 23 = .ok (.aload_n 0, 1) := by decide +kernel
theorem dX3_back_24 : decode cX3_back 24 = .ok (.getfield 29, 3) := by decide +kernel
theorem dX3_back_27 : decode cX3_back 27 = .ok (.aload_n 0, 1) := by decide +kernel
theorem dX3_back_28 : decode cX3_back 28 = .ok (.getfield 43, 3) := by decide +kernel
theorem dX3_back_31 : decode cX3_back 31 = .ok (.iload_n 1, 1) := by decide +kernel
theorem dX3_back_32 : decode cX3_back 32 = .ok (.aaload, 1) := by decide +kernel
theorem dX3_back_33 : decode cX3_back 33 = .ok (.invokevirtual 92, 3) := by decide +kernel
theorem dX3_back_36 : decode cX3_back 36 = .ok (.aload_n 0, 1) := by decide +kernel
theorem dX3_back_37 : decode cX3_back 37 = .ok (.iconst 0, 1) := by decide +kernel
theorem dX3_back_38 : decode cX3_back 38 = .ok (.putfield 65, 3) := by decide +kernel
theorem dX3_back_41 : decode cX3_back 41 = .ok (.aload_n 0, 1) := by decide +kernel
theorem dX3_back_42 : decode cX3_back 42 = .ok (.getfield 29, 3) := by decide +kernel
theorem dX3_back_45 : decode cX3_back 45 = .ok (.getfield 82, 3) := by decide +kernel
theorem dX3_back_48 : decode cX3_back 48 = .ok (.ireturn, 1) := by decide +kernel
theorem dX3_count_0 : decode cX3_count 0 = .ok (.iload_n 1, 1) := by decide +kernel
theorem dX3_count_1 : decode cX3_count 1 = .ok (.tableswitch 108 0 7 #[47, 55, 63, 71, 79, 87, 95, 103], 47) := by decide +kernel
theorem dX3_count_48 : decode cX3_count 48 = .ok (.aload_n 0, 1) := by decide +kernel
theorem dX3_count_49 : decode cX3_count 49 = .ok (.getfield 19, 3) := by decide +kernel
theorem dX3_count_52 : decode cX3_count 52 = .ok (.getfield 131, 3) := by decide +kernel
theorem dX3_count_55 : decode cX3_count 55 = .ok (.ireturn, 1) := by decide +kernel
theorem dX3_count_56 : decode cX3_count 56 = .ok (.aload_n 0, 1) := by decide +kernel
theorem dX3_count_57 : decode cX3_count 57 = .ok (.getfield 19, 3) := by decide +kernel
theorem dX3_count_60 : decode cX3_count 60 = .ok (.getfield 148, 3) := by decide +kernel
theorem dX3_count_63 : decode cX3_count 63 = .ok (.ireturn, 1) := by decide +kernel
theorem dX3_count_64 : decode cX3_count 64 = .ok (.aload_n 0, 1) := by decide +kernel
theorem dX3_count_65 : decode cX3_count 65 = .ok (.getfield 29, 3) := by decide +kernel
theorem dX3_count_68 : decode cX3_count 68 = .ok (.getfield 68, 3) := by decide +kernel
theorem dX3_count_71 : decode cX3_count 71 = .ok (.ireturn, 1) := by decide +kernel
theorem dX3_count_72 : decode cX3_count 72 = .ok (.aload_n 0, 1) := by decide +kernel
theorem dX3_count_73 : decode cX3_count 73 = .ok (.getfield 29, 3) := by decide +kernel
theorem dX3_count_76 : decode cX3_count 76 = .ok (.getfield 82, 3) := by decide +kernel
theorem dX3_count_79 : decode cX3_count 79 = .ok (.ireturn, 1) := by decide +kernel
theorem dX3_count_80 : decode cX3_count 80 = .ok (.aload_n 0, 1) := by decide +kernel
theorem dX3_count_81 : decode cX3_count 81 = .ok (.getfield 29, 3) := by decide +kernel
theorem dX3_count_84 : decode cX3_count 84 = .ok (.getfield 85, 3) := by decide +kernel
theorem dX3_count_87 : decode cX3_count 87 = .ok (.ireturn, 1) := by decide +kernel
theorem dX3_count_88 : decode cX3_count 88 = .ok (.aload_n 0, 1) := by decide +kernel
theorem dX3_count_89 : decode cX3_count 89 = .ok (.getfield 29, 3) := by decide +kernel
theorem dX3_count_92 : decode cX3_count 92 = .ok (.getfield 151, 3) := by decide +kernel
theorem dX3_count_95 : decode cX3_count 95 = .ok (.ireturn, 1) := by decide +kernel
theorem dX3_count_96 : decode cX3_count 96 = .ok (.aload_n 0, 1) := by decide +kernel
theorem dX3_count_97 : decode cX3_count 97 = .ok (.getfield 10, 3) := by decide +kernel
theorem dX3_count_100 : decode cX3_count 100 = .ok (.getfield 54, 3) := by decide +kernel
theorem dX3_count_103 : decode cX3_count 103 = .ok (.ireturn, 1) := by decide +kernel
theorem dX3_count_104 : decode cX3_count 104 = .ok (.aload_n 0, 1) := by decide +kernel
theorem dX3_count_105 : decode cX3_count 105 = .ok (.getfield 65, 3) := by decide +kernel
theorem dX3_count_108 : decode cX3_count 108 = .ok (.ireturn, 1) := by decide +kernel
theorem dX3_count_109 : decode cX3_count 109 = .ok (.iconst (-1), 1) := by decide +kernel
theorem dX3_count_110 : decode cX3_count 110 = .ok (.ireturn, 1) := by decide +kernel
theorem dX3_tick_0 : decode cX3_tick 0 = .ok (.aload_n 0, 1) := by decide +kernel
theorem dX3_tick_1 : decode cX3_tick 1 = .ok (.getfield 33, 3) := by decide +kernel
theorem dX3_tick_4 : decode cX3_tick 4 = .ok (.aload_n 1, 1) := by decide +kernel
theorem dX3_tick_5 : decode cX3_tick 5 = .ok (.invokevirtual 92, 3) := by decide +kernel
theorem dX3_tick_8 : decode cX3_tick 8 = .ok (.aload_n 1, 1) := by decide +kernel
theorem dX3_tick_9 : decode cX3_tick 9 = .ok (.aload_n 0, 1) := by decide +kernel
theorem dX3_tick_10 : decode cX3_tick 10 = .ok (.getfield 33, 3) := by decide +kernel
theorem dX3_tick_13 : decode cX3_tick 13 = .ok (.aload_n 0, 1) := by decide +kernel
theorem dX3_tick_14 : decode cX3_tick 14 = .ok (.getfield 19, 3) := by decide +kernel
theorem dX3_tick_17 : decode cX3_tick 17 = .ok (.invokevirtual 154, 3) := by decide +kernel
theorem dX3_tick_20 : decode cX3_tick 20 = .ok (.return_, 1) := by decide +kernel
theorem dX3_remember_0 : decode cX3_remember 0 = .ok (.aload_n 0, 1) := by decide +kernel
theorem dX3_remember_1 : decode cX3_remember 1 = .ok (.getfield 39, 3) := by decide +kernel
theorem dX3_remember_4 : decode cX3_remember 4 = .ok (.aload_n 0, 1) := by decide +kernel
theorem dX3_remember_5 : decode cX3_remember 5 = .ok (.getfield 39, 3) := by decide +kernel
theorem dX3_remember_8 : decode cX3_remember 8 = .ok (.arraylength, 1) := by decide +kernel
theorem dX3_remember_9 : decode cX3_remember 9 = .ok (.iconst 1, 1) := by decide +kernel
theorem dX3_remember_10 : decode cX3_remember 10 = .ok (.isub, 1) := by decide +kernel
theorem dX3_remember_11 : decode cX3_remember 11 = .ok (.aaload, 1) := by decide +kernel
theorem dX3_remember_12 : decode cX3_remember 12 = .ok (.astore_n 1, 1) := by decide +kernel
theorem dX3_remember_13 : decode cX3_remember 13 = .ok (.aload_n 0, 1) := by decide +kernel
theorem dX3_remember_14 : decode cX3_remember 14 = .ok (.getfield 39, 3) := by decide +kernel
theorem dX3_remember_17 : decode cX3_remember 17 = .ok (.arraylength, 1) := by decide +kernel
theorem dX3_remember_18 : decode cX3_remember 18 = .ok (.iconst 1, 1) := by decide +kernel
theorem dX3_remember_19 : decode cX3_remember 19 = .ok (.isub, 1) := by decide +kernel
theorem dX3_remember_20 : decode cX3_remember 20 = .ok (.istore_n 2, 1) := by decide +kernel
theorem dX3_remember_21 : decode cX3_remember 21 = .ok (.iload_n 2, 1) := by decide +kernel
theorem dX3_remember_22 : decode cX3_remember 22 = .ok (.ifCond .le 23, 3) := by decide +kernel
theorem dX3_remember_25 : decode cX3_remember 25 = .ok (.aload_n 0, 1) := by decide +kernel
theorem dX3_remember_26 : decode cX3_remember 26 = .ok (.getfield 39, 3) := by decide +kernel
theorem dX3_remember_29 : decode cX3_remember 29 = .ok (.iload_n 2, 1) := by decide +kernel
theorem dX3_remember_30 : decode cX3_remember 30 = .ok (.aload_n 0, 1) := by decide +kernel
theorem dX3_remember_31 : decode cX3_remember 31 = .ok (.getfield 39, 3) := by decide +kernel
theorem dX3_remember_34 : decode cX3_remember 34 = .ok (.iload_n 2, 1) := by decide +kernel
theorem dX3_remember_35 : decode cX3_remember 35 = .ok (.iconst 1, 1) := by decide +kernel
theorem dX3_remember_36 : decode cX3_remember 36 = .ok (.isub, 1) := by decide +kernel
theorem dX3_remember_37 : decode cX3_remember 37 = .ok (.aaload, 1) := by decide +kernel
theorem dX3_remember_38 : decode cX3_remember 38 = .ok (.aastore, 1) := by decide +kernel
theorem dX3_remember_39 : decode cX3_remember 39 = .ok (.iinc 2 (-1), 3) := by decide +kernel
theorem dX3_remember_42 : decode cX3_remember 42 = .ok (.goto (-21), 3) := by decide +kernel
theorem dX3_remember_45 : decode cX3_remember 45 = .ok (.aload_n 1, 1) := by decide +kernel
theorem dX3_remember_46 : decode cX3_remember 46 = .ok (.aload_n 0, 1) := by decide +kernel
theorem dX3_remember_47 : decode cX3_remember 47 = .ok (.getfield 29, 3) := by decide +kernel
theorem dX3_remember_50 : decode cX3_remember 50 = .ok (.invokevirtual 92, 3) := by decide +kernel
theorem dX3_remember_53 : decode cX3_remember 53 = .ok (.aload_n 0, 1) := by decide +kernel
theorem dX3_remember_54 : decode cX3_remember 54 = .ok (.getfield 39, 3) := by decide +kernel
theorem dX3_remember_57 : decode cX3_remember 57 = .ok (.iconst 0, 1) := by decide +kernel
theorem dX3_remember_58 : decode cX3_remember 58 = .ok (.aload_n 1, 1) := by decide +kernel
theorem dX3_remember_59 : decode cX3_remember 59 = .ok (.aastore, 1) := by decide +kernel
theorem dX3_remember_60 : decode cX3_remember 60 = .ok (.aload_n 0, 1) := by decide +kernel
theorem dX3_remember_61 : decode cX3_remember 61 = .ok (.getfield 65, 3) := by decide +kernel
theorem dX3_remember_64 : decode cX3_remember 64 = .ok (.bipush 6, 2) := by decide +kernel
theorem dX3_remember_66 : decode cX3_remember 66 = .ok (.if_icmp .ge 13, 3) := by decide +kernel
theorem dX3_remember_69 : decode cX3_remember 69 = .ok (.aload_n 0, 1) := by decide +kernel
theorem dX3_remember_70 : decode cX3_remember 70 = .ok (.dup, 1) := by decide +kernel
theorem dX3_remember_71 : decode cX3_remember 71 = .ok (.getfield 65, 3) := by decide +kernel
theorem dX3_remember_74 : decode cX3_remember 74 = .ok (.iconst 1, 1) := by decide +kernel
theorem dX3_remember_75 : decode cX3_remember 75 = .ok (.iadd, 1) := by decide +kernel
theorem dX3_remember_76 : decode cX3_remember 76 = .ok (.putfield 65, 3) := by decide +kernel
theorem dX3_remember_79 : decode cX3_remember 79 = .ok (.return_, 1) := by decide +kernel
theorem dX3_at_0 : decode cX3_at 0 = .ok (.iload_n 1, 1) := by decide +kernel
theorem dX3_at_1 : decode cX3_at 1 = .ok (.ifCond .lt 15, 3) := by decide +kernel
theorem dX3_at_4 : decode cX3_at 4 = .ok (.iload_n 1, 1) := by decide +kernel
theorem dX3_at_5 : decode cX3_at 5 = .ok (.aload_n 0, 1) := by decide +kernel
theorem dX3_at_6 : decode cX3_at 6 = .ok (.arraylength, 1) := by decide +kernel
theorem dX3_at_7 : decode cX3_at 7 = .ok (.if_icmp .ge 9, 3) := by decide +kernel
theorem dX3_at_10 : decode cX3_at 10 = .ok (.aload_n 0, 1) := by decide +kernel
theorem dX3_at_11 : decode cX3_at 11 = .ok (.iload_n 1, 1) := by decide +kernel
theorem dX3_at_12 : decode cX3_at 12 = .ok (.iaload, 1) := by decide +kernel
theorem dX3_at_13 : decode cX3_at 13 = .ok (.goto 5, 3) := by decide +kernel
theorem dX3_at_16 : decode cX3_at 16 = .ok (.bipush (-9), 2) := by decide +kernel
theorem dX3_at_18 : decode cX3_at 18 = .ok (.ireturn, 1) := by decide +kernel
theorem dX3_hasBit_0 : decode cX3_hasBit 0 = .ok (.iload_n 1, 1) := by decide +kernel
theorem dX3_hasBit_1 : decode cX3_hasBit 1 = .ok (.ifCond .lt 21, 3) := by decide +kernel
theorem dX3_hasBit_4 : decode cX3_hasBit 4 = .ok (.iload_n 1, 1) := by decide +kernel
theorem dX3_hasBit_5 : decode cX3_hasBit 5 = .ok (.bipush 16, 2) := by decide +kernel
theorem dX3_hasBit_7 : decode cX3_hasBit 7 = .ok (.if_icmp .ge 15, 3) := by decide +kernel
theorem dX3_hasBit_10 : decode cX3_hasBit 10 = .ok (.iload_n 0, 1) := by decide +kernel
theorem dX3_hasBit_11 : decode cX3_hasBit 11 = .ok (.iload_n 1, 1) := by decide +kernel
theorem dX3_hasBit_12 : decode cX3_hasBit 12 = .ok (.ishr, 1) := by decide +kernel
theorem dX3_hasBit_13 : decode cX3_hasBit 13 = .ok (.iconst 1, 1) := by decide +kernel
theorem dX3_hasBit_14 : decode cX3_hasBit 14 = .ok (.iand, 1) := by decide +kernel
theorem dX3_hasBit_15 : decode cX3_hasBit 15 = .ok (.ifCond .eq 7, 3) := by decide +kernel
theorem dX3_hasBit_18 : decode cX3_hasBit 18 = .ok (.iconst 1, 1) := by decide +kernel
theorem dX3_hasBit_19 : decode cX3_hasBit 19 = .ok (.goto 4, 3) := by decide +kernel
theorem dX3_hasBit_22 : decode cX3_hasBit 22 = .ok (.iconst 0, 1) := by decide +kernel
theorem dX3_hasBit_23 : decode cX3_hasBit 23 = .ok (.ireturn, 1) := by decide +kernel
theorem dX4_init_0 : decode cX4_init 0 = .ok (.aload_n 0, 1) := by decide +kernel
theorem dX4_init_1 : decode cX4_init 1 = .ok (.invokespecial 1, 3) := by decide +kernel
theorem dX4_init_4 : decode cX4_init 4 = .ok (.aload_n 0, 1) := by decide +kernel
theorem dX4_init_5 : decode cX4_init 5 = .ok (.bipush 97, 2) := by decide +kernel
theorem dX4_init_7 : decode cX4_init 7 = .ok (.newarray .int, 2) := by decide +kernel
theorem dX4_init_9 : decode cX4_init 9 = .ok (.putfield 7, 3) := by decide +kernel
theorem dX4_init_12 : decode cX4_init 12 = .ok (.aload_n 0, 1) := by decide +kernel
theorem dX4_init_13 : decode cX4_init 13 = .ok (.bipush 97, 2) := by decide +kernel
theorem dX4_init_15 : decode cX4_init 15 = .ok (.newarray .int, 2) := by decide +kernel
theorem dX4_init_17 : decode cX4_init 17 = .ok (.putfield 13, 3) := by decide +kernel
theorem dX4_init_20 : decode cX4_init 20 = .ok (.aload_n 0, 1) := by decide +kernel
theorem dX4_init_21 : decode cX4_init 21 = .ok (.bipush 36, 2) := by decide +kernel
theorem dX4_init_23 : decode cX4_init 23 = .ok (.newarray .int, 2) := by decide +kernel
theorem dX4_init_25 : decode cX4_init 25 = .ok (.putfield 16, 3) := by decide +kernel
theorem dX4_init_28 : decode cX4_init 28 = .ok (.aload_n 0, 1) := by decide +kernel
theorem dX4_init_29 : decode cX4_init 29 = .ok (.bipush 36, 2) := by decide +kernel
theorem dX4_init_31 : decode cX4_init 31 = .ok (.newarray .int, 2) := by decide +kernel
theorem dX4_init_33 : decode cX4_init 33 = .ok (.putfield 19, 3) := by decide +kernel
theorem dX4_init_36 : decode cX4_init 36 = .ok (.aload_n 0, 1) := by decide +kernel
theorem dX4_init_37 : decode cX4_init 37 = .ok (.sipush 216, 3) := by decide +kernel
theorem dX4_init_40 : decode cX4_init 40 = .ok (.newarray .int, 2) := by decide +kernel
theorem dX4_init_42 : decode cX4_init 42 = .ok (.putfield 22, 3) := by decide +kernel
theorem dX4_init_45 : decode cX4_init 45 = .ok (.aload_n 0, 1) := by decide +kernel
theorem dX4_init_46 : decode cX4_init 46 = .ok (.bipush 72, 2) := by decide +kernel
theorem dX4_init_48 : decode cX4_init 48 = .ok (.newarray .int, 2) := by decide +kernel
theorem dX4_init_50 : decode cX4_init 50 = .ok (.putfield 25, 3) := by decide +kernel
theorem dX4_init_53 : decode cX4_init 53 = .ok (.aload_n 0, 1) := by decide +kernel
theorem dX4_init_54 : decode cX4_init 54 = .ok (.iconst 2, 1) := by decide +kernel
theorem dX4_init_55 : decode cX4_init 55 = .ok (.newarray .boolean, 2) := by decide +kernel
theorem dX4_init_57 : decode cX4_init 57 = .ok (.putfield 28, 3) := by decide +kernel
theorem dX4_init_60 : decode cX4_init 60 = .ok (.aload_n 0, 1) := by decide +kernel
theorem dX4_init_61 : decode cX4_init 61 = .ok (.bipush 16, 2) := by decide +kernel
theorem dX4_init_63 : decode cX4_init 63 = .ok (.newarray .int, 2) := by decide +kernel
theorem dX4_init_65 : decode cX4_init 65 = .ok (.putfield 32, 3) := by decide +kernel
theorem dX4_init_68 : decode cX4_init 68 = .ok (.aload_n 0, 1) := by decide +kernel
theorem dX4_init_69 : decode cX4_init 69 = .ok (.bipush 16, 2) := by decide +kernel
theorem dX4_init_71 : decode cX4_init 71 = .ok (.newarray .int, 2) := by decide +kernel
theorem dX4_init_73 : decode cX4_init 73 = .ok (.putfield 35, 3) := by decide +kernel
theorem dX4_init_76 : decode cX4_init 76 = .ok (.aload_n 0, 1) := by decide +kernel
theorem dX4_init_77 : decode cX4_init 77 = .ok (.sipush 160, 3) := by decide +kernel
theorem dX4_init_80 : decode cX4_init 80 = .ok (.newarray .int, 2) := by decide +kernel
theorem dX4_init_82 : decode cX4_init 82 = .ok (.putfield 38, 3) := by decide +kernel
theorem dX4_init_85 : decode cX4_init 85 = .ok (.aload_n 0, 1) := by decide +kernel
theorem dX4_init_86 : decode cX4_init 86 = .ok (.getfield 7, 3) := by decide +kernel
theorem dX4_init_89 : decode cX4_init 89 = .ok (.invokestatic 41, 3) := by decide +kernel
theorem dX4_init_92 : decode cX4_init 92 = .ok (.aload_n 0, 1) := by decide +kernel
theorem dX4_init_93 : decode cX4_init 93 = .ok (.invokevirtual 45, 3) := by decide +kernel
theorem dX4_init_96 : decode cX4_init 96 = .ok (.return_, 1) := by decide +kernel
theorem dX4_in_0 : decode cX4_in 0 = .ok (.iload_n 0, 1) := by decide +kernel
theorem dX4_in_1 : decode cX4_in 1 = .ok (.iload_n 1, 1) := by decide +kernel
theorem dX4_in_2 : decode cX4_in 2 = .ok (.if_icmp .lt 12, 3) := by decide +kernel
theorem dX4_in_5 : decode cX4_in 5 = .ok (.iload_n 0, 1) := by decide +kernel
theorem dX4_in_6 : decode cX4_in 6 = .ok (.iload_n 2, 1) := by decide +kernel
theorem dX4_in_7 : decode cX4_in 7 = .ok (.if_icmp .gt 7, 3) := by decide +kernel
theorem dX4_in_10 : decode cX4_in 10 = .ok (.iconst 1, 1) := by decide +kernel
theorem dX4_in_11 : decode cX4_in 11 = .ok (.goto 4, 3) := by decide +kernel
theorem dX4_in_14 : decode cX4_in 14 = .ok (.iconst 0, 1) := by decide +kernel
theorem dX4_in_15 : decode cX4_in 15 = .ok (.ireturn, 1) := by decide +kernel
theorem dX4_has_0 : decode cX4_has 0 = .ok (.iload_n 0, 1) := by decide +kernel
theorem dX4_has_1 : decode cX4_has 1 = .ok (.iload_n 1, 1) := by decide +kernel
theorem dX4_has_2 : decode cX4_has 2 = .ok (.ishr, 1) := by decide +kernel
theorem dX4_has_3 : decode cX4_has 3 = .ok (.iconst 1, 1) := by decide +kernel
theorem dX4_has_4 : decode cX4_has 4 = .ok (.iand, 1) := by decide +kernel
theorem dX4_has_5 : decode cX4_has 5 = .ok (.iconst 1, 1) := by decide +kernel
theorem dX4_has_6 : decode cX4_has 6 = .ok (.if_icmp .ne 7, 3) := by decide +kernel
theorem dX4_has_9 : decode cX4_has 9 = .ok (.iconst 1, 1) := by decide +kernel
theorem dX4_has_10 : decode cX4_has 10 = .ok (.goto 4, 3) := by decide +kernel
theorem dX4_has_13 : decode cX4_has 13 = .ok (.iconst 0, 1) := by decide +kernel
theorem dX4_has_14 : decode cX4_has 14 = .ok (.ireturn, 1) := by decide +kernel
theorem dX4_begin_0 : decode cX4_begin 0 = .ok (.iconst 0, 1) := by decide +kernel
theorem dX4_begin_1 : decode cX4_begin 1 = .ok (.istore_n 1, 1) := by decide +kernel
theorem dX4_begin_2 : decode cX4_begin 2 = .ok (.iload_n 1, 1) := by decide +kernel
theorem dX4_begin_3 : decode cX4_begin 3 = .ok (.bipush 97, 2) := by decide +kernel
theorem dX4_begin_5 : decode cX4_begin 5 = .ok (.if_icmp .ge 13, 3) := by decide +kernel
theorem dX4_begin_8 : decode cX4_begin 8 = .ok (.aload_n 0, 1) := by decide +kernel
theorem dX4_begin_9 : decode cX4_begin 9 = .ok (.iload_n 1, 1) := by decide +kernel
theorem dX4_begin_10 : decode cX4_begin 10 = .ok (.iconst 0, 1) := by decide +kernel
theorem dX4_begin_11 : decode cX4_begin 11 = .ok (.iastore, 1) := by decide +kernel
theorem dX4_begin_12 : decode cX4_begin 12 = .ok (.iinc 1 1, 3) := by decide +kernel
theorem dX4_begin_15 : decode cX4_begin 15 = .ok (.goto (-13), 3) := by decide +kernel
theorem dX4_begin_18 : decode cX4_begin 18 = .ok (.aload_n 0, 1) := by decide +kernel
theorem dX4_begin_19 : decode cX4_begin 19 = .ok (.bipush 92, 2) := by decide +kernel
theorem dX4_begin_21 : decode cX4_begin 21 = .ok (.iconst 2, 1) := by decide +kernel
theorem dX4_begin_22 : decode cX4_begin 22 = .ok (.iastore, 1) := by decide +kernel
theorem dX4_begin_23 : decode cX4_begin 23 = .ok (.aload_n 0, 1) := by decide +kernel
theorem dX4_begin_24 : decode cX4_begin 24 = .ok (.bipush 93, 2) := by decide +kernel
theorem dX4_begin_26 : decode cX4_begin 26 = .ok (.iconst 3, 1) := by decide +kernel
theorem dX4_begin_27 : decode cX4_begin 27 = .ok (.iastore, 1) := by decide +kernel
theorem dX4_begin_28 : decode cX4_begin 28 = .ok (.aload_n 0, 1) := by decide +kernel
theorem dX4_begin_29 : decode cX4_begin 29 = .ok (.bipush 94, 2) := by decide +kernel
theorem dX4_begin_31 : decode cX4_begin 31 = .ok (.iconst 5, 1) := by decide +kernel
theorem dX4_begin_32 : decode cX4_begin 32 = .ok (.iastore, 1) := by decide +kernel
theorem dX4_begin_33 : decode cX4_begin 33 = .ok (.return_, 1) := by decide +kernel
theorem dX4_start_0 : decode cX4_start 0 = .ok (.iconst 0, 1) := by decide +kernel
theorem dX4_start_1 : decode cX4_start 1 = .ok (.istore_n 1, 1) := by decide +kernel
theorem dX4_start_2 : decode cX4_start 2 = .ok (.iload_n 1, 1) := by decide +kernel
theorem dX4_start_3 : decode cX4_start 3 = .ok (.bipush 36, 2) := by decide +kernel
theorem dX4_start_5 : decode cX4_start 5 = .ok (.if_icmp .ge 16, 3) := by decide +kernel
theorem dX4_start_8 : decode cX4_start 8 = .ok (.aload_n 0, 1) := by decide +kernel
theorem dX4_start_9 : decode cX4_start 9 = .ok (.getfield 16, 3) := by decide +kernel
theorem dX4_start_12 : decode cX4_start 12 = .ok (.iload_n 1, 1) := by decide +kernel
theorem dX4_start_13 : decode cX4_start 13 = .ok (.iconst 0, 1) := by decide +kernel
theorem dX4_start_14 : decode cX4_start 14 = .ok (.iastore, 1) := by decide +kernel
theorem dX4_start_15 : decode cX4_start 15 = .ok (.iinc 1 1, 3) := by decide +kernel
theorem dX4_start_18 : decode cX4_start 18 = .ok (.goto (-16), 3) := by decide +kernel
theorem dX4_start_21 : decode cX4_start 21 = .ok (.aload_n 0, 1) := by decide +kernel
theorem dX4_start_22 : decode cX4_start 22 = .ok (.getfield 16, 3) := by decide +kernel
theorem dX4_start_25 : decode cX4_start 25 = .ok (.iconst 0, 1) := by decide +kernel
theorem dX4_start_26 : decode cX4_start 26 = .ok (.iconst 2, 1) := by decide +kernel
theorem dX4_start_27 : decode cX4_start 27 = .ok (.iastore, 1) := by decide +kernel
theorem dX4_start_28 : decode cX4_start 28 = .ok (.aload_n 0, 1) := by decide +kernel
theorem dX4_start_29 : decode cX4_start 29 = .ok (.iconst 0, 1) := by decide +kernel
theorem dX4_start_30 : decode cX4_start 30 = .ok (.putfield 48, 3) := by decide +kernel
theorem dX4_start_33 : decode cX4_start 33 = .ok (.aload_n 0, 1) := by decide +kernel
theorem dX4_start_34 : decode cX4_start 34 = .ok (.getfield 28, 3) := by decide +kernel
theorem dX4_start_37 : decode cX4_start 37 = .ok (.iconst 0, 1) := by decide +kernel
theorem dX4_start_38 : decode cX4_start 38 = .ok (.iconst 0, 1) := by decide +kernel
theorem dX4_start_39 : decode cX4_start 39 = .ok (.bastore, 1) := by decide +kernel
theorem dX4_start_40 : decode cX4_start 40 = .ok (.aload_n 0, 1) := by decide +kernel
theorem dX4_start_41 : decode cX4_start 41 = .ok (.getfield 28, 3) := by decide +kernel
theorem dX4_start_44 : decode cX4_start 44 = .ok (.iconst 1, 1) := by decide +kernel
theorem dX4_start_45 : decode cX4_start 45 = .ok (.iconst 0, 1) := by decide +kernel
theorem dX4_start_46 : decode cX4_start 46 = .ok (.bastore, 1) := by decide +kernel
theorem dX4_start_47 : decode cX4_start 47 = .ok (.return_, 1) := by decide +kernel
theorem dX4_many_0 : decode cX4_many 0 = .ok (.aload_n 0, 1) := by decide +kernel
theorem dX4_many_1 : decode cX4_many 1 = .ok (.getfield 7, 3) := by decide +kernel
theorem dX4_many_4 : decode cX4_many 4 = .ok (.bipush 95, 2) := by decide +kernel
theorem dX4_many_6 : decode cX4_many 6 = .ok (.iaload, 1) := by decide +kernel
theorem dX4_many_7 : decode cX4_many 7 = .ok (.ireturn, 1) := by decide +kernel
theorem dX4_isNode_0 : decode cX4_isNode 0 = .ok (.iload_n 1, 1) := by decide +kernel
theorem dX4_isNode_1 : decode cX4_isNode 1 = .ok (.iconst 0, 1) := by decide +kernel
theorem dX4_isNode_2 : decode cX4_isNode 2 = .ok (.aload_n 0, 1) := by decide +kernel
theorem dX4_isNode_3 : decode cX4_isNode 3 = .ok (.invokevirtual 52, 3) := by decide +kernel
theorem dX4_isNode_6 : decode cX4_isNode 6 = .ok (.iconst 1, 1) := by decide +kernel
theorem dX4_isNode_7 : decode cX4_isNode 7 = .ok (.isub, 1) := by decide +kernel
theorem dX4_isNode_8 : decode cX4_isNode 8 = .ok (.invokestatic 56, 3) := by decide +kernel
theorem dX4_isNode_11 : decode cX4_isNode 11 = .ok (.ireturn, 1) := by decide +kernel
theorem dX4_sort_0 : decode cX4_sort 0 = .ok (.aload_n 0, 1) := by decide +kernel
theorem dX4_sort_1 : decode cX4_sort 1 = .ok (.getfield 7, 3) := by decide +kernel
theorem dX4_sort_4 : decode cX4_sort 4 = .ok (.iload_n 1, 1) := by decide +kernel
theorem dX4_sort_5 : decode cX4_sort 5 = .ok (.iaload, 1) := by decide +kernel
theorem dX4_sort_6 : decode cX4_sort 6 = .ok (.ireturn, 1) := by decide +kernel
theorem dX4_isLeaf_0 : decode cX4_isLeaf 0 = .ok (.aload_n 0, 1) := by decide +kernel
theorem dX4_isLeaf_1 : decode cX4_isLeaf 1 = .ok (.getfield 7, 3) := by decide +kernel
theorem dX4_isLeaf_4 : decode cX4_isLeaf 4 = .ok (.iload_n 1, 1) := by decide +kernel
theorem dX4_isLeaf_5 : decode cX4_isLeaf 5 = .ok (.iaload, 1) := by decide +kernel
theorem dX4_isLeaf_6 : decode cX4_isLeaf 6 = .ok (.iconst 1, 1) := by decide +kernel
theorem dX4_isLeaf_7 : decode cX4_isLeaf 7 = .ok (.if_icmp .gt 7, 3) := by decide +kernel
theorem dX4_isLeaf_10 : decode cX4_isLeaf 10 = .ok (.iconst 1, 1) := by decide +kernel
theorem dX4_isLeaf_11 : decode cX4_isLeaf 11 = .ok (.goto 4, 3) := by decide +kernel
theorem dX4_isLeaf_14 : decode cX4_isLeaf 14 = .ok (.iconst 0, 1) := by decide +kernel
theorem dX4_isLeaf_15 : decode cX4_isLeaf 15 = .ok (.ireturn, 1) := by decide +kernel
theorem dX4_isRegister_0 : decode cX4_isRegister 0 = .ok (.aload_n 0, 1) := by decide +kernel
theorem dX4_isRegister_1 : decode cX4_isRegister 1 = .ok (.iload_n 1, 1) := by decide +kernel
theorem dX4_isRegister_2 : decode cX4_isRegister 2 = .ok (.invokevirtual 60, 3) := by decide +kernel
theorem dX4_isRegister_5 : decode cX4_isRegister 5 = .ok (.ifCond .eq 16, 3) := by decide +kernel
theorem dX4_isRegister_8 : decode cX4_isRegister 8 = .ok (.aload_n 0, 1) := by decide +kernel
theorem dX4_isRegister_9 : decode cX4_isRegister 9 = .ok (.iload_n 1, 1) := by decide +kernel
theorem dX4_isRegister_10 : decode cX4_isRegister 10 = .ok (.invokevirtual 64, 3) := by decide +kernel
theorem dX4_isRegister_13 : decode cX4_isRegister 13 = .ok (.iconst 1, 1) := by decide +kernel
theorem dX4_isRegister_14 : decode cX4_isRegister 14 = .ok (.if_icmp .ne 7, 3) := by decide +kernel
theorem dX4_isRegister_17 : decode cX4_isRegister 17 = .ok (.iconst 1, 1) := by decide +kernel
theorem dX4_isRegister_18 : decode cX4_isRegister 18 = .ok (.goto 4, 3) := by decide +kernel
theorem dX4_isRegister_21 : decode cX4_isRegister 21 = .ok (.iconst 0, 1) := by decide +kernel
theorem dX4_isRegister_22 : decode cX4_isRegister 22 = .ok (.ireturn, 1) := by decide +kernel
theorem dX4_clock_0 : decode cX4_clock 0 = .ok (.aload_n 0, 1) := by decide +kernel
theorem dX4_clock_1 : decode cX4_clock 1 = .ok (.getfield 7, 3) := by decide +kernel
theorem dX4_clock_4 : decode cX4_clock 4 = .ok (.bipush 16, 2) := by decide +kernel
theorem dX4_clock_6 : decode cX4_clock 6 = .ok (.iload_n 1, 1) := by decide +kernel
theorem dX4_clock_7 : decode cX4_clock 7 = .ok (.iadd, 1) := by decide +kernel
theorem dX4_clock_8 : decode cX4_clock 8 = .ok (.iaload, 1) := by decide +kernel
theorem dX4_clock_9 : decode cX4_clock 9 = .ok (.ireturn, 1) := by decide +kernel
theorem dX4_of_0 : decode cX4_of 0 = .ok (.aload_n 0, 1) := by decide +kernel
theorem dX4_of_1 : decode cX4_of 1 = .ok (.getfield 7, 3) := by decide +kernel
theorem dX4_of_4 : decode cX4_of 4 = .ok (.bipush 32, 2) := by decide +kernel
theorem dX4_of_6 : decode cX4_of 6 = .ok (.iconst 3, 1) := by decide +kernel
theorem dX4_of_7 : decode cX4_of 7 = .ok (.iload_n 1, 1) := by decide +kernel
theorem dX4_of_8 : decode cX4_of 8 = .ok (.imul, 1) := by decide +kernel
theorem dX4_of_9 : decode cX4_of 9 = .ok (.iadd, 1) := by decide +kernel
theorem dX4_of_10 : decode cX4_of 10 = .ok (.iload_n 2, 1) := by decide +kernel
theorem dX4_of_11 : decode cX4_of 11 = .ok (.iadd, 1) := by decide +kernel
theorem dX4_of_12 : decode cX4_of 12 = .ok (.iaload, 1) := by decide +kernel
theorem dX4_of_13 : decode cX4_of 13 = .ok (.ireturn, 1) := by decide +kernel
theorem dX4_hasMany_0 : decode cX4_hasMany 0 = .ok (.iload_n 0, 1) := by decide +kernel
theorem dX4_hasMany_1 : decode cX4_hasMany 1 = .ok (.ifCond .ne 7, 3) := by decide +kernel
theorem dX4_hasMany_4 : decode cX4_hasMany 4 = .ok (.iconst 0, 1) := by decide +kernel
theorem dX4_hasMany_5 : decode cX4_hasMany 5 = .ok (.goto 22, 3) := by decide +kernel
theorem dX4_hasMany_8 : decode cX4_hasMany 8 = .ok (.iload_n 0, 1) := by decide +kernel
theorem dX4_hasMany_9 : decode cX4_hasMany 9 = .ok (.iconst 1, 1) := by decide +kernel
theorem dX4_hasMany_10 : decode cX4_hasMany 10 = .ok (.if_icmp .ne 7, 3) := by decide +kernel
theorem dX4_hasMany_13 : decode cX4_hasMany 13 = .ok (.iconst 1, 1) := by decide +kernel
theorem dX4_hasMany_14 : decode cX4_hasMany 14 = .ok (.goto 13, 3) := by decide +kernel
theorem dX4_hasMany_17 : decode cX4_hasMany 17 = .ok (.iload_n 0, 1) := by decide +kernel
theorem dX4_hasMany_18 : decode cX4_hasMany 18 = .ok (.iconst 5, 1) := by decide +kernel
theorem dX4_hasMany_19 : decode cX4_hasMany 19 = .ok (.if_icmp .ne 7, 3) := by decide +kernel
theorem dX4_hasMany_22 : decode cX4_hasMany 22 = .ok (.iconst 3, 1) := by decide +kernel
theorem dX4_hasMany_23 : decode cX4_hasMany 23 = .ok (.goto 4, 3) := by decide +kernel
theorem dX4_hasMany_26 : decode cX4_hasMany 26 = .ok (.iconst 2, 1) := by decide +kernel
theorem dX4_hasMany_27 : decode cX4_hasMany 27 = .ok (.ireturn, 1) := by decide +kernel
theorem dX4_often_0 : decode cX4_often 0 = .ok (.iconst 0, 1) := by decide +kernel
theorem dX4_often_1 : decode cX4_often 1 = .ok (.istore_n 3, 1) := by decide +kernel
theorem dX4_often_2 : decode cX4_often 2 = .ok (.iconst 0, 1) := by decide +kernel
theorem dX4_often_3 : decode cX4_often 3 = .ok (.istore 4, 2) := by decide +kernel
theorem dX4_often_5 : decode cX4_often 5 = .ok (.iload 4, 2) := by decide +kernel
theorem dX4_often_7 : decode cX4_often 7 = .ok (.aload_n 0, 1) := by decide +kernel
theorem dX4_often_8 : decode cX4_often 8 = .ok (.iload_n 1, 1) := by decide +kernel
theorem dX4_often_9 : decode cX4_often 9 = .ok (.invokevirtual 64, 3) := by decide +kernel
theorem dX4_often_12 : decode cX4_often 12 = .ok (.invokestatic 68, 3) := by decide +kernel
theorem dX4_often_15 : decode cX4_often 15 = .ok (.if_icmp .ge 28, 3) := by decide +kernel
theorem dX4_often_18 : decode cX4_often 18 = .ok (.iload_n 3, 1) := by decide +kernel
theorem dX4_often_19 : decode cX4_often 19 = .ok (.aload_n 0, 1) := by decide +kernel
theorem dX4_often_20 : decode cX4_often 20 = .ok (.iload_n 1, 1) := by decide +kernel
theorem dX4_often_21 : decode cX4_often 21 = .ok (.iload 4, 2) := by decide +kernel
theorem dX4_often_23 : decode cX4_often 23 = .ok (.invokevirtual 71, 3) := by decide +kernel
theorem dX4_often_26 : decode cX4_often 26 = .ok (.iload_n 2, 1) := by decide +kernel
theorem dX4_often_27 : decode cX4_often 27 = .ok (.if_icmp .ne 7, 3) := by decide +kernel
theorem dX4_often_30 : decode cX4_often 30 = .ok (.iconst 1, 1) := by decide +kernel
theorem dX4_often_31 : decode cX4_often 31 = .ok (.goto 4, 3) := by decide +kernel
theorem dX4_often_34 : decode cX4_often 34 = .ok (.iconst 0, 1) := by decide +kernel
theorem dX4_often_35 : decode cX4_often 35 = .ok (.iadd, 1) := by decide +kernel
theorem dX4_often_36 : decode cX4_often 36 = .ok (.istore_n 3, 1) := by decide +kernel
theorem dX4_often_37 : decode cX4_often 37 = .ok (.iinc 4 1, 3) := by decide +kernel
theorem dX4_often_40 : decode cX4_often 40 = .ok (.goto (-35), 3) := by decide +kernel
theorem dX4_often_43 : decode cX4_often 43 = .ok (.iload_n 3, 1) := by decide +kernel
theorem dX4_often_44 : decode cX4_often 44 = .ok (.ireturn, 1) := by decide +kernel
theorem dX4_findLeaves_0 : decode cX4_findLeaves 0 = .ok (.iconst 0, 1) := by decide +kernel
theorem dX4_findLeaves_1 : decode cX4_findLeaves 1 = .ok (.istore_n 1, 1) := by decide +kernel
theorem dX4_findLeaves_2 : decode cX4_findLeaves 2 = .ok (.iload_n 1, 1) := by decide +kernel
theorem dX4_findLeaves_3 : decode cX4_findLeaves 3 = .ok (.aload_n 0, 1) := by decide +kernel
theorem dX4_findLeaves_4 : decode cX4_findLeaves 4 = .ok (.invokevirtual 52, 3) := by decide +kernel
theorem dX4_findLeaves_7 : decode cX4_findLeaves 7 = .ok (.if_icmp .ge 78, 3) := by decide +kernel
theorem dX4_findLeaves_10 : decode cX4_findLeaves 10 = .ok (.aload_n 0, 1) := by decide +kernel
theorem dX4_findLeaves_11 : decode cX4_findLeaves 11 = .ok (.getfield 32, 3) := by decide +kernel
theorem dX4_findLeaves_14 : decode cX4_findLeaves 14 = .ok (.iload_n 1, 1) := by decide +kernel
theorem dX4_findLeaves_15 : decode cX4_findLeaves 15 = .ok (.aload_n 0, 1) := by decide +kernel
theorem dX4_findLeaves_16 : decode cX4_findLeaves 16 = .ok (.iload_n 1, 1) := by decide +kernel
theorem dX4_findLeaves_17 : decode cX4_findLeaves 17 = .ok (.invokevirtual 75, 3) := by decide +kernel
theorem dX4_findLeaves_20 : decode cX4_findLeaves 20 = .ok (.ifCond .eq 9, 3) := by decide +kernel
theorem dX4_findLeaves_23 : decode cX4_findLeaves 23 = .ok (.iconst 1, 1) := by decide +kernel
theorem dX4_findLeaves_24 : decode cX4_findLeaves 24 = .ok (.iload_n 1, 1) := by decide +kernel
theorem dX4_findLeaves_25 : decode cX4_findLeaves 25 = .ok (.ishl, 1) := by decide +kernel
theorem dX4_findLeaves_26 : decode cX4_findLeaves 26 = .ok (.goto 4, 3) := by decide +kernel
theorem dX4_findLeaves_29 : decode cX4_findLeaves 29 = .ok (.iconst 0, 1) := by decide +kernel
theorem dX4_findLeaves_30 : decode cX4_findLeaves 30 = .ok (.iastore, 1) := by decide +kernel
theorem dX4_findLeaves_31 : decode cX4_findLeaves 31 = .ok (.iconst 0, 1) := by decide +kernel
theorem dX4_findLeaves_32 : decode cX4_findLeaves 32 = .ok (.istore_n 2, 1) := by decide +kernel
theorem dX4_findLeaves_33 : decode cX4_findLeaves 33 = .ok (.iload_n 2, 1) := by decide +kernel
theorem dX4_findLeaves_34 : decode cX4_findLeaves 34 = .ok (.aload_n 0, 1) := by decide +kernel
theorem dX4_findLeaves_35 : decode cX4_findLeaves 35 = .ok (.iload_n 1, 1) := by decide +kernel
theorem dX4_findLeaves_36 : decode cX4_findLeaves 36 = .ok (.invokevirtual 64, 3) := by decide +kernel
theorem dX4_findLeaves_39 : decode cX4_findLeaves 39 = .ok (.invokestatic 68, 3) := by decide +kernel
theorem dX4_findLeaves_42 : decode cX4_findLeaves 42 = .ok (.if_icmp .ge 37, 3) := by decide +kernel
theorem dX4_findLeaves_45 : decode cX4_findLeaves 45 = .ok (.aload_n 0, 1) := by decide +kernel
theorem dX4_findLeaves_46 : decode cX4_findLeaves 46 = .ok (.iload_n 1, 1) := by decide +kernel
theorem dX4_findLeaves_47 : decode cX4_findLeaves 47 = .ok (.invokevirtual 75, 3) := by decide +kernel
theorem dX4_findLeaves_50 : decode cX4_findLeaves 50 = .ok (.ifCond .ne 29, 3) := by decide +kernel
theorem dX4_findLeaves_53 : decode cX4_findLeaves 53 = .ok (.aload_n 0, 1) := by decide +kernel
theorem dX4_findLeaves_54 : decode cX4_findLeaves 54 = .ok (.getfield 32, 3) := by decide +kernel
theorem dX4_findLeaves_57 : decode cX4_findLeaves 57 = .ok (.iload_n 1, 1) := by decide +kernel
theorem dX4_findLeaves_58 : decode cX4_findLeaves 58 = .ok (.dup2, 1) := by decide +kernel
theorem dX4_findLeaves_59 : decode cX4_findLeaves 59 = .ok (.iaload, 1) := by decide +kernel
theorem dX4_findLeaves_60 : decode cX4_findLeaves 60 = .ok (.aload_n 0, 1) := by decide +kernel
theorem dX4_findLeaves_61 : decode cX4_findLeaves 61 = .ok (.getfield 32, 3) := by decide +kernel
theorem dX4_findLeaves_64 : decode cX4_findLeaves 64 = .ok (.aload_n 0, 1) := by decide +kernel
theorem dX4_findLeaves_65 : decode cX4_findLeaves 65 = .ok (.iload_n 1, 1) := by decide +kernel
theorem dX4_findLeaves_66 : decode cX4_findLeaves 66 = .ok (.iload_n 2, 1) := by decide +kernel
theorem dX4_findLeaves_67 : decode cX4_findLeaves 67 = .ok (.invokevirtual 71, 3) := by decide +kernel
theorem dX4_findLeaves_70 : decode cX4_findLeaves 70 = .ok (.iaload, 1) := by decide +kernel
theorem dX4_findLeaves_71 : decode cX4_findLeaves 71 = .ok (.ior, 1) := by decide +kernel
theorem dX4_findLeaves_72 : decode cX4_findLeaves 72 = .ok (.iastore, 1) := by decide +kernel
theorem dX4_findLeaves_73 : decode cX4_findLeaves 73 = .ok (.iinc 2 1, 3) := by decide +kernel
theorem dX4_findLeaves_76 : decode cX4_findLeaves 76 = .ok (.goto (-43), 3) := by decide +kernel
theorem dX4_findLeaves_79 : decode cX4_findLeaves 79 = .ok (.iinc 1 1, 3) := by decide +kernel
theorem dX4_findLeaves_82 : decode cX4_findLeaves 82 = .ok (.goto (-80), 3) := by decide +kernel
end
section
theorem dX4_findLeaves_85 : decode cX4_findLeaves 85 = .ok (.return_, 1) := by decide +kernel
theorem dX4_leavesOf_0 : decode cX4_leavesOf 0 = .ok (.aload_n 0, 1) := by decide +kernel
theorem dX4_leavesOf_1 : decode cX4_leavesOf 1 = .ok (.invokevirtual 78, 3) := by decide +kernel
theorem dX4_leavesOf_4 : decode cX4_leavesOf 4 = .ok (.aload_n 0, 1) := by decide +kernel
theorem dX4_leavesOf_5 : decode cX4_leavesOf 5 = .ok (.getfield 32, 3) := by decide +kernel
theorem dX4_leavesOf_8 : decode cX4_leavesOf 8 = .ok (.iload_n 1, 1) := by decide +kernel
theorem dX4_leavesOf_9 : decode cX4_leavesOf 9 = .ok (.iaload, 1) := by decide +kernel
theorem dX4_leavesOf_10 : decode cX4_leavesOf 10 = .ok (.ireturn, 1) := by decide +kernel
theorem dX4_sourcesOf_0 : decode cX4_sourcesOf 0 = .ok (.aload_n 0, 1) := by decide +kernel
theorem dX4_sourcesOf_1 : decode cX4_sourcesOf 1 = .ok (.iload_n 1, 1) := by decide +kernel
theorem dX4_sourcesOf_2 : decode cX4_sourcesOf 2 = .ok (.invokevirtual 81, 3) := by decide +kernel
theorem dX4_sourcesOf_5 : decode cX4_sourcesOf 5 = .ok (.istore_n 2, 1) := by decide +kernel
theorem dX4_sourcesOf_6 : decode cX4_sourcesOf 6 = .ok (.iconst 0, 1) := by decide +kernel
theorem dX4_sourcesOf_7 : decode cX4_sourcesOf 7 = .ok (.istore_n 3, 1) := by decide +kernel
theorem dX4_sourcesOf_8 : decode cX4_sourcesOf 8 = .ok (.iconst 0, 1) := by decide +kernel
theorem dX4_sourcesOf_9 : decode cX4_sourcesOf 9 = .ok (.istore 4, 2) := by decide +kernel
theorem dX4_sourcesOf_11 : decode cX4_sourcesOf 11 = .ok (.iload 4, 2) := by decide +kernel
theorem dX4_sourcesOf_13 : decode cX4_sourcesOf 13 = .ok (.aload_n 0, 1) := by decide +kernel
theorem dX4_sourcesOf_14 : decode cX4_sourcesOf 14 = .ok (.invokevirtual 52, 3) := by decide +kernel
theorem dX4_sourcesOf_17 : decode cX4_sourcesOf 17 = .ok (.if_icmp .ge 33, 3) := by decide +kernel
theorem dX4_sourcesOf_20 : decode cX4_sourcesOf 20 = .ok (.iload_n 3, 1) := by decide +kernel
theorem dX4_sourcesOf_21 : decode cX4_sourcesOf 21 = .ok (.iload_n 2, 1) := by decide +kernel
theorem dX4_sourcesOf_22 : decode cX4_sourcesOf 22 = .ok (.iload 4, 2) := by decide +kernel
theorem dX4_sourcesOf_24 : decode cX4_sourcesOf 24 = .ok (.invokestatic 84, 3) := by decide +kernel
theorem dX4_sourcesOf_27 : decode cX4_sourcesOf 27 = .ok (.ifCond .eq 14, 3) := by decide +kernel
theorem dX4_sourcesOf_30 : decode cX4_sourcesOf 30 = .ok (.iconst 1, 1) := by decide +kernel
theorem dX4_sourcesOf_31 : decode cX4_sourcesOf 31 = .ok (.aload_n 0, 1) := by decide +kernel
theorem dX4_sourcesOf_32 : decode cX4_sourcesOf 32 = .ok (.iload 4, 2) := by decide +kernel
theorem dX4_sourcesOf_34 : decode cX4_sourcesOf 34 = .ok (.invokevirtual 88, 3) := by decide +kernel
theorem dX4_sourcesOf_37 : decode cX4_sourcesOf 37 = .ok (.ishl, 1) := by decide +kernel
theorem dX4_sourcesOf_38 : decode cX4_sourcesOf 38 = .ok (.goto 4, 3) := by decide +kernel
theorem dX4_sourcesOf_41 : decode cX4_sourcesOf 41 = .ok (.iconst 0, 1) := by decide +kernel
theorem dX4_sourcesOf_42 : decode cX4_sourcesOf 42 = .ok (.ior, 1) := by decide +kernel
theorem dX4_sourcesOf_43 : decode cX4_sourcesOf 43 = .ok (.istore_n 3, 1) := by decide +kernel
theorem dX4_sourcesOf_44 : decode cX4_sourcesOf 44 = .ok (.iinc 4 1, 3) := by decide +kernel
theorem dX4_sourcesOf_47 : decode cX4_sourcesOf 47 = .ok (.goto (-36), 3) := by decide +kernel
theorem dX4_sourcesOf_50 : decode cX4_sourcesOf 50 = .ok (.iload_n 3, 1) := by decide +kernel
theorem dX4_sourcesOf_51 : decode cX4_sourcesOf 51 = .ok (.ireturn, 1) := by decide +kernel
theorem dX4_foreign_0 : decode cX4_foreign 0 = .ok (.aload_n 0, 1) := by decide +kernel
theorem dX4_foreign_1 : decode cX4_foreign 1 = .ok (.aload_n 0, 1) := by decide +kernel
theorem dX4_foreign_2 : decode cX4_foreign 2 = .ok (.iload_n 1, 1) := by decide +kernel
theorem dX4_foreign_3 : decode cX4_foreign 3 = .ok (.iconst 0, 1) := by decide +kernel
theorem dX4_foreign_4 : decode cX4_foreign 4 = .ok (.invokevirtual 71, 3) := by decide +kernel
theorem dX4_foreign_7 : decode cX4_foreign 7 = .ok (.invokevirtual 81, 3) := by decide +kernel
theorem dX4_foreign_10 : decode cX4_foreign 10 = .ok (.istore_n 2, 1) := by decide +kernel
theorem dX4_foreign_11 : decode cX4_foreign 11 = .ok (.iconst 0, 1) := by decide +kernel
theorem dX4_foreign_12 : decode cX4_foreign 12 = .ok (.istore_n 3, 1) := by decide +kernel
theorem dX4_foreign_13 : decode cX4_foreign 13 = .ok (.iload_n 3, 1) := by decide +kernel
theorem dX4_foreign_14 : decode cX4_foreign 14 = .ok (.aload_n 0, 1) := by decide +kernel
theorem dX4_foreign_15 : decode cX4_foreign 15 = .ok (.invokevirtual 52, 3) := by decide +kernel
theorem dX4_foreign_18 : decode cX4_foreign 18 = .ok (.if_icmp .ge 42, 3) := by decide +kernel
theorem dX4_foreign_21 : decode cX4_foreign 21 = .ok (.iload_n 2, 1) := by decide +kernel
theorem dX4_foreign_22 : decode cX4_foreign 22 = .ok (.aload_n 0, 1) := by decide +kernel
theorem dX4_foreign_23 : decode cX4_foreign 23 = .ok (.iload_n 3, 1) := by decide +kernel
theorem dX4_foreign_24 : decode cX4_foreign 24 = .ok (.invokevirtual 75, 3) := by decide +kernel
theorem dX4_foreign_27 : decode cX4_foreign 27 = .ok (.ifCond .eq 24, 3) := by decide +kernel
theorem dX4_foreign_30 : decode cX4_foreign 30 = .ok (.aload_n 0, 1) := by decide +kernel
theorem dX4_foreign_31 : decode cX4_foreign 31 = .ok (.iload_n 3, 1) := by decide +kernel
theorem dX4_foreign_32 : decode cX4_foreign 32 = .ok (.invokevirtual 88, 3) := by decide +kernel
theorem dX4_foreign_35 : decode cX4_foreign 35 = .ok (.aload_n 0, 1) := by decide +kernel
theorem dX4_foreign_36 : decode cX4_foreign 36 = .ok (.iload_n 1, 1) := by decide +kernel
theorem dX4_foreign_37 : decode cX4_foreign 37 = .ok (.invokevirtual 88, 3) := by decide +kernel
theorem dX4_foreign_40 : decode cX4_foreign 40 = .ok (.if_icmp .ne 11, 3) := by decide +kernel
theorem dX4_foreign_43 : decode cX4_foreign 43 = .ok (.iconst 1, 1) := by decide +kernel
theorem dX4_foreign_44 : decode cX4_foreign 44 = .ok (.iload_n 3, 1) := by decide +kernel
theorem dX4_foreign_45 : decode cX4_foreign 45 = .ok (.ishl, 1) := by decide +kernel
theorem dX4_foreign_46 : decode cX4_foreign 46 = .ok (.iconst (-1), 1) := by decide +kernel
theorem dX4_foreign_47 : decode cX4_foreign 47 = .ok (.ixor, 1) := by decide +kernel
theorem dX4_foreign_48 : decode cX4_foreign 48 = .ok (.goto 4, 3) := by decide +kernel
theorem dX4_foreign_51 : decode cX4_foreign 51 = .ok (.iconst (-1), 1) := by decide +kernel
theorem dX4_foreign_52 : decode cX4_foreign 52 = .ok (.iand, 1) := by decide +kernel
theorem dX4_foreign_53 : decode cX4_foreign 53 = .ok (.istore_n 2, 1) := by decide +kernel
theorem dX4_foreign_54 : decode cX4_foreign 54 = .ok (.iinc 3 1, 3) := by decide +kernel
theorem dX4_foreign_57 : decode cX4_foreign 57 = .ok (.goto (-44), 3) := by decide +kernel
theorem dX4_foreign_60 : decode cX4_foreign 60 = .ok (.iload_n 2, 1) := by decide +kernel
theorem dX4_foreign_61 : decode cX4_foreign 61 = .ok (.ireturn, 1) := by decide +kernel
theorem dX4_isDirect_0 : decode cX4_isDirect 0 = .ok (.aload_n 0, 1) := by decide +kernel
theorem dX4_isDirect_1 : decode cX4_isDirect 1 = .ok (.iload_n 1, 1) := by decide +kernel
theorem dX4_isDirect_2 : decode cX4_isDirect 2 = .ok (.invokevirtual 91, 3) := by decide +kernel
theorem dX4_isDirect_5 : decode cX4_isDirect 5 = .ok (.aload_n 0, 1) := by decide +kernel
theorem dX4_isDirect_6 : decode cX4_isDirect 6 = .ok (.iload_n 1, 1) := by decide +kernel
theorem dX4_isDirect_7 : decode cX4_isDirect 7 = .ok (.iconst 0, 1) := by decide +kernel
theorem dX4_isDirect_8 : decode cX4_isDirect 8 = .ok (.invokevirtual 71, 3) := by decide +kernel
theorem dX4_isDirect_11 : decode cX4_isDirect 11 = .ok (.invokestatic 84, 3) := by decide +kernel
theorem dX4_isDirect_14 : decode cX4_isDirect 14 = .ok (.ireturn, 1) := by decide +kernel
theorem dX4_onlyOne_0 : decode cX4_onlyOne 0 = .ok (.bipush (-9), 2) := by decide +kernel
theorem dX4_onlyOne_2 : decode cX4_onlyOne 2 = .ok (.istore_n 2, 1) := by decide +kernel
theorem dX4_onlyOne_3 : decode cX4_onlyOne 3 = .ok (.iconst 0, 1) := by decide +kernel
theorem dX4_onlyOne_4 : decode cX4_onlyOne 4 = .ok (.istore_n 3, 1) := by decide +kernel
theorem dX4_onlyOne_5 : decode cX4_onlyOne 5 = .ok (.iconst 0, 1) := by decide +kernel
theorem dX4_onlyOne_6 : decode cX4_onlyOne 6 = .ok (.istore 4, 2) := by decide +kernel
theorem dX4_onlyOne_8 : decode cX4_onlyOne 8 = .ok (.iload 4, 2) := by decide +kernel
theorem dX4_onlyOne_10 : decode cX4_onlyOne 10 = .ok (.aload_n 0, 1) := by decide +kernel
theorem dX4_onlyOne_11 : decode cX4_onlyOne 11 = .ok (.invokevirtual 52, 3) := by decide +kernel
theorem dX4_onlyOne_14 : decode cX4_onlyOne 14 = .ok (.if_icmp .ge 36, 3) := by decide +kernel
theorem dX4_onlyOne_17 : decode cX4_onlyOne 17 = .ok (.aload_n 0, 1) := by decide +kernel
theorem dX4_onlyOne_18 : decode cX4_onlyOne 18 = .ok (.iload 4, 2) := by decide +kernel
theorem dX4_onlyOne_20 : decode cX4_onlyOne 20 = .ok (.iload_n 1, 1) := by decide +kernel
theorem dX4_onlyOne_21 : decode cX4_onlyOne 21 = .ok (.invokevirtual 94, 3) := by decide +kernel
theorem dX4_onlyOne_24 : decode cX4_onlyOne 24 = .ok (.ifCond .le 8, 3) := by decide +kernel
theorem dX4_onlyOne_27 : decode cX4_onlyOne 27 = .ok (.iload 4, 2) := by decide +kernel
theorem dX4_onlyOne_29 : decode cX4_onlyOne 29 = .ok (.goto 4, 3) := by decide +kernel
theorem dX4_onlyOne_32 : decode cX4_onlyOne 32 = .ok (.iload_n 2, 1) := by decide +kernel
theorem dX4_onlyOne_33 : decode cX4_onlyOne 33 = .ok (.istore_n 2, 1) := by decide +kernel
theorem dX4_onlyOne_34 : decode cX4_onlyOne 34 = .ok (.iload_n 3, 1) := by decide +kernel
theorem dX4_onlyOne_35 : decode cX4_onlyOne 35 = .ok (.aload_n 0, 1) := by decide +kernel
theorem dX4_onlyOne_36 : decode cX4_onlyOne 36 = .ok (.iload 4, 2) := by decide +kernel
theorem dX4_onlyOne_38 : decode cX4_onlyOne 38 = .ok (.iload_n 1, 1) := by decide +kernel
theorem dX4_onlyOne_39 : decode cX4_onlyOne 39 = .ok (.invokevirtual 94, 3) := by decide +kernel
theorem dX4_onlyOne_42 : decode cX4_onlyOne 42 = .ok (.iadd, 1) := by decide +kernel
theorem dX4_onlyOne_43 : decode cX4_onlyOne 43 = .ok (.istore_n 3, 1) := by decide +kernel
theorem dX4_onlyOne_44 : decode cX4_onlyOne 44 = .ok (.iinc 4 1, 3) := by decide +kernel
theorem dX4_onlyOne_47 : decode cX4_onlyOne 47 = .ok (.goto (-39), 3) := by decide +kernel
theorem dX4_onlyOne_50 : decode cX4_onlyOne 50 = .ok (.iload_n 3, 1) := by decide +kernel
theorem dX4_onlyOne_51 : decode cX4_onlyOne 51 = .ok (.iconst 1, 1) := by decide +kernel
theorem dX4_onlyOne_52 : decode cX4_onlyOne 52 = .ok (.if_icmp .ne 7, 3) := by decide +kernel
theorem dX4_onlyOne_55 : decode cX4_onlyOne 55 = .ok (.iload_n 2, 1) := by decide +kernel
theorem dX4_onlyOne_56 : decode cX4_onlyOne 56 = .ok (.goto 5, 3) := by decide +kernel
theorem dX4_onlyOne_59 : decode cX4_onlyOne 59 = .ok (.bipush (-9), 2) := by decide +kernel
theorem dX4_onlyOne_61 : decode cX4_onlyOne 61 = .ok (.ireturn, 1) := by decide +kernel
theorem dX4_depth_0 : decode cX4_depth 0 = .ok (.iconst 1, 1) := by decide +kernel
theorem dX4_depth_1 : decode cX4_depth 1 = .ok (.istore_n 2, 1) := by decide +kernel
theorem dX4_depth_2 : decode cX4_depth 2 = .ok (.aload_n 0, 1) := by decide +kernel
theorem dX4_depth_3 : decode cX4_depth 3 = .ok (.iload_n 1, 1) := by decide +kernel
theorem dX4_depth_4 : decode cX4_depth 4 = .ok (.invokevirtual 97, 3) := by decide +kernel
theorem dX4_depth_7 : decode cX4_depth 7 = .ok (.istore_n 3, 1) := by decide +kernel
theorem dX4_depth_8 : decode cX4_depth 8 = .ok (.iload_n 3, 1) := by decide +kernel
theorem dX4_depth_9 : decode cX4_depth 9 = .ok (.bipush (-9), 2) := by decide +kernel
theorem dX4_depth_11 : decode cX4_depth 11 = .ok (.if_icmp .eq 37, 3) := by decide +kernel
theorem dX4_depth_14 : decode cX4_depth 14 = .ok (.aload_n 0, 1) := by decide +kernel
theorem dX4_depth_15 : decode cX4_depth 15 = .ok (.iload_n 3, 1) := by decide +kernel
theorem dX4_depth_16 : decode cX4_depth 16 = .ok (.invokevirtual 64, 3) := by decide +kernel
theorem dX4_depth_19 : decode cX4_depth 19 = .ok (.iconst 1, 1) := by decide +kernel
theorem dX4_depth_20 : decode cX4_depth 20 = .ok (.if_icmp .ne 28, 3) := by decide +kernel
theorem dX4_depth_23 : decode cX4_depth 23 = .ok (.aload_n 0, 1) := by decide +kernel
theorem dX4_depth_24 : decode cX4_depth 24 = .ok (.iload_n 3, 1) := by decide +kernel
theorem dX4_depth_25 : decode cX4_depth 25 = .ok (.invokevirtual 88, 3) := by decide +kernel
theorem dX4_depth_28 : decode cX4_depth 28 = .ok (.aload_n 0, 1) := by decide +kernel
theorem dX4_depth_29 : decode cX4_depth 29 = .ok (.iload_n 1, 1) := by decide +kernel
theorem dX4_depth_30 : decode cX4_depth 30 = .ok (.invokevirtual 88, 3) := by decide +kernel
theorem dX4_depth_33 : decode cX4_depth 33 = .ok (.if_icmp .ne 15, 3) := by decide +kernel
theorem dX4_depth_36 : decode cX4_depth 36 = .ok (.iinc 2 1, 3) := by decide +kernel
theorem dX4_depth_39 : decode cX4_depth 39 = .ok (.aload_n 0, 1) := by decide +kernel
theorem dX4_depth_40 : decode cX4_depth 40 = .ok (.iload_n 3, 1) := by decide +kernel
theorem dX4_depth_41 : decode cX4_depth 41 = .ok (.invokevirtual 97, 3) := by decide +kernel
theorem dX4_depth_44 : decode cX4_depth 44 = .ok (.istore_n 3, 1) := by decide +kernel
theorem dX4_depth_45 : decode cX4_depth 45 = .ok (.goto (-37), 3) := by decide +kernel
theorem dX4_depth_48 : decode cX4_depth 48 = .ok (.iload_n 2, 1) := by decide +kernel
theorem dX4_depth_49 : decode cX4_depth 49 = .ok (.ireturn, 1) := by decide +kernel
theorem dX4_isSafe_0 : decode cX4_isSafe 0 = .ok (.aload_n 0, 1) := by decide +kernel
theorem dX4_isSafe_1 : decode cX4_isSafe 1 = .ok (.iload_n 1, 1) := by decide +kernel
theorem dX4_isSafe_2 : decode cX4_isSafe 2 = .ok (.invokevirtual 100, 3) := by decide +kernel
theorem dX4_isSafe_5 : decode cX4_isSafe 5 = .ok (.ifCond .eq 21, 3) := by decide +kernel
theorem dX4_isSafe_8 : decode cX4_isSafe 8 = .ok (.aload_n 0, 1) := by decide +kernel
theorem dX4_isSafe_9 : decode cX4_isSafe 9 = .ok (.iload_n 1, 1) := by decide +kernel
theorem dX4_isSafe_10 : decode cX4_isSafe 10 = .ok (.invokevirtual 103, 3) := by decide +kernel
theorem dX4_isSafe_13 : decode cX4_isSafe 13 = .ok (.aload_n 0, 1) := by decide +kernel
theorem dX4_isSafe_14 : decode cX4_isSafe 14 = .ok (.getfield 16, 3) := by decide +kernel
theorem dX4_isSafe_17 : decode cX4_isSafe 17 = .ok (.iconst 0, 1) := by decide +kernel
theorem dX4_isSafe_18 : decode cX4_isSafe 18 = .ok (.iaload, 1) := by decide +kernel
theorem dX4_isSafe_19 : decode cX4_isSafe 19 = .ok (.if_icmp .lt 7, 3) := by decide +kernel
theorem dX4_isSafe_22 : decode cX4_isSafe 22 = .ok (.iconst 1, 1) := by decide +kernel
theorem dX4_isSafe_23 : decode cX4_isSafe 23 = .ok (.goto 4, 3) := by decide +kernel
theorem dX4_isSafe_26 : decode cX4_isSafe 26 = .ok (.iconst 0, 1) := by decide +kernel
theorem dX4_isSafe_27 : decode cX4_isSafe 27 = .ok (.ireturn, 1) := by decide +kernel
theorem dX4_backFrom_0 : decode cX4_backFrom 0 = .ok (.iconst 1, 1) := by decide +kernel
theorem dX4_backFrom_1 : decode cX4_backFrom 1 = .ok (.iload_n 1, 1) := by decide +kernel
theorem dX4_backFrom_2 : decode cX4_backFrom 2 = .ok (.ishl, 1) := by decide +kernel
theorem dX4_backFrom_3 : decode cX4_backFrom 3 = .ok (.istore_n 3, 1) := by decide +kernel
theorem dX4_backFrom_4 : decode cX4_backFrom 4 = .ok (.iload_n 1, 1) := by decide +kernel
theorem dX4_backFrom_5 : decode cX4_backFrom 5 = .ok (.istore 4, 2) := by decide +kernel
theorem dX4_backFrom_7 : decode cX4_backFrom 7 = .ok (.iload 4, 2) := by decide +kernel
theorem dX4_backFrom_9 : decode cX4_backFrom 9 = .ok (.ifCond .lt 83, 3) := by decide +kernel
theorem dX4_backFrom_12 : decode cX4_backFrom 12 = .ok (.iload_n 3, 1) := by decide +kernel
theorem dX4_backFrom_13 : decode cX4_backFrom 13 = .ok (.iload 4, 2) := by decide +kernel
theorem dX4_backFrom_15 : decode cX4_backFrom 15 = .ok (.invokestatic 84, 3) := by decide +kernel
theorem dX4_backFrom_18 : decode cX4_backFrom 18 = .ok (.ifCond .eq 68, 3) := by decide +kernel
theorem dX4_backFrom_21 : decode cX4_backFrom 21 = .ok (.aload_n 0, 1) := by decide +kernel
theorem dX4_backFrom_22 : decode cX4_backFrom 22 = .ok (.iload 4, 2) := by decide +kernel
theorem dX4_backFrom_24 : decode cX4_backFrom 24 = .ok (.invokevirtual 75, 3) := by decide +kernel
theorem dX4_backFrom_27 : decode cX4_backFrom 27 = .ok (.ifCond .eq 23, 3) := by decide +kernel
theorem dX4_backFrom_30 : decode cX4_backFrom 30 = .ok (.aload_n 0, 1) := by decide +kernel
theorem dX4_backFrom_31 : decode cX4_backFrom 31 = .ok (.iload 4, 2) := by decide +kernel
theorem dX4_backFrom_33 : decode cX4_backFrom 33 = .ok (.invokevirtual 64, 3) := by decide +kernel
theorem dX4_backFrom_36 : decode cX4_backFrom 36 = .ok (.iconst 1, 1) := by decide +kernel
theorem dX4_backFrom_37 : decode cX4_backFrom 37 = .ok (.if_icmp .ne 49, 3) := by decide +kernel
theorem dX4_backFrom_40 : decode cX4_backFrom 40 = .ok (.aload_n 0, 1) := by decide +kernel
theorem dX4_backFrom_41 : decode cX4_backFrom 41 = .ok (.iload 4, 2) := by decide +kernel
theorem dX4_backFrom_43 : decode cX4_backFrom 43 = .ok (.invokevirtual 88, 3) := by decide +kernel
theorem dX4_backFrom_46 : decode cX4_backFrom 46 = .ok (.iload_n 2, 1) := by decide +kernel
theorem dX4_backFrom_47 : decode cX4_backFrom 47 = .ok (.if_icmp .ne 39, 3) := by decide +kernel
theorem dX4_backFrom_50 : decode cX4_backFrom 50 = .ok (.iconst 0, 1) := by decide +kernel
theorem dX4_backFrom_51 : decode cX4_backFrom 51 = .ok (.istore 5, 2) := by decide +kernel
theorem dX4_backFrom_53 : decode cX4_backFrom 53 = .ok (.iload 5, 2) := by decide +kernel
theorem dX4_backFrom_55 : decode cX4_backFrom 55 = .ok (.aload_n 0, 1) := by decide +kernel
theorem dX4_backFrom_56 : decode cX4_backFrom 56 = .ok (.iload 4, 2) := by decide +kernel
theorem dX4_backFrom_58 : decode cX4_backFrom 58 = .ok (.invokevirtual 64, 3) := by decide +kernel
theorem dX4_backFrom_61 : decode cX4_backFrom 61 = .ok (.invokestatic 68, 3) := by decide +kernel
theorem dX4_backFrom_64 : decode cX4_backFrom 64 = .ok (.if_icmp .ge 22, 3) := by decide +kernel
theorem dX4_backFrom_67 : decode cX4_backFrom 67 = .ok (.iload_n 3, 1) := by decide +kernel
theorem dX4_backFrom_68 : decode cX4_backFrom 68 = .ok (.iconst 1, 1) := by decide +kernel
theorem dX4_backFrom_69 : decode cX4_backFrom 69 = .ok (.aload_n 0, 1) := by decide +kernel
theorem dX4_backFrom_70 : decode cX4_backFrom 70 = .ok (.iload 4, 2) := by decide +kernel
theorem dX4_backFrom_72 : decode cX4_backFrom 72 = .ok (.iload 5, 2) := by decide +kernel
theorem dX4_backFrom_74 : decode cX4_backFrom 74 = .ok (.invokevirtual 71, 3) := by decide +kernel
theorem dX4_backFrom_77 : decode cX4_backFrom 77 = .ok (.ishl, 1) := by decide +kernel
theorem dX4_backFrom_78 : decode cX4_backFrom 78 = .ok (.ior, 1) := by decide +kernel
theorem dX4_backFrom_79 : decode cX4_backFrom 79 = .ok (.istore_n 3, 1) := by decide +kernel
theorem dX4_backFrom_80 : decode cX4_backFrom 80 = .ok (.iinc 5 1, 3) := by decide +kernel
theorem dX4_backFrom_83 : decode cX4_backFrom 83 = .ok (.goto (-30), 3) := by decide +kernel
theorem dX4_backFrom_86 : decode cX4_backFrom 86 = .ok (.iinc 4 (-1), 3) := by decide +kernel
theorem dX4_backFrom_89 : decode cX4_backFrom 89 = .ok (.goto (-82), 3) := by decide +kernel
theorem dX4_backFrom_92 : decode cX4_backFrom 92 = .ok (.iload_n 3, 1) := by decide +kernel
theorem dX4_backFrom_93 : decode cX4_backFrom 93 = .ok (.ireturn, 1) := by decide +kernel
theorem dX4_isHeld_0 : decode cX4_isHeld 0 = .ok (.aload_n 0, 1) := by decide +kernel
theorem dX4_isHeld_1 : decode cX4_isHeld 1 = .ok (.iload_n 1, 1) := by decide +kernel
theorem dX4_isHeld_2 : decode cX4_isHeld 2 = .ok (.iconst 0, 1) := by decide +kernel
theorem dX4_isHeld_3 : decode cX4_isHeld 3 = .ok (.invokevirtual 71, 3) := by decide +kernel
theorem dX4_isHeld_6 : decode cX4_isHeld 6 = .ok (.istore_n 2, 1) := by decide +kernel
theorem dX4_isHeld_7 : decode cX4_isHeld 7 = .ok (.aload_n 0, 1) := by decide +kernel
theorem dX4_isHeld_8 : decode cX4_isHeld 8 = .ok (.iload_n 2, 1) := by decide +kernel
theorem dX4_isHeld_9 : decode cX4_isHeld 9 = .ok (.invokevirtual 64, 3) := by decide +kernel
theorem dX4_isHeld_12 : decode cX4_isHeld 12 = .ok (.iconst 5, 1) := by decide +kernel
theorem dX4_isHeld_13 : decode cX4_isHeld 13 = .ok (.if_icmp .ne 23, 3) := by decide +kernel
theorem dX4_isHeld_16 : decode cX4_isHeld 16 = .ok (.aload_n 0, 1) := by decide +kernel
theorem dX4_isHeld_17 : decode cX4_isHeld 17 = .ok (.aload_n 0, 1) := by decide +kernel
theorem dX4_isHeld_18 : decode cX4_isHeld 18 = .ok (.iload_n 2, 1) := by decide +kernel
theorem dX4_isHeld_19 : decode cX4_isHeld 19 = .ok (.iconst 0, 1) := by decide +kernel
theorem dX4_isHeld_20 : decode cX4_isHeld 20 = .ok (.invokevirtual 71, 3) := by decide +kernel
theorem dX4_isHeld_23 : decode cX4_isHeld 23 = .ok (.invokevirtual 106, 3) := by decide +kernel
theorem dX4_isHeld_26 : decode cX4_isHeld 26 = .ok (.iconst 1, 1) := by decide +kernel
theorem dX4_isHeld_27 : decode cX4_isHeld 27 = .ok (.aload_n 0, 1) := by decide +kernel
theorem dX4_isHeld_28 : decode cX4_isHeld 28 = .ok (.iload_n 1, 1) := by decide +kernel
theorem dX4_isHeld_29 : decode cX4_isHeld 29 = .ok (.invokevirtual 88, 3) := by decide +kernel
theorem dX4_isHeld_32 : decode cX4_isHeld 32 = .ok (.ishl, 1) := by decide +kernel
theorem dX4_isHeld_33 : decode cX4_isHeld 33 = .ok (.if_icmp .eq 5, 3) := by decide +kernel
theorem dX4_isHeld_36 : decode cX4_isHeld 36 = .ok (.iconst 0, 1) := by decide +kernel
theorem dX4_isHeld_37 : decode cX4_isHeld 37 = .ok (.ireturn, 1) := by decide +kernel
theorem dX4_isHeld_38 : decode cX4_isHeld 38 = .ok (.aload_n 0, 1) := by decide +kernel
theorem dX4_isHeld_39 : decode cX4_isHeld 39 = .ok (.iload_n 1, 1) := by decide +kernel
theorem dX4_isHeld_40 : decode cX4_isHeld 40 = .ok (.invokevirtual 91, 3) := by decide +kernel
theorem dX4_isHeld_43 : decode cX4_isHeld 43 = .ok (.istore_n 3, 1) := by decide +kernel
theorem dX4_isHeld_44 : decode cX4_isHeld 44 = .ok (.bipush (-9), 2) := by decide +kernel
theorem dX4_isHeld_46 : decode cX4_isHeld 46 = .ok (.istore 4, 2) := by decide +kernel
theorem dX4_isHeld_48 : decode cX4_isHeld 48 = .ok (.iconst 1, 1) := by decide +kernel
theorem dX4_isHeld_49 : decode cX4_isHeld 49 = .ok (.istore 5, 2) := by decide +kernel
theorem dX4_isHeld_51 : decode cX4_isHeld 51 = .ok (.iconst 0, 1) := by decide +kernel
theorem dX4_isHeld_52 : decode cX4_isHeld 52 = .ok (.istore 6, 2) := by decide +kernel
theorem dX4_isHeld_54 : decode cX4_isHeld 54 = .ok (.iload 6, 2) := by decide +kernel
theorem dX4_isHeld_56 : decode cX4_isHeld 56 = .ok (.aload_n 0, 1) := by decide +kernel
theorem dX4_isHeld_57 : decode cX4_isHeld 57 = .ok (.invokevirtual 52, 3) := by decide +kernel
theorem dX4_isHeld_60 : decode cX4_isHeld 60 = .ok (.if_icmp .ge 56, 3) := by decide +kernel
theorem dX4_isHeld_63 : decode cX4_isHeld 63 = .ok (.iload_n 3, 1) := by decide +kernel
theorem dX4_isHeld_64 : decode cX4_isHeld 64 = .ok (.iload 6, 2) := by decide +kernel
theorem dX4_isHeld_66 : decode cX4_isHeld 66 = .ok (.invokestatic 84, 3) := by decide +kernel
theorem dX4_isHeld_69 : decode cX4_isHeld 69 = .ok (.ifCond .eq 41, 3) := by decide +kernel
theorem dX4_isHeld_72 : decode cX4_isHeld 72 = .ok (.iload 5, 2) := by decide +kernel
theorem dX4_isHeld_74 : decode cX4_isHeld 74 = .ok (.ifCond .eq 25, 3) := by decide +kernel
theorem dX4_isHeld_77 : decode cX4_isHeld 77 = .ok (.iload 4, 2) := by decide +kernel
theorem dX4_isHeld_79 : decode cX4_isHeld 79 = .ok (.bipush (-9), 2) := by decide +kernel
theorem dX4_isHeld_81 : decode cX4_isHeld 81 = .ok (.if_icmp .eq 14, 3) := by decide +kernel
theorem dX4_isHeld_84 : decode cX4_isHeld 84 = .ok (.iload 4, 2) := by decide +kernel
theorem dX4_isHeld_86 : decode cX4_isHeld 86 = .ok (.aload_n 0, 1) := by decide +kernel
theorem dX4_isHeld_87 : decode cX4_isHeld 87 = .ok (.iload 6, 2) := by decide +kernel
theorem dX4_isHeld_89 : decode cX4_isHeld 89 = .ok (.invokevirtual 88, 3) := by decide +kernel
theorem dX4_isHeld_92 : decode cX4_isHeld 92 = .ok (.if_icmp .ne 7, 3) := by decide +kernel
theorem dX4_isHeld_95 : decode cX4_isHeld 95 = .ok (.iconst 1, 1) := by decide +kernel
theorem dX4_isHeld_96 : decode cX4_isHeld 96 = .ok (.goto 4, 3) := by decide +kernel
theorem dX4_isHeld_99 : decode cX4_isHeld 99 = .ok (.iconst 0, 1) := by decide +kernel
theorem dX4_isHeld_100 : decode cX4_isHeld 100 = .ok (.istore 5, 2) := by decide +kernel
theorem dX4_isHeld_102 : decode cX4_isHeld 102 = .ok (.aload_n 0, 1) := by decide +kernel
theorem dX4_isHeld_103 : decode cX4_isHeld 103 = .ok (.iload 6, 2) := by decide +kernel
theorem dX4_isHeld_105 : decode cX4_isHeld 105 = .ok (.invokevirtual 88, 3) := by decide +kernel
theorem dX4_isHeld_108 : decode cX4_isHeld 108 = .ok (.istore 4, 2) := by decide +kernel
theorem dX4_isHeld_110 : decode cX4_isHeld 110 = .ok (.iinc 6 1, 3) := by decide +kernel
theorem dX4_isHeld_113 : decode cX4_isHeld 113 = .ok (.goto (-59), 3) := by decide +kernel
theorem dX4_isHeld_116 : decode cX4_isHeld 116 = .ok (.aload_n 0, 1) := by decide +kernel
theorem dX4_isHeld_117 : decode cX4_isHeld 117 = .ok (.aload_n 0, 1) := by decide +kernel
theorem dX4_isHeld_118 : decode cX4_isHeld 118 = .ok (.iload_n 2, 1) := by decide +kernel
theorem dX4_isHeld_119 : decode cX4_isHeld 119 = .ok (.iconst 0, 1) := by decide +kernel
theorem dX4_isHeld_120 : decode cX4_isHeld 120 = .ok (.invokevirtual 71, 3) := by decide +kernel
theorem dX4_isHeld_123 : decode cX4_isHeld 123 = .ok (.aload_n 0, 1) := by decide +kernel
theorem dX4_isHeld_124 : decode cX4_isHeld 124 = .ok (.iload_n 1, 1) := by decide +kernel
theorem dX4_isHeld_125 : decode cX4_isHeld 125 = .ok (.invokevirtual 88, 3) := by decide +kernel
theorem dX4_isHeld_128 : decode cX4_isHeld 128 = .ok (.invokevirtual 109, 3) := by decide +kernel
theorem dX4_isHeld_131 : decode cX4_isHeld 131 = .ok (.istore 6, 2) := by decide +kernel
theorem dX4_isHeld_133 : decode cX4_isHeld 133 = .ok (.iconst 0, 1) := by decide +kernel
theorem dX4_isHeld_134 : decode cX4_isHeld 134 = .ok (.istore 7, 2) := by decide +kernel
theorem dX4_isHeld_136 : decode cX4_isHeld 136 = .ok (.iconst 0, 1) := by decide +kernel
theorem dX4_isHeld_137 : decode cX4_isHeld 137 = .ok (.istore 8, 2) := by decide +kernel
theorem dX4_isHeld_139 : decode cX4_isHeld 139 = .ok (.iload 8, 2) := by decide +kernel
theorem dX4_isHeld_141 : decode cX4_isHeld 141 = .ok (.aload_n 0, 1) := by decide +kernel
theorem dX4_isHeld_142 : decode cX4_isHeld 142 = .ok (.invokevirtual 52, 3) := by decide +kernel
theorem dX4_isHeld_145 : decode cX4_isHeld 145 = .ok (.if_icmp .ge 80, 3) := by decide +kernel
theorem dX4_isHeld_148 : decode cX4_isHeld 148 = .ok (.iload 7, 2) := by decide +kernel
theorem dX4_isHeld_150 : decode cX4_isHeld 150 = .ok (.ifCond .ne 62, 3) := by decide +kernel
theorem dX4_isHeld_153 : decode cX4_isHeld 153 = .ok (.iload 6, 2) := by decide +kernel
theorem dX4_isHeld_155 : decode cX4_isHeld 155 = .ok (.iload 8, 2) := by decide +kernel
theorem dX4_isHeld_157 : decode cX4_isHeld 157 = .ok (.invokestatic 84, 3) := by decide +kernel
theorem dX4_isHeld_160 : decode cX4_isHeld 160 = .ok (.ifCond .eq 56, 3) := by decide +kernel
theorem dX4_isHeld_163 : decode cX4_isHeld 163 = .ok (.aload_n 0, 1) := by decide +kernel
theorem dX4_isHeld_164 : decode cX4_isHeld 164 = .ok (.iload 8, 2) := by decide +kernel
theorem dX4_isHeld_166 : decode cX4_isHeld 166 = .ok (.invokevirtual 64, 3) := by decide +kernel
theorem dX4_isHeld_169 : decode cX4_isHeld 169 = .ok (.iconst 1, 1) := by decide +kernel
theorem dX4_isHeld_170 : decode cX4_isHeld 170 = .ok (.if_icmp .ne 46, 3) := by decide +kernel
theorem dX4_isHeld_173 : decode cX4_isHeld 173 = .ok (.aload_n 0, 1) := by decide +kernel
theorem dX4_isHeld_174 : decode cX4_isHeld 174 = .ok (.iload 8, 2) := by decide +kernel
theorem dX4_isHeld_176 : decode cX4_isHeld 176 = .ok (.invokevirtual 88, 3) := by decide +kernel
theorem dX4_isHeld_179 : decode cX4_isHeld 179 = .ok (.aload_n 0, 1) := by decide +kernel
theorem dX4_isHeld_180 : decode cX4_isHeld 180 = .ok (.iload_n 1, 1) := by decide +kernel
theorem dX4_isHeld_181 : decode cX4_isHeld 181 = .ok (.invokevirtual 88, 3) := by decide +kernel
theorem dX4_isHeld_184 : decode cX4_isHeld 184 = .ok (.if_icmp .ne 32, 3) := by decide +kernel
theorem dX4_isHeld_187 : decode cX4_isHeld 187 = .ok (.aload_n 0, 1) := by decide +kernel
theorem dX4_isHeld_188 : decode cX4_isHeld 188 = .ok (.iload 8, 2) := by decide +kernel
theorem dX4_isHeld_190 : decode cX4_isHeld 190 = .ok (.invokevirtual 112, 3) := by decide +kernel
theorem dX4_isHeld_193 : decode cX4_isHeld 193 = .ok (.ifCond .eq 23, 3) := by decide +kernel
theorem dX4_isHeld_196 : decode cX4_isHeld 196 = .ok (.aload_n 0, 1) := by decide +kernel
theorem dX4_isHeld_197 : decode cX4_isHeld 197 = .ok (.aload_n 0, 1) := by decide +kernel
theorem dX4_isHeld_198 : decode cX4_isHeld 198 = .ok (.iload 8, 2) := by decide +kernel
theorem dX4_isHeld_200 : decode cX4_isHeld 200 = .ok (.iconst 0, 1) := by decide +kernel
theorem dX4_isHeld_201 : decode cX4_isHeld 201 = .ok (.invokevirtual 71, 3) := by decide +kernel
theorem dX4_isHeld_204 : decode cX4_isHeld 204 = .ok (.invokevirtual 88, 3) := by decide +kernel
theorem dX4_isHeld_207 : decode cX4_isHeld 207 = .ok (.iload 4, 2) := by decide +kernel
theorem dX4_isHeld_209 : decode cX4_isHeld 209 = .ok (.if_icmp .ne 7, 3) := by decide +kernel
theorem dX4_isHeld_212 : decode cX4_isHeld 212 = .ok (.iconst 1, 1) := by decide +kernel
theorem dX4_isHeld_213 : decode cX4_isHeld 213 = .ok (.goto 4, 3) := by decide +kernel
theorem dX4_isHeld_216 : decode cX4_isHeld 216 = .ok (.iconst 0, 1) := by decide +kernel
theorem dX4_isHeld_217 : decode cX4_isHeld 217 = .ok (.istore 7, 2) := by decide +kernel
theorem dX4_isHeld_219 : decode cX4_isHeld 219 = .ok (.iinc 8 1, 3) := by decide +kernel
theorem dX4_isHeld_222 : decode cX4_isHeld 222 = .ok (.goto (-83), 3) := by decide +kernel
theorem dX4_isHeld_225 : decode cX4_isHeld 225 = .ok (.iload 7, 2) := by decide +kernel
theorem dX4_isHeld_227 : decode cX4_isHeld 227 = .ok (.ifCond .eq 12, 3) := by decide +kernel
theorem dX4_isHeld_230 : decode cX4_isHeld 230 = .ok (.iload 5, 2) := by decide +kernel
theorem dX4_isHeld_232 : decode cX4_isHeld 232 = .ok (.ifCond .eq 7, 3) := by decide +kernel
theorem dX4_isHeld_235 : decode cX4_isHeld 235 = .ok (.iconst 1, 1) := by decide +kernel
theorem dX4_isHeld_236 : decode cX4_isHeld 236 = .ok (.goto 4, 3) := by decide +kernel
theorem dX4_isHeld_239 : decode cX4_isHeld 239 = .ok (.iconst 0, 1) := by decide +kernel
theorem dX4_isHeld_240 : decode cX4_isHeld 240 = .ok (.ireturn, 1) := by decide +kernel
theorem dX4_kindOf_0 : decode cX4_kindOf 0 = .ok (.aload_n 0, 1) := by decide +kernel
theorem dX4_kindOf_1 : decode cX4_kindOf 1 = .ok (.iload_n 1, 1) := by decide +kernel
theorem dX4_kindOf_2 : decode cX4_kindOf 2 = .ok (.invokevirtual 91, 3) := by decide +kernel
theorem dX4_kindOf_5 : decode cX4_kindOf 5 = .ok (.ifCond .ne 6, 3) := by decide +kernel
theorem dX4_kindOf_8 : decode cX4_kindOf 8 = .ok (.bipush (-9), 2) := by decide +kernel
theorem dX4_kindOf_10 : decode cX4_kindOf 10 = .ok (.ireturn, 1) := by decide +kernel
theorem dX4_kindOf_11 : decode cX4_kindOf 11 = .ok (.aload_n 0, 1) := by decide +kernel
theorem dX4_kindOf_12 : decode cX4_kindOf 12 = .ok (.iload_n 1, 1) := by decide +kernel
theorem dX4_kindOf_13 : decode cX4_kindOf 13 = .ok (.invokevirtual 100, 3) := by decide +kernel
theorem dX4_kindOf_16 : decode cX4_kindOf 16 = .ok (.ifCond .eq 17, 3) := by decide +kernel
theorem dX4_kindOf_19 : decode cX4_kindOf 19 = .ok (.aload_n 0, 1) := by decide +kernel
theorem dX4_kindOf_20 : decode cX4_kindOf 20 = .ok (.iload_n 1, 1) := by decide +kernel
theorem dX4_kindOf_21 : decode cX4_kindOf 21 = .ok (.invokevirtual 112, 3) := by decide +kernel
theorem dX4_kindOf_24 : decode cX4_kindOf 24 = .ok (.ifCond .eq 7, 3) := by decide +kernel
theorem dX4_kindOf_27 : decode cX4_kindOf 27 = .ok (.iconst 0, 1) := by decide +kernel
theorem dX4_kindOf_28 : decode cX4_kindOf 28 = .ok (.goto 4, 3) := by decide +kernel
theorem dX4_kindOf_31 : decode cX4_kindOf 31 = .ok (.iconst 1, 1) := by decide +kernel
theorem dX4_kindOf_32 : decode cX4_kindOf 32 = .ok (.ireturn, 1) := by decide +kernel
theorem dX4_kindOf_33 : decode cX4_kindOf 33 = .ok (.aload_n 0, 1) := by decide +kernel
theorem dX4_kindOf_34 : decode cX4_kindOf 34 = .ok (.iload_n 1, 1) := by decide +kernel
theorem dX4_kindOf_35 : decode cX4_kindOf 35 = .ok (.invokevirtual 115, 3) := by decide +kernel
theorem dX4_kindOf_38 : decode cX4_kindOf 38 = .ok (.ifCond .eq 7, 3) := by decide +kernel
theorem dX4_kindOf_41 : decode cX4_kindOf 41 = .ok (.iconst 2, 1) := by decide +kernel
theorem dX4_kindOf_42 : decode cX4_kindOf 42 = .ok (.goto 4, 3) := by decide +kernel
theorem dX4_kindOf_45 : decode cX4_kindOf 45 = .ok (.iconst 3, 1) := by decide +kernel
theorem dX4_kindOf_46 : decode cX4_kindOf 46 = .ok (.ireturn, 1) := by decide +kernel
theorem dX4_kindAt_0 : decode cX4_kindAt 0 = .ok (.aload_n 0, 1) := by decide +kernel
theorem dX4_kindAt_1 : decode cX4_kindAt 1 = .ok (.iload_n 1, 1) := by decide +kernel
theorem dX4_kindAt_2 : decode cX4_kindAt 2 = .ok (.invokevirtual 64, 3) := by decide +kernel
theorem dX4_kindAt_5 : decode cX4_kindAt 5 = .ok (.iconst 1, 1) := by decide +kernel
theorem dX4_kindAt_6 : decode cX4_kindAt 6 = .ok (.if_icmp .ne 11, 3) := by decide +kernel
theorem dX4_kindAt_9 : decode cX4_kindAt 9 = .ok (.aload_n 0, 1) := by decide +kernel
theorem dX4_kindAt_10 : decode cX4_kindAt 10 = .ok (.iload_n 1, 1) := by decide +kernel
theorem dX4_kindAt_11 : decode cX4_kindAt 11 = .ok (.invokevirtual 118, 3) := by decide +kernel
theorem dX4_kindAt_14 : decode cX4_kindAt 14 = .ok (.goto 5, 3) := by decide +kernel
theorem dX4_kindAt_17 : decode cX4_kindAt 17 = .ok (.bipush (-9), 2) := by decide +kernel
theorem dX4_kindAt_19 : decode cX4_kindAt 19 = .ok (.ireturn, 1) := by decide +kernel
theorem dX4_reached_0 : decode cX4_reached 0 = .ok (.iconst 1, 1) := by decide +kernel
theorem dX4_reached_1 : decode cX4_reached 1 = .ok (.iload_n 1, 1) := by decide +kernel
theorem dX4_reached_2 : decode cX4_reached 2 = .ok (.ishl, 1) := by decide +kernel
theorem dX4_reached_3 : decode cX4_reached 3 = .ok (.istore_n 2, 1) := by decide +kernel
theorem dX4_reached_4 : decode cX4_reached 4 = .ok (.iload_n 1, 1) := by decide +kernel
theorem dX4_reached_5 : decode cX4_reached 5 = .ok (.iconst 1, 1) := by decide +kernel
theorem dX4_reached_6 : decode cX4_reached 6 = .ok (.iadd, 1) := by decide +kernel
theorem dX4_reached_7 : decode cX4_reached 7 = .ok (.istore_n 3, 1) := by decide +kernel
theorem dX4_reached_8 : decode cX4_reached 8 = .ok (.iload_n 3, 1) := by decide +kernel
theorem dX4_reached_9 : decode cX4_reached 9 = .ok (.aload_n 0, 1) := by decide +kernel
theorem dX4_reached_10 : decode cX4_reached 10 = .ok (.invokevirtual 52, 3) := by decide +kernel
theorem dX4_reached_13 : decode cX4_reached 13 = .ok (.if_icmp .ge 97, 3) := by decide +kernel
theorem dX4_reached_16 : decode cX4_reached 16 = .ok (.aload_n 0, 1) := by decide +kernel
theorem dX4_reached_17 : decode cX4_reached 17 = .ok (.iload_n 3, 1) := by decide +kernel
theorem dX4_reached_18 : decode cX4_reached 18 = .ok (.invokevirtual 75, 3) := by decide +kernel
theorem dX4_reached_21 : decode cX4_reached 21 = .ok (.ifCond .eq 25, 3) := by decide +kernel
theorem dX4_reached_24 : decode cX4_reached 24 = .ok (.aload_n 0, 1) := by decide +kernel
theorem dX4_reached_25 : decode cX4_reached 25 = .ok (.iload_n 3, 1) := by decide +kernel
theorem dX4_reached_26 : decode cX4_reached 26 = .ok (.invokevirtual 64, 3) := by decide +kernel
theorem dX4_reached_29 : decode cX4_reached 29 = .ok (.iconst 1, 1) := by decide +kernel
theorem dX4_reached_30 : decode cX4_reached 30 = .ok (.if_icmp .ne 20, 3) := by decide +kernel
theorem dX4_reached_33 : decode cX4_reached 33 = .ok (.aload_n 0, 1) := by decide +kernel
theorem dX4_reached_34 : decode cX4_reached 34 = .ok (.iload_n 3, 1) := by decide +kernel
theorem dX4_reached_35 : decode cX4_reached 35 = .ok (.invokevirtual 88, 3) := by decide +kernel
theorem dX4_reached_38 : decode cX4_reached 38 = .ok (.aload_n 0, 1) := by decide +kernel
theorem dX4_reached_39 : decode cX4_reached 39 = .ok (.iload_n 1, 1) := by decide +kernel
theorem dX4_reached_40 : decode cX4_reached 40 = .ok (.invokevirtual 88, 3) := by decide +kernel
theorem dX4_reached_43 : decode cX4_reached 43 = .ok (.if_icmp .ne 7, 3) := by decide +kernel
theorem dX4_reached_46 : decode cX4_reached 46 = .ok (.iconst 1, 1) := by decide +kernel
theorem dX4_reached_47 : decode cX4_reached 47 = .ok (.goto 4, 3) := by decide +kernel
theorem dX4_reached_50 : decode cX4_reached 50 = .ok (.iconst 0, 1) := by decide +kernel
theorem dX4_reached_51 : decode cX4_reached 51 = .ok (.istore 4, 2) := by decide +kernel
theorem dX4_reached_53 : decode cX4_reached 53 = .ok (.iconst 0, 1) := by decide +kernel
theorem dX4_reached_54 : decode cX4_reached 54 = .ok (.istore 5, 2) := by decide +kernel
theorem dX4_reached_56 : decode cX4_reached 56 = .ok (.iload 5, 2) := by decide +kernel
theorem dX4_reached_58 : decode cX4_reached 58 = .ok (.aload_n 0, 1) := by decide +kernel
theorem dX4_reached_59 : decode cX4_reached 59 = .ok (.iload_n 3, 1) := by decide +kernel
theorem dX4_reached_60 : decode cX4_reached 60 = .ok (.invokevirtual 64, 3) := by decide +kernel
theorem dX4_reached_63 : decode cX4_reached 63 = .ok (.invokestatic 68, 3) := by decide +kernel
theorem dX4_reached_66 : decode cX4_reached 66 = .ok (.if_icmp .ge 38, 3) := by decide +kernel
theorem dX4_reached_69 : decode cX4_reached 69 = .ok (.iload 4, 2) := by decide +kernel
theorem dX4_reached_71 : decode cX4_reached 71 = .ok (.ifCond .eq 33, 3) := by decide +kernel
theorem dX4_reached_74 : decode cX4_reached 74 = .ok (.iload_n 2, 1) := by decide +kernel
theorem dX4_reached_75 : decode cX4_reached 75 = .ok (.iload_n 2, 1) := by decide +kernel
theorem dX4_reached_76 : decode cX4_reached 76 = .ok (.aload_n 0, 1) := by decide +kernel
theorem dX4_reached_77 : decode cX4_reached 77 = .ok (.iload_n 3, 1) := by decide +kernel
theorem dX4_reached_78 : decode cX4_reached 78 = .ok (.iload 5, 2) := by decide +kernel
theorem dX4_reached_80 : decode cX4_reached 80 = .ok (.invokevirtual 71, 3) := by decide +kernel
theorem dX4_reached_83 : decode cX4_reached 83 = .ok (.invokestatic 84, 3) := by decide +kernel
theorem dX4_reached_86 : decode cX4_reached 86 = .ok (.ifCond .eq 9, 3) := by decide +kernel
theorem dX4_reached_89 : decode cX4_reached 89 = .ok (.iconst 1, 1) := by decide +kernel
theorem dX4_reached_90 : decode cX4_reached 90 = .ok (.iload_n 3, 1) := by decide +kernel
theorem dX4_reached_91 : decode cX4_reached 91 = .ok (.ishl, 1) := by decide +kernel
theorem dX4_reached_92 : decode cX4_reached 92 = .ok (.goto 4, 3) := by decide +kernel
theorem dX4_reached_95 : decode cX4_reached 95 = .ok (.iconst 0, 1) := by decide +kernel
theorem dX4_reached_96 : decode cX4_reached 96 = .ok (.ior, 1) := by decide +kernel
theorem dX4_reached_97 : decode cX4_reached 97 = .ok (.istore_n 2, 1) := by decide +kernel
theorem dX4_reached_98 : decode cX4_reached 98 = .ok (.iinc 5 1, 3) := by decide +kernel
theorem dX4_reached_101 : decode cX4_reached 101 = .ok (.goto (-45), 3) := by decide +kernel
theorem dX4_reached_104 : decode cX4_reached 104 = .ok (.iinc 3 1, 3) := by decide +kernel
theorem dX4_reached_107 : decode cX4_reached 107 = .ok (.goto (-99), 3) := by decide +kernel
theorem dX4_reached_110 : decode cX4_reached 110 = .ok (.iload_n 2, 1) := by decide +kernel
theorem dX4_reached_111 : decode cX4_reached 111 = .ok (.ireturn, 1) := by decide +kernel
theorem dX4_areMarked_0 : decode cX4_areMarked 0 = .ok (.iconst 0, 1) := by decide +kernel
theorem dX4_areMarked_1 : decode cX4_areMarked 1 = .ok (.istore_n 3, 1) := by decide +kernel
theorem dX4_areMarked_2 : decode cX4_areMarked 2 = .ok (.iconst 0, 1) := by decide +kernel
theorem dX4_areMarked_3 : decode cX4_areMarked 3 = .ok (.istore 4, 2) := by decide +kernel
theorem dX4_areMarked_5 : decode cX4_areMarked 5 = .ok (.iload 4, 2) := by decide +kernel
theorem dX4_areMarked_7 : decode cX4_areMarked 7 = .ok (.aload_n 0, 1) := by decide +kernel
theorem dX4_areMarked_8 : decode cX4_areMarked 8 = .ok (.getfield 7, 3) := by decide +kernel
theorem dX4_areMarked_11 : decode cX4_areMarked 11 = .ok (.bipush 96, 2) := by decide +kernel
theorem dX4_areMarked_13 : decode cX4_areMarked 13 = .ok (.iaload, 1) := by decide +kernel
theorem dX4_areMarked_14 : decode cX4_areMarked 14 = .ok (.if_icmp .ge 73, 3) := by decide +kernel
theorem dX4_areMarked_17 : decode cX4_areMarked 17 = .ok (.aload_n 0, 1) := by decide +kernel
theorem dX4_areMarked_18 : decode cX4_areMarked 18 = .ok (.getfield 7, 3) := by decide +kernel
theorem dX4_areMarked_21 : decode cX4_areMarked 21 = .ok (.bipush 80, 2) := by decide +kernel
theorem dX4_areMarked_23 : decode cX4_areMarked 23 = .ok (.iconst 2, 1) := by decide +kernel
theorem dX4_areMarked_24 : decode cX4_areMarked 24 = .ok (.iload 4, 2) := by decide +kernel
theorem dX4_areMarked_26 : decode cX4_areMarked 26 = .ok (.imul, 1) := by decide +kernel
theorem dX4_areMarked_27 : decode cX4_areMarked 27 = .ok (.iadd, 1) := by decide +kernel
theorem dX4_areMarked_28 : decode cX4_areMarked 28 = .ok (.iaload, 1) := by decide +kernel
theorem dX4_areMarked_29 : decode cX4_areMarked 29 = .ok (.istore 5, 2) := by decide +kernel
theorem dX4_areMarked_31 : decode cX4_areMarked 31 = .ok (.aload_n 0, 1) := by decide +kernel
theorem dX4_areMarked_32 : decode cX4_areMarked 32 = .ok (.getfield 7, 3) := by decide +kernel
theorem dX4_areMarked_35 : decode cX4_areMarked 35 = .ok (.bipush 80, 2) := by decide +kernel
theorem dX4_areMarked_37 : decode cX4_areMarked 37 = .ok (.iconst 2, 1) := by decide +kernel
theorem dX4_areMarked_38 : decode cX4_areMarked 38 = .ok (.iload 4, 2) := by decide +kernel
theorem dX4_areMarked_40 : decode cX4_areMarked 40 = .ok (.imul, 1) := by decide +kernel
theorem dX4_areMarked_41 : decode cX4_areMarked 41 = .ok (.iadd, 1) := by decide +kernel
theorem dX4_areMarked_42 : decode cX4_areMarked 42 = .ok (.iconst 1, 1) := by decide +kernel
theorem dX4_areMarked_43 : decode cX4_areMarked 43 = .ok (.iadd, 1) := by decide +kernel
theorem dX4_areMarked_44 : decode cX4_areMarked 44 = .ok (.iaload, 1) := by decide +kernel
theorem dX4_areMarked_45 : decode cX4_areMarked 45 = .ok (.istore 6, 2) := by decide +kernel
theorem dX4_areMarked_47 : decode cX4_areMarked 47 = .ok (.iload_n 3, 1) := by decide +kernel
theorem dX4_areMarked_48 : decode cX4_areMarked 48 = .ok (.ifCond .ne 27, 3) := by decide +kernel
theorem dX4_areMarked_51 : decode cX4_areMarked 51 = .ok (.iload 5, 2) := by decide +kernel
theorem dX4_areMarked_53 : decode cX4_areMarked 53 = .ok (.iload_n 1, 1) := by decide +kernel
theorem dX4_areMarked_54 : decode cX4_areMarked 54 = .ok (.if_icmp .ne 9, 3) := by decide +kernel
theorem dX4_areMarked_57 : decode cX4_areMarked 57 = .ok (.iload 6, 2) := by decide +kernel
theorem dX4_areMarked_59 : decode cX4_areMarked 59 = .ok (.iload_n 2, 1) := by decide +kernel
theorem dX4_areMarked_60 : decode cX4_areMarked 60 = .ok (.if_icmp .eq 15, 3) := by decide +kernel
theorem dX4_areMarked_63 : decode cX4_areMarked 63 = .ok (.iload 5, 2) := by decide +kernel
theorem dX4_areMarked_65 : decode cX4_areMarked 65 = .ok (.iload_n 2, 1) := by decide +kernel
theorem dX4_areMarked_66 : decode cX4_areMarked 66 = .ok (.if_icmp .ne 13, 3) := by decide +kernel
theorem dX4_areMarked_69 : decode cX4_areMarked 69 = .ok (.iload 6, 2) := by decide +kernel
theorem dX4_areMarked_71 : decode cX4_areMarked 71 = .ok (.iload_n 1, 1) := by decide +kernel
theorem dX4_areMarked_72 : decode cX4_areMarked 72 = .ok (.if_icmp .ne 7, 3) := by decide +kernel
theorem dX4_areMarked_75 : decode cX4_areMarked 75 = .ok (.iconst 1, 1) := by decide +kernel
theorem dX4_areMarked_76 : decode cX4_areMarked 76 = .ok (.goto 4, 3) := by decide +kernel
theorem dX4_areMarked_79 : decode cX4_areMarked 79 = .ok (.iconst 0, 1) := by decide +kernel
theorem dX4_areMarked_80 : decode cX4_areMarked 80 = .ok (.istore_n 3, 1) := by decide +kernel
theorem dX4_areMarked_81 : decode cX4_areMarked 81 = .ok (.iinc 4 1, 3) := by decide +kernel
theorem dX4_areMarked_84 : decode cX4_areMarked 84 = .ok (.goto (-79), 3) := by decide +kernel
theorem dX4_areMarked_87 : decode cX4_areMarked 87 = .ok (.iload_n 3, 1) := by decide +kernel
theorem dX4_areMarked_88 : decode cX4_areMarked 88 = .ok (.ireturn, 1) := by decide +kernel
theorem dX4_areApart_0 : decode cX4_areApart 0 = .ok (.aload_n 0, 1) := by decide +kernel
theorem dX4_areApart_1 : decode cX4_areApart 1 = .ok (.iload_n 1, 1) := by decide +kernel
theorem dX4_areApart_2 : decode cX4_areApart 2 = .ok (.iconst 0, 1) := by decide +kernel
theorem dX4_areApart_3 : decode cX4_areApart 3 = .ok (.invokevirtual 71, 3) := by decide +kernel
theorem dX4_areApart_6 : decode cX4_areApart 6 = .ok (.istore_n 3, 1) := by decide +kernel
theorem dX4_areApart_7 : decode cX4_areApart 7 = .ok (.aload_n 0, 1) := by decide +kernel
theorem dX4_areApart_8 : decode cX4_areApart 8 = .ok (.iload_n 2, 1) := by decide +kernel
theorem dX4_areApart_9 : decode cX4_areApart 9 = .ok (.iconst 0, 1) := by decide +kernel
theorem dX4_areApart_10 : decode cX4_areApart 10 = .ok (.invokevirtual 71, 3) := by decide +kernel
theorem dX4_areApart_13 : decode cX4_areApart 13 = .ok (.istore 4, 2) := by decide +kernel
theorem dX4_areApart_15 : decode cX4_areApart 15 = .ok (.aload_n 0, 1) := by decide +kernel
theorem dX4_areApart_16 : decode cX4_areApart 16 = .ok (.iload_n 1, 1) := by decide +kernel
theorem dX4_areApart_17 : decode cX4_areApart 17 = .ok (.invokevirtual 88, 3) := by decide +kernel
theorem dX4_areApart_20 : decode cX4_areApart 20 = .ok (.aload_n 0, 1) := by decide +kernel
theorem dX4_areApart_21 : decode cX4_areApart 21 = .ok (.iload_n 2, 1) := by decide +kernel
theorem dX4_areApart_22 : decode cX4_areApart 22 = .ok (.invokevirtual 88, 3) := by decide +kernel
theorem dX4_areApart_25 : decode cX4_areApart 25 = .ok (.if_icmp .ne 53, 3) := by decide +kernel
theorem dX4_areApart_28 : decode cX4_areApart 28 = .ok (.aload_n 0, 1) := by decide +kernel
theorem dX4_areApart_29 : decode cX4_areApart 29 = .ok (.iload_n 1, 1) := by decide +kernel
theorem dX4_areApart_30 : decode cX4_areApart 30 = .ok (.invokevirtual 100, 3) := by decide +kernel
theorem dX4_areApart_33 : decode cX4_areApart 33 = .ok (.ifCond .eq 45, 3) := by decide +kernel
theorem dX4_areApart_36 : decode cX4_areApart 36 = .ok (.aload_n 0, 1) := by decide +kernel
theorem dX4_areApart_37 : decode cX4_areApart 37 = .ok (.iload_n 2, 1) := by decide +kernel
theorem dX4_areApart_38 : decode cX4_areApart 38 = .ok (.invokevirtual 100, 3) := by decide +kernel
theorem dX4_areApart_41 : decode cX4_areApart 41 = .ok (.ifCond .eq 37, 3) := by decide +kernel
theorem dX4_areApart_44 : decode cX4_areApart 44 = .ok (.iload_n 3, 1) := by decide +kernel
theorem dX4_areApart_45 : decode cX4_areApart 45 = .ok (.iload 4, 2) := by decide +kernel
theorem dX4_areApart_47 : decode cX4_areApart 47 = .ok (.if_icmp .eq 31, 3) := by decide +kernel
theorem dX4_areApart_50 : decode cX4_areApart 50 = .ok (.aload_n 0, 1) := by decide +kernel
theorem dX4_areApart_51 : decode cX4_areApart 51 = .ok (.iload_n 3, 1) := by decide +kernel
theorem dX4_areApart_52 : decode cX4_areApart 52 = .ok (.invokevirtual 88, 3) := by decide +kernel
theorem dX4_areApart_55 : decode cX4_areApart 55 = .ok (.aload_n 0, 1) := by decide +kernel
theorem dX4_areApart_56 : decode cX4_areApart 56 = .ok (.iload 4, 2) := by decide +kernel
theorem dX4_areApart_58 : decode cX4_areApart 58 = .ok (.invokevirtual 88, 3) := by decide +kernel
theorem dX4_areApart_61 : decode cX4_areApart 61 = .ok (.if_icmp .ne 17, 3) := by decide +kernel
theorem dX4_areApart_64 : decode cX4_areApart 64 = .ok (.aload_n 0, 1) := by decide +kernel
theorem dX4_areApart_65 : decode cX4_areApart 65 = .ok (.iload_n 3, 1) := by decide +kernel
theorem dX4_areApart_66 : decode cX4_areApart 66 = .ok (.iload 4, 2) := by decide +kernel
theorem dX4_areApart_68 : decode cX4_areApart 68 = .ok (.invokevirtual 121, 3) := by decide +kernel
theorem dX4_areApart_71 : decode cX4_areApart 71 = .ok (.ifCond .ne 7, 3) := by decide +kernel
theorem dX4_areApart_74 : decode cX4_areApart 74 = .ok (.iconst 1, 1) := by decide +kernel
theorem dX4_areApart_75 : decode cX4_areApart 75 = .ok (.goto 4, 3) := by decide +kernel
theorem dX4_areApart_78 : decode cX4_areApart 78 = .ok (.iconst 0, 1) := by decide +kernel
theorem dX4_areApart_79 : decode cX4_areApart 79 = .ok (.ireturn, 1) := by decide +kernel
theorem dX4_lowest_0 : decode cX4_lowest 0 = .ok (.iconst 0, 1) := by decide +kernel
theorem dX4_lowest_1 : decode cX4_lowest 1 = .ok (.istore_n 1, 1) := by decide +kernel
theorem dX4_lowest_2 : decode cX4_lowest 2 = .ok (.iload_n 0, 1) := by decide +kernel
theorem dX4_lowest_3 : decode cX4_lowest 3 = .ok (.iload_n 1, 1) := by decide +kernel
theorem dX4_lowest_4 : decode cX4_lowest 4 = .ok (.invokestatic 84, 3) := by decide +kernel
theorem dX4_lowest_7 : decode cX4_lowest 7 = .ok (.ifCond .ne 9, 3) := by decide +kernel
theorem dX4_lowest_10 : decode cX4_lowest 10 = .ok (.iinc 1 1, 3) := by decide +kernel
theorem dX4_lowest_13 : decode cX4_lowest 13 = .ok (.goto (-11), 3) := by decide +kernel
theorem dX4_lowest_16 : decode cX4_lowest 16 = .ok (.iload_n 1, 1) := by decide +kernel
theorem dX4_lowest_17 : decode cX4_lowest 17 = .ok (.ireturn, 1) := by decide +kernel
theorem dX4_joinAt_0 : decode cX4_joinAt 0 = .ok (.iconst 0, 1) := by decide +kernel
theorem dX4_joinAt_1 : decode cX4_joinAt 1 = .ok (.istore_n 3, 1) := by decide +kernel
theorem dX4_joinAt_2 : decode cX4_joinAt 2 = .ok (.iconst 0, 1) := by decide +kernel
theorem dX4_joinAt_3 : decode cX4_joinAt 3 = .ok (.istore 4, 2) := by decide +kernel
theorem dX4_joinAt_5 : decode cX4_joinAt 5 = .ok (.iload 4, 2) := by decide +kernel
theorem dX4_joinAt_7 : decode cX4_joinAt 7 = .ok (.aload_n 0, 1) := by decide +kernel
theorem dX4_joinAt_8 : decode cX4_joinAt 8 = .ok (.invokevirtual 52, 3) := by decide +kernel
theorem dX4_joinAt_11 : decode cX4_joinAt 11 = .ok (.if_icmp .ge 128, 3) := by decide +kernel
theorem dX4_joinAt_14 : decode cX4_joinAt 14 = .ok (.iload 4, 2) := by decide +kernel
theorem dX4_joinAt_16 : decode cX4_joinAt 16 = .ok (.iconst 1, 1) := by decide +kernel
theorem dX4_joinAt_17 : decode cX4_joinAt 17 = .ok (.iadd, 1) := by decide +kernel
theorem dX4_joinAt_18 : decode cX4_joinAt 18 = .ok (.istore 5, 2) := by decide +kernel
theorem dX4_joinAt_20 : decode cX4_joinAt 20 = .ok (.iload 5, 2) := by decide +kernel
theorem dX4_joinAt_22 : decode cX4_joinAt 22 = .ok (.aload_n 0, 1) := by decide +kernel
theorem dX4_joinAt_23 : decode cX4_joinAt 23 = .ok (.invokevirtual 52, 3) := by decide +kernel
theorem dX4_joinAt_26 : decode cX4_joinAt 26 = .ok (.if_icmp .ge 107, 3) := by decide +kernel
theorem dX4_joinAt_29 : decode cX4_joinAt 29 = .ok (.aload_n 0, 1) := by decide +kernel
theorem dX4_joinAt_30 : decode cX4_joinAt 30 = .ok (.iload 4, 2) := by decide +kernel
theorem dX4_joinAt_32 : decode cX4_joinAt 32 = .ok (.invokevirtual 64, 3) := by decide +kernel
theorem dX4_joinAt_35 : decode cX4_joinAt 35 = .ok (.iconst 1, 1) := by decide +kernel
theorem dX4_joinAt_36 : decode cX4_joinAt 36 = .ok (.if_icmp .ne 97, 3) := by decide +kernel
theorem dX4_joinAt_39 : decode cX4_joinAt 39 = .ok (.aload_n 0, 1) := by decide +kernel
theorem dX4_joinAt_40 : decode cX4_joinAt 40 = .ok (.iload 5, 2) := by decide +kernel
theorem dX4_joinAt_42 : decode cX4_joinAt 42 = .ok (.invokevirtual 64, 3) := by decide +kernel
theorem dX4_joinAt_45 : decode cX4_joinAt 45 = .ok (.iconst 1, 1) := by decide +kernel
theorem dX4_joinAt_46 : decode cX4_joinAt 46 = .ok (.if_icmp .ne 30, 3) := by decide +kernel
theorem dX4_joinAt_49 : decode cX4_joinAt 49 = .ok (.aload_n 0, 1) := by decide +kernel
theorem dX4_joinAt_50 : decode cX4_joinAt 50 = .ok (.iload 4, 2) := by decide +kernel
theorem dX4_joinAt_52 : decode cX4_joinAt 52 = .ok (.iload 5, 2) := by decide +kernel
theorem dX4_joinAt_54 : decode cX4_joinAt 54 = .ok (.invokevirtual 124, 3) := by decide +kernel
theorem dX4_joinAt_57 : decode cX4_joinAt 57 = .ok (.ifCond .eq 19, 3) := by decide +kernel
theorem dX4_joinAt_60 : decode cX4_joinAt 60 = .ok (.aload_n 0, 1) := by decide +kernel
theorem dX4_joinAt_61 : decode cX4_joinAt 61 = .ok (.iload 4, 2) := by decide +kernel
theorem dX4_joinAt_63 : decode cX4_joinAt 63 = .ok (.invokevirtual 127, 3) := by decide +kernel
theorem dX4_joinAt_66 : decode cX4_joinAt 66 = .ok (.aload_n 0, 1) := by decide +kernel
theorem dX4_joinAt_67 : decode cX4_joinAt 67 = .ok (.iload 5, 2) := by decide +kernel
theorem dX4_joinAt_69 : decode cX4_joinAt 69 = .ok (.invokevirtual 127, 3) := by decide +kernel
theorem dX4_joinAt_72 : decode cX4_joinAt 72 = .ok (.iand, 1) := by decide +kernel
theorem dX4_joinAt_73 : decode cX4_joinAt 73 = .ok (.goto 4, 3) := by decide +kernel
theorem dX4_joinAt_76 : decode cX4_joinAt 76 = .ok (.iconst 0, 1) := by decide +kernel
theorem dX4_joinAt_77 : decode cX4_joinAt 77 = .ok (.istore 6, 2) := by decide +kernel
theorem dX4_joinAt_79 : decode cX4_joinAt 79 = .ok (.iload 6, 2) := by decide +kernel
theorem dX4_joinAt_81 : decode cX4_joinAt 81 = .ok (.ifCond .eq 33, 3) := by decide +kernel
theorem dX4_joinAt_84 : decode cX4_joinAt 84 = .ok (.iload_n 3, 1) := by decide +kernel
theorem dX4_joinAt_85 : decode cX4_joinAt 85 = .ok (.iload_n 1, 1) := by decide +kernel
theorem dX4_joinAt_86 : decode cX4_joinAt 86 = .ok (.if_icmp .ne 28, 3) := by decide +kernel
theorem dX4_joinAt_89 : decode cX4_joinAt 89 = .ok (.iload_n 2, 1) := by decide +kernel
theorem dX4_joinAt_90 : decode cX4_joinAt 90 = .ok (.ifCond .ne 8, 3) := by decide +kernel
theorem dX4_joinAt_93 : decode cX4_joinAt 93 = .ok (.iload 4, 2) := by decide +kernel
theorem dX4_joinAt_95 : decode cX4_joinAt 95 = .ok (.goto 18, 3) := by decide +kernel
theorem dX4_joinAt_98 : decode cX4_joinAt 98 = .ok (.iload_n 2, 1) := by decide +kernel
theorem dX4_joinAt_99 : decode cX4_joinAt 99 = .ok (.iconst 1, 1) := by decide +kernel
theorem dX4_joinAt_100 : decode cX4_joinAt 100 = .ok (.if_icmp .ne 8, 3) := by decide +kernel
theorem dX4_joinAt_103 : decode cX4_joinAt 103 = .ok (.iload 5, 2) := by decide +kernel
theorem dX4_joinAt_105 : decode cX4_joinAt 105 = .ok (.goto 8, 3) := by decide +kernel
theorem dX4_joinAt_108 : decode cX4_joinAt 108 = .ok (.iload 6, 2) := by decide +kernel
theorem dX4_joinAt_110 : decode cX4_joinAt 110 = .ok (.invokestatic 130, 3) := by decide +kernel
theorem dX4_joinAt_113 : decode cX4_joinAt 113 = .ok (.ireturn, 1) := by decide +kernel
theorem dX4_joinAt_114 : decode cX4_joinAt 114 = .ok (.iload_n 3, 1) := by decide +kernel
theorem dX4_joinAt_115 : decode cX4_joinAt 115 = .ok (.iload 6, 2) := by decide +kernel
theorem dX4_joinAt_117 : decode cX4_joinAt 117 = .ok (.ifCond .eq 7, 3) := by decide +kernel
theorem dX4_joinAt_120 : decode cX4_joinAt 120 = .ok (.iconst 1, 1) := by decide +kernel
theorem dX4_joinAt_121 : decode cX4_joinAt 121 = .ok (.goto 4, 3) := by decide +kernel
theorem dX4_joinAt_124 : decode cX4_joinAt 124 = .ok (.iconst 0, 1) := by decide +kernel
theorem dX4_joinAt_125 : decode cX4_joinAt 125 = .ok (.iadd, 1) := by decide +kernel
theorem dX4_joinAt_126 : decode cX4_joinAt 126 = .ok (.istore_n 3, 1) := by decide +kernel
theorem dX4_joinAt_127 : decode cX4_joinAt 127 = .ok (.iinc 5 1, 3) := by decide +kernel
theorem dX4_joinAt_130 : decode cX4_joinAt 130 = .ok (.goto (-110), 3) := by decide +kernel
theorem dX4_joinAt_133 : decode cX4_joinAt 133 = .ok (.iinc 4 1, 3) := by decide +kernel
theorem dX4_joinAt_136 : decode cX4_joinAt 136 = .ok (.goto (-131), 3) := by decide +kernel
theorem dX4_joinAt_139 : decode cX4_joinAt 139 = .ok (.iload_n 1, 1) := by decide +kernel
theorem dX4_joinAt_140 : decode cX4_joinAt 140 = .ok (.ifCond .ge 7, 3) := by decide +kernel
theorem dX4_joinAt_143 : decode cX4_joinAt 143 = .ok (.iload_n 3, 1) := by decide +kernel
theorem dX4_joinAt_144 : decode cX4_joinAt 144 = .ok (.goto 5, 3) := by decide +kernel
theorem dX4_joinAt_147 : decode cX4_joinAt 147 = .ok (.bipush (-9), 2) := by decide +kernel
theorem dX4_joinAt_149 : decode cX4_joinAt 149 = .ok (.ireturn, 1) := by decide +kernel
theorem dX4_and_0 : decode cX4_and 0 = .ok (.iload_n 0, 1) := by decide +kernel
theorem dX4_and_1 : decode cX4_and 1 = .ok (.ifCond .eq 7, 3) := by decide +kernel
theorem dX4_and_4 : decode cX4_and 4 = .ok (.iload_n 1, 1) := by decide +kernel
theorem dX4_and_5 : decode cX4_and 5 = .ok (.ifCond .ne 7, 3) := by decide +kernel
theorem dX4_and_8 : decode cX4_and 8 = .ok (.iconst 0, 1) := by decide +kernel
theorem dX4_and_9 : decode cX4_and 9 = .ok (.goto 18, 3) := by decide +kernel
theorem dX4_and_12 : decode cX4_and 12 = .ok (.iload_n 0, 1) := by decide +kernel
theorem dX4_and_13 : decode cX4_and 13 = .ok (.iconst 2, 1) := by decide +kernel
theorem dX4_and_14 : decode cX4_and 14 = .ok (.if_icmp .eq 8, 3) := by decide +kernel
theorem dX4_and_17 : decode cX4_and 17 = .ok (.iload_n 1, 1) := by decide +kernel
theorem dX4_and_18 : decode cX4_and 18 = .ok (.iconst 2, 1) := by decide +kernel
theorem dX4_and_19 : decode cX4_and 19 = .ok (.if_icmp .ne 7, 3) := by decide +kernel
theorem dX4_and_22 : decode cX4_and 22 = .ok (.iconst 2, 1) := by decide +kernel
theorem dX4_and_23 : decode cX4_and 23 = .ok (.goto 4, 3) := by decide +kernel
theorem dX4_and_26 : decode cX4_and 26 = .ok (.iconst 1, 1) := by decide +kernel
theorem dX4_and_27 : decode cX4_and 27 = .ok (.ireturn, 1) := by decide +kernel
theorem dX4_or_0 : decode cX4_or 0 = .ok (.iload_n 0, 1) := by decide +kernel
theorem dX4_or_1 : decode cX4_or 1 = .ok (.iconst 1, 1) := by decide +kernel
theorem dX4_or_2 : decode cX4_or 2 = .ok (.if_icmp .eq 8, 3) := by decide +kernel
theorem dX4_or_5 : decode cX4_or 5 = .ok (.iload_n 1, 1) := by decide +kernel
theorem dX4_or_6 : decode cX4_or 6 = .ok (.iconst 1, 1) := by decide +kernel
theorem dX4_or_7 : decode cX4_or 7 = .ok (.if_icmp .ne 7, 3) := by decide +kernel
theorem dX4_or_10 : decode cX4_or 10 = .ok (.iconst 1, 1) := by decide +kernel
theorem dX4_or_11 : decode cX4_or 11 = .ok (.goto 18, 3) := by decide +kernel
theorem dX4_or_14 : decode cX4_or 14 = .ok (.iload_n 0, 1) := by decide +kernel
theorem dX4_or_15 : decode cX4_or 15 = .ok (.iconst 2, 1) := by decide +kernel
theorem dX4_or_16 : decode cX4_or 16 = .ok (.if_icmp .eq 8, 3) := by decide +kernel
theorem dX4_or_19 : decode cX4_or 19 = .ok (.iload_n 1, 1) := by decide +kernel
theorem dX4_or_20 : decode cX4_or 20 = .ok (.iconst 2, 1) := by decide +kernel
theorem dX4_or_21 : decode cX4_or 21 = .ok (.if_icmp .ne 7, 3) := by decide +kernel
theorem dX4_or_24 : decode cX4_or 24 = .ok (.iconst 2, 1) := by decide +kernel
theorem dX4_or_25 : decode cX4_or 25 = .ok (.goto 4, 3) := by decide +kernel
theorem dX4_or_28 : decode cX4_or 28 = .ok (.iconst 0, 1) := by decide +kernel
theorem dX4_or_29 : decode cX4_or 29 = .ok (.ireturn, 1) := by decide +kernel
theorem dX4_xor_0 : decode cX4_xor 0 = .ok (.iload_n 0, 1) := by decide +kernel
theorem dX4_xor_1 : decode cX4_xor 1 = .ok (.iconst 2, 1) := by decide +kernel
theorem dX4_xor_2 : decode cX4_xor 2 = .ok (.if_icmp .eq 8, 3) := by decide +kernel
theorem dX4_xor_5 : decode cX4_xor 5 = .ok (.iload_n 1, 1) := by decide +kernel
theorem dX4_xor_6 : decode cX4_xor 6 = .ok (.iconst 2, 1) := by decide +kernel
theorem dX4_xor_7 : decode cX4_xor 7 = .ok (.if_icmp .ne 7, 3) := by decide +kernel
theorem dX4_xor_10 : decode cX4_xor 10 = .ok (.iconst 2, 1) := by decide +kernel
theorem dX4_xor_11 : decode cX4_xor 11 = .ok (.goto 6, 3) := by decide +kernel
theorem dX4_xor_14 : decode cX4_xor 14 = .ok (.iload_n 0, 1) := by decide +kernel
theorem dX4_xor_15 : decode cX4_xor 15 = .ok (.iload_n 1, 1) := by decide +kernel
theorem dX4_xor_16 : decode cX4_xor 16 = .ok (.ixor, 1) := by decide +kernel
theorem dX4_xor_17 : decode cX4_xor 17 = .ok (.ireturn, 1) := by decide +kernel
theorem dX4_choose_0 : decode cX4_choose 0 = .ok (.iload_n 0, 1) := by decide +kernel
theorem dX4_choose_1 : decode cX4_choose 1 = .ok (.ifCond .ne 7, 3) := by decide +kernel
theorem dX4_choose_4 : decode cX4_choose 4 = .ok (.iload_n 1, 1) := by decide +kernel
theorem dX4_choose_5 : decode cX4_choose 5 = .ok (.goto 22, 3) := by decide +kernel
theorem dX4_choose_8 : decode cX4_choose 8 = .ok (.iload_n 0, 1) := by decide +kernel
theorem dX4_choose_9 : decode cX4_choose 9 = .ok (.iconst 1, 1) := by decide +kernel
theorem dX4_choose_10 : decode cX4_choose 10 = .ok (.if_icmp .ne 7, 3) := by decide +kernel
theorem dX4_choose_13 : decode cX4_choose 13 = .ok (.iload_n 2, 1) := by decide +kernel
theorem dX4_choose_14 : decode cX4_choose 14 = .ok (.goto 13, 3) := by decide +kernel
theorem dX4_choose_17 : decode cX4_choose 17 = .ok (.iload_n 1, 1) := by decide +kernel
theorem dX4_choose_18 : decode cX4_choose 18 = .ok (.iload_n 2, 1) := by decide +kernel
theorem dX4_choose_19 : decode cX4_choose 19 = .ok (.if_icmp .ne 7, 3) := by decide +kernel
theorem dX4_choose_22 : decode cX4_choose 22 = .ok (.iload_n 1, 1) := by decide +kernel
theorem dX4_choose_23 : decode cX4_choose 23 = .ok (.goto 4, 3) := by decide +kernel
theorem dX4_choose_26 : decode cX4_choose 26 = .ok (.iconst 2, 1) := by decide +kernel
theorem dX4_choose_27 : decode cX4_choose 27 = .ok (.ireturn, 1) := by decide +kernel
theorem dX4_gate_0 : decode cX4_gate 0 = .ok (.aload_n 0, 1) := by decide +kernel
theorem dX4_gate_1 : decode cX4_gate 1 = .ok (.getfield 35, 3) := by decide +kernel
theorem dX4_gate_4 : decode cX4_gate 4 = .ok (.aload_n 0, 1) := by decide +kernel
theorem dX4_gate_5 : decode cX4_gate 5 = .ok (.iload_n 1, 1) := by decide +kernel
theorem dX4_gate_6 : decode cX4_gate 6 = .ok (.iconst 0, 1) := by decide +kernel
theorem dX4_gate_7 : decode cX4_gate 7 = .ok (.invokevirtual 71, 3) := by decide +kernel
theorem dX4_gate_10 : decode cX4_gate 10 = .ok (.iaload, 1) := by decide +kernel
theorem dX4_gate_11 : decode cX4_gate 11 = .ok (.istore_n 2, 1) := by decide +kernel
theorem dX4_gate_12 : decode cX4_gate 12 = .ok (.aload_n 0, 1) := by decide +kernel
theorem dX4_gate_13 : decode cX4_gate 13 = .ok (.getfield 35, 3) := by decide +kernel
theorem dX4_gate_16 : decode cX4_gate 16 = .ok (.aload_n 0, 1) := by decide +kernel
theorem dX4_gate_17 : decode cX4_gate 17 = .ok (.iload_n 1, 1) := by decide +kernel
theorem dX4_gate_18 : decode cX4_gate 18 = .ok (.iconst 1, 1) := by decide +kernel
theorem dX4_gate_19 : decode cX4_gate 19 = .ok (.invokevirtual 71, 3) := by decide +kernel
theorem dX4_gate_22 : decode cX4_gate 22 = .ok (.iaload, 1) := by decide +kernel
theorem dX4_gate_23 : decode cX4_gate 23 = .ok (.istore_n 3, 1) := by decide +kernel
theorem dX4_gate_24 : decode cX4_gate 24 = .ok (.aload_n 0, 1) := by decide +kernel
theorem dX4_gate_25 : decode cX4_gate 25 = .ok (.iload_n 1, 1) := by decide +kernel
theorem dX4_gate_26 : decode cX4_gate 26 = .ok (.invokevirtual 64, 3) := by decide +kernel
theorem dX4_gate_29 : decode cX4_gate 29 = .ok (.tableswitch 45 2 4 #[27, 33, 39], 27) := by decide +kernel
theorem dX4_gate_56 : decode cX4_gate 56 = .ok (.iload_n 2, 1) := by decide +kernel
theorem dX4_gate_57 : decode cX4_gate 57 = .ok (.iload_n 3, 1) := by decide +kernel
theorem dX4_gate_58 : decode cX4_gate 58 = .ok (.invokestatic 133, 3) := by decide +kernel
theorem dX4_gate_61 : decode cX4_gate 61 = .ok (.ireturn, 1) := by decide +kernel
theorem dX4_gate_62 : decode cX4_gate 62 = .ok (.iload_n 2, 1) := by decide +kernel
theorem dX4_gate_63 : decode cX4_gate 63 = .ok (.iload_n 3, 1) := by decide +kernel
theorem dX4_gate_64 : decode cX4_gate 64 = .ok (.invokestatic 136, 3) := by decide +kernel
theorem dX4_gate_67 : decode cX4_gate 67 = .ok (.ireturn, 1) := by decide +kernel
theorem dX4_gate_68 : decode cX4_gate 68 = .ok (.iload_n 2, 1) := by decide +kernel
theorem dX4_gate_69 : decode cX4_gate 69 = .ok (.iload_n 3, 1) := by decide +kernel
theorem dX4_gate_70 : decode cX4_gate 70 = .ok (.invokestatic 139, 3) := by decide +kernel
theorem dX4_gate_73 : decode cX4_gate 73 = .ok (.ireturn, 1) := by decide +kernel
theorem dX4_gate_74 : decode cX4_gate 74 = .ok (.iload_n 2, 1) := by decide +kernel
theorem dX4_gate_75 : decode cX4_gate 75 = .ok (.iload_n 3, 1) := by decide +kernel
theorem dX4_gate_76 : decode cX4_gate 76 = .ok (.aload_n 0, 1) := by decide +kernel
theorem dX4_gate_77 : decode cX4_gate 77 = .ok (.getfield 35, 3) := by decide +kernel
theorem dX4_gate_80 : decode cX4_gate 80 = .ok (.aload_n 0, 1) := by decide +kernel
theorem dX4_gate_81 : decode cX4_gate 81 = .ok (.iload_n 1, 1) := by decide +kernel
theorem dX4_gate_82 : decode cX4_gate 82 = .ok (.iconst 2, 1) := by decide +kernel
theorem dX4_gate_83 : decode cX4_gate 83 = .ok (.invokevirtual 71, 3) := by decide +kernel
theorem dX4_gate_86 : decode cX4_gate 86 = .ok (.iaload, 1) := by decide +kernel
theorem dX4_gate_87 : decode cX4_gate 87 = .ok (.invokestatic 142, 3) := by decide +kernel
theorem dX4_gate_90 : decode cX4_gate 90 = .ok (.ireturn, 1) := by decide +kernel
theorem dX4_findValues_0 : decode cX4_findValues 0 = .ok (.iconst 0, 1) := by decide +kernel
theorem dX4_findValues_1 : decode cX4_findValues 1 = .ok (.istore_n 2, 1) := by decide +kernel
theorem dX4_findValues_2 : decode cX4_findValues 2 = .ok (.iload_n 2, 1) := by decide +kernel
theorem dX4_findValues_3 : decode cX4_findValues 3 = .ok (.aload_n 0, 1) := by decide +kernel
theorem dX4_findValues_4 : decode cX4_findValues 4 = .ok (.invokevirtual 52, 3) := by decide +kernel
theorem dX4_findValues_7 : decode cX4_findValues 7 = .ok (.if_icmp .ge 36, 3) := by decide +kernel
theorem dX4_findValues_10 : decode cX4_findValues 10 = .ok (.aload_n 0, 1) := by decide +kernel
theorem dX4_findValues_11 : decode cX4_findValues 11 = .ok (.getfield 35, 3) := by decide +kernel
theorem dX4_findValues_14 : decode cX4_findValues 14 = .ok (.iload_n 2, 1) := by decide +kernel
theorem dX4_findValues_15 : decode cX4_findValues 15 = .ok (.aload_n 0, 1) := by decide +kernel
theorem dX4_findValues_16 : decode cX4_findValues 16 = .ok (.iload_n 2, 1) := by decide +kernel
theorem dX4_findValues_17 : decode cX4_findValues 17 = .ok (.invokevirtual 75, 3) := by decide +kernel
theorem dX4_findValues_20 : decode cX4_findValues 20 = .ok (.ifCond .eq 11, 3) := by decide +kernel
theorem dX4_findValues_23 : decode cX4_findValues 23 = .ok (.aload_n 1, 1) := by decide +kernel
theorem dX4_findValues_24 : decode cX4_findValues 24 = .ok (.iconst 4, 1) := by decide +kernel
theorem dX4_findValues_25 : decode cX4_findValues 25 = .ok (.iload_n 2, 1) := by decide +kernel
theorem dX4_findValues_26 : decode cX4_findValues 26 = .ok (.iadd, 1) := by decide +kernel
theorem dX4_findValues_27 : decode cX4_findValues 27 = .ok (.iaload, 1) := by decide +kernel
theorem dX4_findValues_28 : decode cX4_findValues 28 = .ok (.goto 8, 3) := by decide +kernel
theorem dX4_findValues_31 : decode cX4_findValues 31 = .ok (.aload_n 0, 1) := by decide +kernel
theorem dX4_findValues_32 : decode cX4_findValues 32 = .ok (.iload_n 2, 1) := by decide +kernel
theorem dX4_findValues_33 : decode cX4_findValues 33 = .ok (.invokevirtual 146, 3) := by decide +kernel
theorem dX4_findValues_36 : decode cX4_findValues 36 = .ok (.iastore, 1) := by decide +kernel
theorem dX4_findValues_37 : decode cX4_findValues 37 = .ok (.iinc 2 1, 3) := by decide +kernel
theorem dX4_findValues_40 : decode cX4_findValues 40 = .ok (.goto (-38), 3) := by decide +kernel
theorem dX4_findValues_43 : decode cX4_findValues 43 = .ok (.return_, 1) := by decide +kernel
theorem dX4_tick_0 : decode cX4_tick 0 = .ok (.aload_n 0, 1) := by decide +kernel
theorem dX4_tick_1 : decode cX4_tick 1 = .ok (.aload_n 1, 1) := by decide +kernel
theorem dX4_tick_2 : decode cX4_tick 2 = .ok (.invokevirtual 149, 3) := by decide +kernel
theorem dX4_tick_5 : decode cX4_tick 5 = .ok (.aload_n 1, 1) := by decide +kernel
theorem dX4_tick_6 : decode cX4_tick 6 = .ok (.iconst 1, 1) := by decide +kernel
theorem dX4_tick_7 : decode cX4_tick 7 = .ok (.dup2, 1) := by decide +kernel
theorem dX4_tick_8 : decode cX4_tick 8 = .ok (.iaload, 1) := by decide +kernel
theorem dX4_tick_9 : decode cX4_tick 9 = .ok (.iconst 1, 1) := by decide +kernel
theorem dX4_tick_10 : decode cX4_tick 10 = .ok (.iadd, 1) := by decide +kernel
theorem dX4_tick_11 : decode cX4_tick 11 = .ok (.iastore, 1) := by decide +kernel
theorem dX4_tick_12 : decode cX4_tick 12 = .ok (.iconst 0, 1) := by decide +kernel
theorem dX4_tick_13 : decode cX4_tick 13 = .ok (.istore_n 2, 1) := by decide +kernel
theorem dX4_tick_14 : decode cX4_tick 14 = .ok (.iconst 0, 1) := by decide +kernel
theorem dX4_tick_15 : decode cX4_tick 15 = .ok (.istore_n 3, 1) := by decide +kernel
theorem dX4_tick_16 : decode cX4_tick 16 = .ok (.iload_n 3, 1) := by decide +kernel
theorem dX4_tick_17 : decode cX4_tick 17 = .ok (.aload_n 0, 1) := by decide +kernel
theorem dX4_tick_18 : decode cX4_tick 18 = .ok (.invokevirtual 52, 3) := by decide +kernel
theorem dX4_tick_21 : decode cX4_tick 21 = .ok (.if_icmp .ge 171, 3) := by decide +kernel
theorem dX4_tick_24 : decode cX4_tick 24 = .ok (.aload_n 0, 1) := by decide +kernel
theorem dX4_tick_25 : decode cX4_tick 25 = .ok (.iload_n 3, 1) := by decide +kernel
theorem dX4_tick_26 : decode cX4_tick 26 = .ok (.invokevirtual 75, 3) := by decide +kernel
theorem dX4_tick_29 : decode cX4_tick 29 = .ok (.ifCond .eq 157, 3) := by decide +kernel
theorem dX4_tick_32 : decode cX4_tick 32 = .ok (.aload_n 1, 1) := by decide +kernel
theorem dX4_tick_33 : decode cX4_tick 33 = .ok (.iconst 1, 1) := by decide +kernel
theorem dX4_tick_34 : decode cX4_tick 34 = .ok (.iaload, 1) := by decide +kernel
theorem dX4_tick_35 : decode cX4_tick 35 = .ok (.aload_n 0, 1) := by decide +kernel
theorem dX4_tick_36 : decode cX4_tick 36 = .ok (.getfield 7, 3) := by decide +kernel
theorem dX4_tick_39 : decode cX4_tick 39 = .ok (.bipush 92, 2) := by decide +kernel
theorem dX4_tick_41 : decode cX4_tick 41 = .ok (.aload_n 0, 1) := by decide +kernel
theorem dX4_tick_42 : decode cX4_tick 42 = .ok (.iload_n 3, 1) := by decide +kernel
theorem dX4_tick_43 : decode cX4_tick 43 = .ok (.invokevirtual 88, 3) := by decide +kernel
theorem dX4_tick_46 : decode cX4_tick 46 = .ok (.iadd, 1) := by decide +kernel
theorem dX4_tick_47 : decode cX4_tick 47 = .ok (.iaload, 1) := by decide +kernel
theorem dX4_tick_48 : decode cX4_tick 48 = .ok (.irem, 1) := by decide +kernel
theorem dX4_tick_49 : decode cX4_tick 49 = .ok (.ifCond .ne 137, 3) := by decide +kernel
theorem dX4_tick_52 : decode cX4_tick 52 = .ok (.aload_n 0, 1) := by decide +kernel
theorem dX4_tick_53 : decode cX4_tick 53 = .ok (.iload_n 3, 1) := by decide +kernel
theorem dX4_tick_54 : decode cX4_tick 54 = .ok (.invokevirtual 64, 3) := by decide +kernel
theorem dX4_tick_57 : decode cX4_tick 57 = .ok (.ifCond .ne 12, 3) := by decide +kernel
theorem dX4_tick_60 : decode cX4_tick 60 = .ok (.aload_n 1, 1) := by decide +kernel
theorem dX4_tick_61 : decode cX4_tick 61 = .ok (.bipush 20, 2) := by decide +kernel
theorem dX4_tick_63 : decode cX4_tick 63 = .ok (.iload_n 3, 1) := by decide +kernel
theorem dX4_tick_64 : decode cX4_tick 64 = .ok (.iadd, 1) := by decide +kernel
theorem dX4_tick_65 : decode cX4_tick 65 = .ok (.iaload, 1) := by decide +kernel
theorem dX4_tick_66 : decode cX4_tick 66 = .ok (.goto 22, 3) := by decide +kernel
theorem dX4_tick_69 : decode cX4_tick 69 = .ok (.aload_n 0, 1) := by decide +kernel
theorem dX4_tick_70 : decode cX4_tick 70 = .ok (.iload_n 3, 1) := by decide +kernel
theorem dX4_tick_71 : decode cX4_tick 71 = .ok (.invokevirtual 91, 3) := by decide +kernel
theorem dX4_tick_74 : decode cX4_tick 74 = .ok (.iload_n 2, 1) := by decide +kernel
theorem dX4_tick_75 : decode cX4_tick 75 = .ok (.iand, 1) := by decide +kernel
theorem dX4_tick_76 : decode cX4_tick 76 = .ok (.ifCond .eq 7, 3) := by decide +kernel
theorem dX4_tick_79 : decode cX4_tick 79 = .ok (.iconst 2, 1) := by decide +kernel
theorem dX4_tick_80 : decode cX4_tick 80 = .ok (.goto 8, 3) := by decide +kernel
theorem dX4_tick_83 : decode cX4_tick 83 = .ok (.aload_n 0, 1) := by decide +kernel
theorem dX4_tick_84 : decode cX4_tick 84 = .ok (.iload_n 3, 1) := by decide +kernel
theorem dX4_tick_85 : decode cX4_tick 85 = .ok (.invokevirtual 152, 3) := by decide +kernel
theorem dX4_tick_88 : decode cX4_tick 88 = .ok (.istore 4, 2) := by decide +kernel
theorem dX4_tick_90 : decode cX4_tick 90 = .ok (.aload_n 0, 1) := by decide +kernel
theorem dX4_tick_91 : decode cX4_tick 91 = .ok (.iload_n 3, 1) := by decide +kernel
theorem dX4_tick_92 : decode cX4_tick 92 = .ok (.invokevirtual 64, 3) := by decide +kernel
theorem dX4_tick_95 : decode cX4_tick 95 = .ok (.iconst 1, 1) := by decide +kernel
theorem dX4_tick_96 : decode cX4_tick 96 = .ok (.if_icmp .ne 23, 3) := by decide +kernel
theorem dX4_tick_99 : decode cX4_tick 99 = .ok (.aload_n 0, 1) := by decide +kernel
theorem dX4_tick_100 : decode cX4_tick 100 = .ok (.iload_n 3, 1) := by decide +kernel
theorem dX4_tick_101 : decode cX4_tick 101 = .ok (.invokevirtual 91, 3) := by decide +kernel
theorem dX4_tick_104 : decode cX4_tick 104 = .ok (.iload_n 2, 1) := by decide +kernel
theorem dX4_tick_105 : decode cX4_tick 105 = .ok (.iand, 1) := by decide +kernel
theorem dX4_tick_106 : decode cX4_tick 106 = .ok (.ifCond .eq 13, 3) := by decide +kernel
theorem dX4_tick_109 : decode cX4_tick 109 = .ok (.aload_n 1, 1) := by decide +kernel
theorem dX4_tick_110 : decode cX4_tick 110 = .ok (.iconst 2, 1) := by decide +kernel
theorem dX4_tick_111 : decode cX4_tick 111 = .ok (.dup2, 1) := by decide +kernel
theorem dX4_tick_112 : decode cX4_tick 112 = .ok (.iaload, 1) := by decide +kernel
theorem dX4_tick_113 : decode cX4_tick 113 = .ok (.iconst 1, 1) := by decide +kernel
theorem dX4_tick_114 : decode cX4_tick 114 = .ok (.iadd, 1) := by decide +kernel
theorem dX4_tick_115 : decode cX4_tick 115 = .ok (.iastore, 1) := by decide +kernel
theorem dX4_tick_116 : decode cX4_tick 116 = .ok (.goto 42, 3) := by decide +kernel
theorem dX4_tick_119 : decode cX4_tick 119 = .ok (.aload_n 0, 1) := by decide +kernel
theorem dX4_tick_120 : decode cX4_tick 120 = .ok (.iload_n 3, 1) := by decide +kernel
theorem dX4_tick_121 : decode cX4_tick 121 = .ok (.invokevirtual 64, 3) := by decide +kernel
theorem dX4_tick_124 : decode cX4_tick 124 = .ok (.iconst 1, 1) := by decide +kernel
theorem dX4_tick_125 : decode cX4_tick 125 = .ok (.if_icmp .ne 33, 3) := by decide +kernel
theorem dX4_tick_128 : decode cX4_tick 128 = .ok (.aload_n 0, 1) := by decide +kernel
theorem dX4_tick_129 : decode cX4_tick 129 = .ok (.getfield 35, 3) := by decide +kernel
theorem dX4_tick_132 : decode cX4_tick 132 = .ok (.aload_n 0, 1) := by decide +kernel
theorem dX4_tick_133 : decode cX4_tick 133 = .ok (.iload_n 3, 1) := by decide +kernel
theorem dX4_tick_134 : decode cX4_tick 134 = .ok (.iconst 0, 1) := by decide +kernel
theorem dX4_tick_135 : decode cX4_tick 135 = .ok (.invokevirtual 71, 3) := by decide +kernel
theorem dX4_tick_138 : decode cX4_tick 138 = .ok (.iaload, 1) := by decide +kernel
theorem dX4_tick_139 : decode cX4_tick 139 = .ok (.iconst 2, 1) := by decide +kernel
theorem dX4_tick_140 : decode cX4_tick 140 = .ok (.if_icmp .ne 18, 3) := by decide +kernel
theorem dX4_tick_143 : decode cX4_tick 143 = .ok (.aload_n 0, 1) := by decide +kernel
theorem dX4_tick_144 : decode cX4_tick 144 = .ok (.iload_n 3, 1) := by decide +kernel
theorem dX4_tick_145 : decode cX4_tick 145 = .ok (.invokevirtual 155, 3) := by decide +kernel
theorem dX4_tick_148 : decode cX4_tick 148 = .ok (.ifCond .ne 10, 3) := by decide +kernel
theorem dX4_tick_151 : decode cX4_tick 151 = .ok (.aload_n 1, 1) := by decide +kernel
theorem dX4_tick_152 : decode cX4_tick 152 = .ok (.iconst 3, 1) := by decide +kernel
theorem dX4_tick_153 : decode cX4_tick 153 = .ok (.dup2, 1) := by decide +kernel
theorem dX4_tick_154 : decode cX4_tick 154 = .ok (.iaload, 1) := by decide +kernel
theorem dX4_tick_155 : decode cX4_tick 155 = .ok (.iconst 1, 1) := by decide +kernel
theorem dX4_tick_156 : decode cX4_tick 156 = .ok (.iadd, 1) := by decide +kernel
theorem dX4_tick_157 : decode cX4_tick 157 = .ok (.iastore, 1) := by decide +kernel
theorem dX4_tick_158 : decode cX4_tick 158 = .ok (.iload_n 2, 1) := by decide +kernel
theorem dX4_tick_159 : decode cX4_tick 159 = .ok (.iload 4, 2) := by decide +kernel
theorem dX4_tick_161 : decode cX4_tick 161 = .ok (.aload_n 0, 1) := by decide +kernel
theorem dX4_tick_162 : decode cX4_tick 162 = .ok (.getfield 35, 3) := by decide +kernel
theorem dX4_tick_165 : decode cX4_tick 165 = .ok (.iload_n 3, 1) := by decide +kernel
theorem dX4_tick_166 : decode cX4_tick 166 = .ok (.iaload, 1) := by decide +kernel
theorem dX4_tick_167 : decode cX4_tick 167 = .ok (.if_icmp .ne 7, 3) := by decide +kernel
theorem dX4_tick_170 : decode cX4_tick 170 = .ok (.iconst 0, 1) := by decide +kernel
theorem dX4_tick_171 : decode cX4_tick 171 = .ok (.goto 6, 3) := by decide +kernel
theorem dX4_tick_174 : decode cX4_tick 174 = .ok (.iconst 1, 1) := by decide +kernel
theorem dX4_tick_175 : decode cX4_tick 175 = .ok (.iload_n 3, 1) := by decide +kernel
theorem dX4_tick_176 : decode cX4_tick 176 = .ok (.ishl, 1) := by decide +kernel
theorem dX4_tick_177 : decode cX4_tick 177 = .ok (.ior, 1) := by decide +kernel
theorem dX4_tick_178 : decode cX4_tick 178 = .ok (.istore_n 2, 1) := by decide +kernel
theorem dX4_tick_179 : decode cX4_tick 179 = .ok (.aload_n 1, 1) := by decide +kernel
theorem dX4_tick_180 : decode cX4_tick 180 = .ok (.iconst 4, 1) := by decide +kernel
theorem dX4_tick_181 : decode cX4_tick 181 = .ok (.iload_n 3, 1) := by decide +kernel
theorem dX4_tick_182 : decode cX4_tick 182 = .ok (.iadd, 1) := by decide +kernel
theorem dX4_tick_183 : decode cX4_tick 183 = .ok (.iload 4, 2) := by decide +kernel
theorem dX4_tick_185 : decode cX4_tick 185 = .ok (.iastore, 1) := by decide +kernel
theorem dX4_tick_186 : decode cX4_tick 186 = .ok (.iinc 3 1, 3) := by decide +kernel
theorem dX4_tick_189 : decode cX4_tick 189 = .ok (.goto (-173), 3) := by decide +kernel
theorem dX4_tick_192 : decode cX4_tick 192 = .ok (.return_, 1) := by decide +kernel
theorem dX4_isSettled_0 : decode cX4_isSettled 0 = .ok (.aload_n 0, 1) := by decide +kernel
theorem dX4_isSettled_1 : decode cX4_isSettled 1 = .ok (.iload_n 1, 1) := by decide +kernel
theorem dX4_isSettled_2 : decode cX4_isSettled 2 = .ok (.iconst 0, 1) := by decide +kernel
theorem dX4_isSettled_3 : decode cX4_isSettled 3 = .ok (.invokevirtual 71, 3) := by decide +kernel
theorem dX4_isSettled_6 : decode cX4_isSettled 6 = .ok (.istore_n 2, 1) := by decide +kernel
theorem dX4_isSettled_7 : decode cX4_isSettled 7 = .ok (.aload_n 0, 1) := by decide +kernel
theorem dX4_isSettled_8 : decode cX4_isSettled 8 = .ok (.iload_n 2, 1) := by decide +kernel
theorem dX4_isSettled_9 : decode cX4_isSettled 9 = .ok (.invokevirtual 64, 3) := by decide +kernel
theorem dX4_isSettled_12 : decode cX4_isSettled 12 = .ok (.iconst 1, 1) := by decide +kernel
theorem dX4_isSettled_13 : decode cX4_isSettled 13 = .ok (.if_icmp .ne 38, 3) := by decide +kernel
theorem dX4_isSettled_16 : decode cX4_isSettled 16 = .ok (.aload_n 0, 1) := by decide +kernel
theorem dX4_isSettled_17 : decode cX4_isSettled 17 = .ok (.iload_n 2, 1) := by decide +kernel
theorem dX4_isSettled_18 : decode cX4_isSettled 18 = .ok (.invokevirtual 88, 3) := by decide +kernel
theorem dX4_isSettled_21 : decode cX4_isSettled 21 = .ok (.aload_n 0, 1) := by decide +kernel
theorem dX4_isSettled_22 : decode cX4_isSettled 22 = .ok (.iload_n 1, 1) := by decide +kernel
theorem dX4_isSettled_23 : decode cX4_isSettled 23 = .ok (.invokevirtual 88, 3) := by decide +kernel
theorem dX4_isSettled_26 : decode cX4_isSettled 26 = .ok (.if_icmp .ne 25, 3) := by decide +kernel
theorem dX4_isSettled_29 : decode cX4_isSettled 29 = .ok (.aload_n 0, 1) := by decide +kernel
theorem dX4_isSettled_30 : decode cX4_isSettled 30 = .ok (.iload_n 2, 1) := by decide +kernel
theorem dX4_isSettled_31 : decode cX4_isSettled 31 = .ok (.invokevirtual 100, 3) := by decide +kernel
theorem dX4_isSettled_34 : decode cX4_isSettled 34 = .ok (.ifCond .eq 17, 3) := by decide +kernel
theorem dX4_isSettled_37 : decode cX4_isSettled 37 = .ok (.aload_n 0, 1) := by decide +kernel
theorem dX4_isSettled_38 : decode cX4_isSettled 38 = .ok (.getfield 35, 3) := by decide +kernel
theorem dX4_isSettled_41 : decode cX4_isSettled 41 = .ok (.iload_n 2, 1) := by decide +kernel
theorem dX4_isSettled_42 : decode cX4_isSettled 42 = .ok (.iaload, 1) := by decide +kernel
theorem dX4_isSettled_43 : decode cX4_isSettled 43 = .ok (.iconst 2, 1) := by decide +kernel
theorem dX4_isSettled_44 : decode cX4_isSettled 44 = .ok (.if_icmp .ne 7, 3) := by decide +kernel
theorem dX4_isSettled_47 : decode cX4_isSettled 47 = .ok (.iconst 1, 1) := by decide +kernel
theorem dX4_isSettled_48 : decode cX4_isSettled 48 = .ok (.goto 4, 3) := by decide +kernel
theorem dX4_isSettled_51 : decode cX4_isSettled 51 = .ok (.iconst 0, 1) := by decide +kernel
theorem dX4_isSettled_52 : decode cX4_isSettled 52 = .ok (.ireturn, 1) := by decide +kernel
theorem dX4_taken_0 : decode cX4_taken 0 = .ok (.aload_n 0, 1) := by decide +kernel
theorem dX4_taken_1 : decode cX4_taken 1 = .ok (.iload_n 1, 1) := by decide +kernel
theorem dX4_taken_2 : decode cX4_taken 2 = .ok (.iconst 0, 1) := by decide +kernel
theorem dX4_taken_3 : decode cX4_taken 3 = .ok (.invokevirtual 71, 3) := by decide +kernel
theorem dX4_taken_6 : decode cX4_taken 6 = .ok (.istore_n 2, 1) := by decide +kernel
theorem dX4_taken_7 : decode cX4_taken 7 = .ok (.aload_n 0, 1) := by decide +kernel
theorem dX4_taken_8 : decode cX4_taken 8 = .ok (.iload_n 1, 1) := by decide +kernel
theorem dX4_taken_9 : decode cX4_taken 9 = .ok (.invokevirtual 155, 3) := by decide +kernel
theorem dX4_taken_12 : decode cX4_taken 12 = .ok (.ifCond .ne 10, 3) := by decide +kernel
theorem dX4_taken_15 : decode cX4_taken 15 = .ok (.aload_n 0, 1) := by decide +kernel
theorem dX4_taken_16 : decode cX4_taken 16 = .ok (.getfield 35, 3) := by decide +kernel
theorem dX4_taken_19 : decode cX4_taken 19 = .ok (.iload_n 2, 1) := by decide +kernel
theorem dX4_taken_20 : decode cX4_taken 20 = .ok (.iaload, 1) := by decide +kernel
theorem dX4_taken_21 : decode cX4_taken 21 = .ok (.ireturn, 1) := by decide +kernel
theorem dX4_taken_22 : decode cX4_taken 22 = .ok (.aload_n 0, 1) := by decide +kernel
theorem dX4_taken_23 : decode cX4_taken 23 = .ok (.getfield 35, 3) := by decide +kernel
theorem dX4_taken_26 : decode cX4_taken 26 = .ok (.aload_n 0, 1) := by decide +kernel
theorem dX4_taken_27 : decode cX4_taken 27 = .ok (.iload_n 2, 1) := by decide +kernel
theorem dX4_taken_28 : decode cX4_taken 28 = .ok (.iconst 0, 1) := by decide +kernel
theorem dX4_taken_29 : decode cX4_taken 29 = .ok (.invokevirtual 71, 3) := by decide +kernel
theorem dX4_taken_32 : decode cX4_taken 32 = .ok (.iaload, 1) := by decide +kernel
theorem dX4_taken_33 : decode cX4_taken 33 = .ok (.istore_n 3, 1) := by decide +kernel
theorem dX4_taken_34 : decode cX4_taken 34 = .ok (.iload_n 3, 1) := by decide +kernel
theorem dX4_taken_35 : decode cX4_taken 35 = .ok (.iconst 2, 1) := by decide +kernel
theorem dX4_taken_36 : decode cX4_taken 36 = .ok (.if_icmp .ne 7, 3) := by decide +kernel
theorem dX4_taken_39 : decode cX4_taken 39 = .ok (.iconst 0, 1) := by decide +kernel
theorem dX4_taken_40 : decode cX4_taken 40 = .ok (.goto 4, 3) := by decide +kernel
theorem dX4_taken_43 : decode cX4_taken 43 = .ok (.iload_n 3, 1) := by decide +kernel
theorem dX4_taken_44 : decode cX4_taken 44 = .ok (.ireturn, 1) := by decide +kernel
theorem dX4_note_0 : decode cX4_note 0 = .ok (.aload_n 0, 1) := by decide +kernel
theorem dX4_note_1 : decode cX4_note 1 = .ok (.getfield 48, 3) := by decide +kernel
theorem dX4_note_4 : decode cX4_note 4 = .ok (.bipush 6, 2) := by decide +kernel
theorem dX4_note_6 : decode cX4_note 6 = .ok (.if_icmp .ne 43, 3) := by decide +kernel
theorem dX4_note_9 : decode cX4_note 9 = .ok (.iconst 0, 1) := by decide +kernel
theorem dX4_note_10 : decode cX4_note 10 = .ok (.istore_n 1, 1) := by decide +kernel
theorem dX4_note_11 : decode cX4_note 11 = .ok (.iload_n 1, 1) := by decide +kernel
theorem dX4_note_12 : decode cX4_note 12 = .ok (.sipush 180, 3) := by decide +kernel
theorem dX4_note_15 : decode cX4_note 15 = .ok (.if_icmp .ge 24, 3) := by decide +kernel
theorem dX4_note_18 : decode cX4_note 18 = .ok (.aload_n 0, 1) := by decide +kernel
theorem dX4_note_19 : decode cX4_note 19 = .ok (.getfield 22, 3) := by decide +kernel
theorem dX4_note_22 : decode cX4_note 22 = .ok (.iload_n 1, 1) := by decide +kernel
theorem dX4_note_23 : decode cX4_note 23 = .ok (.aload_n 0, 1) := by decide +kernel
theorem dX4_note_24 : decode cX4_note 24 = .ok (.getfield 22, 3) := by decide +kernel
theorem dX4_note_27 : decode cX4_note 27 = .ok (.iload_n 1, 1) := by decide +kernel
theorem dX4_note_28 : decode cX4_note 28 = .ok (.bipush 36, 2) := by decide +kernel
theorem dX4_note_30 : decode cX4_note 30 = .ok (.iadd, 1) := by decide +kernel
theorem dX4_note_31 : decode cX4_note 31 = .ok (.iaload, 1) := by decide +kernel
theorem dX4_note_32 : decode cX4_note 32 = .ok (.iastore, 1) := by decide +kernel
theorem dX4_note_33 : decode cX4_note 33 = .ok (.iinc 1 1, 3) := by decide +kernel
theorem dX4_note_36 : decode cX4_note 36 = .ok (.goto (-25), 3) := by decide +kernel
theorem dX4_note_39 : decode cX4_note 39 = .ok (.aload_n 0, 1) := by decide +kernel
theorem dX4_note_40 : decode cX4_note 40 = .ok (.dup, 1) := by decide +kernel
theorem dX4_note_41 : decode cX4_note 41 = .ok (.getfield 48, 3) := by decide +kernel
theorem dX4_note_44 : decode cX4_note 44 = .ok (.iconst 1, 1) := by decide +kernel
theorem dX4_note_45 : decode cX4_note 45 = .ok (.isub, 1) := by decide +kernel
theorem dX4_note_46 : decode cX4_note 46 = .ok (.putfield 48, 3) := by decide +kernel
theorem dX4_note_49 : decode cX4_note 49 = .ok (.iconst 0, 1) := by decide +kernel
theorem dX4_note_50 : decode cX4_note 50 = .ok (.istore_n 1, 1) := by decide +kernel
theorem dX4_note_51 : decode cX4_note 51 = .ok (.iload_n 1, 1) := by decide +kernel
theorem dX4_note_52 : decode cX4_note 52 = .ok (.bipush 36, 2) := by decide +kernel
theorem dX4_note_54 : decode cX4_note 54 = .ok (.if_icmp .ge 29, 3) := by decide +kernel
theorem dX4_note_57 : decode cX4_note 57 = .ok (.aload_n 0, 1) := by decide +kernel
theorem dX4_note_58 : decode cX4_note 58 = .ok (.getfield 22, 3) := by decide +kernel
theorem dX4_note_61 : decode cX4_note 61 = .ok (.bipush 36, 2) := by decide +kernel
theorem dX4_note_63 : decode cX4_note 63 = .ok (.aload_n 0, 1) := by decide +kernel
theorem dX4_note_64 : decode cX4_note 64 = .ok (.getfield 48, 3) := by decide +kernel
theorem dX4_note_67 : decode cX4_note 67 = .ok (.imul, 1) := by decide +kernel
theorem dX4_note_68 : decode cX4_note 68 = .ok (.iload_n 1, 1) := by decide +kernel
theorem dX4_note_69 : decode cX4_note 69 = .ok (.iadd, 1) := by decide +kernel
theorem dX4_note_70 : decode cX4_note 70 = .ok (.aload_n 0, 1) := by decide +kernel
theorem dX4_note_71 : decode cX4_note 71 = .ok (.getfield 16, 3) := by decide +kernel
theorem dX4_note_74 : decode cX4_note 74 = .ok (.iload_n 1, 1) := by decide +kernel
theorem dX4_note_75 : decode cX4_note 75 = .ok (.iaload, 1) := by decide +kernel
theorem dX4_note_76 : decode cX4_note 76 = .ok (.iastore, 1) := by decide +kernel
theorem dX4_note_77 : decode cX4_note 77 = .ok (.iinc 1 1, 3) := by decide +kernel
theorem dX4_note_80 : decode cX4_note 80 = .ok (.goto (-29), 3) := by decide +kernel
theorem dX4_note_83 : decode cX4_note 83 = .ok (.aload_n 0, 1) := by decide +kernel
theorem dX4_note_84 : decode cX4_note 84 = .ok (.dup, 1) := by decide +kernel
theorem dX4_note_85 : decode cX4_note 85 = .ok (.getfield 48, 3) := by decide +kernel
theorem dX4_note_88 : decode cX4_note 88 = .ok (.iconst 1, 1) := by decide +kernel
theorem dX4_note_89 : decode cX4_note 89 = .ok (.iadd, 1) := by decide +kernel
theorem dX4_note_90 : decode cX4_note 90 = .ok (.putfield 48, 3) := by decide +kernel
theorem dX4_note_93 : decode cX4_note 93 = .ok (.return_, 1) := by decide +kernel
theorem dX4_needs_0 : decode cX4_needs 0 = .ok (.iload_n 1, 1) := by decide +kernel
theorem dX4_needs_1 : decode cX4_needs 1 = .ok (.iconst 2, 1) := by decide +kernel
theorem dX4_needs_2 : decode cX4_needs 2 = .ok (.iconst 4, 1) := by decide +kernel
theorem dX4_needs_3 : decode cX4_needs 3 = .ok (.invokestatic 56, 3) := by decide +kernel
theorem dX4_needs_6 : decode cX4_needs 6 = .ok (.ifCond .ne 5, 3) := by decide +kernel
theorem dX4_needs_9 : decode cX4_needs 9 = .ok (.iconst (-1), 1) := by decide +kernel
theorem dX4_needs_10 : decode cX4_needs 10 = .ok (.ireturn, 1) := by decide +kernel
theorem dX4_needs_11 : decode cX4_needs 11 = .ok (.aload_n 0, 1) := by decide +kernel
theorem dX4_needs_12 : decode cX4_needs 12 = .ok (.getfield 16, 3) := by decide +kernel
theorem dX4_needs_15 : decode cX4_needs 15 = .ok (.iconst 0, 1) := by decide +kernel
theorem dX4_needs_16 : decode cX4_needs 16 = .ok (.iaload, 1) := by decide +kernel
theorem dX4_needs_17 : decode cX4_needs 17 = .ok (.istore_n 2, 1) := by decide +kernel
theorem dX4_needs_18 : decode cX4_needs 18 = .ok (.iload_n 2, 1) := by decide +kernel
theorem dX4_needs_19 : decode cX4_needs 19 = .ok (.iload_n 1, 1) := by decide +kernel
theorem dX4_needs_20 : decode cX4_needs 20 = .ok (.if_icmp .ne 6, 3) := by decide +kernel
theorem dX4_needs_23 : decode cX4_needs 23 = .ok (.bipush (-2), 2) := by decide +kernel
theorem dX4_needs_25 : decode cX4_needs 25 = .ok (.ireturn, 1) := by decide +kernel
theorem dX4_needs_26 : decode cX4_needs 26 = .ok (.aload_n 0, 1) := by decide +kernel
theorem dX4_needs_27 : decode cX4_needs 27 = .ok (.invokevirtual 158, 3) := by decide +kernel
theorem dX4_needs_30 : decode cX4_needs 30 = .ok (.aload_n 0, 1) := by decide +kernel
theorem dX4_needs_31 : decode cX4_needs 31 = .ok (.getfield 16, 3) := by decide +kernel
theorem dX4_needs_34 : decode cX4_needs 34 = .ok (.iconst 0, 1) := by decide +kernel
theorem dX4_needs_35 : decode cX4_needs 35 = .ok (.iload_n 1, 1) := by decide +kernel
theorem dX4_needs_36 : decode cX4_needs 36 = .ok (.iastore, 1) := by decide +kernel
theorem dX4_needs_37 : decode cX4_needs 37 = .ok (.iload_n 2, 1) := by decide +kernel
theorem dX4_needs_38 : decode cX4_needs 38 = .ok (.ireturn, 1) := by decide +kernel
theorem dX4_isInput_0 : decode cX4_isInput 0 = .ok (.aload_n 0, 1) := by decide +kernel
theorem dX4_isInput_1 : decode cX4_isInput 1 = .ok (.iload_n 1, 1) := by decide +kernel
theorem dX4_isInput_2 : decode cX4_isInput 2 = .ok (.invokevirtual 60, 3) := by decide +kernel
theorem dX4_isInput_5 : decode cX4_isInput 5 = .ok (.ifCond .eq 15, 3) := by decide +kernel
theorem dX4_isInput_8 : decode cX4_isInput 8 = .ok (.aload_n 0, 1) := by decide +kernel
theorem dX4_isInput_9 : decode cX4_isInput 9 = .ok (.iload_n 1, 1) := by decide +kernel
theorem dX4_isInput_10 : decode cX4_isInput 10 = .ok (.invokevirtual 64, 3) := by decide +kernel
theorem dX4_isInput_13 : decode cX4_isInput 13 = .ok (.ifCond .ne 7, 3) := by decide +kernel
theorem dX4_isInput_16 : decode cX4_isInput 16 = .ok (.iconst 1, 1) := by decide +kernel
theorem dX4_isInput_17 : decode cX4_isInput 17 = .ok (.goto 4, 3) := by decide +kernel
theorem dX4_isInput_20 : decode cX4_isInput 20 = .ok (.iconst 0, 1) := by decide +kernel
theorem dX4_isInput_21 : decode cX4_isInput 21 = .ok (.ireturn, 1) := by decide +kernel
theorem dX4_wishes_0 : decode cX4_wishes 0 = .ok (.aload_n 0, 1) := by decide +kernel
theorem dX4_wishes_1 : decode cX4_wishes 1 = .ok (.iload_n 1, 1) := by decide +kernel
theorem dX4_wishes_2 : decode cX4_wishes 2 = .ok (.invokevirtual 161, 3) := by decide +kernel
theorem dX4_wishes_5 : decode cX4_wishes 5 = .ok (.ifCond .eq 12, 3) := by decide +kernel
theorem dX4_wishes_8 : decode cX4_wishes 8 = .ok (.iload_n 2, 1) := by decide +kernel
theorem dX4_wishes_9 : decode cX4_wishes 9 = .ok (.iconst 0, 1) := by decide +kernel
theorem dX4_wishes_10 : decode cX4_wishes 10 = .ok (.iconst 1, 1) := by decide +kernel
theorem dX4_wishes_11 : decode cX4_wishes 11 = .ok (.invokestatic 56, 3) := by decide +kernel
theorem dX4_wishes_14 : decode cX4_wishes 14 = .ok (.ifCond .ne 5, 3) := by decide +kernel
theorem dX4_wishes_17 : decode cX4_wishes 17 = .ok (.iconst (-1), 1) := by decide +kernel
theorem dX4_wishes_18 : decode cX4_wishes 18 = .ok (.ireturn, 1) := by decide +kernel
theorem dX4_wishes_19 : decode cX4_wishes 19 = .ok (.aload_n 0, 1) := by decide +kernel
theorem dX4_wishes_20 : decode cX4_wishes 20 = .ok (.getfield 16, 3) := by decide +kernel
theorem dX4_wishes_23 : decode cX4_wishes 23 = .ok (.bipush 20, 2) := by decide +kernel
theorem dX4_wishes_25 : decode cX4_wishes 25 = .ok (.iload_n 1, 1) := by decide +kernel
theorem dX4_wishes_26 : decode cX4_wishes 26 = .ok (.iadd, 1) := by decide +kernel
theorem dX4_wishes_27 : decode cX4_wishes 27 = .ok (.iaload, 1) := by decide +kernel
theorem dX4_wishes_28 : decode cX4_wishes 28 = .ok (.istore_n 3, 1) := by decide +kernel
theorem dX4_wishes_29 : decode cX4_wishes 29 = .ok (.iload_n 3, 1) := by decide +kernel
theorem dX4_wishes_30 : decode cX4_wishes 30 = .ok (.iload_n 2, 1) := by decide +kernel
theorem dX4_wishes_31 : decode cX4_wishes 31 = .ok (.if_icmp .ne 6, 3) := by decide +kernel
theorem dX4_wishes_34 : decode cX4_wishes 34 = .ok (.bipush (-2), 2) := by decide +kernel
theorem dX4_wishes_36 : decode cX4_wishes 36 = .ok (.ireturn, 1) := by decide +kernel
theorem dX4_wishes_37 : decode cX4_wishes 37 = .ok (.aload_n 0, 1) := by decide +kernel
theorem dX4_wishes_38 : decode cX4_wishes 38 = .ok (.invokevirtual 158, 3) := by decide +kernel
theorem dX4_wishes_41 : decode cX4_wishes 41 = .ok (.aload_n 0, 1) := by decide +kernel
theorem dX4_wishes_42 : decode cX4_wishes 42 = .ok (.getfield 16, 3) := by decide +kernel
theorem dX4_wishes_45 : decode cX4_wishes 45 = .ok (.bipush 20, 2) := by decide +kernel
theorem dX4_wishes_47 : decode cX4_wishes 47 = .ok (.iload_n 1, 1) := by decide +kernel
theorem dX4_wishes_48 : decode cX4_wishes 48 = .ok (.iadd, 1) := by decide +kernel
theorem dX4_wishes_49 : decode cX4_wishes 49 = .ok (.iload_n 2, 1) := by decide +kernel
theorem dX4_wishes_50 : decode cX4_wishes 50 = .ok (.iastore, 1) := by decide +kernel
theorem dX4_wishes_51 : decode cX4_wishes 51 = .ok (.iload_n 3, 1) := by decide +kernel
theorem dX4_wishes_52 : decode cX4_wishes 52 = .ok (.ireturn, 1) := by decide +kernel
theorem dX4_ticks_0 : decode cX4_ticks 0 = .ok (.iload_n 1, 1) := by decide +kernel
theorem dX4_ticks_1 : decode cX4_ticks 1 = .ok (.iconst 1, 1) := by decide +kernel
theorem dX4_ticks_2 : decode cX4_ticks 2 = .ok (.bipush 99, 2) := by decide +kernel
theorem dX4_ticks_4 : decode cX4_ticks 4 = .ok (.invokestatic 56, 3) := by decide +kernel
theorem dX4_ticks_7 : decode cX4_ticks 7 = .ok (.ifCond .ne 5, 3) := by decide +kernel
theorem dX4_ticks_10 : decode cX4_ticks 10 = .ok (.iconst (-1), 1) := by decide +kernel
theorem dX4_ticks_11 : decode cX4_ticks 11 = .ok (.ireturn, 1) := by decide +kernel
theorem dX4_ticks_12 : decode cX4_ticks 12 = .ok (.aload_n 0, 1) := by decide +kernel
theorem dX4_ticks_13 : decode cX4_ticks 13 = .ok (.getfield 16, 3) := by decide +kernel
theorem dX4_ticks_16 : decode cX4_ticks 16 = .ok (.iconst 1, 1) := by decide +kernel
theorem dX4_ticks_17 : decode cX4_ticks 17 = .ok (.iaload, 1) := by decide +kernel
theorem dX4_ticks_18 : decode cX4_ticks 18 = .ok (.iload_n 1, 1) := by decide +kernel
theorem dX4_ticks_19 : decode cX4_ticks 19 = .ok (.iadd, 1) := by decide +kernel
theorem dX4_ticks_20 : decode cX4_ticks 20 = .ok (.sipush 999, 3) := by decide +kernel
theorem dX4_ticks_23 : decode cX4_ticks 23 = .ok (.if_icmp .le 6, 3) := by decide +kernel
theorem dX4_ticks_26 : decode cX4_ticks 26 = .ok (.bipush (-2), 2) := by decide +kernel
theorem dX4_ticks_28 : decode cX4_ticks 28 = .ok (.ireturn, 1) := by decide +kernel
theorem dX4_ticks_29 : decode cX4_ticks 29 = .ok (.aload_n 0, 1) := by decide +kernel
theorem dX4_ticks_30 : decode cX4_ticks 30 = .ok (.invokevirtual 158, 3) := by decide +kernel
theorem dX4_ticks_33 : decode cX4_ticks 33 = .ok (.aload_n 0, 1) := by decide +kernel
theorem dX4_ticks_34 : decode cX4_ticks 34 = .ok (.getfield 16, 3) := by decide +kernel
theorem dX4_ticks_37 : decode cX4_ticks 37 = .ok (.iconst 2, 1) := by decide +kernel
theorem dX4_ticks_38 : decode cX4_ticks 38 = .ok (.iaload, 1) := by decide +kernel
theorem dX4_ticks_39 : decode cX4_ticks 39 = .ok (.istore_n 2, 1) := by decide +kernel
theorem dX4_ticks_40 : decode cX4_ticks 40 = .ok (.iconst 0, 1) := by decide +kernel
theorem dX4_ticks_41 : decode cX4_ticks 41 = .ok (.istore_n 3, 1) := by decide +kernel
theorem dX4_ticks_42 : decode cX4_ticks 42 = .ok (.iload_n 3, 1) := by decide +kernel
theorem dX4_ticks_43 : decode cX4_ticks 43 = .ok (.iload_n 1, 1) := by decide +kernel
theorem dX4_ticks_44 : decode cX4_ticks 44 = .ok (.if_icmp .ge 17, 3) := by decide +kernel
theorem dX4_ticks_47 : decode cX4_ticks 47 = .ok (.aload_n 0, 1) := by decide +kernel
theorem dX4_ticks_48 : decode cX4_ticks 48 = .ok (.aload_n 0, 1) := by decide +kernel
theorem dX4_ticks_49 : decode cX4_ticks 49 = .ok (.getfield 16, 3) := by decide +kernel
theorem dX4_ticks_52 : decode cX4_ticks 52 = .ok (.invokevirtual 164, 3) := by decide +kernel
theorem dX4_ticks_55 : decode cX4_ticks 55 = .ok (.iinc 3 1, 3) := by decide +kernel
theorem dX4_ticks_58 : decode cX4_ticks 58 = .ok (.goto (-16), 3) := by decide +kernel
theorem dX4_ticks_61 : decode cX4_ticks 61 = .ok (.aload_n 0, 1) := by decide +kernel
theorem dX4_ticks_62 : decode cX4_ticks 62 = .ok (.getfield 16, 3) := by decide +kernel
theorem dX4_ticks_65 : decode cX4_ticks 65 = .ok (.iconst 2, 1) := by decide +kernel
theorem dX4_ticks_66 : decode cX4_ticks 66 = .ok (.iaload, 1) := by decide +kernel
theorem dX4_ticks_67 : decode cX4_ticks 67 = .ok (.iload_n 2, 1) := by decide +kernel
theorem dX4_ticks_68 : decode cX4_ticks 68 = .ok (.isub, 1) := by decide +kernel
theorem dX4_ticks_69 : decode cX4_ticks 69 = .ok (.ireturn, 1) := by decide +kernel
theorem dX4_undo_0 : decode cX4_undo 0 = .ok (.aload_n 0, 1) := by decide +kernel
theorem dX4_undo_1 : decode cX4_undo 1 = .ok (.getfield 48, 3) := by decide +kernel
theorem dX4_undo_4 : decode cX4_undo 4 = .ok (.ifCond .ne 6, 3) := by decide +kernel
theorem dX4_undo_7 : decode cX4_undo 7 = .ok (.bipush (-2), 2) := by decide +kernel
theorem dX4_undo_9 : decode cX4_undo 9 = .ok (.ireturn, 1) := by decide +kernel
theorem dX4_undo_10 : decode cX4_undo 10 = .ok (.aload_n 0, 1) := by decide +kernel
theorem dX4_undo_11 : decode cX4_undo 11 = .ok (.dup, 1) := by decide +kernel
theorem dX4_undo_12 : decode cX4_undo 12 = .ok (.getfield 48, 3) := by decide +kernel
theorem dX4_undo_15 : decode cX4_undo 15 = .ok (.iconst 1, 1) := by decide +kernel
theorem dX4_undo_16 : decode cX4_undo 16 = .ok (.isub, 1) := by decide +kernel
theorem dX4_undo_17 : decode cX4_undo 17 = .ok (.putfield 48, 3) := by decide +kernel
theorem dX4_undo_20 : decode cX4_undo 20 = .ok (.iconst 0, 1) := by decide +kernel
theorem dX4_undo_21 : decode cX4_undo 21 = .ok (.istore_n 1, 1) := by decide +kernel
theorem dX4_undo_22 : decode cX4_undo 22 = .ok (.iload_n 1, 1) := by decide +kernel
theorem dX4_undo_23 : decode cX4_undo 23 = .ok (.bipush 36, 2) := by decide +kernel
theorem dX4_undo_25 : decode cX4_undo 25 = .ok (.if_icmp .ge 29, 3) := by decide +kernel
theorem dX4_undo_28 : decode cX4_undo 28 = .ok (.aload_n 0, 1) := by decide +kernel
theorem dX4_undo_29 : decode cX4_undo 29 = .ok (.getfield 16, 3) := by decide +kernel
theorem dX4_undo_32 : decode cX4_undo 32 = .ok (.iload_n 1, 1) := by decide +kernel
theorem dX4_undo_33 : decode cX4_undo 33 = .ok (.aload_n 0, 1) := by decide +kernel
theorem dX4_undo_34 : decode cX4_undo 34 = .ok (.getfield 22, 3) := by decide +kernel
theorem dX4_undo_37 : decode cX4_undo 37 = .ok (.bipush 36, 2) := by decide +kernel
theorem dX4_undo_39 : decode cX4_undo 39 = .ok (.aload_n 0, 1) := by decide +kernel
theorem dX4_undo_40 : decode cX4_undo 40 = .ok (.getfield 48, 3) := by decide +kernel
theorem dX4_undo_43 : decode cX4_undo 43 = .ok (.imul, 1) := by decide +kernel
theorem dX4_undo_44 : decode cX4_undo 44 = .ok (.iload_n 1, 1) := by decide +kernel
theorem dX4_undo_45 : decode cX4_undo 45 = .ok (.iadd, 1) := by decide +kernel
theorem dX4_undo_46 : decode cX4_undo 46 = .ok (.iaload, 1) := by decide +kernel
theorem dX4_undo_47 : decode cX4_undo 47 = .ok (.iastore, 1) := by decide +kernel
theorem dX4_undo_48 : decode cX4_undo 48 = .ok (.iinc 1 1, 3) := by decide +kernel
theorem dX4_undo_51 : decode cX4_undo 51 = .ok (.goto (-29), 3) := by decide +kernel
theorem dX4_undo_54 : decode cX4_undo 54 = .ok (.aload_n 0, 1) := by decide +kernel
theorem dX4_undo_55 : decode cX4_undo 55 = .ok (.getfield 48, 3) := by decide +kernel
theorem dX4_undo_58 : decode cX4_undo 58 = .ok (.ireturn, 1) := by decide +kernel
theorem dX4_node_0 : decode cX4_node 0 = .ok (.aload_n 0, 1) := by decide +kernel
theorem dX4_node_1 : decode cX4_node 1 = .ok (.iload_n 1, 1) := by decide +kernel
theorem dX4_node_2 : decode cX4_node 2 = .ok (.invokevirtual 60, 3) := by decide +kernel
theorem dX4_node_5 : decode cX4_node 5 = .ok (.ifCond .ne 5, 3) := by decide +kernel
theorem dX4_node_8 : decode cX4_node 8 = .ok (.iconst (-1), 1) := by decide +kernel
theorem dX4_node_9 : decode cX4_node 9 = .ok (.ireturn, 1) := by decide +kernel
theorem dX4_node_10 : decode cX4_node 10 = .ok (.iload_n 2, 1) := by decide +kernel
theorem dX4_node_11 : decode cX4_node 11 = .ok (.tableswitch 125 0 7 #[45, 51, 70, 70, 70, 98, 104, 110], 45) := by decide +kernel
theorem dX4_node_56 : decode cX4_node 56 = .ok (.aload_n 0, 1) := by decide +kernel
theorem dX4_node_57 : decode cX4_node 57 = .ok (.iload_n 1, 1) := by decide +kernel
theorem dX4_node_58 : decode cX4_node 58 = .ok (.invokevirtual 64, 3) := by decide +kernel
theorem dX4_node_61 : decode cX4_node 61 = .ok (.ireturn, 1) := by decide +kernel
theorem dX4_node_62 : decode cX4_node 62 = .ok (.aload_n 0, 1) := by decide +kernel
theorem dX4_node_63 : decode cX4_node 63 = .ok (.iload_n 1, 1) := by decide +kernel
theorem dX4_node_64 : decode cX4_node 64 = .ok (.invokevirtual 75, 3) := by decide +kernel
theorem dX4_node_67 : decode cX4_node 67 = .ok (.ifCond .eq 11, 3) := by decide +kernel
theorem dX4_node_70 : decode cX4_node 70 = .ok (.aload_n 0, 1) := by decide +kernel
theorem dX4_node_71 : decode cX4_node 71 = .ok (.iload_n 1, 1) := by decide +kernel
theorem dX4_node_72 : decode cX4_node 72 = .ok (.invokevirtual 88, 3) := by decide +kernel
theorem dX4_node_75 : decode cX4_node 75 = .ok (.goto 5, 3) := by decide +kernel
theorem dX4_node_78 : decode cX4_node 78 = .ok (.bipush (-9), 2) := by decide +kernel
theorem dX4_node_80 : decode cX4_node 80 = .ok (.ireturn, 1) := by decide +kernel
theorem dX4_node_81 : decode cX4_node 81 = .ok (.iload_n 2, 1) := by decide +kernel
theorem dX4_node_82 : decode cX4_node 82 = .ok (.iconst 2, 1) := by decide +kernel
theorem dX4_node_83 : decode cX4_node 83 = .ok (.isub, 1) := by decide +kernel
theorem dX4_node_84 : decode cX4_node 84 = .ok (.aload_n 0, 1) := by decide +kernel
theorem dX4_node_85 : decode cX4_node 85 = .ok (.iload_n 1, 1) := by decide +kernel
theorem dX4_node_86 : decode cX4_node 86 = .ok (.invokevirtual 64, 3) := by decide +kernel
theorem dX4_node_89 : decode cX4_node 89 = .ok (.invokestatic 68, 3) := by decide +kernel
theorem dX4_node_92 : decode cX4_node 92 = .ok (.if_icmp .ge 14, 3) := by decide +kernel
theorem dX4_node_95 : decode cX4_node 95 = .ok (.aload_n 0, 1) := by decide +kernel
theorem dX4_node_96 : decode cX4_node 96 = .ok (.iload_n 1, 1) := by decide +kernel
theorem dX4_node_97 : decode cX4_node 97 = .ok (.iload_n 2, 1) := by decide +kernel
theorem dX4_node_98 : decode cX4_node 98 = .ok (.iconst 2, 1) := by decide +kernel
theorem dX4_node_99 : decode cX4_node 99 = .ok (.isub, 1) := by decide +kernel
theorem dX4_node_100 : decode cX4_node 100 = .ok (.invokevirtual 71, 3) := by decide +kernel
theorem dX4_node_103 : decode cX4_node 103 = .ok (.goto 5, 3) := by decide +kernel
theorem dX4_node_106 : decode cX4_node 106 = .ok (.bipush (-9), 2) := by decide +kernel
theorem dX4_node_108 : decode cX4_node 108 = .ok (.ireturn, 1) := by decide +kernel
theorem dX4_node_109 : decode cX4_node 109 = .ok (.aload_n 0, 1) := by decide +kernel
theorem dX4_node_110 : decode cX4_node 110 = .ok (.iload_n 1, 1) := by decide +kernel
theorem dX4_node_111 : decode cX4_node 111 = .ok (.invokevirtual 106, 3) := by decide +kernel
theorem dX4_node_114 : decode cX4_node 114 = .ok (.ireturn, 1) := by decide +kernel
theorem dX4_node_115 : decode cX4_node 115 = .ok (.aload_n 0, 1) := by decide +kernel
theorem dX4_node_116 : decode cX4_node 116 = .ok (.iload_n 1, 1) := by decide +kernel
theorem dX4_node_117 : decode cX4_node 117 = .ok (.invokevirtual 81, 3) := by decide +kernel
theorem dX4_node_120 : decode cX4_node 120 = .ok (.ireturn, 1) := by decide +kernel
theorem dX4_node_121 : decode cX4_node 121 = .ok (.aload_n 0, 1) := by decide +kernel
theorem dX4_node_122 : decode cX4_node 122 = .ok (.aload_n 0, 1) := by decide +kernel
theorem dX4_node_123 : decode cX4_node 123 = .ok (.getfield 16, 3) := by decide +kernel
theorem dX4_node_126 : decode cX4_node 126 = .ok (.invokevirtual 149, 3) := by decide +kernel
theorem dX4_node_129 : decode cX4_node 129 = .ok (.aload_n 0, 1) := by decide +kernel
theorem dX4_node_130 : decode cX4_node 130 = .ok (.getfield 35, 3) := by decide +kernel
theorem dX4_node_133 : decode cX4_node 133 = .ok (.iload_n 1, 1) := by decide +kernel
theorem dX4_node_134 : decode cX4_node 134 = .ok (.iaload, 1) := by decide +kernel
theorem dX4_node_135 : decode cX4_node 135 = .ok (.ireturn, 1) := by decide +kernel
theorem dX4_node_136 : decode cX4_node 136 = .ok (.iconst (-1), 1) := by decide +kernel
theorem dX4_node_137 : decode cX4_node 137 = .ok (.ireturn, 1) := by decide +kernel
theorem dX4_register_0 : decode cX4_register 0 = .ok (.aload_n 0, 1) := by decide +kernel
theorem dX4_register_1 : decode cX4_register 1 = .ok (.iload_n 1, 1) := by decide +kernel
theorem dX4_register_2 : decode cX4_register 2 = .ok (.invokevirtual 167, 3) := by decide +kernel
theorem dX4_register_5 : decode cX4_register 5 = .ok (.ifCond .eq 12, 3) := by decide +kernel
theorem dX4_register_8 : decode cX4_register 8 = .ok (.iload_n 2, 1) := by decide +kernel
theorem dX4_register_9 : decode cX4_register 9 = .ok (.iconst 0, 1) := by decide +kernel
theorem dX4_register_10 : decode cX4_register 10 = .ok (.iconst 2, 1) := by decide +kernel
theorem dX4_register_11 : decode cX4_register 11 = .ok (.invokestatic 56, 3) := by decide +kernel
theorem dX4_register_14 : decode cX4_register 14 = .ok (.ifCond .ne 5, 3) := by decide +kernel
theorem dX4_register_17 : decode cX4_register 17 = .ok (.iconst (-1), 1) := by decide +kernel
theorem dX4_register_18 : decode cX4_register 18 = .ok (.ireturn, 1) := by decide +kernel
theorem dX4_register_19 : decode cX4_register 19 = .ok (.iload_n 2, 1) := by decide +kernel
theorem dX4_register_20 : decode cX4_register 20 = .ok (.ifCond .ne 11, 3) := by decide +kernel
theorem dX4_register_23 : decode cX4_register 23 = .ok (.aload_n 0, 1) := by decide +kernel
theorem dX4_register_24 : decode cX4_register 24 = .ok (.iload_n 1, 1) := by decide +kernel
theorem dX4_register_25 : decode cX4_register 25 = .ok (.invokevirtual 91, 3) := by decide +kernel
theorem dX4_register_28 : decode cX4_register 28 = .ok (.goto 21, 3) := by decide +kernel
theorem dX4_register_31 : decode cX4_register 31 = .ok (.iload_n 2, 1) := by decide +kernel
theorem dX4_register_32 : decode cX4_register 32 = .ok (.iconst 1, 1) := by decide +kernel
theorem dX4_register_33 : decode cX4_register 33 = .ok (.if_icmp .ne 11, 3) := by decide +kernel
theorem dX4_register_36 : decode cX4_register 36 = .ok (.aload_n 0, 1) := by decide +kernel
theorem dX4_register_37 : decode cX4_register 37 = .ok (.iload_n 1, 1) := by decide +kernel
theorem dX4_register_38 : decode cX4_register 38 = .ok (.invokevirtual 103, 3) := by decide +kernel
theorem dX4_register_41 : decode cX4_register 41 = .ok (.goto 8, 3) := by decide +kernel
theorem dX4_register_44 : decode cX4_register 44 = .ok (.aload_n 0, 1) := by decide +kernel
theorem dX4_register_45 : decode cX4_register 45 = .ok (.iload_n 1, 1) := by decide +kernel
theorem dX4_register_46 : decode cX4_register 46 = .ok (.invokevirtual 118, 3) := by decide +kernel
theorem dX4_register_49 : decode cX4_register 49 = .ok (.ireturn, 1) := by decide +kernel
theorem dX4_crossing_0 : decode cX4_crossing 0 = .ok (.iload_n 1, 1) := by decide +kernel
theorem dX4_crossing_1 : decode cX4_crossing 1 = .ok (.iconst (-1), 1) := by decide +kernel
theorem dX4_crossing_2 : decode cX4_crossing 2 = .ok (.if_icmp .ge 5, 3) := by decide +kernel
theorem dX4_crossing_5 : decode cX4_crossing 5 = .ok (.iconst (-1), 1) := by decide +kernel
theorem dX4_crossing_6 : decode cX4_crossing 6 = .ok (.ireturn, 1) := by decide +kernel
theorem dX4_crossing_7 : decode cX4_crossing 7 = .ok (.iconst 0, 1) := by decide +kernel
theorem dX4_crossing_8 : decode cX4_crossing 8 = .ok (.istore_n 2, 1) := by decide +kernel
theorem dX4_crossing_9 : decode cX4_crossing 9 = .ok (.iconst 0, 1) := by decide +kernel
theorem dX4_crossing_10 : decode cX4_crossing 10 = .ok (.istore_n 3, 1) := by decide +kernel
theorem dX4_crossing_11 : decode cX4_crossing 11 = .ok (.iload_n 3, 1) := by decide +kernel
theorem dX4_crossing_12 : decode cX4_crossing 12 = .ok (.aload_n 0, 1) := by decide +kernel
theorem dX4_crossing_13 : decode cX4_crossing 13 = .ok (.invokevirtual 52, 3) := by decide +kernel
theorem dX4_crossing_16 : decode cX4_crossing 16 = .ok (.if_icmp .ge 29, 3) := by decide +kernel
theorem dX4_crossing_19 : decode cX4_crossing 19 = .ok (.aload_n 0, 1) := by decide +kernel
theorem dX4_crossing_20 : decode cX4_crossing 20 = .ok (.iload_n 3, 1) := by decide +kernel
theorem dX4_crossing_21 : decode cX4_crossing 21 = .ok (.invokevirtual 170, 3) := by decide +kernel
theorem dX4_crossing_24 : decode cX4_crossing 24 = .ok (.bipush (-9), 2) := by decide +kernel
theorem dX4_crossing_26 : decode cX4_crossing 26 = .ok (.if_icmp .eq 13, 3) := by decide +kernel
theorem dX4_crossing_29 : decode cX4_crossing 29 = .ok (.iload_n 2, 1) := by decide +kernel
theorem dX4_crossing_30 : decode cX4_crossing 30 = .ok (.iload_n 1, 1) := by decide +kernel
theorem dX4_crossing_31 : decode cX4_crossing 31 = .ok (.if_icmp .ne 5, 3) := by decide +kernel
theorem dX4_crossing_34 : decode cX4_crossing 34 = .ok (.iload_n 3, 1) := by decide +kernel
theorem dX4_crossing_35 : decode cX4_crossing 35 = .ok (.ireturn, 1) := by decide +kernel
theorem dX4_crossing_36 : decode cX4_crossing 36 = .ok (.iinc 2 1, 3) := by decide +kernel
theorem dX4_crossing_39 : decode cX4_crossing 39 = .ok (.iinc 3 1, 3) := by decide +kernel
theorem dX4_crossing_42 : decode cX4_crossing 42 = .ok (.goto (-31), 3) := by decide +kernel
theorem dX4_crossing_45 : decode cX4_crossing 45 = .ok (.iload_n 1, 1) := by decide +kernel
theorem dX4_crossing_46 : decode cX4_crossing 46 = .ok (.ifCond .ge 7, 3) := by decide +kernel
theorem dX4_crossing_49 : decode cX4_crossing 49 = .ok (.iload_n 2, 1) := by decide +kernel
theorem dX4_crossing_50 : decode cX4_crossing 50 = .ok (.goto 5, 3) := by decide +kernel
theorem dX4_crossing_53 : decode cX4_crossing 53 = .ok (.bipush (-9), 2) := by decide +kernel
theorem dX4_crossing_55 : decode cX4_crossing 55 = .ok (.ireturn, 1) := by decide +kernel
theorem dX4_kinds_0 : decode cX4_kinds 0 = .ok (.iload_n 1, 1) := by decide +kernel
theorem dX4_kinds_1 : decode cX4_kinds 1 = .ok (.iconst 0, 1) := by decide +kernel
theorem dX4_kinds_2 : decode cX4_kinds 2 = .ok (.iconst 3, 1) := by decide +kernel
theorem dX4_kinds_3 : decode cX4_kinds 3 = .ok (.invokestatic 56, 3) := by decide +kernel
theorem dX4_kinds_6 : decode cX4_kinds 6 = .ok (.ifCond .ne 5, 3) := by decide +kernel
theorem dX4_kinds_9 : decode cX4_kinds 9 = .ok (.iconst (-1), 1) := by decide +kernel
theorem dX4_kinds_10 : decode cX4_kinds 10 = .ok (.ireturn, 1) := by decide +kernel
theorem dX4_kinds_11 : decode cX4_kinds 11 = .ok (.iconst 0, 1) := by decide +kernel
theorem dX4_kinds_12 : decode cX4_kinds 12 = .ok (.istore_n 2, 1) := by decide +kernel
theorem dX4_kinds_13 : decode cX4_kinds 13 = .ok (.iconst 0, 1) := by decide +kernel
theorem dX4_kinds_14 : decode cX4_kinds 14 = .ok (.istore_n 3, 1) := by decide +kernel
theorem dX4_kinds_15 : decode cX4_kinds 15 = .ok (.iload_n 3, 1) := by decide +kernel
theorem dX4_kinds_16 : decode cX4_kinds 16 = .ok (.aload_n 0, 1) := by decide +kernel
theorem dX4_kinds_17 : decode cX4_kinds 17 = .ok (.invokevirtual 52, 3) := by decide +kernel
theorem dX4_kinds_20 : decode cX4_kinds 20 = .ok (.if_icmp .ge 26, 3) := by decide +kernel
theorem dX4_kinds_23 : decode cX4_kinds 23 = .ok (.iload_n 2, 1) := by decide +kernel
theorem dX4_kinds_24 : decode cX4_kinds 24 = .ok (.aload_n 0, 1) := by decide +kernel
theorem dX4_kinds_25 : decode cX4_kinds 25 = .ok (.iload_n 3, 1) := by decide +kernel
theorem dX4_kinds_26 : decode cX4_kinds 26 = .ok (.invokevirtual 170, 3) := by decide +kernel
theorem dX4_kinds_29 : decode cX4_kinds 29 = .ok (.iload_n 1, 1) := by decide +kernel
theorem dX4_kinds_30 : decode cX4_kinds 30 = .ok (.if_icmp .ne 7, 3) := by decide +kernel
theorem dX4_kinds_33 : decode cX4_kinds 33 = .ok (.iconst 1, 1) := by decide +kernel
theorem dX4_kinds_34 : decode cX4_kinds 34 = .ok (.goto 4, 3) := by decide +kernel
theorem dX4_kinds_37 : decode cX4_kinds 37 = .ok (.iconst 0, 1) := by decide +kernel
theorem dX4_kinds_38 : decode cX4_kinds 38 = .ok (.iadd, 1) := by decide +kernel
theorem dX4_kinds_39 : decode cX4_kinds 39 = .ok (.istore_n 2, 1) := by decide +kernel
theorem dX4_kinds_40 : decode cX4_kinds 40 = .ok (.iinc 3 1, 3) := by decide +kernel
theorem dX4_kinds_43 : decode cX4_kinds 43 = .ok (.goto (-28), 3) := by decide +kernel
theorem dX4_kinds_46 : decode cX4_kinds 46 = .ok (.iload_n 2, 1) := by decide +kernel
theorem dX4_kinds_47 : decode cX4_kinds 47 = .ok (.ireturn, 1) := by decide +kernel
theorem dX4_join_0 : decode cX4_join 0 = .ok (.iload_n 1, 1) := by decide +kernel
theorem dX4_join_1 : decode cX4_join 1 = .ok (.iconst (-1), 1) := by decide +kernel
theorem dX4_join_2 : decode cX4_join 2 = .ok (.if_icmp .lt 20, 3) := by decide +kernel
theorem dX4_join_5 : decode cX4_join 5 = .ok (.iload_n 2, 1) := by decide +kernel
theorem dX4_join_6 : decode cX4_join 6 = .ok (.iconst 0, 1) := by decide +kernel
theorem dX4_join_7 : decode cX4_join 7 = .ok (.iload_n 1, 1) := by decide +kernel
theorem dX4_join_8 : decode cX4_join 8 = .ok (.ifCond .ge 7, 3) := by decide +kernel
theorem dX4_join_11 : decode cX4_join 11 = .ok (.iconst 0, 1) := by decide +kernel
theorem dX4_join_12 : decode cX4_join 12 = .ok (.goto 4, 3) := by decide +kernel
theorem dX4_join_15 : decode cX4_join 15 = .ok (.iconst 2, 1) := by decide +kernel
theorem dX4_join_16 : decode cX4_join 16 = .ok (.invokestatic 56, 3) := by decide +kernel
theorem dX4_join_19 : decode cX4_join 19 = .ok (.ifCond .ne 7, 3) := by decide +kernel
theorem dX4_join_22 : decode cX4_join 22 = .ok (.iconst (-1), 1) := by decide +kernel
theorem dX4_join_23 : decode cX4_join 23 = .ok (.goto 9, 3) := by decide +kernel
theorem dX4_join_26 : decode cX4_join 26 = .ok (.aload_n 0, 1) := by decide +kernel
end
section
theorem dX4_join_27 : decode cX4_join 27 = .ok (.iload_n 1, 1) := by decide +kernel
theorem dX4_join_28 : decode cX4_join 28 = .ok (.iload_n 2, 1) := by decide +kernel
theorem dX4_join_29 : decode cX4_join 29 = .ok (.invokevirtual 173, 3) := by decide +kernel
theorem dX4_join_32 : decode cX4_join 32 = .ok (.ireturn, 1) := by decide +kernel
theorem dX4_weight_0 : decode cX4_weight 0 = .ok (.iload_n 2, 1) := by decide +kernel
theorem dX4_weight_1 : decode cX4_weight 1 = .ok (.ifCond .le 26, 3) := by decide +kernel
theorem dX4_weight_4 : decode cX4_weight 4 = .ok (.iload_n 2, 1) := by decide +kernel
theorem dX4_weight_5 : decode cX4_weight 5 = .ok (.iconst 1, 1) := by decide +kernel
theorem dX4_weight_6 : decode cX4_weight 6 = .ok (.if_icmp .ne 8, 3) := by decide +kernel
theorem dX4_weight_9 : decode cX4_weight 9 = .ok (.ldc 176, 2) := by decide +kernel
theorem dX4_weight_11 : decode cX4_weight 11 = .ok (.goto 15, 3) := by decide +kernel
theorem dX4_weight_14 : decode cX4_weight 14 = .ok (.iload_n 2, 1) := by decide +kernel
theorem dX4_weight_15 : decode cX4_weight 15 = .ok (.iconst 2, 1) := by decide +kernel
theorem dX4_weight_16 : decode cX4_weight 16 = .ok (.if_icmp .ne 8, 3) := by decide +kernel
theorem dX4_weight_19 : decode cX4_weight 19 = .ok (.ldc 177, 2) := by decide +kernel
theorem dX4_weight_21 : decode cX4_weight 21 = .ok (.goto 5, 3) := by decide +kernel
theorem dX4_weight_24 : decode cX4_weight 24 = .ok (.ldc 178, 2) := by decide +kernel
theorem dX4_weight_26 : decode cX4_weight 26 = .ok (.freturn, 1) := by decide +kernel
theorem dX4_weight_27 : decode cX4_weight 27 = .ok (.fconst 1, 1) := by decide +kernel
theorem dX4_weight_28 : decode cX4_weight 28 = .ok (.fstore_n 3, 1) := by decide +kernel
theorem dX4_weight_29 : decode cX4_weight 29 = .ok (.aload_n 0, 1) := by decide +kernel
theorem dX4_weight_30 : decode cX4_weight 30 = .ok (.iload_n 1, 1) := by decide +kernel
theorem dX4_weight_31 : decode cX4_weight 31 = .ok (.invokevirtual 103, 3) := by decide +kernel
theorem dX4_weight_34 : decode cX4_weight 34 = .ok (.istore 4, 2) := by decide +kernel
theorem dX4_weight_36 : decode cX4_weight 36 = .ok (.iload 4, 2) := by decide +kernel
theorem dX4_weight_38 : decode cX4_weight 38 = .ok (.ifCond .le 14, 3) := by decide +kernel
theorem dX4_weight_41 : decode cX4_weight 41 = .ok (.fload_n 3, 1) := by decide +kernel
theorem dX4_weight_42 : decode cX4_weight 42 = .ok (.ldc 179, 2) := by decide +kernel
theorem dX4_weight_44 : decode cX4_weight 44 = .ok (.fmul, 1) := by decide +kernel
theorem dX4_weight_45 : decode cX4_weight 45 = .ok (.fstore_n 3, 1) := by decide +kernel
theorem dX4_weight_46 : decode cX4_weight 46 = .ok (.iinc 4 (-1), 3) := by decide +kernel
theorem dX4_weight_49 : decode cX4_weight 49 = .ok (.goto (-13), 3) := by decide +kernel
theorem dX4_weight_52 : decode cX4_weight 52 = .ok (.fload_n 3, 1) := by decide +kernel
theorem dX4_weight_53 : decode cX4_weight 53 = .ok (.freturn, 1) := by decide +kernel
theorem dX4_risk_0 : decode cX4_risk 0 = .ok (.fconst 0, 1) := by decide +kernel
theorem dX4_risk_1 : decode cX4_risk 1 = .ok (.fstore_n 1, 1) := by decide +kernel
theorem dX4_risk_2 : decode cX4_risk 2 = .ok (.iconst 0, 1) := by decide +kernel
theorem dX4_risk_3 : decode cX4_risk 3 = .ok (.istore_n 2, 1) := by decide +kernel
theorem dX4_risk_4 : decode cX4_risk 4 = .ok (.iload_n 2, 1) := by decide +kernel
theorem dX4_risk_5 : decode cX4_risk 5 = .ok (.aload_n 0, 1) := by decide +kernel
theorem dX4_risk_6 : decode cX4_risk 6 = .ok (.invokevirtual 52, 3) := by decide +kernel
theorem dX4_risk_9 : decode cX4_risk 9 = .ok (.if_icmp .ge 45, 3) := by decide +kernel
theorem dX4_risk_12 : decode cX4_risk 12 = .ok (.aload_n 0, 1) := by decide +kernel
theorem dX4_risk_13 : decode cX4_risk 13 = .ok (.iload_n 2, 1) := by decide +kernel
theorem dX4_risk_14 : decode cX4_risk 14 = .ok (.invokevirtual 170, 3) := by decide +kernel
theorem dX4_risk_17 : decode cX4_risk 17 = .ok (.istore_n 3, 1) := by decide +kernel
theorem dX4_risk_18 : decode cX4_risk 18 = .ok (.iload_n 3, 1) := by decide +kernel
theorem dX4_risk_19 : decode cX4_risk 19 = .ok (.bipush (-9), 2) := by decide +kernel
theorem dX4_risk_21 : decode cX4_risk 21 = .ok (.if_icmp .eq 27, 3) := by decide +kernel
theorem dX4_risk_24 : decode cX4_risk 24 = .ok (.fload_n 1, 1) := by decide +kernel
theorem dX4_risk_25 : decode cX4_risk 25 = .ok (.aload_n 0, 1) := by decide +kernel
theorem dX4_risk_26 : decode cX4_risk 26 = .ok (.iload_n 2, 1) := by decide +kernel
theorem dX4_risk_27 : decode cX4_risk 27 = .ok (.iload_n 3, 1) := by decide +kernel
theorem dX4_risk_28 : decode cX4_risk 28 = .ok (.invokevirtual 180, 3) := by decide +kernel
theorem dX4_risk_31 : decode cX4_risk 31 = .ok (.aload_n 0, 1) := by decide +kernel
theorem dX4_risk_32 : decode cX4_risk 32 = .ok (.getfield 7, 3) := by decide +kernel
theorem dX4_risk_35 : decode cX4_risk 35 = .ok (.bipush 92, 2) := by decide +kernel
theorem dX4_risk_37 : decode cX4_risk 37 = .ok (.aload_n 0, 1) := by decide +kernel
theorem dX4_risk_38 : decode cX4_risk 38 = .ok (.iload_n 2, 1) := by decide +kernel
theorem dX4_risk_39 : decode cX4_risk 39 = .ok (.invokevirtual 88, 3) := by decide +kernel
theorem dX4_risk_42 : decode cX4_risk 42 = .ok (.iadd, 1) := by decide +kernel
theorem dX4_risk_43 : decode cX4_risk 43 = .ok (.iaload, 1) := by decide +kernel
theorem dX4_risk_44 : decode cX4_risk 44 = .ok (.i2f, 1) := by decide +kernel
theorem dX4_risk_45 : decode cX4_risk 45 = .ok (.fdiv, 1) := by decide +kernel
theorem dX4_risk_46 : decode cX4_risk 46 = .ok (.fadd, 1) := by decide +kernel
theorem dX4_risk_47 : decode cX4_risk 47 = .ok (.fstore_n 1, 1) := by decide +kernel
theorem dX4_risk_48 : decode cX4_risk 48 = .ok (.iinc 2 1, 3) := by decide +kernel
theorem dX4_risk_51 : decode cX4_risk 51 = .ok (.goto (-47), 3) := by decide +kernel
theorem dX4_risk_54 : decode cX4_risk 54 = .ok (.ldc 184, 2) := by decide +kernel
theorem dX4_risk_56 : decode cX4_risk 56 = .ok (.fload_n 1, 1) := by decide +kernel
theorem dX4_risk_57 : decode cX4_risk 57 = .ok (.fmul, 1) := by decide +kernel
theorem dX4_risk_58 : decode cX4_risk 58 = .ok (.f2i, 1) := by decide +kernel
theorem dX4_risk_59 : decode cX4_risk 59 = .ok (.ireturn, 1) := by decide +kernel
theorem dX4_period_0 : decode cX4_period 0 = .ok (.iload_n 1, 1) := by decide +kernel
theorem dX4_period_1 : decode cX4_period 1 = .ok (.iconst 0, 1) := by decide +kernel
theorem dX4_period_2 : decode cX4_period 2 = .ok (.iconst 2, 1) := by decide +kernel
theorem dX4_period_3 : decode cX4_period 3 = .ok (.invokestatic 56, 3) := by decide +kernel
theorem dX4_period_6 : decode cX4_period 6 = .ok (.ifCond .eq 15, 3) := by decide +kernel
theorem dX4_period_9 : decode cX4_period 9 = .ok (.aload_n 0, 1) := by decide +kernel
theorem dX4_period_10 : decode cX4_period 10 = .ok (.getfield 7, 3) := by decide +kernel
theorem dX4_period_13 : decode cX4_period 13 = .ok (.bipush 92, 2) := by decide +kernel
theorem dX4_period_15 : decode cX4_period 15 = .ok (.iload_n 1, 1) := by decide +kernel
theorem dX4_period_16 : decode cX4_period 16 = .ok (.iadd, 1) := by decide +kernel
theorem dX4_period_17 : decode cX4_period 17 = .ok (.iaload, 1) := by decide +kernel
theorem dX4_period_18 : decode cX4_period 18 = .ok (.goto 4, 3) := by decide +kernel
theorem dX4_period_21 : decode cX4_period 21 = .ok (.iconst (-1), 1) := by decide +kernel
theorem dX4_period_22 : decode cX4_period 22 = .ok (.ireturn, 1) := by decide +kernel
theorem dX4_wish_0 : decode cX4_wish 0 = .ok (.aload_n 0, 1) := by decide +kernel
theorem dX4_wish_1 : decode cX4_wish 1 = .ok (.iload_n 1, 1) := by decide +kernel
theorem dX4_wish_2 : decode cX4_wish 2 = .ok (.invokevirtual 161, 3) := by decide +kernel
theorem dX4_wish_5 : decode cX4_wish 5 = .ok (.ifCond .eq 15, 3) := by decide +kernel
theorem dX4_wish_8 : decode cX4_wish 8 = .ok (.aload_n 0, 1) := by decide +kernel
theorem dX4_wish_9 : decode cX4_wish 9 = .ok (.getfield 16, 3) := by decide +kernel
theorem dX4_wish_12 : decode cX4_wish 12 = .ok (.bipush 20, 2) := by decide +kernel
theorem dX4_wish_14 : decode cX4_wish 14 = .ok (.iload_n 1, 1) := by decide +kernel
theorem dX4_wish_15 : decode cX4_wish 15 = .ok (.iadd, 1) := by decide +kernel
theorem dX4_wish_16 : decode cX4_wish 16 = .ok (.iaload, 1) := by decide +kernel
theorem dX4_wish_17 : decode cX4_wish 17 = .ok (.goto 4, 3) := by decide +kernel
theorem dX4_wish_20 : decode cX4_wish 20 = .ok (.iconst (-1), 1) := by decide +kernel
theorem dX4_wish_21 : decode cX4_wish 21 = .ok (.ireturn, 1) := by decide +kernel
theorem dX4_when_0 : decode cX4_when 0 = .ok (.aload_n 0, 1) := by decide +kernel
theorem dX4_when_1 : decode cX4_when 1 = .ok (.iload_n 1, 1) := by decide +kernel
theorem dX4_when_2 : decode cX4_when 2 = .ok (.invokevirtual 60, 3) := by decide +kernel
theorem dX4_when_5 : decode cX4_when 5 = .ok (.ifCond .eq 12, 3) := by decide +kernel
theorem dX4_when_8 : decode cX4_when 8 = .ok (.iload_n 2, 1) := by decide +kernel
theorem dX4_when_9 : decode cX4_when 9 = .ok (.iconst 0, 1) := by decide +kernel
theorem dX4_when_10 : decode cX4_when 10 = .ok (.iconst 2, 1) := by decide +kernel
theorem dX4_when_11 : decode cX4_when 11 = .ok (.invokestatic 56, 3) := by decide +kernel
theorem dX4_when_14 : decode cX4_when 14 = .ok (.ifCond .ne 5, 3) := by decide +kernel
theorem dX4_when_17 : decode cX4_when 17 = .ok (.iconst (-1), 1) := by decide +kernel
theorem dX4_when_18 : decode cX4_when 18 = .ok (.ireturn, 1) := by decide +kernel
theorem dX4_when_19 : decode cX4_when 19 = .ok (.iconst 0, 1) := by decide +kernel
theorem dX4_when_20 : decode cX4_when 20 = .ok (.istore_n 3, 1) := by decide +kernel
theorem dX4_when_21 : decode cX4_when 21 = .ok (.iload_n 3, 1) := by decide +kernel
theorem dX4_when_22 : decode cX4_when 22 = .ok (.bipush 36, 2) := by decide +kernel
theorem dX4_when_24 : decode cX4_when 24 = .ok (.if_icmp .ge 21, 3) := by decide +kernel
theorem dX4_when_27 : decode cX4_when 27 = .ok (.aload_n 0, 1) := by decide +kernel
theorem dX4_when_28 : decode cX4_when 28 = .ok (.getfield 19, 3) := by decide +kernel
theorem dX4_when_31 : decode cX4_when 31 = .ok (.iload_n 3, 1) := by decide +kernel
theorem dX4_when_32 : decode cX4_when 32 = .ok (.aload_n 0, 1) := by decide +kernel
theorem dX4_when_33 : decode cX4_when 33 = .ok (.getfield 16, 3) := by decide +kernel
theorem dX4_when_36 : decode cX4_when 36 = .ok (.iload_n 3, 1) := by decide +kernel
theorem dX4_when_37 : decode cX4_when 37 = .ok (.iaload, 1) := by decide +kernel
theorem dX4_when_38 : decode cX4_when 38 = .ok (.iastore, 1) := by decide +kernel
theorem dX4_when_39 : decode cX4_when 39 = .ok (.iinc 3 1, 3) := by decide +kernel
theorem dX4_when_42 : decode cX4_when 42 = .ok (.goto (-21), 3) := by decide +kernel
theorem dX4_when_45 : decode cX4_when 45 = .ok (.iconst 0, 1) := by decide +kernel
theorem dX4_when_46 : decode cX4_when 46 = .ok (.istore_n 3, 1) := by decide +kernel
theorem dX4_when_47 : decode cX4_when 47 = .ok (.iload_n 3, 1) := by decide +kernel
theorem dX4_when_48 : decode cX4_when 48 = .ok (.bipush 99, 2) := by decide +kernel
theorem dX4_when_50 : decode cX4_when 50 = .ok (.if_icmp .gt 37, 3) := by decide +kernel
theorem dX4_when_53 : decode cX4_when 53 = .ok (.aload_n 0, 1) := by decide +kernel
theorem dX4_when_54 : decode cX4_when 54 = .ok (.aload_n 0, 1) := by decide +kernel
theorem dX4_when_55 : decode cX4_when 55 = .ok (.getfield 19, 3) := by decide +kernel
theorem dX4_when_58 : decode cX4_when 58 = .ok (.invokevirtual 149, 3) := by decide +kernel
theorem dX4_when_61 : decode cX4_when 61 = .ok (.aload_n 0, 1) := by decide +kernel
theorem dX4_when_62 : decode cX4_when 62 = .ok (.getfield 35, 3) := by decide +kernel
theorem dX4_when_65 : decode cX4_when 65 = .ok (.iload_n 1, 1) := by decide +kernel
theorem dX4_when_66 : decode cX4_when 66 = .ok (.iaload, 1) := by decide +kernel
theorem dX4_when_67 : decode cX4_when 67 = .ok (.iload_n 2, 1) := by decide +kernel
theorem dX4_when_68 : decode cX4_when 68 = .ok (.if_icmp .ne 5, 3) := by decide +kernel
theorem dX4_when_71 : decode cX4_when 71 = .ok (.iload_n 3, 1) := by decide +kernel
theorem dX4_when_72 : decode cX4_when 72 = .ok (.ireturn, 1) := by decide +kernel
theorem dX4_when_73 : decode cX4_when 73 = .ok (.aload_n 0, 1) := by decide +kernel
theorem dX4_when_74 : decode cX4_when 74 = .ok (.aload_n 0, 1) := by decide +kernel
theorem dX4_when_75 : decode cX4_when 75 = .ok (.getfield 19, 3) := by decide +kernel
theorem dX4_when_78 : decode cX4_when 78 = .ok (.invokevirtual 164, 3) := by decide +kernel
theorem dX4_when_81 : decode cX4_when 81 = .ok (.iinc 3 1, 3) := by decide +kernel
theorem dX4_when_84 : decode cX4_when 84 = .ok (.goto (-37), 3) := by decide +kernel
theorem dX4_when_87 : decode cX4_when 87 = .ok (.bipush (-9), 2) := by decide +kernel
theorem dX4_when_89 : decode cX4_when 89 = .ok (.ireturn, 1) := by decide +kernel
theorem dX4_keep_0 : decode cX4_keep 0 = .ok (.iload_n 1, 1) := by decide +kernel
theorem dX4_keep_1 : decode cX4_keep 1 = .ok (.iconst 0, 1) := by decide +kernel
theorem dX4_keep_2 : decode cX4_keep 2 = .ok (.iconst 1, 1) := by decide +kernel
theorem dX4_keep_3 : decode cX4_keep 3 = .ok (.invokestatic 56, 3) := by decide +kernel
theorem dX4_keep_6 : decode cX4_keep 6 = .ok (.ifCond .ne 5, 3) := by decide +kernel
theorem dX4_keep_9 : decode cX4_keep 9 = .ok (.iconst (-1), 1) := by decide +kernel
theorem dX4_keep_10 : decode cX4_keep 10 = .ok (.ireturn, 1) := by decide +kernel
theorem dX4_keep_11 : decode cX4_keep 11 = .ok (.iconst 0, 1) := by decide +kernel
theorem dX4_keep_12 : decode cX4_keep 12 = .ok (.istore_n 2, 1) := by decide +kernel
theorem dX4_keep_13 : decode cX4_keep 13 = .ok (.iload_n 2, 1) := by decide +kernel
theorem dX4_keep_14 : decode cX4_keep 14 = .ok (.bipush 36, 2) := by decide +kernel
theorem dX4_keep_16 : decode cX4_keep 16 = .ok (.if_icmp .ge 26, 3) := by decide +kernel
theorem dX4_keep_19 : decode cX4_keep 19 = .ok (.aload_n 0, 1) := by decide +kernel
theorem dX4_keep_20 : decode cX4_keep 20 = .ok (.getfield 25, 3) := by decide +kernel
theorem dX4_keep_23 : decode cX4_keep 23 = .ok (.bipush 36, 2) := by decide +kernel
theorem dX4_keep_25 : decode cX4_keep 25 = .ok (.iload_n 1, 1) := by decide +kernel
theorem dX4_keep_26 : decode cX4_keep 26 = .ok (.imul, 1) := by decide +kernel
theorem dX4_keep_27 : decode cX4_keep 27 = .ok (.iload_n 2, 1) := by decide +kernel
theorem dX4_keep_28 : decode cX4_keep 28 = .ok (.iadd, 1) := by decide +kernel
theorem dX4_keep_29 : decode cX4_keep 29 = .ok (.aload_n 0, 1) := by decide +kernel
theorem dX4_keep_30 : decode cX4_keep 30 = .ok (.getfield 16, 3) := by decide +kernel
theorem dX4_keep_33 : decode cX4_keep 33 = .ok (.iload_n 2, 1) := by decide +kernel
theorem dX4_keep_34 : decode cX4_keep 34 = .ok (.iaload, 1) := by decide +kernel
theorem dX4_keep_35 : decode cX4_keep 35 = .ok (.iastore, 1) := by decide +kernel
theorem dX4_keep_36 : decode cX4_keep 36 = .ok (.iinc 2 1, 3) := by decide +kernel
theorem dX4_keep_39 : decode cX4_keep 39 = .ok (.goto (-26), 3) := by decide +kernel
theorem dX4_keep_42 : decode cX4_keep 42 = .ok (.aload_n 0, 1) := by decide +kernel
theorem dX4_keep_43 : decode cX4_keep 43 = .ok (.getfield 28, 3) := by decide +kernel
theorem dX4_keep_46 : decode cX4_keep 46 = .ok (.iload_n 1, 1) := by decide +kernel
theorem dX4_keep_47 : decode cX4_keep 47 = .ok (.iconst 1, 1) := by decide +kernel
theorem dX4_keep_48 : decode cX4_keep 48 = .ok (.bastore, 1) := by decide +kernel
theorem dX4_keep_49 : decode cX4_keep 49 = .ok (.aload_n 0, 1) := by decide +kernel
theorem dX4_keep_50 : decode cX4_keep 50 = .ok (.getfield 16, 3) := by decide +kernel
theorem dX4_keep_53 : decode cX4_keep 53 = .ok (.iconst 1, 1) := by decide +kernel
theorem dX4_keep_54 : decode cX4_keep 54 = .ok (.iaload, 1) := by decide +kernel
theorem dX4_keep_55 : decode cX4_keep 55 = .ok (.ireturn, 1) := by decide +kernel
theorem dX4_back_0 : decode cX4_back 0 = .ok (.iload_n 1, 1) := by decide +kernel
theorem dX4_back_1 : decode cX4_back 1 = .ok (.iconst 0, 1) := by decide +kernel
theorem dX4_back_2 : decode cX4_back 2 = .ok (.iconst 1, 1) := by decide +kernel
theorem dX4_back_3 : decode cX4_back 3 = .ok (.invokestatic 56, 3) := by decide +kernel
theorem dX4_back_6 : decode cX4_back 6 = .ok (.ifCond .ne 5, 3) := by decide +kernel
theorem dX4_back_9 : decode cX4_back 9 = .ok (.iconst (-1), 1) := by decide +kernel
theorem dX4_back_10 : decode cX4_back 10 = .ok (.ireturn, 1) := by decide +kernel
theorem dX4_back_11 : decode cX4_back 11 = .ok (.aload_n 0, 1) := by decide +kernel
theorem dX4_back_12 : decode cX4_back 12 = .ok (.getfield 28, 3) := by decide +kernel
theorem dX4_back_15 : decode cX4_back 15 = .ok (.iload_n 1, 1) := by decide +kernel
theorem dX4_back_16 : decode cX4_back 16 = .ok (.baload, 1) := by decide +kernel
theorem dX4_back_17 : decode cX4_back 17 = .ok (.ifCond .ne 6, 3) := by decide +kernel
theorem dX4_back_20 : decode cX4_back 20 = .ok (.bipush (-2), 2) := by decide +kernel
theorem dX4_back_22 : decode cX4_back 22 = .ok (.ireturn, 1) := by decide +kernel
theorem dX4_back_23 : decode cX4_back 23 = .ok (.iconst 0, 1) := by decide +kernel
theorem dX4_back_24 : decode cX4_back 24 = .ok (.istore_n 2, 1) := by decide +kernel
theorem dX4_back_25 : decode cX4_back 25 = .ok (.iload_n 2, 1) := by decide +kernel
theorem dX4_back_26 : decode cX4_back 26 = .ok (.bipush 36, 2) := by decide +kernel
theorem dX4_back_28 : decode cX4_back 28 = .ok (.if_icmp .ge 26, 3) := by decide +kernel
theorem dX4_back_31 : decode cX4_back 31 = .ok (.aload_n 0, 1) := by decide +kernel
theorem dX4_back_32 : decode cX4_back 32 = .ok (.getfield 16, 3) := by decide +kernel
theorem dX4_back_35 : decode cX4_back 35 = .ok (.iload_n 2, 1) := by decide +kernel
theorem dX4_back_36 : decode cX4_back 36 = .ok (.aload_n 0, 1) := by decide +kernel
theorem dX4_back_37 : decode cX4_back 37 = .ok (.getfield 25, 3) := by decide +kernel
theorem dX4_back_40 : decode cX4_back 40 = .ok (.bipush 36, 2) := by decide +kernel
theorem dX4_back_42 : decode cX4_back 42 = .ok (.iload_n 1, 1) := by decide +kernel
theorem dX4_back_43 : decode cX4_back 43 = .ok (.imul, 1) := by decide +kernel
theorem dX4_back_44 : decode cX4_back 44 = .ok (.iload_n 2, 1) := by decide +kernel
theorem dX4_back_45 : decode cX4_back 45 = .ok (.iadd, 1) := by decide +kernel
theorem dX4_back_46 : decode cX4_back 46 = .ok (.iaload, 1) := by decide +kernel
theorem dX4_back_47 : decode cX4_back 47 = .ok (.iastore, 1) := by decide +kernel
theorem dX4_back_48 : decode cX4_back 48 = .ok (.iinc 2 1, 3) := by decide +kernel
theorem dX4_back_51 : decode cX4_back 51 = .ok (.goto (-26), 3) := by decide +kernel
theorem dX4_back_54 : decode cX4_back 54 = .ok (.aload_n 0, 1) := by decide +kernel
theorem dX4_back_55 : decode cX4_back 55 = .ok (.iconst 0, 1) := by decide +kernel
theorem dX4_back_56 : decode cX4_back 56 = .ok (.putfield 48, 3) := by decide +kernel
theorem dX4_back_59 : decode cX4_back 59 = .ok (.aload_n 0, 1) := by decide +kernel
theorem dX4_back_60 : decode cX4_back 60 = .ok (.getfield 16, 3) := by decide +kernel
theorem dX4_back_63 : decode cX4_back 63 = .ok (.iconst 1, 1) := by decide +kernel
theorem dX4_back_64 : decode cX4_back 64 = .ok (.iaload, 1) := by decide +kernel
theorem dX4_back_65 : decode cX4_back 65 = .ok (.ireturn, 1) := by decide +kernel
theorem dX4_count_0 : decode cX4_count 0 = .ok (.iload_n 1, 1) := by decide +kernel
theorem dX4_count_1 : decode cX4_count 1 = .ok (.tableswitch 79 0 7 #[47, 52, 60, 60, 60, 60, 69, 74], 47) := by decide +kernel
theorem dX4_count_48 : decode cX4_count 48 = .ok (.aload_n 0, 1) := by decide +kernel
theorem dX4_count_49 : decode cX4_count 49 = .ok (.invokevirtual 52, 3) := by decide +kernel
theorem dX4_count_52 : decode cX4_count 52 = .ok (.ireturn, 1) := by decide +kernel
theorem dX4_count_53 : decode cX4_count 53 = .ok (.aload_n 0, 1) := by decide +kernel
theorem dX4_count_54 : decode cX4_count 54 = .ok (.getfield 7, 3) := by decide +kernel
theorem dX4_count_57 : decode cX4_count 57 = .ok (.bipush 96, 2) := by decide +kernel
theorem dX4_count_59 : decode cX4_count 59 = .ok (.iaload, 1) := by decide +kernel
theorem dX4_count_60 : decode cX4_count 60 = .ok (.ireturn, 1) := by decide +kernel
theorem dX4_count_61 : decode cX4_count 61 = .ok (.aload_n 0, 1) := by decide +kernel
theorem dX4_count_62 : decode cX4_count 62 = .ok (.getfield 16, 3) := by decide +kernel
theorem dX4_count_65 : decode cX4_count 65 = .ok (.iload_n 1, 1) := by decide +kernel
theorem dX4_count_66 : decode cX4_count 66 = .ok (.iconst 2, 1) := by decide +kernel
theorem dX4_count_67 : decode cX4_count 67 = .ok (.isub, 1) := by decide +kernel
theorem dX4_count_68 : decode cX4_count 68 = .ok (.iaload, 1) := by decide +kernel
theorem dX4_count_69 : decode cX4_count 69 = .ok (.ireturn, 1) := by decide +kernel
theorem dX4_count_70 : decode cX4_count 70 = .ok (.aload_n 0, 1) := by decide +kernel
theorem dX4_count_71 : decode cX4_count 71 = .ok (.getfield 185, 3) := by decide +kernel
theorem dX4_count_74 : decode cX4_count 74 = .ok (.ireturn, 1) := by decide +kernel
theorem dX4_count_75 : decode cX4_count 75 = .ok (.aload_n 0, 1) := by decide +kernel
theorem dX4_count_76 : decode cX4_count 76 = .ok (.getfield 48, 3) := by decide +kernel
theorem dX4_count_79 : decode cX4_count 79 = .ok (.ireturn, 1) := by decide +kernel
theorem dX4_count_80 : decode cX4_count 80 = .ok (.iconst (-1), 1) := by decide +kernel
theorem dX4_count_81 : decode cX4_count 81 = .ok (.ireturn, 1) := by decide +kernel
theorem dX4_type_0 : decode cX4_type 0 = .ok (.iload_n 1, 1) := by decide +kernel
theorem dX4_type_1 : decode cX4_type 1 = .ok (.iconst 0, 1) := by decide +kernel
theorem dX4_type_2 : decode cX4_type 2 = .ok (.sipush 255, 3) := by decide +kernel
theorem dX4_type_5 : decode cX4_type 5 = .ok (.invokestatic 56, 3) := by decide +kernel
theorem dX4_type_8 : decode cX4_type 8 = .ok (.ifCond .ne 5, 3) := by decide +kernel
theorem dX4_type_11 : decode cX4_type 11 = .ok (.iconst (-1), 1) := by decide +kernel
theorem dX4_type_12 : decode cX4_type 12 = .ok (.ireturn, 1) := by decide +kernel
theorem dX4_type_13 : decode cX4_type 13 = .ok (.aload_n 0, 1) := by decide +kernel
theorem dX4_type_14 : decode cX4_type 14 = .ok (.getfield 185, 3) := by decide +kernel
theorem dX4_type_17 : decode cX4_type 17 = .ok (.sipush 160, 3) := by decide +kernel
theorem dX4_type_20 : decode cX4_type 20 = .ok (.if_icmp .ne 6, 3) := by decide +kernel
theorem dX4_type_23 : decode cX4_type 23 = .ok (.bipush (-3), 2) := by decide +kernel
theorem dX4_type_25 : decode cX4_type 25 = .ok (.ireturn, 1) := by decide +kernel
theorem dX4_type_26 : decode cX4_type 26 = .ok (.aload_n 0, 1) := by decide +kernel
theorem dX4_type_27 : decode cX4_type 27 = .ok (.getfield 38, 3) := by decide +kernel
theorem dX4_type_30 : decode cX4_type 30 = .ok (.aload_n 0, 1) := by decide +kernel
theorem dX4_type_31 : decode cX4_type 31 = .ok (.getfield 185, 3) := by decide +kernel
theorem dX4_type_34 : decode cX4_type 34 = .ok (.iload_n 1, 1) := by decide +kernel
theorem dX4_type_35 : decode cX4_type 35 = .ok (.iastore, 1) := by decide +kernel
theorem dX4_type_36 : decode cX4_type 36 = .ok (.aload_n 0, 1) := by decide +kernel
theorem dX4_type_37 : decode cX4_type 37 = .ok (.dup, 1) := by decide +kernel
theorem dX4_type_38 : decode cX4_type 38 = .ok (.getfield 185, 3) := by decide +kernel
theorem dX4_type_41 : decode cX4_type 41 = .ok (.iconst 1, 1) := by decide +kernel
theorem dX4_type_42 : decode cX4_type 42 = .ok (.iadd, 1) := by decide +kernel
theorem dX4_type_43 : decode cX4_type 43 = .ok (.putfield 185, 3) := by decide +kernel
theorem dX4_type_46 : decode cX4_type 46 = .ok (.aload_n 0, 1) := by decide +kernel
theorem dX4_type_47 : decode cX4_type 47 = .ok (.getfield 185, 3) := by decide +kernel
theorem dX4_type_50 : decode cX4_type 50 = .ok (.ireturn, 1) := by decide +kernel
theorem dX4_clear_0 : decode cX4_clear 0 = .ok (.aload_n 0, 1) := by decide +kernel
theorem dX4_clear_1 : decode cX4_clear 1 = .ok (.getfield 185, 3) := by decide +kernel
theorem dX4_clear_4 : decode cX4_clear 4 = .ok (.istore_n 1, 1) := by decide +kernel
theorem dX4_clear_5 : decode cX4_clear 5 = .ok (.aload_n 0, 1) := by decide +kernel
theorem dX4_clear_6 : decode cX4_clear 6 = .ok (.iconst 0, 1) := by decide +kernel
theorem dX4_clear_7 : decode cX4_clear 7 = .ok (.putfield 185, 3) := by decide +kernel
theorem dX4_clear_10 : decode cX4_clear 10 = .ok (.iload_n 1, 1) := by decide +kernel
theorem dX4_clear_11 : decode cX4_clear 11 = .ok (.ireturn, 1) := by decide +kernel
theorem dX4_isItem_0 : decode cX4_isItem 0 = .ok (.iload_n 0, 1) := by decide +kernel
theorem dX4_isItem_1 : decode cX4_isItem 1 = .ok (.bipush 105, 2) := by decide +kernel
theorem dX4_isItem_3 : decode cX4_isItem 3 = .ok (.if_icmp .eq 51, 3) := by decide +kernel
theorem dX4_isItem_6 : decode cX4_isItem 6 = .ok (.iload_n 0, 1) := by decide +kernel
theorem dX4_isItem_7 : decode cX4_isItem 7 = .ok (.bipush 114, 2) := by decide +kernel
theorem dX4_isItem_9 : decode cX4_isItem 9 = .ok (.if_icmp .eq 45, 3) := by decide +kernel
theorem dX4_isItem_12 : decode cX4_isItem 12 = .ok (.iload_n 0, 1) := by decide +kernel
theorem dX4_isItem_13 : decode cX4_isItem 13 = .ok (.bipush 97, 2) := by decide +kernel
theorem dX4_isItem_15 : decode cX4_isItem 15 = .ok (.if_icmp .eq 39, 3) := by decide +kernel
theorem dX4_isItem_18 : decode cX4_isItem 18 = .ok (.iload_n 0, 1) := by decide +kernel
theorem dX4_isItem_19 : decode cX4_isItem 19 = .ok (.bipush 111, 2) := by decide +kernel
theorem dX4_isItem_21 : decode cX4_isItem 21 = .ok (.if_icmp .eq 33, 3) := by decide +kernel
theorem dX4_isItem_24 : decode cX4_isItem 24 = .ok (.iload_n 0, 1) := by decide +kernel
theorem dX4_isItem_25 : decode cX4_isItem 25 = .ok (.bipush 120, 2) := by decide +kernel
theorem dX4_isItem_27 : decode cX4_isItem 27 = .ok (.if_icmp .eq 27, 3) := by decide +kernel
theorem dX4_isItem_30 : decode cX4_isItem 30 = .ok (.iload_n 0, 1) := by decide +kernel
theorem dX4_isItem_31 : decode cX4_isItem 31 = .ok (.bipush 109, 2) := by decide +kernel
theorem dX4_isItem_33 : decode cX4_isItem 33 = .ok (.if_icmp .eq 21, 3) := by decide +kernel
theorem dX4_isItem_36 : decode cX4_isItem 36 = .ok (.iload_n 0, 1) := by decide +kernel
theorem dX4_isItem_37 : decode cX4_isItem 37 = .ok (.bipush 112, 2) := by decide +kernel
theorem dX4_isItem_39 : decode cX4_isItem 39 = .ok (.if_icmp .eq 15, 3) := by decide +kernel
theorem dX4_isItem_42 : decode cX4_isItem 42 = .ok (.iload_n 0, 1) := by decide +kernel
theorem dX4_isItem_43 : decode cX4_isItem 43 = .ok (.bipush 103, 2) := by decide +kernel
theorem dX4_isItem_45 : decode cX4_isItem 45 = .ok (.if_icmp .eq 9, 3) := by decide +kernel
theorem dX4_isItem_48 : decode cX4_isItem 48 = .ok (.iload_n 0, 1) := by decide +kernel
theorem dX4_isItem_49 : decode cX4_isItem 49 = .ok (.bipush 101, 2) := by decide +kernel
theorem dX4_isItem_51 : decode cX4_isItem 51 = .ok (.if_icmp .ne 7, 3) := by decide +kernel
theorem dX4_isItem_54 : decode cX4_isItem 54 = .ok (.iconst 1, 1) := by decide +kernel
theorem dX4_isItem_55 : decode cX4_isItem 55 = .ok (.goto 4, 3) := by decide +kernel
theorem dX4_isItem_58 : decode cX4_isItem 58 = .ok (.iconst 0, 1) := by decide +kernel
theorem dX4_isItem_59 : decode cX4_isItem 59 = .ok (.ireturn, 1) := by decide +kernel
theorem dX4_next_0 : decode cX4_next 0 = .ok (.aload_n 0, 1) := by decide +kernel
theorem dX4_next_1 : decode cX4_next 1 = .ok (.getfield 188, 3) := by decide +kernel
theorem dX4_next_4 : decode cX4_next 4 = .ok (.aload_n 0, 1) := by decide +kernel
theorem dX4_next_5 : decode cX4_next 5 = .ok (.getfield 185, 3) := by decide +kernel
theorem dX4_next_8 : decode cX4_next 8 = .ok (.if_icmp .ge 30, 3) := by decide +kernel
theorem dX4_next_11 : decode cX4_next 11 = .ok (.aload_n 0, 1) := by decide +kernel
theorem dX4_next_12 : decode cX4_next 12 = .ok (.getfield 38, 3) := by decide +kernel
theorem dX4_next_15 : decode cX4_next 15 = .ok (.aload_n 0, 1) := by decide +kernel
theorem dX4_next_16 : decode cX4_next 16 = .ok (.getfield 188, 3) := by decide +kernel
theorem dX4_next_19 : decode cX4_next 19 = .ok (.iaload, 1) := by decide +kernel
theorem dX4_next_20 : decode cX4_next 20 = .ok (.bipush 32, 2) := by decide +kernel
theorem dX4_next_22 : decode cX4_next 22 = .ok (.if_icmp .ne 16, 3) := by decide +kernel
theorem dX4_next_25 : decode cX4_next 25 = .ok (.aload_n 0, 1) := by decide +kernel
theorem dX4_next_26 : decode cX4_next 26 = .ok (.dup, 1) := by decide +kernel
theorem dX4_next_27 : decode cX4_next 27 = .ok (.getfield 188, 3) := by decide +kernel
theorem dX4_next_30 : decode cX4_next 30 = .ok (.iconst 1, 1) := by decide +kernel
theorem dX4_next_31 : decode cX4_next 31 = .ok (.iadd, 1) := by decide +kernel
theorem dX4_next_32 : decode cX4_next 32 = .ok (.putfield 188, 3) := by decide +kernel
theorem dX4_next_35 : decode cX4_next 35 = .ok (.goto (-35), 3) := by decide +kernel
theorem dX4_next_38 : decode cX4_next 38 = .ok (.aload_n 0, 1) := by decide +kernel
theorem dX4_next_39 : decode cX4_next 39 = .ok (.aload_n 0, 1) := by decide +kernel
theorem dX4_next_40 : decode cX4_next 40 = .ok (.getfield 188, 3) := by decide +kernel
theorem dX4_next_43 : decode cX4_next 43 = .ok (.putfield 191, 3) := by decide +kernel
theorem dX4_next_46 : decode cX4_next 46 = .ok (.aload_n 0, 1) := by decide +kernel
theorem dX4_next_47 : decode cX4_next 47 = .ok (.iconst 0, 1) := by decide +kernel
theorem dX4_next_48 : decode cX4_next 48 = .ok (.putfield 194, 3) := by decide +kernel
theorem dX4_next_51 : decode cX4_next 51 = .ok (.aload_n 0, 1) := by decide +kernel
theorem dX4_next_52 : decode cX4_next 52 = .ok (.getfield 188, 3) := by decide +kernel
theorem dX4_next_55 : decode cX4_next 55 = .ok (.aload_n 0, 1) := by decide +kernel
theorem dX4_next_56 : decode cX4_next 56 = .ok (.getfield 185, 3) := by decide +kernel
theorem dX4_next_59 : decode cX4_next 59 = .ok (.if_icmp .ne 11, 3) := by decide +kernel
theorem dX4_next_62 : decode cX4_next 62 = .ok (.aload_n 0, 1) := by decide +kernel
theorem dX4_next_63 : decode cX4_next 63 = .ok (.iconst 0, 1) := by decide +kernel
theorem dX4_next_64 : decode cX4_next 64 = .ok (.putfield 197, 3) := by decide +kernel
theorem dX4_next_67 : decode cX4_next 67 = .ok (.goto 209, 3) := by decide +kernel
theorem dX4_next_70 : decode cX4_next 70 = .ok (.aload_n 0, 1) := by decide +kernel
theorem dX4_next_71 : decode cX4_next 71 = .ok (.getfield 38, 3) := by decide +kernel
theorem dX4_next_74 : decode cX4_next 74 = .ok (.aload_n 0, 1) := by decide +kernel
theorem dX4_next_75 : decode cX4_next 75 = .ok (.getfield 188, 3) := by decide +kernel
theorem dX4_next_78 : decode cX4_next 78 = .ok (.iaload, 1) := by decide +kernel
theorem dX4_next_79 : decode cX4_next 79 = .ok (.bipush 48, 2) := by decide +kernel
theorem dX4_next_81 : decode cX4_next 81 = .ok (.bipush 57, 2) := by decide +kernel
theorem dX4_next_83 : decode cX4_next 83 = .ok (.invokestatic 56, 3) := by decide +kernel
theorem dX4_next_86 : decode cX4_next 86 = .ok (.ifCond .eq 134, 3) := by decide +kernel
theorem dX4_next_89 : decode cX4_next 89 = .ok (.aload_n 0, 1) := by decide +kernel
theorem dX4_next_90 : decode cX4_next 90 = .ok (.getfield 188, 3) := by decide +kernel
theorem dX4_next_93 : decode cX4_next 93 = .ok (.aload_n 0, 1) := by decide +kernel
theorem dX4_next_94 : decode cX4_next 94 = .ok (.getfield 185, 3) := by decide +kernel
theorem dX4_next_97 : decode cX4_next 97 = .ok (.if_icmp .ge 75, 3) := by decide +kernel
theorem dX4_next_100 : decode cX4_next 100 = .ok (.aload_n 0, 1) := by decide +kernel
theorem dX4_next_101 : decode cX4_next 101 = .ok (.getfield 38, 3) := by decide +kernel
theorem dX4_next_104 : decode cX4_next 104 = .ok (.aload_n 0, 1) := by decide +kernel
theorem dX4_next_105 : decode cX4_next 105 = .ok (.getfield 188, 3) := by decide +kernel
theorem dX4_next_108 : decode cX4_next 108 = .ok (.iaload, 1) := by decide +kernel
theorem dX4_next_109 : decode cX4_next 109 = .ok (.bipush 48, 2) := by decide +kernel
theorem dX4_next_111 : decode cX4_next 111 = .ok (.bipush 57, 2) := by decide +kernel
theorem dX4_next_113 : decode cX4_next 113 = .ok (.invokestatic 56, 3) := by decide +kernel
theorem dX4_next_116 : decode cX4_next 116 = .ok (.ifCond .eq 56, 3) := by decide +kernel
theorem dX4_next_119 : decode cX4_next 119 = .ok (.aload_n 0, 1) := by decide +kernel
theorem dX4_next_120 : decode cX4_next 120 = .ok (.aload_n 0, 1) := by decide +kernel
theorem dX4_next_121 : decode cX4_next 121 = .ok (.getfield 194, 3) := by decide +kernel
theorem dX4_next_124 : decode cX4_next 124 = .ok (.bipush 99, 2) := by decide +kernel
theorem dX4_next_126 : decode cX4_next 126 = .ok (.if_icmp .le 10, 3) := by decide +kernel
theorem dX4_next_129 : decode cX4_next 129 = .ok (.aload_n 0, 1) := by decide +kernel
theorem dX4_next_130 : decode cX4_next 130 = .ok (.getfield 194, 3) := by decide +kernel
theorem dX4_next_133 : decode cX4_next 133 = .ok (.goto 23, 3) := by decide +kernel
theorem dX4_next_136 : decode cX4_next 136 = .ok (.bipush 10, 2) := by decide +kernel
theorem dX4_next_138 : decode cX4_next 138 = .ok (.aload_n 0, 1) := by decide +kernel
theorem dX4_next_139 : decode cX4_next 139 = .ok (.getfield 194, 3) := by decide +kernel
theorem dX4_next_142 : decode cX4_next 142 = .ok (.imul, 1) := by decide +kernel
theorem dX4_next_143 : decode cX4_next 143 = .ok (.aload_n 0, 1) := by decide +kernel
theorem dX4_next_144 : decode cX4_next 144 = .ok (.getfield 38, 3) := by decide +kernel
theorem dX4_next_147 : decode cX4_next 147 = .ok (.aload_n 0, 1) := by decide +kernel
theorem dX4_next_148 : decode cX4_next 148 = .ok (.getfield 188, 3) := by decide +kernel
theorem dX4_next_151 : decode cX4_next 151 = .ok (.iaload, 1) := by decide +kernel
theorem dX4_next_152 : decode cX4_next 152 = .ok (.iadd, 1) := by decide +kernel
theorem dX4_next_153 : decode cX4_next 153 = .ok (.bipush 48, 2) := by decide +kernel
theorem dX4_next_155 : decode cX4_next 155 = .ok (.isub, 1) := by decide +kernel
theorem dX4_next_156 : decode cX4_next 156 = .ok (.putfield 194, 3) := by decide +kernel
theorem dX4_next_159 : decode cX4_next 159 = .ok (.aload_n 0, 1) := by decide +kernel
theorem dX4_next_160 : decode cX4_next 160 = .ok (.dup, 1) := by decide +kernel
theorem dX4_next_161 : decode cX4_next 161 = .ok (.getfield 188, 3) := by decide +kernel
theorem dX4_next_164 : decode cX4_next 164 = .ok (.iconst 1, 1) := by decide +kernel
theorem dX4_next_165 : decode cX4_next 165 = .ok (.iadd, 1) := by decide +kernel
theorem dX4_next_166 : decode cX4_next 166 = .ok (.putfield 188, 3) := by decide +kernel
theorem dX4_next_169 : decode cX4_next 169 = .ok (.goto (-80), 3) := by decide +kernel
theorem dX4_next_172 : decode cX4_next 172 = .ok (.aload_n 0, 1) := by decide +kernel
theorem dX4_next_173 : decode cX4_next 173 = .ok (.aload_n 0, 1) := by decide +kernel
theorem dX4_next_174 : decode cX4_next 174 = .ok (.getfield 194, 3) := by decide +kernel
theorem dX4_next_177 : decode cX4_next 177 = .ok (.bipush 99, 2) := by decide +kernel
theorem dX4_next_179 : decode cX4_next 179 = .ok (.if_icmp .gt 30, 3) := by decide +kernel
theorem dX4_next_182 : decode cX4_next 182 = .ok (.aload_n 0, 1) := by decide +kernel
theorem dX4_next_183 : decode cX4_next 183 = .ok (.getfield 38, 3) := by decide +kernel
theorem dX4_next_186 : decode cX4_next 186 = .ok (.aload_n 0, 1) := by decide +kernel
theorem dX4_next_187 : decode cX4_next 187 = .ok (.getfield 191, 3) := by decide +kernel
theorem dX4_next_190 : decode cX4_next 190 = .ok (.iaload, 1) := by decide +kernel
theorem dX4_next_191 : decode cX4_next 191 = .ok (.bipush 48, 2) := by decide +kernel
theorem dX4_next_193 : decode cX4_next 193 = .ok (.if_icmp .ne 20, 3) := by decide +kernel
theorem dX4_next_196 : decode cX4_next 196 = .ok (.aload_n 0, 1) := by decide +kernel
theorem dX4_next_197 : decode cX4_next 197 = .ok (.getfield 188, 3) := by decide +kernel
theorem dX4_next_200 : decode cX4_next 200 = .ok (.aload_n 0, 1) := by decide +kernel
theorem dX4_next_201 : decode cX4_next 201 = .ok (.getfield 191, 3) := by decide +kernel
theorem dX4_next_204 : decode cX4_next 204 = .ok (.isub, 1) := by decide +kernel
theorem dX4_next_205 : decode cX4_next 205 = .ok (.iconst 1, 1) := by decide +kernel
theorem dX4_next_206 : decode cX4_next 206 = .ok (.if_icmp .le 7, 3) := by decide +kernel
theorem dX4_next_209 : decode cX4_next 209 = .ok (.iconst 2, 1) := by decide +kernel
theorem dX4_next_210 : decode cX4_next 210 = .ok (.goto 4, 3) := by decide +kernel
theorem dX4_next_213 : decode cX4_next 213 = .ok (.iconst 1, 1) := by decide +kernel
theorem dX4_next_214 : decode cX4_next 214 = .ok (.putfield 197, 3) := by decide +kernel
theorem dX4_next_217 : decode cX4_next 217 = .ok (.goto 59, 3) := by decide +kernel
theorem dX4_next_220 : decode cX4_next 220 = .ok (.aload_n 0, 1) := by decide +kernel
theorem dX4_next_221 : decode cX4_next 221 = .ok (.aload_n 0, 1) := by decide +kernel
theorem dX4_next_222 : decode cX4_next 222 = .ok (.getfield 38, 3) := by decide +kernel
theorem dX4_next_225 : decode cX4_next 225 = .ok (.aload_n 0, 1) := by decide +kernel
theorem dX4_next_226 : decode cX4_next 226 = .ok (.getfield 188, 3) := by decide +kernel
theorem dX4_next_229 : decode cX4_next 229 = .ok (.iaload, 1) := by decide +kernel
theorem dX4_next_230 : decode cX4_next 230 = .ok (.invokestatic 200, 3) := by decide +kernel
theorem dX4_next_233 : decode cX4_next 233 = .ok (.ifCond .ne 17, 3) := by decide +kernel
theorem dX4_next_236 : decode cX4_next 236 = .ok (.aload_n 0, 1) := by decide +kernel
theorem dX4_next_237 : decode cX4_next 237 = .ok (.getfield 38, 3) := by decide +kernel
theorem dX4_next_240 : decode cX4_next 240 = .ok (.aload_n 0, 1) := by decide +kernel
theorem dX4_next_241 : decode cX4_next 241 = .ok (.getfield 188, 3) := by decide +kernel
theorem dX4_next_244 : decode cX4_next 244 = .ok (.iaload, 1) := by decide +kernel
theorem dX4_next_245 : decode cX4_next 245 = .ok (.bipush 59, 2) := by decide +kernel
theorem dX4_next_247 : decode cX4_next 247 = .ok (.if_icmp .ne 15, 3) := by decide +kernel
theorem dX4_next_250 : decode cX4_next 250 = .ok (.aload_n 0, 1) := by decide +kernel
theorem dX4_next_251 : decode cX4_next 251 = .ok (.getfield 38, 3) := by decide +kernel
theorem dX4_next_254 : decode cX4_next 254 = .ok (.aload_n 0, 1) := by decide +kernel
theorem dX4_next_255 : decode cX4_next 255 = .ok (.getfield 188, 3) := by decide +kernel
theorem dX4_next_258 : decode cX4_next 258 = .ok (.iaload, 1) := by decide +kernel
theorem dX4_next_259 : decode cX4_next 259 = .ok (.goto 4, 3) := by decide +kernel
theorem dX4_next_262 : decode cX4_next 262 = .ok (.iconst 2, 1) := by decide +kernel
theorem dX4_next_263 : decode cX4_next 263 = .ok (.putfield 197, 3) := by decide +kernel
theorem dX4_next_266 : decode cX4_next 266 = .ok (.aload_n 0, 1) := by decide +kernel
theorem dX4_next_267 : decode cX4_next 267 = .ok (.dup, 1) := by decide +kernel
theorem dX4_next_268 : decode cX4_next 268 = .ok (.getfield 188, 3) := by decide +kernel
theorem dX4_next_271 : decode cX4_next 271 = .ok (.iconst 1, 1) := by decide +kernel
theorem dX4_next_272 : decode cX4_next 272 = .ok (.iadd, 1) := by decide +kernel
theorem dX4_next_273 : decode cX4_next 273 = .ok (.putfield 188, 3) := by decide +kernel
theorem dX4_next_276 : decode cX4_next 276 = .ok (.return_, 1) := by decide +kernel
theorem dX4_must_0 : decode cX4_must 0 = .ok (.aload_n 0, 1) := by decide +kernel
theorem dX4_must_1 : decode cX4_must 1 = .ok (.getfield 194, 3) := by decide +kernel
theorem dX4_must_4 : decode cX4_must 4 = .ok (.istore_n 2, 1) := by decide +kernel
theorem dX4_must_5 : decode cX4_must 5 = .ok (.aload_n 0, 1) := by decide +kernel
theorem dX4_must_6 : decode cX4_must 6 = .ok (.getfield 203, 3) := by decide +kernel
theorem dX4_must_9 : decode cX4_must 9 = .ok (.bipush (-9), 2) := by decide +kernel
theorem dX4_must_11 : decode cX4_must 11 = .ok (.if_icmp .ne 22, 3) := by decide +kernel
theorem dX4_must_14 : decode cX4_must 14 = .ok (.iload_n 1, 1) := by decide +kernel
theorem dX4_must_15 : decode cX4_must 15 = .ok (.ifCond .eq 10, 3) := by decide +kernel
theorem dX4_must_18 : decode cX4_must 18 = .ok (.aload_n 0, 1) := by decide +kernel
theorem dX4_must_19 : decode cX4_must 19 = .ok (.invokevirtual 206, 3) := by decide +kernel
theorem dX4_must_22 : decode cX4_must 22 = .ok (.goto 11, 3) := by decide +kernel
theorem dX4_must_25 : decode cX4_must 25 = .ok (.aload_n 0, 1) := by decide +kernel
theorem dX4_must_26 : decode cX4_must 26 = .ok (.aload_n 0, 1) := by decide +kernel
theorem dX4_must_27 : decode cX4_must 27 = .ok (.getfield 191, 3) := by decide +kernel
theorem dX4_must_30 : decode cX4_must 30 = .ok (.putfield 203, 3) := by decide +kernel
theorem dX4_must_33 : decode cX4_must 33 = .ok (.iload_n 2, 1) := by decide +kernel
theorem dX4_must_34 : decode cX4_must 34 = .ok (.ireturn, 1) := by decide +kernel
theorem dX4_number_0 : decode cX4_number 0 = .ok (.aload_n 0, 1) := by decide +kernel
theorem dX4_number_1 : decode cX4_number 1 = .ok (.aload_n 0, 1) := by decide +kernel
theorem dX4_number_2 : decode cX4_number 2 = .ok (.getfield 197, 3) := by decide +kernel
theorem dX4_number_5 : decode cX4_number 5 = .ok (.iconst 1, 1) := by decide +kernel
theorem dX4_number_6 : decode cX4_number 6 = .ok (.if_icmp .ne 19, 3) := by decide +kernel
theorem dX4_number_9 : decode cX4_number 9 = .ok (.aload_n 0, 1) := by decide +kernel
theorem dX4_number_10 : decode cX4_number 10 = .ok (.getfield 194, 3) := by decide +kernel
theorem dX4_number_13 : decode cX4_number 13 = .ok (.iload_n 1, 1) := by decide +kernel
theorem dX4_number_14 : decode cX4_number 14 = .ok (.iload_n 2, 1) := by decide +kernel
theorem dX4_number_15 : decode cX4_number 15 = .ok (.invokestatic 56, 3) := by decide +kernel
theorem dX4_number_18 : decode cX4_number 18 = .ok (.ifCond .eq 7, 3) := by decide +kernel
theorem dX4_number_21 : decode cX4_number 21 = .ok (.iconst 1, 1) := by decide +kernel
theorem dX4_number_22 : decode cX4_number 22 = .ok (.goto 4, 3) := by decide +kernel
theorem dX4_number_25 : decode cX4_number 25 = .ok (.iconst 0, 1) := by decide +kernel
theorem dX4_number_26 : decode cX4_number 26 = .ok (.invokevirtual 209, 3) := by decide +kernel
theorem dX4_number_29 : decode cX4_number 29 = .ok (.ireturn, 1) := by decide +kernel
theorem dX4_sortOf_0 : decode cX4_sortOf 0 = .ok (.iload_n 0, 1) := by decide +kernel
theorem dX4_sortOf_1 : decode cX4_sortOf 1 = .ok (.bipush 105, 2) := by decide +kernel
theorem dX4_sortOf_3 : decode cX4_sortOf 3 = .ok (.if_icmp .ne 7, 3) := by decide +kernel
theorem dX4_sortOf_6 : decode cX4_sortOf 6 = .ok (.iconst 0, 1) := by decide +kernel
theorem dX4_sortOf_7 : decode cX4_sortOf 7 = .ok (.goto 55, 3) := by decide +kernel
theorem dX4_sortOf_10 : decode cX4_sortOf 10 = .ok (.iload_n 0, 1) := by decide +kernel
theorem dX4_sortOf_11 : decode cX4_sortOf 11 = .ok (.bipush 114, 2) := by decide +kernel
theorem dX4_sortOf_13 : decode cX4_sortOf 13 = .ok (.if_icmp .ne 7, 3) := by decide +kernel
theorem dX4_sortOf_16 : decode cX4_sortOf 16 = .ok (.iconst 1, 1) := by decide +kernel
theorem dX4_sortOf_17 : decode cX4_sortOf 17 = .ok (.goto 45, 3) := by decide +kernel
theorem dX4_sortOf_20 : decode cX4_sortOf 20 = .ok (.iload_n 0, 1) := by decide +kernel
theorem dX4_sortOf_21 : decode cX4_sortOf 21 = .ok (.bipush 97, 2) := by decide +kernel
theorem dX4_sortOf_23 : decode cX4_sortOf 23 = .ok (.if_icmp .ne 7, 3) := by decide +kernel
theorem dX4_sortOf_26 : decode cX4_sortOf 26 = .ok (.iconst 2, 1) := by decide +kernel
theorem dX4_sortOf_27 : decode cX4_sortOf 27 = .ok (.goto 35, 3) := by decide +kernel
theorem dX4_sortOf_30 : decode cX4_sortOf 30 = .ok (.iload_n 0, 1) := by decide +kernel
theorem dX4_sortOf_31 : decode cX4_sortOf 31 = .ok (.bipush 111, 2) := by decide +kernel
theorem dX4_sortOf_33 : decode cX4_sortOf 33 = .ok (.if_icmp .ne 7, 3) := by decide +kernel
theorem dX4_sortOf_36 : decode cX4_sortOf 36 = .ok (.iconst 3, 1) := by decide +kernel
theorem dX4_sortOf_37 : decode cX4_sortOf 37 = .ok (.goto 25, 3) := by decide +kernel
theorem dX4_sortOf_40 : decode cX4_sortOf 40 = .ok (.iload_n 0, 1) := by decide +kernel
theorem dX4_sortOf_41 : decode cX4_sortOf 41 = .ok (.bipush 120, 2) := by decide +kernel
theorem dX4_sortOf_43 : decode cX4_sortOf 43 = .ok (.if_icmp .ne 7, 3) := by decide +kernel
theorem dX4_sortOf_46 : decode cX4_sortOf 46 = .ok (.iconst 4, 1) := by decide +kernel
theorem dX4_sortOf_47 : decode cX4_sortOf 47 = .ok (.goto 15, 3) := by decide +kernel
theorem dX4_sortOf_50 : decode cX4_sortOf 50 = .ok (.iload_n 0, 1) := by decide +kernel
theorem dX4_sortOf_51 : decode cX4_sortOf 51 = .ok (.bipush 109, 2) := by decide +kernel
theorem dX4_sortOf_53 : decode cX4_sortOf 53 = .ok (.if_icmp .ne 7, 3) := by decide +kernel
theorem dX4_sortOf_56 : decode cX4_sortOf 56 = .ok (.iconst 5, 1) := by decide +kernel
theorem dX4_sortOf_57 : decode cX4_sortOf 57 = .ok (.goto 5, 3) := by decide +kernel
theorem dX4_sortOf_60 : decode cX4_sortOf 60 = .ok (.bipush (-9), 2) := by decide +kernel
theorem dX4_sortOf_62 : decode cX4_sortOf 62 = .ok (.ireturn, 1) := by decide +kernel
theorem dX4_readNode_0 : decode cX4_readNode 0 = .ok (.aload_n 0, 1) := by decide +kernel
theorem dX4_readNode_1 : decode cX4_readNode 1 = .ok (.getfield 13, 3) := by decide +kernel
theorem dX4_readNode_4 : decode cX4_readNode 4 = .ok (.bipush 95, 2) := by decide +kernel
theorem dX4_readNode_6 : decode cX4_readNode 6 = .ok (.iaload, 1) := by decide +kernel
theorem dX4_readNode_7 : decode cX4_readNode 7 = .ok (.istore_n 2, 1) := by decide +kernel
theorem dX4_readNode_8 : decode cX4_readNode 8 = .ok (.aload_n 0, 1) := by decide +kernel
theorem dX4_readNode_9 : decode cX4_readNode 9 = .ok (.getfield 13, 3) := by decide +kernel
theorem dX4_readNode_12 : decode cX4_readNode 12 = .ok (.iload_n 2, 1) := by decide +kernel
theorem dX4_readNode_13 : decode cX4_readNode 13 = .ok (.iload_n 1, 1) := by decide +kernel
theorem dX4_readNode_14 : decode cX4_readNode 14 = .ok (.iastore, 1) := by decide +kernel
theorem dX4_readNode_15 : decode cX4_readNode 15 = .ok (.iload_n 1, 1) := by decide +kernel
theorem dX4_readNode_16 : decode cX4_readNode 16 = .ok (.iconst 1, 1) := by decide +kernel
theorem dX4_readNode_17 : decode cX4_readNode 17 = .ok (.if_icmp .gt 18, 3) := by decide +kernel
theorem dX4_readNode_20 : decode cX4_readNode 20 = .ok (.aload_n 0, 1) := by decide +kernel
theorem dX4_readNode_21 : decode cX4_readNode 21 = .ok (.getfield 13, 3) := by decide +kernel
theorem dX4_readNode_24 : decode cX4_readNode 24 = .ok (.bipush 16, 2) := by decide +kernel
theorem dX4_readNode_26 : decode cX4_readNode 26 = .ok (.iload_n 2, 1) := by decide +kernel
theorem dX4_readNode_27 : decode cX4_readNode 27 = .ok (.iadd, 1) := by decide +kernel
theorem dX4_readNode_28 : decode cX4_readNode 28 = .ok (.aload_n 0, 1) := by decide +kernel
theorem dX4_readNode_29 : decode cX4_readNode 29 = .ok (.iconst 0, 1) := by decide +kernel
theorem dX4_readNode_30 : decode cX4_readNode 30 = .ok (.iconst 2, 1) := by decide +kernel
theorem dX4_readNode_31 : decode cX4_readNode 31 = .ok (.invokevirtual 213, 3) := by decide +kernel
theorem dX4_readNode_34 : decode cX4_readNode 34 = .ok (.iastore, 1) := by decide +kernel
theorem dX4_readNode_35 : decode cX4_readNode 35 = .ok (.iconst 0, 1) := by decide +kernel
theorem dX4_readNode_36 : decode cX4_readNode 36 = .ok (.istore_n 3, 1) := by decide +kernel
theorem dX4_readNode_37 : decode cX4_readNode 37 = .ok (.iload_n 3, 1) := by decide +kernel
theorem dX4_readNode_38 : decode cX4_readNode 38 = .ok (.iload_n 1, 1) := by decide +kernel
theorem dX4_readNode_39 : decode cX4_readNode 39 = .ok (.invokestatic 68, 3) := by decide +kernel
theorem dX4_readNode_42 : decode cX4_readNode 42 = .ok (.if_icmp .ge 30, 3) := by decide +kernel
theorem dX4_readNode_45 : decode cX4_readNode 45 = .ok (.aload_n 0, 1) := by decide +kernel
theorem dX4_readNode_46 : decode cX4_readNode 46 = .ok (.getfield 13, 3) := by decide +kernel
theorem dX4_readNode_49 : decode cX4_readNode 49 = .ok (.bipush 32, 2) := by decide +kernel
theorem dX4_readNode_51 : decode cX4_readNode 51 = .ok (.iconst 3, 1) := by decide +kernel
theorem dX4_readNode_52 : decode cX4_readNode 52 = .ok (.iload_n 2, 1) := by decide +kernel
theorem dX4_readNode_53 : decode cX4_readNode 53 = .ok (.imul, 1) := by decide +kernel
theorem dX4_readNode_54 : decode cX4_readNode 54 = .ok (.iadd, 1) := by decide +kernel
theorem dX4_readNode_55 : decode cX4_readNode 55 = .ok (.iload_n 3, 1) := by decide +kernel
theorem dX4_readNode_56 : decode cX4_readNode 56 = .ok (.iadd, 1) := by decide +kernel
theorem dX4_readNode_57 : decode cX4_readNode 57 = .ok (.aload_n 0, 1) := by decide +kernel
theorem dX4_readNode_58 : decode cX4_readNode 58 = .ok (.iconst 0, 1) := by decide +kernel
theorem dX4_readNode_59 : decode cX4_readNode 59 = .ok (.iload_n 2, 1) := by decide +kernel
theorem dX4_readNode_60 : decode cX4_readNode 60 = .ok (.iconst 1, 1) := by decide +kernel
theorem dX4_readNode_61 : decode cX4_readNode 61 = .ok (.isub, 1) := by decide +kernel
theorem dX4_readNode_62 : decode cX4_readNode 62 = .ok (.invokevirtual 213, 3) := by decide +kernel
theorem dX4_readNode_65 : decode cX4_readNode 65 = .ok (.iastore, 1) := by decide +kernel
theorem dX4_readNode_66 : decode cX4_readNode 66 = .ok (.iinc 3 1, 3) := by decide +kernel
theorem dX4_readNode_69 : decode cX4_readNode 69 = .ok (.goto (-32), 3) := by decide +kernel
theorem dX4_readNode_72 : decode cX4_readNode 72 = .ok (.aload_n 0, 1) := by decide +kernel
theorem dX4_readNode_73 : decode cX4_readNode 73 = .ok (.getfield 13, 3) := by decide +kernel
theorem dX4_readNode_76 : decode cX4_readNode 76 = .ok (.bipush 95, 2) := by decide +kernel
theorem dX4_readNode_78 : decode cX4_readNode 78 = .ok (.dup2, 1) := by decide +kernel
theorem dX4_readNode_79 : decode cX4_readNode 79 = .ok (.iaload, 1) := by decide +kernel
theorem dX4_readNode_80 : decode cX4_readNode 80 = .ok (.iconst 1, 1) := by decide +kernel
theorem dX4_readNode_81 : decode cX4_readNode 81 = .ok (.iadd, 1) := by decide +kernel
theorem dX4_readNode_82 : decode cX4_readNode 82 = .ok (.iastore, 1) := by decide +kernel
theorem dX4_readNode_83 : decode cX4_readNode 83 = .ok (.return_, 1) := by decide +kernel
theorem dX4_isToldLeaf_0 : decode cX4_isToldLeaf 0 = .ok (.aload_n 0, 1) := by decide +kernel
theorem dX4_isToldLeaf_1 : decode cX4_isToldLeaf 1 = .ok (.getfield 197, 3) := by decide +kernel
theorem dX4_isToldLeaf_4 : decode cX4_isToldLeaf 4 = .ok (.iconst 1, 1) := by decide +kernel
theorem dX4_isToldLeaf_5 : decode cX4_isToldLeaf 5 = .ok (.if_icmp .ne 40, 3) := by decide +kernel
theorem dX4_isToldLeaf_8 : decode cX4_isToldLeaf 8 = .ok (.aload_n 0, 1) := by decide +kernel
theorem dX4_isToldLeaf_9 : decode cX4_isToldLeaf 9 = .ok (.getfield 194, 3) := by decide +kernel
theorem dX4_isToldLeaf_12 : decode cX4_isToldLeaf 12 = .ok (.iconst 0, 1) := by decide +kernel
theorem dX4_isToldLeaf_13 : decode cX4_isToldLeaf 13 = .ok (.aload_n 0, 1) := by decide +kernel
theorem dX4_isToldLeaf_14 : decode cX4_isToldLeaf 14 = .ok (.getfield 13, 3) := by decide +kernel
theorem dX4_isToldLeaf_17 : decode cX4_isToldLeaf 17 = .ok (.bipush 95, 2) := by decide +kernel
theorem dX4_isToldLeaf_19 : decode cX4_isToldLeaf 19 = .ok (.iaload, 1) := by decide +kernel
theorem dX4_isToldLeaf_20 : decode cX4_isToldLeaf 20 = .ok (.iconst 1, 1) := by decide +kernel
theorem dX4_isToldLeaf_21 : decode cX4_isToldLeaf 21 = .ok (.isub, 1) := by decide +kernel
theorem dX4_isToldLeaf_22 : decode cX4_isToldLeaf 22 = .ok (.invokestatic 56, 3) := by decide +kernel
theorem dX4_isToldLeaf_25 : decode cX4_isToldLeaf 25 = .ok (.ifCond .eq 20, 3) := by decide +kernel
theorem dX4_isToldLeaf_28 : decode cX4_isToldLeaf 28 = .ok (.aload_n 0, 1) := by decide +kernel
theorem dX4_isToldLeaf_29 : decode cX4_isToldLeaf 29 = .ok (.getfield 13, 3) := by decide +kernel
theorem dX4_isToldLeaf_32 : decode cX4_isToldLeaf 32 = .ok (.aload_n 0, 1) := by decide +kernel
theorem dX4_isToldLeaf_33 : decode cX4_isToldLeaf 33 = .ok (.getfield 194, 3) := by decide +kernel
theorem dX4_isToldLeaf_36 : decode cX4_isToldLeaf 36 = .ok (.iaload, 1) := by decide +kernel
theorem dX4_isToldLeaf_37 : decode cX4_isToldLeaf 37 = .ok (.iconst 1, 1) := by decide +kernel
theorem dX4_isToldLeaf_38 : decode cX4_isToldLeaf 38 = .ok (.if_icmp .gt 7, 3) := by decide +kernel
theorem dX4_isToldLeaf_41 : decode cX4_isToldLeaf 41 = .ok (.iconst 1, 1) := by decide +kernel
theorem dX4_isToldLeaf_42 : decode cX4_isToldLeaf 42 = .ok (.goto 4, 3) := by decide +kernel
theorem dX4_isToldLeaf_45 : decode cX4_isToldLeaf 45 = .ok (.iconst 0, 1) := by decide +kernel
theorem dX4_isToldLeaf_46 : decode cX4_isToldLeaf 46 = .ok (.ireturn, 1) := by decide +kernel
theorem dX4_readMark_0 : decode cX4_readMark 0 = .ok (.bipush 80, 2) := by decide +kernel
theorem dX4_readMark_2 : decode cX4_readMark 2 = .ok (.iconst 2, 1) := by decide +kernel
theorem dX4_readMark_3 : decode cX4_readMark 3 = .ok (.aload_n 0, 1) := by decide +kernel
theorem dX4_readMark_4 : decode cX4_readMark 4 = .ok (.getfield 13, 3) := by decide +kernel
theorem dX4_readMark_7 : decode cX4_readMark 7 = .ok (.bipush 96, 2) := by decide +kernel
theorem dX4_readMark_9 : decode cX4_readMark 9 = .ok (.iaload, 1) := by decide +kernel
theorem dX4_readMark_10 : decode cX4_readMark 10 = .ok (.imul, 1) := by decide +kernel
theorem dX4_readMark_11 : decode cX4_readMark 11 = .ok (.iadd, 1) := by decide +kernel
theorem dX4_readMark_12 : decode cX4_readMark 12 = .ok (.istore_n 1, 1) := by decide +kernel
theorem dX4_readMark_13 : decode cX4_readMark 13 = .ok (.aload_n 0, 1) := by decide +kernel
theorem dX4_readMark_14 : decode cX4_readMark 14 = .ok (.aload_n 0, 1) := by decide +kernel
theorem dX4_readMark_15 : decode cX4_readMark 15 = .ok (.invokevirtual 216, 3) := by decide +kernel
theorem dX4_readMark_18 : decode cX4_readMark 18 = .ok (.invokevirtual 209, 3) := by decide +kernel
theorem dX4_readMark_21 : decode cX4_readMark 21 = .ok (.istore_n 2, 1) := by decide +kernel
theorem dX4_readMark_22 : decode cX4_readMark 22 = .ok (.aload_n 0, 1) := by decide +kernel
theorem dX4_readMark_23 : decode cX4_readMark 23 = .ok (.aload_n 0, 1) := by decide +kernel
theorem dX4_readMark_24 : decode cX4_readMark 24 = .ok (.invokevirtual 216, 3) := by decide +kernel
theorem dX4_readMark_27 : decode cX4_readMark 27 = .ok (.ifCond .eq 15, 3) := by decide +kernel
theorem dX4_readMark_30 : decode cX4_readMark 30 = .ok (.aload_n 0, 1) := by decide +kernel
theorem dX4_readMark_31 : decode cX4_readMark 31 = .ok (.getfield 194, 3) := by decide +kernel
theorem dX4_readMark_34 : decode cX4_readMark 34 = .ok (.iload_n 2, 1) := by decide +kernel
theorem dX4_readMark_35 : decode cX4_readMark 35 = .ok (.if_icmp .eq 7, 3) := by decide +kernel
theorem dX4_readMark_38 : decode cX4_readMark 38 = .ok (.iconst 1, 1) := by decide +kernel
theorem dX4_readMark_39 : decode cX4_readMark 39 = .ok (.goto 4, 3) := by decide +kernel
theorem dX4_readMark_42 : decode cX4_readMark 42 = .ok (.iconst 0, 1) := by decide +kernel
theorem dX4_readMark_43 : decode cX4_readMark 43 = .ok (.invokevirtual 209, 3) := by decide +kernel
theorem dX4_readMark_46 : decode cX4_readMark 46 = .ok (.istore_n 3, 1) := by decide +kernel
theorem dX4_readMark_47 : decode cX4_readMark 47 = .ok (.aload_n 0, 1) := by decide +kernel
theorem dX4_readMark_48 : decode cX4_readMark 48 = .ok (.getfield 13, 3) := by decide +kernel
theorem dX4_readMark_51 : decode cX4_readMark 51 = .ok (.iload_n 1, 1) := by decide +kernel
theorem dX4_readMark_52 : decode cX4_readMark 52 = .ok (.iload_n 2, 1) := by decide +kernel
theorem dX4_readMark_53 : decode cX4_readMark 53 = .ok (.iastore, 1) := by decide +kernel
theorem dX4_readMark_54 : decode cX4_readMark 54 = .ok (.aload_n 0, 1) := by decide +kernel
theorem dX4_readMark_55 : decode cX4_readMark 55 = .ok (.getfield 13, 3) := by decide +kernel
theorem dX4_readMark_58 : decode cX4_readMark 58 = .ok (.iload_n 1, 1) := by decide +kernel
theorem dX4_readMark_59 : decode cX4_readMark 59 = .ok (.iconst 1, 1) := by decide +kernel
theorem dX4_readMark_60 : decode cX4_readMark 60 = .ok (.iadd, 1) := by decide +kernel
theorem dX4_readMark_61 : decode cX4_readMark 61 = .ok (.iload_n 3, 1) := by decide +kernel
theorem dX4_readMark_62 : decode cX4_readMark 62 = .ok (.iastore, 1) := by decide +kernel
theorem dX4_readMark_63 : decode cX4_readMark 63 = .ok (.aload_n 0, 1) := by decide +kernel
theorem dX4_readMark_64 : decode cX4_readMark 64 = .ok (.getfield 13, 3) := by decide +kernel
theorem dX4_readMark_67 : decode cX4_readMark 67 = .ok (.bipush 96, 2) := by decide +kernel
theorem dX4_readMark_69 : decode cX4_readMark 69 = .ok (.dup2, 1) := by decide +kernel
theorem dX4_readMark_70 : decode cX4_readMark 70 = .ok (.iaload, 1) := by decide +kernel
theorem dX4_readMark_71 : decode cX4_readMark 71 = .ok (.iconst 1, 1) := by decide +kernel
theorem dX4_readMark_72 : decode cX4_readMark 72 = .ok (.iadd, 1) := by decide +kernel
theorem dX4_readMark_73 : decode cX4_readMark 73 = .ok (.iastore, 1) := by decide +kernel
theorem dX4_readMark_74 : decode cX4_readMark 74 = .ok (.return_, 1) := by decide +kernel
theorem dX4_readItem_0 : decode cX4_readItem 0 = .ok (.aload_n 0, 1) := by decide +kernel
theorem dX4_readItem_1 : decode cX4_readItem 1 = .ok (.getfield 197, 3) := by decide +kernel
theorem dX4_readItem_4 : decode cX4_readItem 4 = .ok (.istore_n 1, 1) := by decide +kernel
theorem dX4_readItem_5 : decode cX4_readItem 5 = .ok (.iload_n 1, 1) := by decide +kernel
theorem dX4_readItem_6 : decode cX4_readItem 6 = .ok (.invokestatic 220, 3) := by decide +kernel
theorem dX4_readItem_9 : decode cX4_readItem 9 = .ok (.istore_n 2, 1) := by decide +kernel
theorem dX4_readItem_10 : decode cX4_readItem 10 = .ok (.iload_n 1, 1) := by decide +kernel
theorem dX4_readItem_11 : decode cX4_readItem 11 = .ok (.bipush 103, 2) := by decide +kernel
theorem dX4_readItem_13 : decode cX4_readItem 13 = .ok (.if_icmp .eq 9, 3) := by decide +kernel
theorem dX4_readItem_16 : decode cX4_readItem 16 = .ok (.iload_n 1, 1) := by decide +kernel
theorem dX4_readItem_17 : decode cX4_readItem 17 = .ok (.bipush 101, 2) := by decide +kernel
theorem dX4_readItem_19 : decode cX4_readItem 19 = .ok (.if_icmp .ne 7, 3) := by decide +kernel
theorem dX4_readItem_22 : decode cX4_readItem 22 = .ok (.iconst 1, 1) := by decide +kernel
theorem dX4_readItem_23 : decode cX4_readItem 23 = .ok (.goto 4, 3) := by decide +kernel
theorem dX4_readItem_26 : decode cX4_readItem 26 = .ok (.iconst 0, 1) := by decide +kernel
theorem dX4_readItem_27 : decode cX4_readItem 27 = .ok (.istore_n 3, 1) := by decide +kernel
theorem dX4_readItem_28 : decode cX4_readItem 28 = .ok (.aload_n 0, 1) := by decide +kernel
theorem dX4_readItem_29 : decode cX4_readItem 29 = .ok (.iload_n 2, 1) := by decide +kernel
theorem dX4_readItem_30 : decode cX4_readItem 30 = .ok (.bipush (-9), 2) := by decide +kernel
theorem dX4_readItem_32 : decode cX4_readItem 32 = .ok (.if_icmp .eq 15, 3) := by decide +kernel
theorem dX4_readItem_35 : decode cX4_readItem 35 = .ok (.aload_n 0, 1) := by decide +kernel
theorem dX4_readItem_36 : decode cX4_readItem 36 = .ok (.getfield 13, 3) := by decide +kernel
theorem dX4_readItem_39 : decode cX4_readItem 39 = .ok (.bipush 95, 2) := by decide +kernel
theorem dX4_readItem_41 : decode cX4_readItem 41 = .ok (.iaload, 1) := by decide +kernel
theorem dX4_readItem_42 : decode cX4_readItem 42 = .ok (.bipush 16, 2) := by decide +kernel
theorem dX4_readItem_44 : decode cX4_readItem 44 = .ok (.if_icmp .lt 25, 3) := by decide +kernel
theorem dX4_readItem_47 : decode cX4_readItem 47 = .ok (.iload_n 3, 1) := by decide +kernel
theorem dX4_readItem_48 : decode cX4_readItem 48 = .ok (.ifCond .eq 15, 3) := by decide +kernel
theorem dX4_readItem_51 : decode cX4_readItem 51 = .ok (.aload_n 0, 1) := by decide +kernel
theorem dX4_readItem_52 : decode cX4_readItem 52 = .ok (.getfield 13, 3) := by decide +kernel
theorem dX4_readItem_55 : decode cX4_readItem 55 = .ok (.bipush 96, 2) := by decide +kernel
theorem dX4_readItem_57 : decode cX4_readItem 57 = .ok (.iaload, 1) := by decide +kernel
theorem dX4_readItem_58 : decode cX4_readItem 58 = .ok (.bipush 6, 2) := by decide +kernel
theorem dX4_readItem_60 : decode cX4_readItem 60 = .ok (.if_icmp .lt 9, 3) := by decide +kernel
theorem dX4_readItem_63 : decode cX4_readItem 63 = .ok (.iload_n 1, 1) := by decide +kernel
theorem dX4_readItem_64 : decode cX4_readItem 64 = .ok (.bipush 112, 2) := by decide +kernel
theorem dX4_readItem_66 : decode cX4_readItem 66 = .ok (.if_icmp .ne 7, 3) := by decide +kernel
theorem dX4_readItem_69 : decode cX4_readItem 69 = .ok (.iconst 1, 1) := by decide +kernel
theorem dX4_readItem_70 : decode cX4_readItem 70 = .ok (.goto 4, 3) := by decide +kernel
theorem dX4_readItem_73 : decode cX4_readItem 73 = .ok (.iconst 0, 1) := by decide +kernel
theorem dX4_readItem_74 : decode cX4_readItem 74 = .ok (.invokevirtual 209, 3) := by decide +kernel
theorem dX4_readItem_77 : decode cX4_readItem 77 = .ok (.pop, 1) := by decide +kernel
theorem dX4_readItem_78 : decode cX4_readItem 78 = .ok (.aload_n 0, 1) := by decide +kernel
theorem dX4_readItem_79 : decode cX4_readItem 79 = .ok (.getfield 203, 3) := by decide +kernel
theorem dX4_readItem_82 : decode cX4_readItem 82 = .ok (.bipush (-9), 2) := by decide +kernel
theorem dX4_readItem_84 : decode cX4_readItem 84 = .ok (.if_icmp .eq 4, 3) := by decide +kernel
theorem dX4_readItem_87 : decode cX4_readItem 87 = .ok (.return_, 1) := by decide +kernel
theorem dX4_readItem_88 : decode cX4_readItem 88 = .ok (.iload_n 2, 1) := by decide +kernel
theorem dX4_readItem_89 : decode cX4_readItem 89 = .ok (.bipush (-9), 2) := by decide +kernel
theorem dX4_readItem_91 : decode cX4_readItem 91 = .ok (.if_icmp .eq 11, 3) := by decide +kernel
theorem dX4_readItem_94 : decode cX4_readItem 94 = .ok (.aload_n 0, 1) := by decide +kernel
theorem dX4_readItem_95 : decode cX4_readItem 95 = .ok (.iload_n 2, 1) := by decide +kernel
theorem dX4_readItem_96 : decode cX4_readItem 96 = .ok (.invokevirtual 223, 3) := by decide +kernel
theorem dX4_readItem_99 : decode cX4_readItem 99 = .ok (.goto 56, 3) := by decide +kernel
theorem dX4_readItem_102 : decode cX4_readItem 102 = .ok (.iload_n 3, 1) := by decide +kernel
theorem dX4_readItem_103 : decode cX4_readItem 103 = .ok (.ifCond .eq 10, 3) := by decide +kernel
theorem dX4_readItem_106 : decode cX4_readItem 106 = .ok (.aload_n 0, 1) := by decide +kernel
theorem dX4_readItem_107 : decode cX4_readItem 107 = .ok (.invokevirtual 227, 3) := by decide +kernel
theorem dX4_readItem_110 : decode cX4_readItem 110 = .ok (.goto 45, 3) := by decide +kernel
theorem dX4_readItem_113 : decode cX4_readItem 113 = .ok (.aload_n 0, 1) := by decide +kernel
theorem dX4_readItem_114 : decode cX4_readItem 114 = .ok (.iconst 0, 1) := by decide +kernel
theorem dX4_readItem_115 : decode cX4_readItem 115 = .ok (.iconst 2, 1) := by decide +kernel
theorem dX4_readItem_116 : decode cX4_readItem 116 = .ok (.invokevirtual 213, 3) := by decide +kernel
theorem dX4_readItem_119 : decode cX4_readItem 119 = .ok (.istore 4, 2) := by decide +kernel
theorem dX4_readItem_121 : decode cX4_readItem 121 = .ok (.aload_n 0, 1) := by decide +kernel
theorem dX4_readItem_122 : decode cX4_readItem 122 = .ok (.iconst 1, 1) := by decide +kernel
theorem dX4_readItem_123 : decode cX4_readItem 123 = .ok (.bipush 9, 2) := by decide +kernel
theorem dX4_readItem_125 : decode cX4_readItem 125 = .ok (.invokevirtual 213, 3) := by decide +kernel
theorem dX4_readItem_128 : decode cX4_readItem 128 = .ok (.istore 5, 2) := by decide +kernel
theorem dX4_readItem_130 : decode cX4_readItem 130 = .ok (.aload_n 0, 1) := by decide +kernel
theorem dX4_readItem_131 : decode cX4_readItem 131 = .ok (.getfield 13, 3) := by decide +kernel
theorem dX4_readItem_134 : decode cX4_readItem 134 = .ok (.bipush 92, 2) := by decide +kernel
theorem dX4_readItem_136 : decode cX4_readItem 136 = .ok (.aload_n 0, 1) := by decide +kernel
theorem dX4_readItem_137 : decode cX4_readItem 137 = .ok (.getfield 203, 3) := by decide +kernel
theorem dX4_readItem_140 : decode cX4_readItem 140 = .ok (.bipush (-9), 2) := by decide +kernel
theorem dX4_readItem_142 : decode cX4_readItem 142 = .ok (.if_icmp .ne 8, 3) := by decide +kernel
theorem dX4_readItem_145 : decode cX4_readItem 145 = .ok (.iload 4, 2) := by decide +kernel
theorem dX4_readItem_147 : decode cX4_readItem 147 = .ok (.goto 4, 3) := by decide +kernel
theorem dX4_readItem_150 : decode cX4_readItem 150 = .ok (.iconst 0, 1) := by decide +kernel
theorem dX4_readItem_151 : decode cX4_readItem 151 = .ok (.iadd, 1) := by decide +kernel
theorem dX4_readItem_152 : decode cX4_readItem 152 = .ok (.iload 5, 2) := by decide +kernel
theorem dX4_readItem_154 : decode cX4_readItem 154 = .ok (.iastore, 1) := by decide +kernel
theorem dX4_readItem_155 : decode cX4_readItem 155 = .ok (.aload_n 0, 1) := by decide +kernel
theorem dX4_readItem_156 : decode cX4_readItem 156 = .ok (.aload_n 0, 1) := by decide +kernel
theorem dX4_readItem_157 : decode cX4_readItem 157 = .ok (.getfield 197, 3) := by decide +kernel
theorem dX4_readItem_160 : decode cX4_readItem 160 = .ok (.bipush 59, 2) := by decide +kernel
theorem dX4_readItem_162 : decode cX4_readItem 162 = .ok (.if_icmp .ne 7, 3) := by decide +kernel
theorem dX4_readItem_165 : decode cX4_readItem 165 = .ok (.iconst 1, 1) := by decide +kernel
theorem dX4_readItem_166 : decode cX4_readItem 166 = .ok (.goto 4, 3) := by decide +kernel
theorem dX4_readItem_169 : decode cX4_readItem 169 = .ok (.iconst 0, 1) := by decide +kernel
theorem dX4_readItem_170 : decode cX4_readItem 170 = .ok (.invokevirtual 209, 3) := by decide +kernel
theorem dX4_readItem_173 : decode cX4_readItem 173 = .ok (.pop, 1) := by decide +kernel
theorem dX4_readItem_174 : decode cX4_readItem 174 = .ok (.return_, 1) := by decide +kernel
theorem dX4_tells_0 : decode cX4_tells 0 = .ok (.aload_n 0, 1) := by decide +kernel
theorem dX4_tells_1 : decode cX4_tells 1 = .ok (.getfield 13, 3) := by decide +kernel
theorem dX4_tells_4 : decode cX4_tells 4 = .ok (.invokestatic 41, 3) := by decide +kernel
theorem dX4_tells_7 : decode cX4_tells 7 = .ok (.aload_n 0, 1) := by decide +kernel
theorem dX4_tells_8 : decode cX4_tells 8 = .ok (.iconst 0, 1) := by decide +kernel
theorem dX4_tells_9 : decode cX4_tells 9 = .ok (.putfield 188, 3) := by decide +kernel
theorem dX4_tells_12 : decode cX4_tells 12 = .ok (.aload_n 0, 1) := by decide +kernel
theorem dX4_tells_13 : decode cX4_tells 13 = .ok (.bipush (-9), 2) := by decide +kernel
theorem dX4_tells_15 : decode cX4_tells 15 = .ok (.putfield 203, 3) := by decide +kernel
theorem dX4_tells_18 : decode cX4_tells 18 = .ok (.iconst 0, 1) := by decide +kernel
theorem dX4_tells_19 : decode cX4_tells 19 = .ok (.istore_n 1, 1) := by decide +kernel
theorem dX4_tells_20 : decode cX4_tells 20 = .ok (.aload_n 0, 1) := by decide +kernel
theorem dX4_tells_21 : decode cX4_tells 21 = .ok (.invokevirtual 206, 3) := by decide +kernel
theorem dX4_tells_24 : decode cX4_tells 24 = .ok (.aload_n 0, 1) := by decide +kernel
theorem dX4_tells_25 : decode cX4_tells 25 = .ok (.getfield 203, 3) := by decide +kernel
theorem dX4_tells_28 : decode cX4_tells 28 = .ok (.bipush (-9), 2) := by decide +kernel
theorem dX4_tells_30 : decode cX4_tells 30 = .ok (.if_icmp .ne 20, 3) := by decide +kernel
theorem dX4_tells_33 : decode cX4_tells 33 = .ok (.aload_n 0, 1) := by decide +kernel
theorem dX4_tells_34 : decode cX4_tells 34 = .ok (.getfield 197, 3) := by decide +kernel
theorem dX4_tells_37 : decode cX4_tells 37 = .ok (.ifCond .eq 13, 3) := by decide +kernel
theorem dX4_tells_40 : decode cX4_tells 40 = .ok (.aload_n 0, 1) := by decide +kernel
theorem dX4_tells_41 : decode cX4_tells 41 = .ok (.invokevirtual 230, 3) := by decide +kernel
theorem dX4_tells_44 : decode cX4_tells 44 = .ok (.iinc 1 1, 3) := by decide +kernel
theorem dX4_tells_47 : decode cX4_tells 47 = .ok (.goto (-23), 3) := by decide +kernel
theorem dX4_tells_50 : decode cX4_tells 50 = .ok (.aload_n 0, 1) := by decide +kernel
theorem dX4_tells_51 : decode cX4_tells 51 = .ok (.getfield 203, 3) := by decide +kernel
theorem dX4_tells_54 : decode cX4_tells 54 = .ok (.bipush (-9), 2) := by decide +kernel
theorem dX4_tells_56 : decode cX4_tells 56 = .ok (.if_icmp .eq 11, 3) := by decide +kernel
theorem dX4_tells_59 : decode cX4_tells 59 = .ok (.bipush (-10), 2) := by decide +kernel
theorem dX4_tells_61 : decode cX4_tells 61 = .ok (.aload_n 0, 1) := by decide +kernel
theorem dX4_tells_62 : decode cX4_tells 62 = .ok (.getfield 203, 3) := by decide +kernel
theorem dX4_tells_65 : decode cX4_tells 65 = .ok (.isub, 1) := by decide +kernel
theorem dX4_tells_66 : decode cX4_tells 66 = .ok (.ireturn, 1) := by decide +kernel
theorem dX4_tells_67 : decode cX4_tells 67 = .ok (.iconst 0, 1) := by decide +kernel
theorem dX4_tells_68 : decode cX4_tells 68 = .ok (.istore_n 2, 1) := by decide +kernel
theorem dX4_tells_69 : decode cX4_tells 69 = .ok (.iload_n 2, 1) := by decide +kernel
theorem dX4_tells_70 : decode cX4_tells 70 = .ok (.bipush 97, 2) := by decide +kernel
theorem dX4_tells_72 : decode cX4_tells 72 = .ok (.if_icmp .ge 21, 3) := by decide +kernel
theorem dX4_tells_75 : decode cX4_tells 75 = .ok (.aload_n 0, 1) := by decide +kernel
theorem dX4_tells_76 : decode cX4_tells 76 = .ok (.getfield 7, 3) := by decide +kernel
theorem dX4_tells_79 : decode cX4_tells 79 = .ok (.iload_n 2, 1) := by decide +kernel
theorem dX4_tells_80 : decode cX4_tells 80 = .ok (.aload_n 0, 1) := by decide +kernel
theorem dX4_tells_81 : decode cX4_tells 81 = .ok (.getfield 13, 3) := by decide +kernel
theorem dX4_tells_84 : decode cX4_tells 84 = .ok (.iload_n 2, 1) := by decide +kernel
theorem dX4_tells_85 : decode cX4_tells 85 = .ok (.iaload, 1) := by decide +kernel
theorem dX4_tells_86 : decode cX4_tells 86 = .ok (.iastore, 1) := by decide +kernel
theorem dX4_tells_87 : decode cX4_tells 87 = .ok (.iinc 2 1, 3) := by decide +kernel
theorem dX4_tells_90 : decode cX4_tells 90 = .ok (.goto (-21), 3) := by decide +kernel
theorem dX4_tells_93 : decode cX4_tells 93 = .ok (.aload_n 0, 1) := by decide +kernel
theorem dX4_tells_94 : decode cX4_tells 94 = .ok (.iconst 0, 1) := by decide +kernel
theorem dX4_tells_95 : decode cX4_tells 95 = .ok (.putfield 185, 3) := by decide +kernel
theorem dX4_tells_98 : decode cX4_tells 98 = .ok (.aload_n 0, 1) := by decide +kernel
theorem dX4_tells_99 : decode cX4_tells 99 = .ok (.invokevirtual 45, 3) := by decide +kernel
theorem dX4_tells_102 : decode cX4_tells 102 = .ok (.iload_n 1, 1) := by decide +kernel
theorem dX4_tells_103 : decode cX4_tells 103 = .ok (.ireturn, 1) := by decide +kernel
theorem dJ6_bitCount_0f7a4_0 : decode cJ6_bitCount_0f7a4 0 = .ok (.iload_n 0, 1) := by decide +kernel
theorem dJ6_bitCount_0f7a4_1 : decode cJ6_bitCount_0f7a4 1 = .ok (.iload_n 0, 1) := by decide +kernel
theorem dJ6_bitCount_0f7a4_2 : decode cJ6_bitCount_0f7a4 2 = .ok (.iconst 1, 1) := by decide +kernel
theorem dJ6_bitCount_0f7a4_3 : decode cJ6_bitCount_0f7a4 3 = .ok (.iushr, 1) := by decide +kernel
theorem dJ6_bitCount_0f7a4_4 : decode cJ6_bitCount_0f7a4 4 = .ok (.ldc_w 265, 3) := by decide +kernel
theorem dJ6_bitCount_0f7a4_7 : decode cJ6_bitCount_0f7a4 7 = .ok (.iand, 1) := by decide +kernel
theorem dJ6_bitCount_0f7a4_8 : decode cJ6_bitCount_0f7a4 8 = .ok (.isub, 1) := by decide +kernel
theorem dJ6_bitCount_0f7a4_9 : decode cJ6_bitCount_0f7a4 9 = .ok (.istore_n 0, 1) := by decide +kernel
theorem dJ6_bitCount_0f7a4_10 : decode cJ6_bitCount_0f7a4 10 = .ok (.iload_n 0, 1) := by decide +kernel
theorem dJ6_bitCount_0f7a4_11 : decode cJ6_bitCount_0f7a4 11 = .ok (.ldc_w 266, 3) := by decide +kernel
theorem dJ6_bitCount_0f7a4_14 : decode cJ6_bitCount_0f7a4 14 = .ok (.iand, 1) := by decide +kernel
theorem dJ6_bitCount_0f7a4_15 : decode cJ6_bitCount_0f7a4 15 = .ok (.iload_n 0, 1) := by decide +kernel
theorem dJ6_bitCount_0f7a4_16 : decode cJ6_bitCount_0f7a4 16 = .ok (.iconst 2, 1) := by decide +kernel
theorem dJ6_bitCount_0f7a4_17 : decode cJ6_bitCount_0f7a4 17 = .ok (.iushr, 1) := by decide +kernel
theorem dJ6_bitCount_0f7a4_18 : decode cJ6_bitCount_0f7a4 18 = .ok (.ldc_w 266, 3) := by decide +kernel
theorem dJ6_bitCount_0f7a4_21 : decode cJ6_bitCount_0f7a4 21 = .ok (.iand, 1) := by decide +kernel
theorem dJ6_bitCount_0f7a4_22 : decode cJ6_bitCount_0f7a4 22 = .ok (.iadd, 1) := by decide +kernel
theorem dJ6_bitCount_0f7a4_23 : decode cJ6_bitCount_0f7a4 23 = .ok (.istore_n 0, 1) := by decide +kernel
theorem dJ6_bitCount_0f7a4_24 : decode cJ6_bitCount_0f7a4 24 = .ok (.iload_n 0, 1) := by decide +kernel
theorem dJ6_bitCount_0f7a4_25 : decode cJ6_bitCount_0f7a4 25 = .ok (.iload_n 0, 1) := by decide +kernel
theorem dJ6_bitCount_0f7a4_26 : decode cJ6_bitCount_0f7a4 26 = .ok (.iconst 4, 1) := by decide +kernel
theorem dJ6_bitCount_0f7a4_27 : decode cJ6_bitCount_0f7a4 27 = .ok (.iushr, 1) := by decide +kernel
theorem dJ6_bitCount_0f7a4_28 : decode cJ6_bitCount_0f7a4 28 = .ok (.iadd, 1) := by decide +kernel
theorem dJ6_bitCount_0f7a4_29 : decode cJ6_bitCount_0f7a4 29 = .ok (.ldc_w 267, 3) := by decide +kernel
theorem dJ6_bitCount_0f7a4_32 : decode cJ6_bitCount_0f7a4 32 = .ok (.iand, 1) := by decide +kernel
theorem dJ6_bitCount_0f7a4_33 : decode cJ6_bitCount_0f7a4 33 = .ok (.istore_n 0, 1) := by decide +kernel
theorem dJ6_bitCount_0f7a4_34 : decode cJ6_bitCount_0f7a4 34 = .ok (.iload_n 0, 1) := by decide +kernel
theorem dJ6_bitCount_0f7a4_35 : decode cJ6_bitCount_0f7a4 35 = .ok (.iload_n 0, 1) := by decide +kernel
theorem dJ6_bitCount_0f7a4_36 : decode cJ6_bitCount_0f7a4 36 = .ok (.bipush 8, 2) := by decide +kernel
theorem dJ6_bitCount_0f7a4_38 : decode cJ6_bitCount_0f7a4 38 = .ok (.iushr, 1) := by decide +kernel
theorem dJ6_bitCount_0f7a4_39 : decode cJ6_bitCount_0f7a4 39 = .ok (.iadd, 1) := by decide +kernel
theorem dJ6_bitCount_0f7a4_40 : decode cJ6_bitCount_0f7a4 40 = .ok (.istore_n 0, 1) := by decide +kernel
theorem dJ6_bitCount_0f7a4_41 : decode cJ6_bitCount_0f7a4 41 = .ok (.iload_n 0, 1) := by decide +kernel
theorem dJ6_bitCount_0f7a4_42 : decode cJ6_bitCount_0f7a4 42 = .ok (.iload_n 0, 1) := by decide +kernel
theorem dJ6_bitCount_0f7a4_43 : decode cJ6_bitCount_0f7a4 43 = .ok (.bipush 16, 2) := by decide +kernel
theorem dJ6_bitCount_0f7a4_45 : decode cJ6_bitCount_0f7a4 45 = .ok (.iushr, 1) := by decide +kernel
theorem dJ6_bitCount_0f7a4_46 : decode cJ6_bitCount_0f7a4 46 = .ok (.iadd, 1) := by decide +kernel
theorem dJ6_bitCount_0f7a4_47 : decode cJ6_bitCount_0f7a4 47 = .ok (.istore_n 0, 1) := by decide +kernel
theorem dJ6_bitCount_0f7a4_48 : decode cJ6_bitCount_0f7a4 48 = .ok (.iload_n 0, 1) := by decide +kernel
theorem dJ6_bitCount_0f7a4_49 : decode cJ6_bitCount_0f7a4 49 = .ok (.bipush 63, 2) := by decide +kernel
theorem dJ6_bitCount_0f7a4_51 : decode cJ6_bitCount_0f7a4 51 = .ok (.iand, 1) := by decide +kernel
theorem dJ6_bitCount_0f7a4_52 : decode cJ6_bitCount_0f7a4 52 = .ok (.ireturn, 1) := by decide +kernel
theorem dJ9_min_7cf53_0 : decode cJ9_min_7cf53 0 = .ok (.iload_n 0, 1) := by decide +kernel
theorem dJ9_min_7cf53_1 : decode cJ9_min_7cf53 1 = .ok (.iload_n 1, 1) := by decide +kernel
theorem dJ9_min_7cf53_2 : decode cJ9_min_7cf53 2 = .ok (.if_icmp .gt 7, 3) := by decide +kernel
theorem dJ9_min_7cf53_5 : decode cJ9_min_7cf53 5 = .ok (.iload_n 0, 1) := by decide +kernel
theorem dJ9_min_7cf53_6 : decode cJ9_min_7cf53 6 = .ok (.goto 4, 3) := by decide +kernel
theorem dJ9_min_7cf53_9 : decode cJ9_min_7cf53 9 = .ok (.iload_n 1, 1) := by decide +kernel
theorem dJ9_min_7cf53_10 : decode cJ9_min_7cf53 10 = .ok (.ireturn, 1) := by decide +kernel
theorem dJ0_length_8abf5_0 : decode cJ0_length_8abf5 0 = .ok (.aload_n 0, 1) := by decide +kernel
theorem dJ0_length_8abf5_1 : decode cJ0_length_8abf5 1 = .ok (.getfield 9, 3) := by decide +kernel
theorem dJ0_length_8abf5_4 : decode cJ0_length_8abf5 4 = .ok (.arraylength, 1) := by decide +kernel
theorem dJ0_length_8abf5_5 : decode cJ0_length_8abf5 5 = .ok (.aload_n 0, 1) := by decide +kernel
theorem dJ0_length_8abf5_6 : decode cJ0_length_8abf5 6 = .ok (.invokevirtual 335, 3) := by decide +kernel
theorem dJ0_length_8abf5_9 : decode cJ0_length_8abf5 9 = .ok (.ishr, 1) := by decide +kernel
theorem dJ0_length_8abf5_10 : decode cJ0_length_8abf5 10 = .ok (.ireturn, 1) := by decide +kernel
theorem dJ0_isEmpty_aae02_0 : decode cJ0_isEmpty_aae02 0 = .ok (.aload_n 0, 1) := by decide +kernel
theorem dJ0_isEmpty_aae02_1 : decode cJ0_isEmpty_aae02 1 = .ok (.getfield 9, 3) := by decide +kernel
theorem dJ0_isEmpty_aae02_4 : decode cJ0_isEmpty_aae02 4 = .ok (.arraylength, 1) := by decide +kernel
theorem dJ0_isEmpty_aae02_5 : decode cJ0_isEmpty_aae02 5 = .ok (.ifCond .ne 7, 3) := by decide +kernel
theorem dJ0_isEmpty_aae02_8 : decode cJ0_isEmpty_aae02 8 = .ok (.iconst 1, 1) := by decide +kernel
theorem dJ0_isEmpty_aae02_9 : decode cJ0_isEmpty_aae02 9 = .ok (.goto 4, 3) := by decide +kernel
theorem dJ0_isEmpty_aae02_12 : decode cJ0_isEmpty_aae02 12 = .ok (.iconst 0, 1) := by decide +kernel
theorem dJ0_isEmpty_aae02_13 : decode cJ0_isEmpty_aae02 13 = .ok (.ireturn, 1) := by decide +kernel
theorem dJ0_charAt_5068e_0 : decode cJ0_charAt_5068e 0 = .ok (.aload_n 0, 1) := by decide +kernel
theorem dJ0_charAt_5068e_1 : decode cJ0_charAt_5068e 1 = .ok (.invokevirtual 492, 3) := by decide +kernel
theorem dJ0_charAt_5068e_4 : decode cJ0_charAt_5068e 4 = .ok (.ifCond .eq 12, 3) := by decide +kernel
theorem dJ0_charAt_5068e_7 : decode cJ0_charAt_5068e 7 = .ok (.aload_n 0, 1) := by decide +kernel
theorem dJ0_charAt_5068e_8 : decode cJ0_charAt_5068e 8 = .ok (.getfield 9, 3) := by decide +kernel
theorem dJ0_charAt_5068e_11 : decode cJ0_charAt_5068e 11 = .ok (.iload_n 1, 1) := by decide +kernel
theorem dJ0_charAt_5068e_12 : decode cJ0_charAt_5068e 12 = .ok (.invokestatic 495, 3) := by decide +kernel
theorem dJ0_charAt_5068e_15 : decode cJ0_charAt_5068e 15 = .ok (.ireturn, 1) := by decide +kernel
theorem dJ0_charAt_5068e_16 : decode cJ0_charAt_5068e 16 = .ok (.aload_n 0, 1) := by decide +kernel
theorem dJ0_charAt_5068e_17 : decode cJ0_charAt_5068e 17 = .ok (.getfield 9, 3) := by decide +kernel
theorem dJ0_charAt_5068e_20 : decode cJ0_charAt_5068e 20 = .ok (.iload_n 1, 1) := by decide +kernel
theorem dJ0_charAt_5068e_21 : decode cJ0_charAt_5068e 21 = .ok (.invokestatic 498, 3) := by decide +kernel
theorem dJ0_charAt_5068e_24 : decode cJ0_charAt_5068e 24 = .ok (.ireturn, 1) := by decide +kernel
theorem dJ0_coder_7d493_0 : decode cJ0_coder_7d493 0 = .ok (.getstatic 38, 3) := by decide +kernel
theorem dJ0_coder_7d493_3 : decode cJ0_coder_7d493 3 = .ok (.ifCond .eq 10, 3) := by decide +kernel
theorem dJ0_coder_7d493_6 : decode cJ0_coder_7d493 6 = .ok (.aload_n 0, 1) := by decide +kernel
theorem dJ0_coder_7d493_7 : decode cJ0_coder_7d493 7 = .ok (.getfield 15, 3) := by decide +kernel
theorem dJ0_coder_7d493_10 : decode cJ0_coder_7d493 10 = .ok (.goto 4, 3) := by decide +kernel
theorem dJ0_coder_7d493_13 : decode cJ0_coder_7d493 13 = .ok (.iconst 1, 1) := by decide +kernel
theorem dJ0_coder_7d493_14 : decode cJ0_coder_7d493 14 = .ok (.ireturn, 1) := by decide +kernel
theorem dJ0_isLatin1_aae02_0 : decode cJ0_isLatin1_aae02 0 = .ok (.getstatic 38, 3) := by decide +kernel
theorem dJ0_isLatin1_aae02_3 : decode cJ0_isLatin1_aae02 3 = .ok (.ifCond .eq 14, 3) := by decide +kernel
theorem dJ0_isLatin1_aae02_6 : decode cJ0_isLatin1_aae02 6 = .ok (.aload_n 0, 1) := by decide +kernel
theorem dJ0_isLatin1_aae02_7 : decode cJ0_isLatin1_aae02 7 = .ok (.getfield 15, 3) := by decide +kernel
theorem dJ0_isLatin1_aae02_10 : decode cJ0_isLatin1_aae02 10 = .ok (.ifCond .ne 7, 3) := by decide +kernel
theorem dJ0_isLatin1_aae02_13 : decode cJ0_isLatin1_aae02 13 = .ok (.iconst 1, 1) := by decide +kernel
theorem dJ0_isLatin1_aae02_14 : decode cJ0_isLatin1_aae02 14 = .ok (.goto 4, 3) := by decide +kernel
theorem dJ0_isLatin1_aae02_17 : decode cJ0_isLatin1_aae02 17 = .ok (.iconst 0, 1) := by decide +kernel
theorem dJ0_isLatin1_aae02_18 : decode cJ0_isLatin1_aae02 18 = .ok (.ireturn, 1) := by decide +kernel
theorem dJ0_checkIndex_df160_0 : decode cJ0_checkIndex_df160 0 = .ok (.iload_n 0, 1) := by decide +kernel
theorem dJ0_checkIndex_df160_1 : decode cJ0_checkIndex_df160 1 = .ok (.iload_n 1, 1) := by decide +kernel
theorem dJ0_checkIndex_df160_2 : decode cJ0_checkIndex_df160 2 = .ok (.getstatic 1053, 3) := by decide +kernel
theorem dJ0_checkIndex_df160_5 : decode cJ0_checkIndex_df160 5 = .ok (.invokestatic 1059, 3) := by decide +kernel
theorem dJ0_checkIndex_df160_8 : decode cJ0_checkIndex_df160 8 = .ok (.pop, 1) := by decide +kernel
theorem dJ0_checkIndex_df160_9 : decode cJ0_checkIndex_df160 9 = .ok (.return_, 1) := by decide +kernel
theorem dJ1_charAt_3b067_0 : decode cJ1_charAt_3b067 0 = .ok (.iload_n 1, 1) := by decide +kernel
theorem dJ1_charAt_3b067_1 : decode cJ1_charAt_3b067 1 = .ok (.aload_n 0, 1) := by decide +kernel
theorem dJ1_charAt_3b067_2 : decode cJ1_charAt_3b067 2 = .ok (.arraylength, 1) := by decide +kernel
theorem dJ1_charAt_3b067_3 : decode cJ1_charAt_3b067 3 = .ok (.invokestatic 9, 3) := by decide +kernel
theorem dJ1_charAt_3b067_6 : decode cJ1_charAt_3b067 6 = .ok (.aload_n 0, 1) := by decide +kernel
theorem dJ1_charAt_3b067_7 : decode cJ1_charAt_3b067 7 = .ok (.iload_n 1, 1) := by decide +kernel
theorem dJ1_charAt_3b067_8 : decode cJ1_charAt_3b067 8 = .ok (.baload, 1) := by decide +kernel
theorem dJ1_charAt_3b067_9 : decode cJ1_charAt_3b067 9 = .ok (.sipush 255, 3) := by decide +kernel
theorem dJ1_charAt_3b067_12 : decode cJ1_charAt_3b067 12 = .ok (.iand, 1) := by decide +kernel
theorem dJ1_charAt_3b067_13 : decode cJ1_charAt_3b067 13 = .ok (.i2c, 1) := by decide +kernel
theorem dJ1_charAt_3b067_14 : decode cJ1_charAt_3b067 14 = .ok (.ireturn, 1) := by decide +kernel
theorem dJ2_getChar_3b067_0 : decode cJ2_getChar_3b067 0 = .ok (.getstatic 44, 3) := by decide +kernel
theorem dJ2_getChar_3b067_3 : decode cJ2_getChar_3b067 3 = .ok (.ifCond .ne 25, 3) := by decide +kernel
theorem dJ2_getChar_3b067_6 : decode cJ2_getChar_3b067 6 = .ok (.iload_n 1, 1) := by decide +kernel
theorem dJ2_getChar_3b067_7 : decode cJ2_getChar_3b067 7 = .ok (.ifCond .lt 11, 3) := by decide +kernel
theorem dJ2_getChar_3b067_10 : decode cJ2_getChar_3b067 10 = .ok (.iload_n 1, 1) := by decide +kernel
theorem dJ2_getChar_3b067_11 : decode cJ2_getChar_3b067 11 = .ok (.aload_n 0, 1) := by decide +kernel
theorem dJ2_getChar_3b067_12 : decode cJ2_getChar_3b067 12 = .ok (.invokestatic 48, 3) := by decide +kernel
theorem dJ2_getChar_3b067_15 : decode cJ2_getChar_3b067 15 = .ok (.if_icmp .lt 13, 3) := by decide +kernel
theorem dJ2_getChar_3b067_18 : decode cJ2_getChar_3b067 18 = .ok (.new 52, 3) := by decide +kernel
theorem dJ2_getChar_3b067_21 : decode cJ2_getChar_3b067 21 = .ok (.dup, 1) := by decide +kernel
theorem dJ2_getChar_3b067_22 : decode cJ2_getChar_3b067 22 = .ok (.ldc 54, 2) := by decide +kernel
theorem dJ2_getChar_3b067_24 : decode cJ2_getChar_3b067 24 = .ok (.invokespecial 56, 3) := by decide +kernel
theorem dJ2_getChar_3b067_27 : decode cJ2_getChar_3b067 27 = .ok (.athrow, 1) := by decide +kernel
theorem dJ2_getChar_3b067_28 : decode cJ2_getChar_3b067 28 = .ok (.iload_n 1, 1) := by decide +kernel
theorem dJ2_getChar_3b067_29 : decode cJ2_getChar_3b067 29 = .ok (.iconst 1, 1) := by decide +kernel
theorem dJ2_getChar_3b067_30 : decode cJ2_getChar_3b067 30 = .ok (.ishl, 1) := by decide +kernel
theorem dJ2_getChar_3b067_31 : decode cJ2_getChar_3b067 31 = .ok (.istore_n 1, 1) := by decide +kernel
theorem dJ2_getChar_3b067_32 : decode cJ2_getChar_3b067 32 = .ok (.aload_n 0, 1) := by decide +kernel
theorem dJ2_getChar_3b067_33 : decode cJ2_getChar_3b067 33 = .ok (.iload_n 1, 1) := by decide +kernel
theorem dJ2_getChar_3b067_34 : decode cJ2_getChar_3b067 34 = .ok (.iinc 1 1, 3) := by decide +kernel
theorem dJ2_getChar_3b067_37 : decode cJ2_getChar_3b067 37 = .ok (.baload, 1) := by decide +kernel
theorem dJ2_getChar_3b067_38 : decode cJ2_getChar_3b067 38 = .ok (.sipush 255, 3) := by decide +kernel
theorem dJ2_getChar_3b067_41 : decode cJ2_getChar_3b067 41 = .ok (.iand, 1) := by decide +kernel
theorem dJ2_getChar_3b067_42 : decode cJ2_getChar_3b067 42 = .ok (.getstatic 59, 3) := by decide +kernel
theorem dJ2_getChar_3b067_45 : decode cJ2_getChar_3b067 45 = .ok (.ishl, 1) := by decide +kernel
theorem dJ2_getChar_3b067_46 : decode cJ2_getChar_3b067 46 = .ok (.aload_n 0, 1) := by decide +kernel
theorem dJ2_getChar_3b067_47 : decode cJ2_getChar_3b067 47 = .ok (.iload_n 1, 1) := by decide +kernel
theorem dJ2_getChar_3b067_48 : decode cJ2_getChar_3b067 48 = .ok (.baload, 1) := by decide +kernel
theorem dJ2_getChar_3b067_49 : decode cJ2_getChar_3b067 49 = .ok (.sipush 255, 3) := by decide +kernel
theorem dJ2_getChar_3b067_52 : decode cJ2_getChar_3b067 52 = .ok (.iand, 1) := by decide +kernel
theorem dJ2_getChar_3b067_53 : decode cJ2_getChar_3b067 53 = .ok (.getstatic 63, 3) := by decide +kernel
theorem dJ2_getChar_3b067_56 : decode cJ2_getChar_3b067 56 = .ok (.ishl, 1) := by decide +kernel
theorem dJ2_getChar_3b067_57 : decode cJ2_getChar_3b067 57 = .ok (.ior, 1) := by decide +kernel
theorem dJ2_getChar_3b067_58 : decode cJ2_getChar_3b067 58 = .ok (.i2c, 1) := by decide +kernel
theorem dJ2_getChar_3b067_59 : decode cJ2_getChar_3b067 59 = .ok (.ireturn, 1) := by decide +kernel
theorem dJ2_length_9d52b_0 : decode cJ2_length_9d52b 0 = .ok (.aload_n 0, 1) := by decide +kernel
theorem dJ2_length_9d52b_1 : decode cJ2_length_9d52b 1 = .ok (.arraylength, 1) := by decide +kernel
theorem dJ2_length_9d52b_2 : decode cJ2_length_9d52b 2 = .ok (.iconst 1, 1) := by decide +kernel
theorem dJ2_length_9d52b_3 : decode cJ2_length_9d52b 3 = .ok (.ishr, 1) := by decide +kernel
theorem dJ2_length_9d52b_4 : decode cJ2_length_9d52b 4 = .ok (.ireturn, 1) := by decide +kernel
theorem dJ2_charAt_3b067_0 : decode cJ2_charAt_3b067 0 = .ok (.iload_n 1, 1) := by decide +kernel
theorem dJ2_charAt_3b067_1 : decode cJ2_charAt_3b067 1 = .ok (.aload_n 0, 1) := by decide +kernel
theorem dJ2_charAt_3b067_2 : decode cJ2_charAt_3b067 2 = .ok (.invokestatic 67, 3) := by decide +kernel
theorem dJ2_charAt_3b067_5 : decode cJ2_charAt_3b067 5 = .ok (.aload_n 0, 1) := by decide +kernel
theorem dJ2_charAt_3b067_6 : decode cJ2_charAt_3b067 6 = .ok (.iload_n 1, 1) := by decide +kernel
theorem dJ2_charAt_3b067_7 : decode cJ2_charAt_3b067 7 = .ok (.invokestatic 71, 3) := by decide +kernel
theorem dJ2_charAt_3b067_10 : decode cJ2_charAt_3b067 10 = .ok (.ireturn, 1) := by decide +kernel
theorem dJ2_checkIndex_2214a_0 : decode cJ2_checkIndex_2214a 0 = .ok (.iload_n 0, 1) := by decide +kernel
theorem dJ2_checkIndex_2214a_1 : decode cJ2_checkIndex_2214a 1 = .ok (.aload_n 1, 1) := by decide +kernel
theorem dJ2_checkIndex_2214a_2 : decode cJ2_checkIndex_2214a 2 = .ok (.invokestatic 48, 3) := by decide +kernel
theorem dJ2_checkIndex_2214a_5 : decode cJ2_checkIndex_2214a 5 = .ok (.invokestatic 414, 3) := by decide +kernel
theorem dJ2_checkIndex_2214a_8 : decode cJ2_checkIndex_2214a 8 = .ok (.return_, 1) := by decide +kernel
theorem dJ3_checkIndex_8e157_0 : decode cJ3_checkIndex_8e157 0 = .ok (.iload_n 0, 1) := by decide +kernel
theorem dJ3_checkIndex_8e157_1 : decode cJ3_checkIndex_8e157 1 = .ok (.ifCond .lt 8, 3) := by decide +kernel
theorem dJ3_checkIndex_8e157_4 : decode cJ3_checkIndex_8e157 4 = .ok (.iload_n 0, 1) := by decide +kernel
theorem dJ3_checkIndex_8e157_5 : decode cJ3_checkIndex_8e157 5 = .ok (.iload_n 1, 1) := by decide +kernel
theorem dJ3_checkIndex_8e157_6 : decode cJ3_checkIndex_8e157 6 = .ok (.if_icmp .lt 10, 3) := by decide +kernel
theorem dJ3_checkIndex_8e157_9 : decode cJ3_checkIndex_8e157 9 = .ok (.aload_n 2, 1) := by decide +kernel
theorem dJ3_checkIndex_8e157_10 : decode cJ3_checkIndex_8e157 10 = .ok (.iload_n 0, 1) := by decide +kernel
theorem dJ3_checkIndex_8e157_11 : decode cJ3_checkIndex_8e157 11 = .ok (.iload_n 1, 1) := by decide +kernel
theorem dJ3_checkIndex_8e157_12 : decode cJ3_checkIndex_8e157 12 = .ok (.invokestatic 95, 3) := by decide +kernel
theorem dJ3_checkIndex_8e157_15 : decode cJ3_checkIndex_8e157 15 = .ok (.athrow, 1) := by decide +kernel
theorem dJ3_checkIndex_8e157_16 : decode cJ3_checkIndex_8e157 16 = .ok (.iload_n 0, 1) := by decide +kernel
theorem dJ3_checkIndex_8e157_17 : decode cJ3_checkIndex_8e157 17 = .ok (.ireturn, 1) := by decide +kernel
theorem dL_law_0 : decode cL_law 0 = .ok (.new 7, 3) := by decide +kernel
theorem dL_law_3 : decode cL_law 3 = .ok (.dup, 1) := by decide +kernel
theorem dL_law_4 : decode cL_law 4 = .ok (.invokespecial 9, 3) := by decide +kernel
theorem dL_law_7 : decode cL_law 7 = .ok (.astore_n 1, 1) := by decide +kernel
theorem dL_law_8 : decode cL_law 8 = .ok (.new 10, 3) := by decide +kernel
theorem dL_law_11 : decode cL_law 11 = .ok (.dup, 1) := by decide +kernel
theorem dL_law_12 : decode cL_law 12 = .ok (.invokespecial 12, 3) := by decide +kernel
theorem dL_law_15 : decode cL_law 15 = .ok (.astore_n 2, 1) := by decide +kernel
theorem dL_law_16 : decode cL_law 16 = .ok (.iconst 0, 1) := by decide +kernel
theorem dL_law_17 : decode cL_law 17 = .ok (.istore_n 3, 1) := by decide +kernel
theorem dL_law_18 : decode cL_law 18 = .ok (.iload_n 3, 1) := by decide +kernel
theorem dL_law_19 : decode cL_law 19 = .ok (.aload_n 0, 1) := by decide +kernel
theorem dL_law_20 : decode cL_law 20 = .ok (.arraylength, 1) := by decide +kernel
theorem dL_law_21 : decode cL_law 21 = .ok (.iconst 3, 1) := by decide +kernel
theorem dL_law_22 : decode cL_law 22 = .ok (.isub, 1) := by decide +kernel
theorem dL_law_23 : decode cL_law 23 = .ok (.if_icmp .gt 554, 3) := by decide +kernel
theorem dL_law_26 : decode cL_law 26 = .ok (.aload_n 0, 1) := by decide +kernel
theorem dL_law_27 : decode cL_law 27 = .ok (.iload_n 3, 1) := by decide +kernel
theorem dL_law_28 : decode cL_law 28 = .ok (.iaload, 1) := by decide +kernel
theorem dL_law_29 : decode cL_law 29 = .ok (.bipush 31, 2) := by decide +kernel
theorem dL_law_31 : decode cL_law 31 = .ok (.iand, 1) := by decide +kernel
theorem dL_law_32 : decode cL_law 32 = .ok (.tableswitch 539 0 18 #[92, 115, 128, 141, 164, 197, 220, 233, 266, 299, 322, 345, 378, 391, 414, 437, 470, 493, 516], 92) := by decide +kernel
theorem dL_law_124 : decode cL_law 124 = .ok (.aload_n 1, 1) := by decide +kernel
theorem dL_law_125 : decode cL_law 125 = .ok (.aload_n 0, 1) := by decide +kernel
theorem dL_law_126 : decode cL_law 126 = .ok (.iload_n 3, 1) := by decide +kernel
theorem dL_law_127 : decode cL_law 127 = .ok (.iconst 1, 1) := by decide +kernel
theorem dL_law_128 : decode cL_law 128 = .ok (.iadd, 1) := by decide +kernel
theorem dL_law_129 : decode cL_law 129 = .ok (.iaload, 1) := by decide +kernel
theorem dL_law_130 : decode cL_law 130 = .ok (.invokevirtual 13, 3) := by decide +kernel
theorem dL_law_133 : decode cL_law 133 = .ok (.aload_n 2, 1) := by decide +kernel
theorem dL_law_134 : decode cL_law 134 = .ok (.aload_n 0, 1) := by decide +kernel
theorem dL_law_135 : decode cL_law 135 = .ok (.iload_n 3, 1) := by decide +kernel
theorem dL_law_136 : decode cL_law 136 = .ok (.iconst 1, 1) := by decide +kernel
theorem dL_law_137 : decode cL_law 137 = .ok (.iadd, 1) := by decide +kernel
theorem dL_law_138 : decode cL_law 138 = .ok (.iaload, 1) := by decide +kernel
theorem dL_law_139 : decode cL_law 139 = .ok (.invokevirtual 17, 3) := by decide +kernel
theorem dL_law_142 : decode cL_law 142 = .ok (.if_icmp .eq 429, 3) := by decide +kernel
theorem dL_law_145 : decode cL_law 145 = .ok (.iconst 0, 1) := by decide +kernel
theorem dL_law_146 : decode cL_law 146 = .ok (.ireturn, 1) := by decide +kernel
theorem dL_law_147 : decode cL_law 147 = .ok (.aload_n 1, 1) := by decide +kernel
theorem dL_law_148 : decode cL_law 148 = .ok (.invokevirtual 18, 3) := by decide +kernel
theorem dL_law_151 : decode cL_law 151 = .ok (.aload_n 2, 1) := by decide +kernel
theorem dL_law_152 : decode cL_law 152 = .ok (.invokevirtual 22, 3) := by decide +kernel
theorem dL_law_155 : decode cL_law 155 = .ok (.if_icmp .eq 416, 3) := by decide +kernel
theorem dL_law_158 : decode cL_law 158 = .ok (.iconst 0, 1) := by decide +kernel
theorem dL_law_159 : decode cL_law 159 = .ok (.ireturn, 1) := by decide +kernel
theorem dL_law_160 : decode cL_law 160 = .ok (.aload_n 1, 1) := by decide +kernel
theorem dL_law_161 : decode cL_law 161 = .ok (.invokevirtual 23, 3) := by decide +kernel
theorem dL_law_164 : decode cL_law 164 = .ok (.aload_n 2, 1) := by decide +kernel
theorem dL_law_165 : decode cL_law 165 = .ok (.invokevirtual 26, 3) := by decide +kernel
theorem dL_law_168 : decode cL_law 168 = .ok (.if_icmp .eq 403, 3) := by decide +kernel
theorem dL_law_171 : decode cL_law 171 = .ok (.iconst 0, 1) := by decide +kernel
theorem dL_law_172 : decode cL_law 172 = .ok (.ireturn, 1) := by decide +kernel
theorem dL_law_173 : decode cL_law 173 = .ok (.aload_n 1, 1) := by decide +kernel
theorem dL_law_174 : decode cL_law 174 = .ok (.aload_n 0, 1) := by decide +kernel
theorem dL_law_175 : decode cL_law 175 = .ok (.iload_n 3, 1) := by decide +kernel
theorem dL_law_176 : decode cL_law 176 = .ok (.iconst 1, 1) := by decide +kernel
theorem dL_law_177 : decode cL_law 177 = .ok (.iadd, 1) := by decide +kernel
theorem dL_law_178 : decode cL_law 178 = .ok (.iaload, 1) := by decide +kernel
theorem dL_law_179 : decode cL_law 179 = .ok (.invokevirtual 27, 3) := by decide +kernel
theorem dL_law_182 : decode cL_law 182 = .ok (.aload_n 2, 1) := by decide +kernel
theorem dL_law_183 : decode cL_law 183 = .ok (.aload_n 0, 1) := by decide +kernel
theorem dL_law_184 : decode cL_law 184 = .ok (.iload_n 3, 1) := by decide +kernel
theorem dL_law_185 : decode cL_law 185 = .ok (.iconst 1, 1) := by decide +kernel
theorem dL_law_186 : decode cL_law 186 = .ok (.iadd, 1) := by decide +kernel
theorem dL_law_187 : decode cL_law 187 = .ok (.iaload, 1) := by decide +kernel
theorem dL_law_188 : decode cL_law 188 = .ok (.invokevirtual 30, 3) := by decide +kernel
theorem dL_law_191 : decode cL_law 191 = .ok (.if_icmp .eq 380, 3) := by decide +kernel
theorem dL_law_194 : decode cL_law 194 = .ok (.iconst 0, 1) := by decide +kernel
theorem dL_law_195 : decode cL_law 195 = .ok (.ireturn, 1) := by decide +kernel
theorem dL_law_196 : decode cL_law 196 = .ok (.aload_n 1, 1) := by decide +kernel
theorem dL_law_197 : decode cL_law 197 = .ok (.aload_n 0, 1) := by decide +kernel
theorem dL_law_198 : decode cL_law 198 = .ok (.iload_n 3, 1) := by decide +kernel
theorem dL_law_199 : decode cL_law 199 = .ok (.iconst 1, 1) := by decide +kernel
theorem dL_law_200 : decode cL_law 200 = .ok (.iadd, 1) := by decide +kernel
theorem dL_law_201 : decode cL_law 201 = .ok (.iaload, 1) := by decide +kernel
theorem dL_law_202 : decode cL_law 202 = .ok (.aload_n 0, 1) := by decide +kernel
theorem dL_law_203 : decode cL_law 203 = .ok (.iload_n 3, 1) := by decide +kernel
theorem dL_law_204 : decode cL_law 204 = .ok (.iconst 2, 1) := by decide +kernel
theorem dL_law_205 : decode cL_law 205 = .ok (.iadd, 1) := by decide +kernel
theorem dL_law_206 : decode cL_law 206 = .ok (.iaload, 1) := by decide +kernel
theorem dL_law_207 : decode cL_law 207 = .ok (.invokevirtual 31, 3) := by decide +kernel
theorem dL_law_210 : decode cL_law 210 = .ok (.aload_n 2, 1) := by decide +kernel
theorem dL_law_211 : decode cL_law 211 = .ok (.aload_n 0, 1) := by decide +kernel
theorem dL_law_212 : decode cL_law 212 = .ok (.iload_n 3, 1) := by decide +kernel
theorem dL_law_213 : decode cL_law 213 = .ok (.iconst 1, 1) := by decide +kernel
theorem dL_law_214 : decode cL_law 214 = .ok (.iadd, 1) := by decide +kernel
theorem dL_law_215 : decode cL_law 215 = .ok (.iaload, 1) := by decide +kernel
theorem dL_law_216 : decode cL_law 216 = .ok (.aload_n 0, 1) := by decide +kernel
theorem dL_law_217 : decode cL_law 217 = .ok (.iload_n 3, 1) := by decide +kernel
theorem dL_law_218 : decode cL_law 218 = .ok (.iconst 2, 1) := by decide +kernel
theorem dL_law_219 : decode cL_law 219 = .ok (.iadd, 1) := by decide +kernel
theorem dL_law_220 : decode cL_law 220 = .ok (.iaload, 1) := by decide +kernel
theorem dL_law_221 : decode cL_law 221 = .ok (.invokevirtual 35, 3) := by decide +kernel
theorem dL_law_224 : decode cL_law 224 = .ok (.if_icmp .eq 347, 3) := by decide +kernel
theorem dL_law_227 : decode cL_law 227 = .ok (.iconst 0, 1) := by decide +kernel
theorem dL_law_228 : decode cL_law 228 = .ok (.ireturn, 1) := by decide +kernel
theorem dL_law_229 : decode cL_law 229 = .ok (.aload_n 1, 1) := by decide +kernel
theorem dL_law_230 : decode cL_law 230 = .ok (.aload_n 0, 1) := by decide +kernel
theorem dL_law_231 : decode cL_law 231 = .ok (.iload_n 3, 1) := by decide +kernel
theorem dL_law_232 : decode cL_law 232 = .ok (.iconst 1, 1) := by decide +kernel
theorem dL_law_233 : decode cL_law 233 = .ok (.iadd, 1) := by decide +kernel
theorem dL_law_234 : decode cL_law 234 = .ok (.iaload, 1) := by decide +kernel
theorem dL_law_235 : decode cL_law 235 = .ok (.invokevirtual 36, 3) := by decide +kernel
theorem dL_law_238 : decode cL_law 238 = .ok (.aload_n 2, 1) := by decide +kernel
theorem dL_law_239 : decode cL_law 239 = .ok (.aload_n 0, 1) := by decide +kernel
theorem dL_law_240 : decode cL_law 240 = .ok (.iload_n 3, 1) := by decide +kernel
theorem dL_law_241 : decode cL_law 241 = .ok (.iconst 1, 1) := by decide +kernel
theorem dL_law_242 : decode cL_law 242 = .ok (.iadd, 1) := by decide +kernel
theorem dL_law_243 : decode cL_law 243 = .ok (.iaload, 1) := by decide +kernel
theorem dL_law_244 : decode cL_law 244 = .ok (.invokevirtual 39, 3) := by decide +kernel
theorem dL_law_247 : decode cL_law 247 = .ok (.if_icmp .eq 324, 3) := by decide +kernel
theorem dL_law_250 : decode cL_law 250 = .ok (.iconst 0, 1) := by decide +kernel
theorem dL_law_251 : decode cL_law 251 = .ok (.ireturn, 1) := by decide +kernel
theorem dL_law_252 : decode cL_law 252 = .ok (.aload_n 1, 1) := by decide +kernel
theorem dL_law_253 : decode cL_law 253 = .ok (.invokevirtual 40, 3) := by decide +kernel
theorem dL_law_256 : decode cL_law 256 = .ok (.aload_n 2, 1) := by decide +kernel
theorem dL_law_257 : decode cL_law 257 = .ok (.invokevirtual 43, 3) := by decide +kernel
theorem dL_law_260 : decode cL_law 260 = .ok (.if_icmp .eq 311, 3) := by decide +kernel
theorem dL_law_263 : decode cL_law 263 = .ok (.iconst 0, 1) := by decide +kernel
theorem dL_law_264 : decode cL_law 264 = .ok (.ireturn, 1) := by decide +kernel
theorem dL_law_265 : decode cL_law 265 = .ok (.aload_n 1, 1) := by decide +kernel
theorem dL_law_266 : decode cL_law 266 = .ok (.aload_n 0, 1) := by decide +kernel
theorem dL_law_267 : decode cL_law 267 = .ok (.iload_n 3, 1) := by decide +kernel
theorem dL_law_268 : decode cL_law 268 = .ok (.iconst 1, 1) := by decide +kernel
theorem dL_law_269 : decode cL_law 269 = .ok (.iadd, 1) := by decide +kernel
theorem dL_law_270 : decode cL_law 270 = .ok (.iaload, 1) := by decide +kernel
theorem dL_law_271 : decode cL_law 271 = .ok (.aload_n 0, 1) := by decide +kernel
theorem dL_law_272 : decode cL_law 272 = .ok (.iload_n 3, 1) := by decide +kernel
theorem dL_law_273 : decode cL_law 273 = .ok (.iconst 2, 1) := by decide +kernel
theorem dL_law_274 : decode cL_law 274 = .ok (.iadd, 1) := by decide +kernel
theorem dL_law_275 : decode cL_law 275 = .ok (.iaload, 1) := by decide +kernel
theorem dL_law_276 : decode cL_law 276 = .ok (.invokevirtual 44, 3) := by decide +kernel
theorem dL_law_279 : decode cL_law 279 = .ok (.aload_n 2, 1) := by decide +kernel
theorem dL_law_280 : decode cL_law 280 = .ok (.aload_n 0, 1) := by decide +kernel
theorem dL_law_281 : decode cL_law 281 = .ok (.iload_n 3, 1) := by decide +kernel
theorem dL_law_282 : decode cL_law 282 = .ok (.iconst 1, 1) := by decide +kernel
theorem dL_law_283 : decode cL_law 283 = .ok (.iadd, 1) := by decide +kernel
theorem dL_law_284 : decode cL_law 284 = .ok (.iaload, 1) := by decide +kernel
theorem dL_law_285 : decode cL_law 285 = .ok (.aload_n 0, 1) := by decide +kernel
theorem dL_law_286 : decode cL_law 286 = .ok (.iload_n 3, 1) := by decide +kernel
theorem dL_law_287 : decode cL_law 287 = .ok (.iconst 2, 1) := by decide +kernel
theorem dL_law_288 : decode cL_law 288 = .ok (.iadd, 1) := by decide +kernel
theorem dL_law_289 : decode cL_law 289 = .ok (.iaload, 1) := by decide +kernel
theorem dL_law_290 : decode cL_law 290 = .ok (.invokevirtual 47, 3) := by decide +kernel
theorem dL_law_293 : decode cL_law 293 = .ok (.if_icmp .eq 278, 3) := by decide +kernel
theorem dL_law_296 : decode cL_law 296 = .ok (.iconst 0, 1) := by decide +kernel
theorem dL_law_297 : decode cL_law 297 = .ok (.ireturn, 1) := by decide +kernel
theorem dL_law_298 : decode cL_law 298 = .ok (.aload_n 1, 1) := by decide +kernel
theorem dL_law_299 : decode cL_law 299 = .ok (.aload_n 0, 1) := by decide +kernel
theorem dL_law_300 : decode cL_law 300 = .ok (.iload_n 3, 1) := by decide +kernel
theorem dL_law_301 : decode cL_law 301 = .ok (.iconst 1, 1) := by decide +kernel
theorem dL_law_302 : decode cL_law 302 = .ok (.iadd, 1) := by decide +kernel
theorem dL_law_303 : decode cL_law 303 = .ok (.iaload, 1) := by decide +kernel
theorem dL_law_304 : decode cL_law 304 = .ok (.aload_n 0, 1) := by decide +kernel
theorem dL_law_305 : decode cL_law 305 = .ok (.iload_n 3, 1) := by decide +kernel
theorem dL_law_306 : decode cL_law 306 = .ok (.iconst 2, 1) := by decide +kernel
theorem dL_law_307 : decode cL_law 307 = .ok (.iadd, 1) := by decide +kernel
theorem dL_law_308 : decode cL_law 308 = .ok (.iaload, 1) := by decide +kernel
theorem dL_law_309 : decode cL_law 309 = .ok (.invokevirtual 48, 3) := by decide +kernel
theorem dL_law_312 : decode cL_law 312 = .ok (.aload_n 2, 1) := by decide +kernel
theorem dL_law_313 : decode cL_law 313 = .ok (.aload_n 0, 1) := by decide +kernel
theorem dL_law_314 : decode cL_law 314 = .ok (.iload_n 3, 1) := by decide +kernel
theorem dL_law_315 : decode cL_law 315 = .ok (.iconst 1, 1) := by decide +kernel
theorem dL_law_316 : decode cL_law 316 = .ok (.iadd, 1) := by decide +kernel
theorem dL_law_317 : decode cL_law 317 = .ok (.iaload, 1) := by decide +kernel
theorem dL_law_318 : decode cL_law 318 = .ok (.aload_n 0, 1) := by decide +kernel
theorem dL_law_319 : decode cL_law 319 = .ok (.iload_n 3, 1) := by decide +kernel
theorem dL_law_320 : decode cL_law 320 = .ok (.iconst 2, 1) := by decide +kernel
theorem dL_law_321 : decode cL_law 321 = .ok (.iadd, 1) := by decide +kernel
theorem dL_law_322 : decode cL_law 322 = .ok (.iaload, 1) := by decide +kernel
theorem dL_law_323 : decode cL_law 323 = .ok (.invokevirtual 51, 3) := by decide +kernel
theorem dL_law_326 : decode cL_law 326 = .ok (.if_icmp .eq 245, 3) := by decide +kernel
theorem dL_law_329 : decode cL_law 329 = .ok (.iconst 0, 1) := by decide +kernel
theorem dL_law_330 : decode cL_law 330 = .ok (.ireturn, 1) := by decide +kernel
theorem dL_law_331 : decode cL_law 331 = .ok (.aload_n 1, 1) := by decide +kernel
theorem dL_law_332 : decode cL_law 332 = .ok (.aload_n 0, 1) := by decide +kernel
theorem dL_law_333 : decode cL_law 333 = .ok (.iload_n 3, 1) := by decide +kernel
theorem dL_law_334 : decode cL_law 334 = .ok (.iconst 1, 1) := by decide +kernel
theorem dL_law_335 : decode cL_law 335 = .ok (.iadd, 1) := by decide +kernel
theorem dL_law_336 : decode cL_law 336 = .ok (.iaload, 1) := by decide +kernel
theorem dL_law_337 : decode cL_law 337 = .ok (.invokevirtual 52, 3) := by decide +kernel
theorem dL_law_340 : decode cL_law 340 = .ok (.aload_n 2, 1) := by decide +kernel
theorem dL_law_341 : decode cL_law 341 = .ok (.aload_n 0, 1) := by decide +kernel
theorem dL_law_342 : decode cL_law 342 = .ok (.iload_n 3, 1) := by decide +kernel
theorem dL_law_343 : decode cL_law 343 = .ok (.iconst 1, 1) := by decide +kernel
theorem dL_law_344 : decode cL_law 344 = .ok (.iadd, 1) := by decide +kernel
theorem dL_law_345 : decode cL_law 345 = .ok (.iaload, 1) := by decide +kernel
theorem dL_law_346 : decode cL_law 346 = .ok (.invokevirtual 55, 3) := by decide +kernel
theorem dL_law_349 : decode cL_law 349 = .ok (.if_icmp .eq 222, 3) := by decide +kernel
theorem dL_law_352 : decode cL_law 352 = .ok (.iconst 0, 1) := by decide +kernel
theorem dL_law_353 : decode cL_law 353 = .ok (.ireturn, 1) := by decide +kernel
theorem dL_law_354 : decode cL_law 354 = .ok (.aload_n 1, 1) := by decide +kernel
theorem dL_law_355 : decode cL_law 355 = .ok (.aload_n 0, 1) := by decide +kernel
theorem dL_law_356 : decode cL_law 356 = .ok (.iload_n 3, 1) := by decide +kernel
theorem dL_law_357 : decode cL_law 357 = .ok (.iconst 1, 1) := by decide +kernel
theorem dL_law_358 : decode cL_law 358 = .ok (.iadd, 1) := by decide +kernel
theorem dL_law_359 : decode cL_law 359 = .ok (.iaload, 1) := by decide +kernel
theorem dL_law_360 : decode cL_law 360 = .ok (.invokevirtual 56, 3) := by decide +kernel
theorem dL_law_363 : decode cL_law 363 = .ok (.aload_n 2, 1) := by decide +kernel
theorem dL_law_364 : decode cL_law 364 = .ok (.aload_n 0, 1) := by decide +kernel
theorem dL_law_365 : decode cL_law 365 = .ok (.iload_n 3, 1) := by decide +kernel
theorem dL_law_366 : decode cL_law 366 = .ok (.iconst 1, 1) := by decide +kernel
theorem dL_law_367 : decode cL_law 367 = .ok (.iadd, 1) := by decide +kernel
theorem dL_law_368 : decode cL_law 368 = .ok (.iaload, 1) := by decide +kernel
theorem dL_law_369 : decode cL_law 369 = .ok (.invokevirtual 59, 3) := by decide +kernel
theorem dL_law_372 : decode cL_law 372 = .ok (.if_icmp .eq 199, 3) := by decide +kernel
theorem dL_law_375 : decode cL_law 375 = .ok (.iconst 0, 1) := by decide +kernel
theorem dL_law_376 : decode cL_law 376 = .ok (.ireturn, 1) := by decide +kernel
theorem dL_law_377 : decode cL_law 377 = .ok (.aload_n 1, 1) := by decide +kernel
theorem dL_law_378 : decode cL_law 378 = .ok (.aload_n 0, 1) := by decide +kernel
theorem dL_law_379 : decode cL_law 379 = .ok (.iload_n 3, 1) := by decide +kernel
theorem dL_law_380 : decode cL_law 380 = .ok (.iconst 1, 1) := by decide +kernel
theorem dL_law_381 : decode cL_law 381 = .ok (.iadd, 1) := by decide +kernel
theorem dL_law_382 : decode cL_law 382 = .ok (.iaload, 1) := by decide +kernel
theorem dL_law_383 : decode cL_law 383 = .ok (.aload_n 0, 1) := by decide +kernel
theorem dL_law_384 : decode cL_law 384 = .ok (.iload_n 3, 1) := by decide +kernel
theorem dL_law_385 : decode cL_law 385 = .ok (.iconst 2, 1) := by decide +kernel
theorem dL_law_386 : decode cL_law 386 = .ok (.iadd, 1) := by decide +kernel
theorem dL_law_387 : decode cL_law 387 = .ok (.iaload, 1) := by decide +kernel
theorem dL_law_388 : decode cL_law 388 = .ok (.invokevirtual 60, 3) := by decide +kernel
theorem dL_law_391 : decode cL_law 391 = .ok (.aload_n 2, 1) := by decide +kernel
theorem dL_law_392 : decode cL_law 392 = .ok (.aload_n 0, 1) := by decide +kernel
theorem dL_law_393 : decode cL_law 393 = .ok (.iload_n 3, 1) := by decide +kernel
theorem dL_law_394 : decode cL_law 394 = .ok (.iconst 1, 1) := by decide +kernel
theorem dL_law_395 : decode cL_law 395 = .ok (.iadd, 1) := by decide +kernel
theorem dL_law_396 : decode cL_law 396 = .ok (.iaload, 1) := by decide +kernel
theorem dL_law_397 : decode cL_law 397 = .ok (.aload_n 0, 1) := by decide +kernel
theorem dL_law_398 : decode cL_law 398 = .ok (.iload_n 3, 1) := by decide +kernel
theorem dL_law_399 : decode cL_law 399 = .ok (.iconst 2, 1) := by decide +kernel
theorem dL_law_400 : decode cL_law 400 = .ok (.iadd, 1) := by decide +kernel
theorem dL_law_401 : decode cL_law 401 = .ok (.iaload, 1) := by decide +kernel
theorem dL_law_402 : decode cL_law 402 = .ok (.invokevirtual 63, 3) := by decide +kernel
theorem dL_law_405 : decode cL_law 405 = .ok (.if_icmp .eq 166, 3) := by decide +kernel
theorem dL_law_408 : decode cL_law 408 = .ok (.iconst 0, 1) := by decide +kernel
theorem dL_law_409 : decode cL_law 409 = .ok (.ireturn, 1) := by decide +kernel
theorem dL_law_410 : decode cL_law 410 = .ok (.aload_n 1, 1) := by decide +kernel
theorem dL_law_411 : decode cL_law 411 = .ok (.invokevirtual 64, 3) := by decide +kernel
theorem dL_law_414 : decode cL_law 414 = .ok (.aload_n 2, 1) := by decide +kernel
theorem dL_law_415 : decode cL_law 415 = .ok (.invokevirtual 67, 3) := by decide +kernel
theorem dL_law_418 : decode cL_law 418 = .ok (.if_icmp .eq 153, 3) := by decide +kernel
theorem dL_law_421 : decode cL_law 421 = .ok (.iconst 0, 1) := by decide +kernel
theorem dL_law_422 : decode cL_law 422 = .ok (.ireturn, 1) := by decide +kernel
theorem dL_law_423 : decode cL_law 423 = .ok (.aload_n 1, 1) := by decide +kernel
theorem dL_law_424 : decode cL_law 424 = .ok (.aload_n 0, 1) := by decide +kernel
theorem dL_law_425 : decode cL_law 425 = .ok (.iload_n 3, 1) := by decide +kernel
theorem dL_law_426 : decode cL_law 426 = .ok (.iconst 1, 1) := by decide +kernel
theorem dL_law_427 : decode cL_law 427 = .ok (.iadd, 1) := by decide +kernel
theorem dL_law_428 : decode cL_law 428 = .ok (.iaload, 1) := by decide +kernel
theorem dL_law_429 : decode cL_law 429 = .ok (.invokevirtual 68, 3) := by decide +kernel
theorem dL_law_432 : decode cL_law 432 = .ok (.aload_n 2, 1) := by decide +kernel
theorem dL_law_433 : decode cL_law 433 = .ok (.aload_n 0, 1) := by decide +kernel
theorem dL_law_434 : decode cL_law 434 = .ok (.iload_n 3, 1) := by decide +kernel
theorem dL_law_435 : decode cL_law 435 = .ok (.iconst 1, 1) := by decide +kernel
theorem dL_law_436 : decode cL_law 436 = .ok (.iadd, 1) := by decide +kernel
theorem dL_law_437 : decode cL_law 437 = .ok (.iaload, 1) := by decide +kernel
theorem dL_law_438 : decode cL_law 438 = .ok (.invokevirtual 71, 3) := by decide +kernel
theorem dL_law_441 : decode cL_law 441 = .ok (.if_icmp .eq 130, 3) := by decide +kernel
theorem dL_law_444 : decode cL_law 444 = .ok (.iconst 0, 1) := by decide +kernel
theorem dL_law_445 : decode cL_law 445 = .ok (.ireturn, 1) := by decide +kernel
theorem dL_law_446 : decode cL_law 446 = .ok (.aload_n 1, 1) := by decide +kernel
theorem dL_law_447 : decode cL_law 447 = .ok (.aload_n 0, 1) := by decide +kernel
theorem dL_law_448 : decode cL_law 448 = .ok (.iload_n 3, 1) := by decide +kernel
theorem dL_law_449 : decode cL_law 449 = .ok (.iconst 1, 1) := by decide +kernel
theorem dL_law_450 : decode cL_law 450 = .ok (.iadd, 1) := by decide +kernel
theorem dL_law_451 : decode cL_law 451 = .ok (.iaload, 1) := by decide +kernel
theorem dL_law_452 : decode cL_law 452 = .ok (.invokevirtual 72, 3) := by decide +kernel
theorem dL_law_455 : decode cL_law 455 = .ok (.aload_n 2, 1) := by decide +kernel
theorem dL_law_456 : decode cL_law 456 = .ok (.aload_n 0, 1) := by decide +kernel
theorem dL_law_457 : decode cL_law 457 = .ok (.iload_n 3, 1) := by decide +kernel
theorem dL_law_458 : decode cL_law 458 = .ok (.iconst 1, 1) := by decide +kernel
theorem dL_law_459 : decode cL_law 459 = .ok (.iadd, 1) := by decide +kernel
theorem dL_law_460 : decode cL_law 460 = .ok (.iaload, 1) := by decide +kernel
theorem dL_law_461 : decode cL_law 461 = .ok (.invokevirtual 75, 3) := by decide +kernel
theorem dL_law_464 : decode cL_law 464 = .ok (.if_icmp .eq 107, 3) := by decide +kernel
theorem dL_law_467 : decode cL_law 467 = .ok (.iconst 0, 1) := by decide +kernel
theorem dL_law_468 : decode cL_law 468 = .ok (.ireturn, 1) := by decide +kernel
theorem dL_law_469 : decode cL_law 469 = .ok (.aload_n 1, 1) := by decide +kernel
theorem dL_law_470 : decode cL_law 470 = .ok (.aload_n 0, 1) := by decide +kernel
theorem dL_law_471 : decode cL_law 471 = .ok (.iload_n 3, 1) := by decide +kernel
theorem dL_law_472 : decode cL_law 472 = .ok (.iconst 1, 1) := by decide +kernel
theorem dL_law_473 : decode cL_law 473 = .ok (.iadd, 1) := by decide +kernel
theorem dL_law_474 : decode cL_law 474 = .ok (.iaload, 1) := by decide +kernel
theorem dL_law_475 : decode cL_law 475 = .ok (.aload_n 0, 1) := by decide +kernel
theorem dL_law_476 : decode cL_law 476 = .ok (.iload_n 3, 1) := by decide +kernel
theorem dL_law_477 : decode cL_law 477 = .ok (.iconst 2, 1) := by decide +kernel
theorem dL_law_478 : decode cL_law 478 = .ok (.iadd, 1) := by decide +kernel
theorem dL_law_479 : decode cL_law 479 = .ok (.iaload, 1) := by decide +kernel
theorem dL_law_480 : decode cL_law 480 = .ok (.invokevirtual 76, 3) := by decide +kernel
theorem dL_law_483 : decode cL_law 483 = .ok (.aload_n 2, 1) := by decide +kernel
theorem dL_law_484 : decode cL_law 484 = .ok (.aload_n 0, 1) := by decide +kernel
theorem dL_law_485 : decode cL_law 485 = .ok (.iload_n 3, 1) := by decide +kernel
theorem dL_law_486 : decode cL_law 486 = .ok (.iconst 1, 1) := by decide +kernel
theorem dL_law_487 : decode cL_law 487 = .ok (.iadd, 1) := by decide +kernel
theorem dL_law_488 : decode cL_law 488 = .ok (.iaload, 1) := by decide +kernel
theorem dL_law_489 : decode cL_law 489 = .ok (.aload_n 0, 1) := by decide +kernel
theorem dL_law_490 : decode cL_law 490 = .ok (.iload_n 3, 1) := by decide +kernel
theorem dL_law_491 : decode cL_law 491 = .ok (.iconst 2, 1) := by decide +kernel
theorem dL_law_492 : decode cL_law 492 = .ok (.iadd, 1) := by decide +kernel
theorem dL_law_493 : decode cL_law 493 = .ok (.iaload, 1) := by decide +kernel
theorem dL_law_494 : decode cL_law 494 = .ok (.invokevirtual 79, 3) := by decide +kernel
theorem dL_law_497 : decode cL_law 497 = .ok (.if_icmp .eq 74, 3) := by decide +kernel
theorem dL_law_500 : decode cL_law 500 = .ok (.iconst 0, 1) := by decide +kernel
theorem dL_law_501 : decode cL_law 501 = .ok (.ireturn, 1) := by decide +kernel
theorem dL_law_502 : decode cL_law 502 = .ok (.aload_n 1, 1) := by decide +kernel
theorem dL_law_503 : decode cL_law 503 = .ok (.aload_n 0, 1) := by decide +kernel
theorem dL_law_504 : decode cL_law 504 = .ok (.iload_n 3, 1) := by decide +kernel
theorem dL_law_505 : decode cL_law 505 = .ok (.iconst 1, 1) := by decide +kernel
theorem dL_law_506 : decode cL_law 506 = .ok (.iadd, 1) := by decide +kernel
theorem dL_law_507 : decode cL_law 507 = .ok (.iaload, 1) := by decide +kernel
theorem dL_law_508 : decode cL_law 508 = .ok (.invokevirtual 80, 3) := by decide +kernel
theorem dL_law_511 : decode cL_law 511 = .ok (.aload_n 2, 1) := by decide +kernel
theorem dL_law_512 : decode cL_law 512 = .ok (.aload_n 0, 1) := by decide +kernel
theorem dL_law_513 : decode cL_law 513 = .ok (.iload_n 3, 1) := by decide +kernel
theorem dL_law_514 : decode cL_law 514 = .ok (.iconst 1, 1) := by decide +kernel
theorem dL_law_515 : decode cL_law 515 = .ok (.iadd, 1) := by decide +kernel
theorem dL_law_516 : decode cL_law 516 = .ok (.iaload, 1) := by decide +kernel
theorem dL_law_517 : decode cL_law 517 = .ok (.invokevirtual 83, 3) := by decide +kernel
theorem dL_law_520 : decode cL_law 520 = .ok (.if_icmp .eq 51, 3) := by decide +kernel
theorem dL_law_523 : decode cL_law 523 = .ok (.iconst 0, 1) := by decide +kernel
theorem dL_law_524 : decode cL_law 524 = .ok (.ireturn, 1) := by decide +kernel
theorem dL_law_525 : decode cL_law 525 = .ok (.aload_n 1, 1) := by decide +kernel
end
section
theorem dL_law_526 : decode cL_law 526 = .ok (.aload_n 0, 1) := by decide +kernel
theorem dL_law_527 : decode cL_law 527 = .ok (.iload_n 3, 1) := by decide +kernel
theorem dL_law_528 : decode cL_law 528 = .ok (.iconst 1, 1) := by decide +kernel
theorem dL_law_529 : decode cL_law 529 = .ok (.iadd, 1) := by decide +kernel
theorem dL_law_530 : decode cL_law 530 = .ok (.iaload, 1) := by decide +kernel
theorem dL_law_531 : decode cL_law 531 = .ok (.invokevirtual 84, 3) := by decide +kernel
theorem dL_law_534 : decode cL_law 534 = .ok (.aload_n 2, 1) := by decide +kernel
theorem dL_law_535 : decode cL_law 535 = .ok (.aload_n 0, 1) := by decide +kernel
theorem dL_law_536 : decode cL_law 536 = .ok (.iload_n 3, 1) := by decide +kernel
theorem dL_law_537 : decode cL_law 537 = .ok (.iconst 1, 1) := by decide +kernel
theorem dL_law_538 : decode cL_law 538 = .ok (.iadd, 1) := by decide +kernel
theorem dL_law_539 : decode cL_law 539 = .ok (.iaload, 1) := by decide +kernel
theorem dL_law_540 : decode cL_law 540 = .ok (.invokevirtual 87, 3) := by decide +kernel
theorem dL_law_543 : decode cL_law 543 = .ok (.if_icmp .eq 28, 3) := by decide +kernel
theorem dL_law_546 : decode cL_law 546 = .ok (.iconst 0, 1) := by decide +kernel
theorem dL_law_547 : decode cL_law 547 = .ok (.ireturn, 1) := by decide +kernel
theorem dL_law_548 : decode cL_law 548 = .ok (.aload_n 1, 1) := by decide +kernel
theorem dL_law_549 : decode cL_law 549 = .ok (.aload_n 0, 1) := by decide +kernel
theorem dL_law_550 : decode cL_law 550 = .ok (.iload_n 3, 1) := by decide +kernel
theorem dL_law_551 : decode cL_law 551 = .ok (.iconst 1, 1) := by decide +kernel
theorem dL_law_552 : decode cL_law 552 = .ok (.iadd, 1) := by decide +kernel
theorem dL_law_553 : decode cL_law 553 = .ok (.iaload, 1) := by decide +kernel
theorem dL_law_554 : decode cL_law 554 = .ok (.invokevirtual 88, 3) := by decide +kernel
theorem dL_law_557 : decode cL_law 557 = .ok (.aload_n 2, 1) := by decide +kernel
theorem dL_law_558 : decode cL_law 558 = .ok (.aload_n 0, 1) := by decide +kernel
theorem dL_law_559 : decode cL_law 559 = .ok (.iload_n 3, 1) := by decide +kernel
theorem dL_law_560 : decode cL_law 560 = .ok (.iconst 1, 1) := by decide +kernel
theorem dL_law_561 : decode cL_law 561 = .ok (.iadd, 1) := by decide +kernel
theorem dL_law_562 : decode cL_law 562 = .ok (.iaload, 1) := by decide +kernel
theorem dL_law_563 : decode cL_law 563 = .ok (.invokevirtual 91, 3) := by decide +kernel
theorem dL_law_566 : decode cL_law 566 = .ok (.if_icmp .eq 5, 3) := by decide +kernel
theorem dL_law_569 : decode cL_law 569 = .ok (.iconst 0, 1) := by decide +kernel
theorem dL_law_570 : decode cL_law 570 = .ok (.ireturn, 1) := by decide +kernel
theorem dL_law_571 : decode cL_law 571 = .ok (.iinc 3 3, 3) := by decide +kernel
theorem dL_law_574 : decode cL_law 574 = .ok (.goto (-556), 3) := by decide +kernel
theorem dL_law_577 : decode cL_law 577 = .ok (.iconst 1, 1) := by decide +kernel
theorem dL_law_578 : decode cL_law 578 = .ok (.ireturn, 1) := by decide +kernel
end
section
/-! V: a judgement over W in which the world is one memory of numbered rows. Cell numbers (ids): 0 the object of the class; 1 Text, 2 letters, 3 numbers; 4 and 14 Circuit, their arrays behind them; 24, 27, 30 now, before, later (a Moment m: values m+1, wishes m+2); 33 past[], 34.. its Moments; 52 images[], 53, 56; 59 kept; 60 the Model, 61.. told draft now tried past images isKept leaves values text. 80+i the text constants, 90+i their bytes, 97 FIRST_PERIODS, 99 the script. -/
abbrev vM : Type := Nat → Nat → Int32
abbrev vZ : Type := (Nat → Nat) × va_G × (Nat → ClassId)
abbrev vK : Type := MethodName × ByteArray × Nat × Option FieldType × Nat × Nat × Option (Nat × (Nat → Int32))
def wg : List Cond := lw_tbl.filter goodWord
def isNst : Cond → Bool
  | .fieldLinkNest .. => true
  | .methodLinkNest .. => true
  | _ => false
def nw : List Cond := tables_1.filter isNst
def kdL : List (Nat × Nat) := [(3, 0), (2, 0), (11, 160), (10, 3),
  (0, 0), (10, 16), (10, 16), (10, 48), (10, 16), (10, 16), (10, 16), (10, 16), (10, 16), (10, 3),
  (0, 0), (10, 16), (10, 16), (10, 48), (10, 16), (10, 16), (10, 16), (10, 16), (10, 16), (10, 3),
  (1, 0), (10, 16), (10, 16), (1, 0), (10, 16), (10, 16), (1, 0), (10, 16), (10, 16),
  (13, 6), (1, 0), (10, 16), (10, 16), (1, 0), (10, 16), (10, 16), (1, 0), (10, 16), (10, 16), (1, 0), (10, 16), (10, 16), (1, 0), (10, 16), (10, 16), (1, 0), (10, 16), (10, 16),
  (13, 2), (1, 0), (10, 16), (10, 16), (1, 0), (10, 16), (10, 16), (12, 2),
  (4, 0), (10, 97), (10, 97), (10, 36), (10, 36), (10, 216), (10, 72), (12, 2), (10, 16), (10, 16), (10, 160)]
def kdc (i : Nat) : Nat := (kdL.getD i (99, 0)).1
def szc (i : Nat) : Nat := (kdL.getD i (99, 0)).2
def ftL : List (List Nat) := [[0, 0, 3, 4, 5, 6, 7, 8, 9, 10, 11], [0, 0, 0, 0, 3, 4], [3, 0, 0, 0, 0, 0, 4], [3, 1, 1, 26, 35, 0, 54, 61, 29, 32], [3, 4, 5, 6, 7, 0, 8, 9, 10, 11, 12, 0, 0, 0, 0, 0, 0]]
def ftg (ci j : Nat) : Nat := (ftL.getD ci []).getD j 0
def Ncl (ci : Nat) : Nat := [11, 6, 7, 10, 17].getD ci 0
def fvl (f : Nat → Nat) (M : vM) (i tag j : Nat) : Value := match tag with
  | 0 => .int (M i j)
  | 1 => .ref (f (M i j).toNatClampNeg)
  | n + 2 => .ref (f (i + n))
def flds (f : Nat → Nat) (M : vM) (i ci : Nat) : List Value := (List.range (Ncl ci)).map (fun j => fvl f M i (ftg ci j) j)
def cellE (Z : vZ) (M : vM) (i : Nat) : va_E :=
  if kdc i < 10 then .inr (kdc i, flds Z.1 M i (kdc i))
  else if kdc i = 13 then .inl (Z.2.2 13, szc i, .inr (.inr (.inr (.inr (fun j => some (Z.1 (M i j).toNatClampNeg))))))
  else .inl (Z.2.2 (kdc i), szc i, .inl (M i))
def wl (Z : vZ) (M : vM) : va_W := (List.range 71).map (fun i => (Z.1 i, cellE Z M i))
def mv (f : Nat → Nat) : Value → Value
  | .ref k => .ref (f k)
  | v => v
theorem mv_cat (f : Nat → Nat) (v : Value) : (mv f v).category = v.category := by cases v <;> rfl
def ml (f : Nat → Nat) (q : Nat × Value) : Nat × Value := (q.1, mv f q.2)
def mup (M : vM) (a b : Nat) (x : Int32) : vM := fun i => if i = a then upd (M i) b x else M i
def mrow (M : vM) (a : Nat) (f : Nat → Int32) : vM := fun i => if i = a then f else M i
theorem wl_get (Z : vZ) (M : vM) {i : Nat} (h : i < 71) : (wl Z M)[i]? = some (Z.1 i, cellE Z M i) := by
  unfold wl
  rw [List.getElem?_map, List.getElem?_range h]
  rfl
theorem cellE_congr (Z : vZ) {M M' : vM} {i : Nat} (h : M' i = M i) : cellE Z M' i = cellE Z M i := by
  have e : ∀ ci, flds Z.1 M' i ci = flds Z.1 M i ci := by
    intro ci
    unfold flds
    apply List.map_congr_left
    intro j _
    unfold fvl
    rw [h]
  unfold cellE
  rw [e, h]
theorem wl_set (Z : vZ) {M M' : vM} {i : Nat} (h : i < 71) (hM : ∀ j, j ≠ i → M' j = M j) {e : va_E} (he : e = cellE Z M' i) : (wl Z M).set i (Z.1 i, e) = wl Z M' := by
  subst he
  apply List.ext_getElem?
  intro j
  by_cases hj : j = i
  · subst hj
    rw [List.getElem?_set_self (by simp [wl]; exact h), wl_get Z M' h]
  · rw [List.getElem?_set_ne (Ne.symm hj)]
    by_cases h7 : j < 71
    · rw [wl_get Z M h7, wl_get Z M' h7, cellE_congr Z (hM j hj)]
    · rw [List.getElem?_eq_none (by simp [wl]; omega), List.getElem?_eq_none (by simp [wl]; omega)]
theorem wl_D {Z : vZ} {A : Nat → Prop} (M : vM) (hi : ∀ i j, i < 71 → j < 71 → Z.1 i = Z.1 j → i = j) (hA : ∀ i, i < 71 → A (Z.1 i)) : va_D A (wl Z M) := by
  have key : ∀ (i : Nat) (q : Nat × va_E), (wl Z M)[i]? = some q → i < 71 ∧ q.1 = Z.1 i := by
    intro i q hq
    have h7 : i < 71 := by
      have := (List.getElem?_eq_some_iff.mp hq).1
      simpa [wl] using this
    rw [wl_get Z M h7] at hq
    cases hq
    exact ⟨h7, rfl⟩
  refine ⟨fun i j p q hp hq e => ?_, fun k q hq => ?_⟩
  · obtain ⟨a1, a2⟩ := key i p hp
    obtain ⟨b1, b2⟩ := key j q hq
    exact hi i j a1 b1 (by rw [← a2, ← b2]; exact e)
  · obtain ⟨a1, a2⟩ := key k q hq
    rw [a2]
    exact hA k a1
theorem mup_ne {M : vM} {a b i : Nat} {x : Int32} (h : i ≠ a) : mup M a b x i = M i := if_neg h
theorem mup_eq {M : vM} {a b : Nat} {x : Int32} : mup M a b x a = upd (M a) b x := if_pos rfl
theorem mrow_ne {M : vM} {a i : Nat} {f : Nat → Int32} (h : i ≠ a) : mrow M a f i = M i := if_neg h
theorem mrow_eq {M : vM} {a : Nat} {f : Nat → Int32} : mrow M a f a = f := if_pos rfl
def tys (Z : vZ) : List (ClassId × FieldType) := [(Z.2.2 10, .int), (Z.2.2 11, .char), (Z.2.2 12, .boolean), (Z.2.2 13, .object "ClockCrossings$Moment")]
def xper (j : Nat) : Int32 := [2, 3, 5].getD j 0
def xlen : List Nat := [1, 2, 2, 3, 2, 2, 0]
def xbyt : List (List Int32) := [[67], [67, 78], [78, 78], [78, 78, 78], [67, 80], [76, 77], []]
def xtxt : List String := ["C", "CN", "NN", "NNN", "CP", "LM", ""]
/-- what lies outside the world and stays: FIRST_PERIODS, the text constants -/
def xE (Z : vZ) (A : Nat → Prop) (s : State) : Prop :=
  va_Z "ClockCrossings" "FIRST_PERIODS" "[I" (.ref (Z.1 97)) A s s.heap ∧ va_T .int (Z.1 97) 3 (fun j => .int (xper j)) A s s.heap ∧
  vk_S 7 xlen xbyt (fun i => Z.1 (80 + i)) (fun i => Z.1 (90 + i)) A s s.heap ∧
  (∀ i, i < 7 → vk_R "ClockCrossings$Text" (80 + 2 * i) (xtxt.getD i "") (Z.1 (80 + i)) s) ∧
  va_Z "java/lang/String" "COMPACT_STRINGS" "Z" (.int 1) A s s.heap
def xS (k : vK) (Z : vZ) (A : Nat → Prop) (s : State) : Prop := match k.2.2.2.2.2.2 with
  | none => True
  | some (L, xs) => va_T .int (Z.1 99) L (fun j => .int (xs j)) A s s.heap
/-- the standing facts of a walk -/
def vC (k : vK) (Z : vZ) (A : Nat → Prop) (p : Program) (R : Room) (s : State) (m : MethodId) (args : Array Value) (c : Code) (cells slots : Nat) : Prop :=
  p.tables.exec = Jvm.exec ∧ c.code = k.2.1 ∧ c.maxLocals = k.2.2.1 ∧ s.vm.findClass k.1.cls = some m.cls ∧ (∀ w ∈ wg, w.before args s = true) ∧ (∀ w ∈ nw, va_Nw w s) ∧ va_K Z.2.1 vwCl (tys Z) s ∧
  (k.2.2.2.2.1 ≤ R.frames ∧ k.2.2.2.2.2.1 ≤ R.locals ∧ cells ≤ R.cells ∧ slots ≤ R.slots) ∧ (∀ i j, i < 71 → j < 71 → Z.1 i = Z.1 j → i = j) ∧ (∀ i, i < 71 → A (Z.1 i)) ∧ xE Z A s ∧ xS k Z A s
/-- which return gives which answer -/
def retD (k : vK) (pc : Nat) (v : Option Value) : Prop := match v with
  | none => decode k.2.1 pc = .ok (.return_, 1) ∧ k.2.2.2.1 = none
  | some (.int x) => decode k.2.1 pc = .ok (.ireturn, 1) ∧ ∃ ty, k.2.2.2.1 = some ty ∧ narrow ty (.int x) = .int x
  | some (.float _) => decode k.2.1 pc = .ok (.freturn, 1) ∧ k.2.2.2.1 = some .float
  | some (.ref _) => decode k.2.1 pc = .ok (.areturn, 1) ∧ ∃ n, k.2.2.2.1 = some (.object n)
  | _ => False
def V (k : vK) (Q : Option Value → vM → Prop) (M : vM) (pc : Nat) (lv : List (Nat × Value)) (st : List Value) : Prop :=
  ∀ (Z : vZ) (A : Nat → Prop) (p : Program) (l : Launch) (e : Env) (R : Room) (s : State) (m : MethodId) (args : Array Value) (below : List Frame) (meth : Method) (c : Code) (cells slots : Nat) (Qw : State → Prop), vC k Z A p R s m args c cells slots →
  (∀ (v : Option Value) (M' : vM) (H : Heap) (locs : List Loc) (pc' : Nat) (ls : Array Slot), Q v M' → va_P Z.2.1 vwCl (wl Z M') H → va_S A s.heap H locs → retD k pc' v → W p l e R s m args below meth c H locs cells slots Qw (F0 m pc' ls (v.toList.map (mv Z.1)))) →
  ∀ (H : Heap) (locs : List Loc) (ls : Array Slot), va_P Z.2.1 vwCl (wl Z M) H → va_S A s.heap H locs → lv_has ls k.2.2.1 (lv.map (ml Z.1)) → W p l e R s m args below meth c H locs cells slots Qw (F0 m pc ls (st.map (mv Z.1)))
/-- local variables: read and set -/
def lget : List (Nat × Value) → Nat → Option Value
  | [], _ => none
  | q :: t, i => bif Nat.beq q.1 i then some q.2 else lget t i
def lset (lv : List (Nat × Value)) (i : Nat) (v : Value) : List (Nat × Value) := lv.filter (fun q => Nat.blt q.1 i && !(Nat.beq q.2.category 2)) ++ (i, v) :: lv.filter (fun q => Nat.blt i q.1 && !(Nat.beq q.2.category 2))
theorem lget_mem : ∀ {lv : List (Nat × Value)} {i : Nat} {v : Value}, lget lv i = some v → (i, v) ∈ lv
  | [], _, _, h => by simp [lget] at h
  | q :: t, i, v, h => by
    unfold lget at h
    cases hq : Nat.beq q.1 i with
    | true =>
      rw [hq] at h
      have e := Nat.eq_of_beq_eq_true hq
      obtain ⟨a, b⟩ := q
      simp at h e
      subst h; subst e
      exact List.mem_cons_self
    | false =>
      rw [hq] at h
      exact List.mem_cons_of_mem _ (lget_mem h)
theorem lget_at {f : Nat → Nat} {ls : Array Slot} {n : Nat} {lv : List (Nat × Value)} {i : Nat} {v : Value} (hl : lv_has ls n (lv.map (ml f))) (h : lget lv i = some v) : ls[i]? = some (.val (mv f v)) :=
  hl.2.2 (i, mv f v) (List.mem_map.mpr ⟨(i, v), lget_mem h, rfl⟩)
theorem lset_has {f : Nat → Nat} {ls : Array Slot} {n : Nat} {lv : List (Nat × Value)} {i : Nat} {v : Value} (hl : lv_has ls n ((i, mv f v) :: (lv.map (ml f)).filter (fun q => !(q.1 == i) && !(q.1 + 1 == i && q.2.category == 2)))) : lv_has ls n ((lset lv i v).map (ml f)) := by
  refine ⟨hl.1, hl.2.1, fun q hq => ?_⟩
  obtain ⟨r, hr, rfl⟩ := List.mem_map.mp hq
  have old : ∀ r ∈ lv, r.1 ≠ i → Nat.beq r.2.category 2 = false → ls[(ml f r).1]? = some (.val (ml f r).2) := by
    intro r h1 h2 h3
    refine hl.2.2 _ (List.mem_cons_of_mem _ (List.mem_filter.mpr ⟨List.mem_map.mpr ⟨r, h1, rfl⟩, ?_⟩))
    have h4 : ¬ r.2.category = 2 := fun e => by rw [e] at h3; cases h3
    simp [ml, mv_cat, h2, h4]
  rcases List.mem_append.mp hr with h | h
  · obtain ⟨h1, h2⟩ := List.mem_filter.mp h
    simp only [Bool.and_eq_true, Bool.not_eq_true'] at h2
    have h3 : r.1 < i := by simpa [Nat.blt_eq] using h2.1
    exact old r h1 (by omega) h2.2
  · rcases List.mem_cons.mp h with rfl | h
    · exact hl.2.2 _ List.mem_cons_self
    · obtain ⟨h1, h2⟩ := List.mem_filter.mp h
      simp only [Bool.and_eq_true, Bool.not_eq_true'] at h2
      have h3 : i < r.1 := by simpa [Nat.blt_eq] using h2.1
      exact old r h1 (by omega) h2.2
/-- fewer locals -/
theorem v_sub {k : vK} {Q : Option Value → vM → Prop} {M : vM} {pc : Nat} {lv lv' : List (Nat × Value)} {st : List Value} (hs : ∀ q ∈ lv', lget lv q.1 = some q.2) (h : V k Q M pc lv' st) : V k Q M pc lv st := by
  intro Z A p l e R s m args below meth c cells slots Qw C Rt H locs ls hP hS hl
  refine h Z A p l e R s m args below meth c cells slots Qw C Rt H locs ls hP hS ⟨hl.1, hl.2.1, fun q hq => ?_⟩
  obtain ⟨r, hr, rfl⟩ := List.mem_map.mp hq
  exact lget_at hl (hs r hr)
/-- a weaker end -/
theorem v_post {k : vK} {Q Q' : Option Value → vM → Prop} {M : vM} {pc : Nat} {lv : List (Nat × Value)} {st : List Value} (hs : ∀ v M', Q' v M' → Q v M') (h : V k Q' M pc lv st) : V k Q M pc lv st := by
  intro Z A p l e R s m args below meth c cells slots Qw C Rt
  exact h Z A p l e R s m args below meth c cells slots Qw C (fun v M' H locs pc' ls hq => Rt v M' H locs pc' ls (hs v M' hq))
end
section
section V5
variable {k : vK} {Q : Option Value → vM → Prop} {M : vM} {pc : Nat} {lv lv' : List (Nat × Value)} {st : List Value}
theorem v_iconst {n : Int} {v : Int32} (d : decode k.2.1 pc = .ok (.iconst n, 1)) (hv : Int32.ofInt n = v) (h : V k Q M (pc + 1) lv (.int v :: st)) : V k Q M pc lv (st) := by
  intro Z A p l e R s m args below meth c cells slots Qw C Rt H locs ls hP hS hl
  exact lv_iconst C.1 C.2.1 d hv (h Z A p l e R s m args below meth c cells slots Qw C Rt H locs ls hP hS hl)
theorem v_bipush {n : Int} {v : Int32} (d : decode k.2.1 pc = .ok (.bipush n, 2)) (hv : (Int8.ofInt n).toInt32 = v) (h : V k Q M (pc + 2) lv (.int v :: st)) : V k Q M pc lv (st) := by
  intro Z A p l e R s m args below meth c cells slots Qw C Rt H locs ls hP hS hl
  exact lv_bipush C.1 C.2.1 d hv (h Z A p l e R s m args below meth c cells slots Qw C Rt H locs ls hP hS hl)
theorem v_sipush {n : Int} {v : Int32} (d : decode k.2.1 pc = .ok (.sipush n, 3)) (hv : (Int16.ofInt n).toInt32 = v) (h : V k Q M (pc + 3) lv (.int v :: st)) : V k Q M pc lv (st) := by
  intro Z A p l e R s m args below meth c cells slots Qw C Rt H locs ls hP hS hl
  exact lv_sipush C.1 C.2.1 d hv (h Z A p l e R s m args below meth c cells slots Qw C Rt H locs ls hP hS hl)
theorem v_iload_n {kk : Fin 4} {x : Int32} (d : decode k.2.1 pc = .ok (.iload_n kk, 1)) (hx : lget lv kk.val = some (.int x)) (h : V k Q M (pc + 1) lv (.int x :: st)) : V k Q M pc lv (st) := by
  intro Z A p l e R s m args below meth c cells slots Qw C Rt H locs ls hP hS hl
  exact lv_iload_n C.1 C.2.1 d rfl (lget_at hl hx) (h Z A p l e R s m args below meth c cells slots Qw C Rt H locs ls hP hS hl)
theorem v_iload {i : Nat} {x : Int32} (d : decode k.2.1 pc = .ok (.iload i, 2)) (hx : lget lv i = some (.int x)) (h : V k Q M (pc + 2) lv (.int x :: st)) : V k Q M pc lv (st) := by
  intro Z A p l e R s m args below meth c cells slots Qw C Rt H locs ls hP hS hl
  exact lv_iload C.1 C.2.1 d (lget_at hl hx) (h Z A p l e R s m args below meth c cells slots Qw C Rt H locs ls hP hS hl)
theorem v_istore_n {kk : Fin 4} {x : Int32} (d : decode k.2.1 pc = .ok (.istore_n kk, 1)) (hn : kk.val < k.2.2.1) (hl' : lset lv kk.val (.int x) = lv') (h : V k Q M (pc + 1) lv' st) : V k Q M pc lv (.int x :: st) := by
  intro Z A p l e R s m args below meth c cells slots Qw C Rt H locs ls hP hS hl
  subst hl'
  exact lv_istore_n C.1 C.2.1 d rfl hl hn rfl (fun ls hl => h Z A p l e R s m args below meth c cells slots Qw C Rt H locs ls hP hS (lset_has hl))
theorem v_istore {i : Nat} {x : Int32} (d : decode k.2.1 pc = .ok (.istore i, 2)) (hn : i < k.2.2.1) (hl' : lset lv i (.int x) = lv') (h : V k Q M (pc + 2) lv' st) : V k Q M pc lv (.int x :: st) := by
  intro Z A p l e R s m args below meth c cells slots Qw C Rt H locs ls hP hS hl
  subst hl'
  exact lv_istore C.1 C.2.1 d hl hn rfl (fun ls hl => h Z A p l e R s m args below meth c cells slots Qw C Rt H locs ls hP hS (lset_has hl))
theorem v_aload_n {kk : Fin 4} {x : Nat} (d : decode k.2.1 pc = .ok (.aload_n kk, 1)) (hx : lget lv kk.val = some (.ref x)) (h : V k Q M (pc + 1) lv (.ref x :: st)) : V k Q M pc lv (st) := by
  intro Z A p l e R s m args below meth c cells slots Qw C Rt H locs ls hP hS hl
  exact lv_aload_n C.1 C.2.1 d rfl (lget_at hl hx) (h Z A p l e R s m args below meth c cells slots Qw C Rt H locs ls hP hS hl)
theorem v_aload {i : Nat} {x : Nat} (d : decode k.2.1 pc = .ok (.aload i, 2)) (hx : lget lv i = some (.ref x)) (h : V k Q M (pc + 2) lv (.ref x :: st)) : V k Q M pc lv (st) := by
  intro Z A p l e R s m args below meth c cells slots Qw C Rt H locs ls hP hS hl
  exact lv_aload C.1 C.2.1 d (lget_at hl hx) (h Z A p l e R s m args below meth c cells slots Qw C Rt H locs ls hP hS hl)
theorem v_astore_n {kk : Fin 4} {x : Nat} (d : decode k.2.1 pc = .ok (.astore_n kk, 1)) (hn : kk.val < k.2.2.1) (hl' : lset lv kk.val (.ref x) = lv') (h : V k Q M (pc + 1) lv' st) : V k Q M pc lv (.ref x :: st) := by
  intro Z A p l e R s m args below meth c cells slots Qw C Rt H locs ls hP hS hl
  subst hl'
  exact lv_astore_n C.1 C.2.1 d rfl hl hn rfl (fun ls hl => h Z A p l e R s m args below meth c cells slots Qw C Rt H locs ls hP hS (lset_has hl))
theorem v_astore {i : Nat} {x : Nat} (d : decode k.2.1 pc = .ok (.astore i, 2)) (hn : i < k.2.2.1) (hl' : lset lv i (.ref x) = lv') (h : V k Q M (pc + 2) lv' st) : V k Q M pc lv (.ref x :: st) := by
  intro Z A p l e R s m args below meth c cells slots Qw C Rt H locs ls hP hS hl
  subst hl'
  exact lv_astore C.1 C.2.1 d hl hn rfl (fun ls hl => h Z A p l e R s m args below meth c cells slots Qw C Rt H locs ls hP hS (lset_has hl))
theorem v_fload_n {kk : Fin 4} {x : UInt32} (d : decode k.2.1 pc = .ok (.fload_n kk, 1)) (hx : lget lv kk.val = some (.float x)) (h : V k Q M (pc + 1) lv (.float x :: st)) : V k Q M pc lv (st) := by
  intro Z A p l e R s m args below meth c cells slots Qw C Rt H locs ls hP hS hl
  exact lv_fload_n C.1 C.2.1 d rfl (lget_at hl hx) (h Z A p l e R s m args below meth c cells slots Qw C Rt H locs ls hP hS hl)
theorem v_fload {i : Nat} {x : UInt32} (d : decode k.2.1 pc = .ok (.fload i, 2)) (hx : lget lv i = some (.float x)) (h : V k Q M (pc + 2) lv (.float x :: st)) : V k Q M pc lv (st) := by
  intro Z A p l e R s m args below meth c cells slots Qw C Rt H locs ls hP hS hl
  exact lv_fload C.1 C.2.1 d (lget_at hl hx) (h Z A p l e R s m args below meth c cells slots Qw C Rt H locs ls hP hS hl)
theorem v_fstore_n {kk : Fin 4} {x : UInt32} (d : decode k.2.1 pc = .ok (.fstore_n kk, 1)) (hn : kk.val < k.2.2.1) (hl' : lset lv kk.val (.float x) = lv') (h : V k Q M (pc + 1) lv' st) : V k Q M pc lv (.float x :: st) := by
  intro Z A p l e R s m args below meth c cells slots Qw C Rt H locs ls hP hS hl
  subst hl'
  exact lv_fstore_n C.1 C.2.1 d rfl hl hn rfl (fun ls hl => h Z A p l e R s m args below meth c cells slots Qw C Rt H locs ls hP hS (lset_has hl))
theorem v_fstore {i : Nat} {x : UInt32} (d : decode k.2.1 pc = .ok (.fstore i, 2)) (hn : i < k.2.2.1) (hl' : lset lv i (.float x) = lv') (h : V k Q M (pc + 2) lv' st) : V k Q M pc lv (.float x :: st) := by
  intro Z A p l e R s m args below meth c cells slots Qw C Rt H locs ls hP hS hl
  subst hl'
  exact lv_fstore C.1 C.2.1 d hl hn rfl (fun ls hl => h Z A p l e R s m args below meth c cells slots Qw C Rt H locs ls hP hS (lset_has hl))
theorem v_iinc {i : Nat} {n : Int} {x v : Int32} (d : decode k.2.1 pc = .ok (.iinc i n, 3)) (hx : lget lv i = some (.int x)) (hv : x + Int32.ofInt n = v) (hn : i < k.2.2.1) (hl' : lset lv i (.int v) = lv') (h : V k Q M (pc + 3) lv' st) : V k Q M pc lv st := by
  intro Z A p l e R s m args below meth c cells slots Qw C Rt H locs ls hP hS hl
  subst hl'
  obtain ⟨j, hj⟩ := List.getElem?_of_mem (List.mem_map.mpr ⟨(i, Value.int x), lget_mem hx, rfl⟩ : ml Z.1 (i, Value.int x) ∈ lv.map (ml Z.1))
  exact lv_iinc C.1 C.2.1 d hl hj hv hn rfl (fun ls hl => h Z A p l e R s m args below meth c cells slots Qw C Rt H locs ls hP hS (lset_has (v := .int v) hl))
theorem v_iadd {x y : Int32} (d : decode k.2.1 pc = .ok (.iadd, 1)) (h : V k Q M (pc + 1) lv (.int (x + y) :: st)) : V k Q M pc lv (.int y :: .int x :: st) := by
  intro Z A p l e R s m args below meth c cells slots Qw C Rt H locs ls hP hS hl
  exact lv_iadd C.1 C.2.1 d (h Z A p l e R s m args below meth c cells slots Qw C Rt H locs ls hP hS hl)
theorem v_isub {x y : Int32} (d : decode k.2.1 pc = .ok (.isub, 1)) (h : V k Q M (pc + 1) lv (.int (x - y) :: st)) : V k Q M pc lv (.int y :: .int x :: st) := by
  intro Z A p l e R s m args below meth c cells slots Qw C Rt H locs ls hP hS hl
  exact lv_isub C.1 C.2.1 d (h Z A p l e R s m args below meth c cells slots Qw C Rt H locs ls hP hS hl)
theorem v_imul {x y : Int32} (d : decode k.2.1 pc = .ok (.imul, 1)) (h : V k Q M (pc + 1) lv (.int (x * y) :: st)) : V k Q M pc lv (.int y :: .int x :: st) := by
  intro Z A p l e R s m args below meth c cells slots Qw C Rt H locs ls hP hS hl
  exact lv_imul C.1 C.2.1 d (h Z A p l e R s m args below meth c cells slots Qw C Rt H locs ls hP hS hl)
theorem v_iand {x y : Int32} (d : decode k.2.1 pc = .ok (.iand, 1)) (h : V k Q M (pc + 1) lv (.int (x &&& y) :: st)) : V k Q M pc lv (.int y :: .int x :: st) := by
  intro Z A p l e R s m args below meth c cells slots Qw C Rt H locs ls hP hS hl
  exact lv_iand C.1 C.2.1 d (h Z A p l e R s m args below meth c cells slots Qw C Rt H locs ls hP hS hl)
theorem v_ior {x y : Int32} (d : decode k.2.1 pc = .ok (.ior, 1)) (h : V k Q M (pc + 1) lv (.int (x ||| y) :: st)) : V k Q M pc lv (.int y :: .int x :: st) := by
  intro Z A p l e R s m args below meth c cells slots Qw C Rt H locs ls hP hS hl
  exact lv_ior C.1 C.2.1 d (h Z A p l e R s m args below meth c cells slots Qw C Rt H locs ls hP hS hl)
theorem v_ixor {x y : Int32} (d : decode k.2.1 pc = .ok (.ixor, 1)) (h : V k Q M (pc + 1) lv (.int (x ^^^ y) :: st)) : V k Q M pc lv (.int y :: .int x :: st) := by
  intro Z A p l e R s m args below meth c cells slots Qw C Rt H locs ls hP hS hl
  exact lv_ixor C.1 C.2.1 d (h Z A p l e R s m args below meth c cells slots Qw C Rt H locs ls hP hS hl)
theorem v_ishl {x y : Int32} (d : decode k.2.1 pc = .ok (.ishl, 1)) (h : V k Q M (pc + 1) lv (.int (x <<< (y &&& 31)) :: st)) : V k Q M pc lv (.int y :: .int x :: st) := by
  intro Z A p l e R s m args below meth c cells slots Qw C Rt H locs ls hP hS hl
  exact lv_ishl C.1 C.2.1 d (h Z A p l e R s m args below meth c cells slots Qw C Rt H locs ls hP hS hl)
theorem v_ishr {x y : Int32} (d : decode k.2.1 pc = .ok (.ishr, 1)) (h : V k Q M (pc + 1) lv (.int (x >>> (y &&& 31)) :: st)) : V k Q M pc lv (.int y :: .int x :: st) := by
  intro Z A p l e R s m args below meth c cells slots Qw C Rt H locs ls hP hS hl
  exact lv_ishr C.1 C.2.1 d (h Z A p l e R s m args below meth c cells slots Qw C Rt H locs ls hP hS hl)
theorem v_irem {x y : Int32} (d : decode k.2.1 pc = .ok (.irem, 1)) (hy : ¬ y = 0) (h : V k Q M (pc + 1) lv (.int (x - x / y * y) :: st)) : V k Q M pc lv (.int y :: .int x :: st) := by
  intro Z A p l e R s m args below meth c cells slots Qw C Rt H locs ls hP hS hl
  exact lv_irem C.1 C.2.1 d hy (h Z A p l e R s m args below meth c cells slots Qw C Rt H locs ls hP hS hl)
theorem v_iushr {x y v : Int32} (d : decode k.2.1 pc = .ok (.iushr, 1)) (hv : (x.toUInt32 >>> (y.toUInt32 &&& Int32.toUInt32 31)).toInt32 = v) (h : V k Q M (pc + 1) lv (.int v :: st)) : V k Q M pc lv (.int y :: .int x :: st) := by
  intro Z A p l e R s m args below meth c cells slots Qw C Rt H locs ls hP hS hl
  exact lv_iushr C.1 C.2.1 d hv (h Z A p l e R s m args below meth c cells slots Qw C Rt H locs ls hP hS hl)
theorem v_i2c {x v : Int32} (d : decode k.2.1 pc = .ok (.i2c, 1)) (hv : (x.toUInt32 % 65536).toInt32 = v) (h : V k Q M (pc + 1) lv (.int v :: st)) : V k Q M pc lv (.int x :: st) := by
  intro Z A p l e R s m args below meth c cells slots Qw C Rt H locs ls hP hS hl
  exact lv_i2c C.1 C.2.1 d hv (h Z A p l e R s m args below meth c cells slots Qw C Rt H locs ls hP hS hl)
theorem v_dup {va : Value} (d : decode k.2.1 pc = .ok (.dup, 1)) (hc : va.category = 1) (h : V k Q M (pc + 1) lv (va :: va :: st)) : V k Q M pc lv (va :: st) := by
  intro Z A p l e R s m args below meth c cells slots Qw C Rt H locs ls hP hS hl
  exact lv_dup C.1 C.2.1 d ((mv_cat Z.1 va).trans hc) (h Z A p l e R s m args below meth c cells slots Qw C Rt H locs ls hP hS hl)
theorem v_pop {va : Value} (d : decode k.2.1 pc = .ok (.pop, 1)) (hc : va.category = 1) (h : V k Q M (pc + 1) lv (st)) : V k Q M pc lv (va :: st) := by
  intro Z A p l e R s m args below meth c cells slots Qw C Rt H locs ls hP hS hl
  exact lv_pop C.1 C.2.1 d ((mv_cat Z.1 va).trans hc) (h Z A p l e R s m args below meth c cells slots Qw C Rt H locs ls hP hS hl)
theorem v_dup2 {va vb : Value} (d : decode k.2.1 pc = .ok (.dup2, 1)) (hc : va.category = 1) (hd : vb.category = 1) (h : V k Q M (pc + 1) lv (va :: vb :: va :: vb :: st)) : V k Q M pc lv (va :: vb :: st) := by
  intro Z A p l e R s m args below meth c cells slots Qw C Rt H locs ls hP hS hl
  exact lv_dup2_11 C.1 C.2.1 d ((mv_cat Z.1 va).trans hc) ((mv_cat Z.1 vb).trans hd) (h Z A p l e R s m args below meth c cells slots Qw C Rt H locs ls hP hS hl)
theorem v_if_eq {x : Int32} {off : Int} {tgt : Nat} (d : decode k.2.1 pc = .ok (.ifCond .eq off, 3)) (ht : (pc : Int) + off = (tgt : Int)) (kt : x = 0 → V k Q M tgt lv st) (kf : ¬ x = 0 → V k Q M (pc + 3) lv st) : V k Q M pc lv (.int x :: st) := by
  intro Z A p l e R s m args below meth c cells slots Qw C Rt H locs ls hP hS hl
  exact lv_if_eq C.1 C.2.1 d ht (fun q => kt q Z A p l e R s m args below meth c cells slots Qw C Rt H locs ls hP hS hl) (fun q => kf q Z A p l e R s m args below meth c cells slots Qw C Rt H locs ls hP hS hl)
theorem v_icmp_eq {x y : Int32} {off : Int} {tgt : Nat} (d : decode k.2.1 pc = .ok (.if_icmp .eq off, 3)) (ht : (pc : Int) + off = (tgt : Int)) (kt : x = y → V k Q M tgt lv st) (kf : ¬ x = y → V k Q M (pc + 3) lv st) : V k Q M pc lv (.int y :: .int x :: st) := by
  intro Z A p l e R s m args below meth c cells slots Qw C Rt H locs ls hP hS hl
  exact lv_icmp_eq C.1 C.2.1 d ht (fun q => kt q Z A p l e R s m args below meth c cells slots Qw C Rt H locs ls hP hS hl) (fun q => kf q Z A p l e R s m args below meth c cells slots Qw C Rt H locs ls hP hS hl)
theorem v_if_ne {x : Int32} {off : Int} {tgt : Nat} (d : decode k.2.1 pc = .ok (.ifCond .ne off, 3)) (ht : (pc : Int) + off = (tgt : Int)) (kt : ¬ x = 0 → V k Q M tgt lv st) (kf : x = 0 → V k Q M (pc + 3) lv st) : V k Q M pc lv (.int x :: st) := by
  intro Z A p l e R s m args below meth c cells slots Qw C Rt H locs ls hP hS hl
  exact lv_if_ne C.1 C.2.1 d ht (fun q => kt q Z A p l e R s m args below meth c cells slots Qw C Rt H locs ls hP hS hl) (fun q => kf q Z A p l e R s m args below meth c cells slots Qw C Rt H locs ls hP hS hl)
theorem v_icmp_ne {x y : Int32} {off : Int} {tgt : Nat} (d : decode k.2.1 pc = .ok (.if_icmp .ne off, 3)) (ht : (pc : Int) + off = (tgt : Int)) (kt : ¬ x = y → V k Q M tgt lv st) (kf : x = y → V k Q M (pc + 3) lv st) : V k Q M pc lv (.int y :: .int x :: st) := by
  intro Z A p l e R s m args below meth c cells slots Qw C Rt H locs ls hP hS hl
  exact lv_icmp_ne C.1 C.2.1 d ht (fun q => kt q Z A p l e R s m args below meth c cells slots Qw C Rt H locs ls hP hS hl) (fun q => kf q Z A p l e R s m args below meth c cells slots Qw C Rt H locs ls hP hS hl)
theorem v_if_lt {x : Int32} {off : Int} {tgt : Nat} (d : decode k.2.1 pc = .ok (.ifCond .lt off, 3)) (ht : (pc : Int) + off = (tgt : Int)) (kt : x < 0 → V k Q M tgt lv st) (kf : ¬ x < 0 → V k Q M (pc + 3) lv st) : V k Q M pc lv (.int x :: st) := by
  intro Z A p l e R s m args below meth c cells slots Qw C Rt H locs ls hP hS hl
  exact lv_if_lt C.1 C.2.1 d ht (fun q => kt q Z A p l e R s m args below meth c cells slots Qw C Rt H locs ls hP hS hl) (fun q => kf q Z A p l e R s m args below meth c cells slots Qw C Rt H locs ls hP hS hl)
theorem v_icmp_lt {x y : Int32} {off : Int} {tgt : Nat} (d : decode k.2.1 pc = .ok (.if_icmp .lt off, 3)) (ht : (pc : Int) + off = (tgt : Int)) (kt : x < y → V k Q M tgt lv st) (kf : ¬ x < y → V k Q M (pc + 3) lv st) : V k Q M pc lv (.int y :: .int x :: st) := by
  intro Z A p l e R s m args below meth c cells slots Qw C Rt H locs ls hP hS hl
  exact lv_icmp_lt C.1 C.2.1 d ht (fun q => kt q Z A p l e R s m args below meth c cells slots Qw C Rt H locs ls hP hS hl) (fun q => kf q Z A p l e R s m args below meth c cells slots Qw C Rt H locs ls hP hS hl)
theorem v_if_ge {x : Int32} {off : Int} {tgt : Nat} (d : decode k.2.1 pc = .ok (.ifCond .ge off, 3)) (ht : (pc : Int) + off = (tgt : Int)) (kt : 0 ≤ x → V k Q M tgt lv st) (kf : ¬ 0 ≤ x → V k Q M (pc + 3) lv st) : V k Q M pc lv (.int x :: st) := by
  intro Z A p l e R s m args below meth c cells slots Qw C Rt H locs ls hP hS hl
  exact lv_if_ge C.1 C.2.1 d ht (fun q => kt q Z A p l e R s m args below meth c cells slots Qw C Rt H locs ls hP hS hl) (fun q => kf q Z A p l e R s m args below meth c cells slots Qw C Rt H locs ls hP hS hl)
theorem v_icmp_ge {x y : Int32} {off : Int} {tgt : Nat} (d : decode k.2.1 pc = .ok (.if_icmp .ge off, 3)) (ht : (pc : Int) + off = (tgt : Int)) (kt : y ≤ x → V k Q M tgt lv st) (kf : ¬ y ≤ x → V k Q M (pc + 3) lv st) : V k Q M pc lv (.int y :: .int x :: st) := by
  intro Z A p l e R s m args below meth c cells slots Qw C Rt H locs ls hP hS hl
  exact lv_icmp_ge C.1 C.2.1 d ht (fun q => kt q Z A p l e R s m args below meth c cells slots Qw C Rt H locs ls hP hS hl) (fun q => kf q Z A p l e R s m args below meth c cells slots Qw C Rt H locs ls hP hS hl)
theorem v_if_gt {x : Int32} {off : Int} {tgt : Nat} (d : decode k.2.1 pc = .ok (.ifCond .gt off, 3)) (ht : (pc : Int) + off = (tgt : Int)) (kt : 0 < x → V k Q M tgt lv st) (kf : ¬ 0 < x → V k Q M (pc + 3) lv st) : V k Q M pc lv (.int x :: st) := by
  intro Z A p l e R s m args below meth c cells slots Qw C Rt H locs ls hP hS hl
  exact lv_if_gt C.1 C.2.1 d ht (fun q => kt q Z A p l e R s m args below meth c cells slots Qw C Rt H locs ls hP hS hl) (fun q => kf q Z A p l e R s m args below meth c cells slots Qw C Rt H locs ls hP hS hl)
theorem v_icmp_gt {x y : Int32} {off : Int} {tgt : Nat} (d : decode k.2.1 pc = .ok (.if_icmp .gt off, 3)) (ht : (pc : Int) + off = (tgt : Int)) (kt : y < x → V k Q M tgt lv st) (kf : ¬ y < x → V k Q M (pc + 3) lv st) : V k Q M pc lv (.int y :: .int x :: st) := by
  intro Z A p l e R s m args below meth c cells slots Qw C Rt H locs ls hP hS hl
  exact lv_icmp_gt C.1 C.2.1 d ht (fun q => kt q Z A p l e R s m args below meth c cells slots Qw C Rt H locs ls hP hS hl) (fun q => kf q Z A p l e R s m args below meth c cells slots Qw C Rt H locs ls hP hS hl)
theorem v_if_le {x : Int32} {off : Int} {tgt : Nat} (d : decode k.2.1 pc = .ok (.ifCond .le off, 3)) (ht : (pc : Int) + off = (tgt : Int)) (kt : x ≤ 0 → V k Q M tgt lv st) (kf : ¬ x ≤ 0 → V k Q M (pc + 3) lv st) : V k Q M pc lv (.int x :: st) := by
  intro Z A p l e R s m args below meth c cells slots Qw C Rt H locs ls hP hS hl
  exact lv_if_le C.1 C.2.1 d ht (fun q => kt q Z A p l e R s m args below meth c cells slots Qw C Rt H locs ls hP hS hl) (fun q => kf q Z A p l e R s m args below meth c cells slots Qw C Rt H locs ls hP hS hl)
theorem v_icmp_le {x y : Int32} {off : Int} {tgt : Nat} (d : decode k.2.1 pc = .ok (.if_icmp .le off, 3)) (ht : (pc : Int) + off = (tgt : Int)) (kt : x ≤ y → V k Q M tgt lv st) (kf : ¬ x ≤ y → V k Q M (pc + 3) lv st) : V k Q M pc lv (.int y :: .int x :: st) := by
  intro Z A p l e R s m args below meth c cells slots Qw C Rt H locs ls hP hS hl
  exact lv_icmp_le C.1 C.2.1 d ht (fun q => kt q Z A p l e R s m args below meth c cells slots Qw C Rt H locs ls hP hS hl) (fun q => kf q Z A p l e R s m args below meth c cells slots Qw C Rt H locs ls hP hS hl)
theorem v_goto {off : Int} {tgt : Nat} (d : decode k.2.1 pc = .ok (.goto off, 3)) (ht : (pc : Int) + off = (tgt : Int)) (h : V k Q M tgt lv st) : V k Q M pc lv st := by
  intro Z A p l e R s m args below meth c cells slots Qw C Rt H locs ls hP hS hl
  exact lv_goto C.1 C.2.1 d ht (h Z A p l e R s m args below meth c cells slots Qw C Rt H locs ls hP hS hl)
theorem v_tabOut {dflt lo hi : Int} {offs : Array Int} {len : Nat} {x : Int32} {tgt : Nat} (d : decode k.2.1 pc = .ok (.tableswitch dflt lo hi offs, len)) (hx : x.toInt < lo ∨ hi < x.toInt) (ht : (pc : Int) + dflt = (tgt : Int)) (h : V k Q M tgt lv st) : V k Q M pc lv (.int x :: st) := by
  intro Z A p l e R s m args below meth c cells slots Qw C Rt H locs ls hP hS hl
  exact lv_tableOut C.1 C.2.1 d hx ht (h Z A p l e R s m args below meth c cells slots Qw C Rt H locs ls hP hS hl)
theorem v_tabIn {dflt lo hi : Int} {offs : Array Int} {len : Nat} {x : Int32} {off : Int} {tgt : Nat} (d : decode k.2.1 pc = .ok (.tableswitch dflt lo hi offs, len)) (h1 : ¬ x.toInt < lo) (h2 : ¬ hi < x.toInt) (ho : offs[(x.toInt - lo).toNat]? = some off) (ht : (pc : Int) + off = (tgt : Int)) (h : V k Q M tgt lv st) : V k Q M pc lv (.int x :: st) := by
  intro Z A p l e R s m args below meth c cells slots Qw C Rt H locs ls hP hS hl
  exact lv_tableIn C.1 C.2.1 d h1 h2 ho ht (h Z A p l e R s m args below meth c cells slots Qw C Rt H locs ls hP hS hl)
theorem v_lookup {dflt : Int} {ps : Array (Int × Int)} {len : Nat} {x : Int32} {off : Int} {tgt : Nat} (d : decode k.2.1 pc = .ok (.lookupswitch dflt ps, len)) (hp : (ps.toList.zip (ps.toList.drop 1)).all (fun (a, next) => a.1 < next.1) = true) (ho : Op.lookupswitch.offset ps.toList dflt x.toInt = off) (ht : (pc : Int) + off = (tgt : Int)) (h : V k Q M tgt lv st) : V k Q M pc lv (.int x :: st) := by
  intro Z A p l e R s m args below meth c cells slots Qw C Rt H locs ls hP hS hl
  exact lv_lookup C.1 C.2.1 d hp ho ht (h Z A p l e R s m args below meth c cells slots Qw C Rt H locs ls hP hS hl)
theorem v_fconst0  (d : decode k.2.1 pc = .ok (.fconst 0, 1)) (h : V k Q M (pc + 1) lv (.float FP.fconst0 :: st)) : V k Q M pc lv (st) := by
  intro Z A p l e R s m args below meth c cells slots Qw C Rt H locs ls hP hS hl
  exact lv_fconst0 C.1 C.2.1 d (h Z A p l e R s m args below meth c cells slots Qw C Rt H locs ls hP hS hl)
theorem v_fconst1  (d : decode k.2.1 pc = .ok (.fconst 1, 1)) (h : V k Q M (pc + 1) lv (.float FP.fconst1 :: st)) : V k Q M pc lv (st) := by
  intro Z A p l e R s m args below meth c cells slots Qw C Rt H locs ls hP hS hl
  exact lv_fconst1 C.1 C.2.1 d (h Z A p l e R s m args below meth c cells slots Qw C Rt H locs ls hP hS hl)
theorem v_fadd {x y : UInt32} (d : decode k.2.1 pc = .ok (.fadd, 1)) (hne : vf_n32 (FP.fadd x y)) (h : V k Q M (pc + 1) lv (.float (FP.fadd x y) :: st)) : V k Q M pc lv (.float y :: .float x :: st) := by
  intro Z A p l e R s m args below meth c cells slots Qw C Rt H locs ls hP hS hl
  exact lv_fadd C.1 C.2.1 d hne (h Z A p l e R s m args below meth c cells slots Qw C Rt H locs ls hP hS hl)
theorem v_fmul {x y : UInt32} (d : decode k.2.1 pc = .ok (.fmul, 1)) (hne : vf_n32 (FP.fmul x y)) (h : V k Q M (pc + 1) lv (.float (FP.fmul x y) :: st)) : V k Q M pc lv (.float y :: .float x :: st) := by
  intro Z A p l e R s m args below meth c cells slots Qw C Rt H locs ls hP hS hl
  exact lv_fmul C.1 C.2.1 d hne (h Z A p l e R s m args below meth c cells slots Qw C Rt H locs ls hP hS hl)
theorem v_fdiv {x y : UInt32} (d : decode k.2.1 pc = .ok (.fdiv, 1)) (hne : vf_n32 (FP.fdiv x y)) (h : V k Q M (pc + 1) lv (.float (FP.fdiv x y) :: st)) : V k Q M pc lv (.float y :: .float x :: st) := by
  intro Z A p l e R s m args below meth c cells slots Qw C Rt H locs ls hP hS hl
  exact lv_fdiv C.1 C.2.1 d hne (h Z A p l e R s m args below meth c cells slots Qw C Rt H locs ls hP hS hl)
theorem v_i2f {x : Int32} (d : decode k.2.1 pc = .ok (.i2f, 1)) (h : V k Q M (pc + 1) lv (.float (FP.i2f x) :: st)) : V k Q M pc lv (.int x :: st) := by
  intro Z A p l e R s m args below meth c cells slots Qw C Rt H locs ls hP hS hl
  exact lv_i2f C.1 C.2.1 d (h Z A p l e R s m args below meth c cells slots Qw C Rt H locs ls hP hS hl)
theorem v_f2i {x : UInt32} (d : decode k.2.1 pc = .ok (.f2i, 1)) (h : V k Q M (pc + 1) lv (.int (FP.f2i x) :: st)) : V k Q M pc lv (.float x :: st) := by
  intro Z A p l e R s m args below meth c cells slots Qw C Rt H locs ls hP hS hl
  exact lv_f2i C.1 C.2.1 d (h Z A p l e R s m args below meth c cells slots Qw C Rt H locs ls hP hS hl)
theorem v_ldcf {idx : Nat} {v : UInt32} (d : decode k.2.1 pc = .ok (.ldc idx, 2)) (hw : Cond.constantFloat k.1.cls idx v ∈ wg) (h : V k Q M (pc + 2) lv (.float v :: st)) : V k Q M pc lv (st) := by
  intro Z A p l e R s m args below meth c cells slots Qw C Rt H locs ls hP hS hl
  exact lv_ldcf C.1 C.2.1 C.2.2.2.1 (C.2.2.2.2.1 _ hw) d (h Z A p l e R s m args below meth c cells slots Qw C Rt H locs ls hP hS hl)
theorem v_ldci {idx : Nat} {v : Int32} (d : decode k.2.1 pc = .ok (.ldc idx, 2)) (hw : Cond.constant k.1.cls idx v ∈ wg) (h : V k Q M (pc + 2) lv (.int v :: st)) : V k Q M pc lv (st) := by
  intro Z A p l e R s m args below meth c cells slots Qw C Rt H locs ls hP hS hl
  exact lv_ldc C.1 C.2.1 C.2.2.2.1 (C.2.2.2.2.1 _ hw) d (h Z A p l e R s m args below meth c cells slots Qw C Rt H locs ls hP hS hl)
theorem v_vret (d : decode k.2.1 pc = .ok (.return_, 1)) (hr : k.2.2.2.1 = none) (hq : Q none M) : V k Q M pc lv ([]) := by
  intro Z A p l e R s m args below meth c cells slots Qw C Rt H locs ls hP hS hl
  exact Rt (none) M H locs pc ls hq hP hS ⟨d, hr⟩
theorem v_iret (d : decode k.2.1 pc = .ok (.ireturn, 1)) (hr : k.2.2.2.1 = some .int) {x : Int32} (hq : Q (some (.int x)) M) : V k Q M pc lv ([.int x]) := by
  intro Z A p l e R s m args below meth c cells slots Qw C Rt H locs ls hP hS hl
  exact Rt (some (.int x)) M H locs pc ls hq hP hS ⟨d, .int, hr, rfl⟩
theorem v_zret (d : decode k.2.1 pc = .ok (.ireturn, 1)) (hr : k.2.2.2.1 = some .boolean) {x : Int32} (hx : x = 0 ∨ x = 1) (hq : Q (some (.int x)) M) : V k Q M pc lv ([.int x]) := by
  intro Z A p l e R s m args below meth c cells slots Qw C Rt H locs ls hP hS hl
  exact Rt (some (.int x)) M H locs pc ls hq hP hS ⟨d, .boolean, hr, by rcases hx with rfl | rfl <;> rfl⟩
theorem v_nret (d : decode k.2.1 pc = .ok (.ireturn, 1)) {ty : FieldType} (hr : k.2.2.2.1 = some ty) {x : Int32} (hx : narrow ty (.int x) = .int x) (hq : Q (some (.int x)) M) : V k Q M pc lv ([.int x]) := by
  intro Z A p l e R s m args below meth c cells slots Qw C Rt H locs ls hP hS hl
  exact Rt (some (.int x)) M H locs pc ls hq hP hS ⟨d, ty, hr, hx⟩
theorem v_fret (d : decode k.2.1 pc = .ok (.freturn, 1)) (hr : k.2.2.2.1 = some .float) {x : UInt32} (hq : Q (some (.float x)) M) : V k Q M pc lv ([.float x]) := by
  intro Z A p l e R s m args below meth c cells slots Qw C Rt H locs ls hP hS hl
  exact Rt (some (.float x)) M H locs pc ls hq hP hS ⟨d, hr⟩
theorem v_aret (d : decode k.2.1 pc = .ok (.areturn, 1)) {t : String} (hr : k.2.2.2.1 = some (.object t)) {x : Nat} (hq : Q (some (.ref x)) M) : V k Q M pc lv ([.ref x]) := by
  intro Z A p l e R s m args below meth c cells slots Qw C Rt H locs ls hP hS hl
  exact Rt (some (.ref x)) M H locs pc ls hq hP hS ⟨d, t, hr⟩
end V5
end
section
/-! V: fields and arrays -/
def Rc (ci : Nat) : String := match ci with
  | 0 => RX0
  | 1 => RX1
  | 2 => RX2
  | 3 => RX3
  | _ => RX4
def Tc (ci : Nat) : u_T := match ci with
  | 0 => TX0
  | 1 => TX1
  | 2 => TX2
  | 3 => TX3
  | _ => TX4
def tyc (ci : Nat) : Nat → FieldType := match ci with
  | 0 => tyX0
  | 1 => tyX1
  | 2 => tyX2
  | 3 => tyX3
  | _ => tyX4
theorem lt5 {ci : Nat} (h : ci < 5) : ci = 0 ∨ ci = 1 ∨ ci = 2 ∨ ci = 3 ∨ ci = 4 := by omega
theorem cl_ok {ci : Nat} (h : ci < 5) : vwCl[ci]? = some (Rc ci, Tc ci, Ncl ci) := by
  rcases lt5 h with rfl | rfl | rfl | rfl | rfl <;> rfl
theorem in_ok0 : ∀ w ∈ u_ws RX0 TX0 11, w ∈ wg := by decide +kernel
theorem in_ok1 : ∀ w ∈ u_ws RX1 TX1 6, w ∈ wg := by decide +kernel
theorem in_ok2 : ∀ w ∈ u_ws RX2 TX2 7, w ∈ wg := by decide +kernel
theorem in_ok3 : ∀ w ∈ u_ws RX3 TX3 10, w ∈ wg := by decide +kernel
theorem in_ok4 : ∀ w ∈ u_ws RX4 TX4 17, w ∈ wg := by decide +kernel
theorem in_ok {ci : Nat} (h : ci < 5) : ∀ w ∈ u_ws (Rc ci) (Tc ci) (Ncl ci), w ∈ wg := by
  rcases lt5 h with rfl | rfl | rfl | rfl | rfl
  · exact in_ok0
  · exact in_ok1
  · exact in_ok2
  · exact in_ok3
  · exact in_ok4
theorem ty_ok {ci : Nat} (h : ci < 5) : ∀ j, j < Ncl ci → parseFieldDescriptor (Tc ci j).2.2.1 = some (tyc ci j) := by
  rcases lt5 h with rfl | rfl | rfl | rfl | rfl
  · exact tyX0_ok
  · exact tyX1_ok
  · exact tyX2_ok
  · exact tyX3_ok
  · exact tyX4_ok
theorem nm_ok {ci : Nat} (h : ci < 5) : ∀ a, a < Ncl ci → ∀ b, b < Ncl ci → a ≠ b → (Tc ci a).2.1 ≠ (Tc ci b).2.1 := by
  rcases lt5 h with rfl | rfl | rfl | rfl | rfl
  · exact nmX0
  · exact nmX1
  · exact nmX2
  · exact nmX3
  · exact nmX4
/-- an entry of a class's pool names field j of class ci -/
def FL (own : String) (idx ci j : Nat) : Prop := j < Ncl ci ∧ (Cond.fieldLink own idx (Tc ci j).1 (Tc ci j).2.1 (Tc ci j).2.2.1 ∈ wg ∨ ∃ host, Cond.fieldLinkNest own idx (Tc ci j).1 (Tc ci j).2.1 (Tc ci j).2.2.1 host ∈ nw)
/-- the cell i is an object of class ci; an array of kind t with n places -/
def OB (i ci : Nat) : Prop := i < 71 ∧ kdc i = ci ∧ ci < 5
def AR (t i n : Nat) : Prop := i < 71 ∧ kdc i = t ∧ szc i = n
theorem fvl_mv (f : Nat → Nat) (M : vM) (i tag j : Nat) : fvl f M i tag j = mv f (fvl (fun x => x) M i tag j) := by
  match tag with
  | 0 => rfl
  | 1 => rfl
  | n + 2 => rfl
theorem cell_ob {Z : vZ} {M : vM} {i ci : Nat} (ob : OB i ci) : cellE Z M i = .inr (ci, flds Z.1 M i ci) := by
  obtain ⟨-, rfl, h⟩ := ob
  unfold cellE
  rw [if_pos (by omega)]
theorem flds_get {f : Nat → Nat} {M : vM} {i ci j : Nat} (h : j < Ncl ci) : (flds f M i ci)[j]? = some (fvl f M i (ftg ci j) j) := by
  unfold flds
  rw [List.getElem?_map, List.getElem?_range h]
  rfl
theorem flds_len {f : Nat → Nat} {M : vM} {i ci : Nat} : (flds f M i ci).length = Ncl ci := by simp [flds]
theorem flds_set {f : Nat → Nat} {M : vM} {i ci j : Nat} {x : Int32} (h : j < Ncl ci) {v : Value} (hv : v = fvl f (mup M i j x) i (ftg ci j) j) : (flds f M i ci).set j v = flds f (mup M i j x) i ci := by
  subst hv
  apply List.ext_getElem?
  intro q
  by_cases hq : q = j
  · subst hq
    rw [List.getElem?_set_self (by rw [flds_len]; exact h), flds_get h]
  · rw [List.getElem?_set_ne (Ne.symm hq)]
    by_cases h7 : q < Ncl ci
    · rw [flds_get h7, flds_get h7]
      have e : (mup M i j x) i q = M i q := by rw [mup_eq]; simp [upd, hq]
      unfold fvl
      rw [e]
    · rw [List.getElem?_eq_none (by rw [flds_len]; omega), List.getElem?_eq_none (by rw [flds_len]; omega)]
theorem cell_ar {Z : vZ} {M : vM} {t i n : Nat} (ar : AR t i n) (h : 10 ≤ t) (h2 : t ≠ 13) : cellE Z M i = .inl (Z.2.2 t, n, .inl (M i)) := by
  obtain ⟨-, rfl, rfl⟩ := ar
  unfold cellE
  rw [if_neg (by omega), if_neg h2]
theorem cell_aq {Z : vZ} {M : vM} {i n : Nat} (ar : AR 13 i n) : cellE Z M i = .inl (Z.2.2 13, n, .inr (.inr (.inr (.inr (fun j => some (Z.1 (M i j).toNatClampNeg)))))) := by
  obtain ⟨-, h, rfl⟩ := ar
  unfold cellE
  rw [if_neg (by omega), if_pos h]
section V6
variable {k : vK} {Q : Option Value → vM → Prop} {M : vM} {pc : Nat} {lv : List (Nat × Value)} {st : List Value}
theorem v_get {i ci j idx : Nat} (d : decode k.2.1 pc = .ok (.getfield idx, 3)) (fl : FL k.1.cls idx ci j) (ob : OB i ci) {v : Value} (hv : fvl (fun x => x) M i (ftg ci j) j = v) (h : V k Q M (pc + 3) lv (v :: st)) : V k Q M pc lv (.ref i :: st) := by
  intro Z A p l e R s m args below meth c cells slots Qw C Rt H locs ls hP hS hl
  have n := h Z A p l e R s m args below meth c cells slots Qw C Rt H locs ls hP hS hl
  have hg := wl_get Z M ob.1
  rw [cell_ob ob] at hg
  have hv' : (flds Z.1 M i ci)[j]? = some (mv Z.1 v) := by rw [flds_get fl.1, fvl_mv, hv]
  obtain ⟨hj, f1 | ⟨host, f1⟩⟩ := fl
  · exact va_get C.1 C.2.1 C.2.2.2.2.1 (in_ok ob.2.2) C.2.2.2.1 C.2.2.2.2.2.2.1 hP i hg (cl_ok ob.2.2) j hj (C.2.2.2.2.1 _ f1) (fun _ q => q) hv' d n
  · exact va_getN C.1 C.2.1 C.2.2.2.2.1 (in_ok ob.2.2) C.2.2.2.1 C.2.2.2.2.2.2.1 hP i hg (cl_ok ob.2.2) j hj (va_Nw.use rfl (C.2.2.2.2.2.1 _ f1)) (fun _ q => q) hv' d n
theorem v_getI {i ci j idx : Nat} (d : decode k.2.1 pc = .ok (.getfield idx, 3)) (fl : FL k.1.cls idx ci j) (ob : OB i ci) (ht : ftg ci j = 0) (h : V k Q M (pc + 3) lv (.int (M i j) :: st)) : V k Q M pc lv (.ref i :: st) := v_get d fl ob (by rw [ht]; rfl) h
theorem v_getR {i ci j idx n t : Nat} (d : decode k.2.1 pc = .ok (.getfield idx, 3)) (fl : FL k.1.cls idx ci j) (ob : OB i ci) (ht : ftg ci j = n + 2) (e : i + n = t) (h : V k Q M (pc + 3) lv (.ref t :: st)) : V k Q M pc lv (.ref i :: st) := v_get d fl ob (by rw [ht]; subst e; rfl) h
theorem v_getD {i ci j idx : Nat} (d : decode k.2.1 pc = .ok (.getfield idx, 3)) (fl : FL k.1.cls idx ci j) (ob : OB i ci) (ht : ftg ci j = 1) {t : Nat} (hm : M i j = nI t) (hb : t < 2 ^ 31) (h : V k Q M (pc + 3) lv (.ref t :: st)) : V k Q M pc lv (.ref i :: st) := v_get d fl ob (by rw [ht]; show Value.ref (M i j).toNatClampNeg = _; rw [hm, nI_clamp hb]) h
theorem v_put {i ci j idx : Nat} {x : Int32} {v : Value} (d : decode k.2.1 pc = .ok (.putfield idx, 3)) (fl : FL k.1.cls idx ci j) (ob : OB i ci) (hf : (Tc ci j).2.2.2 = false) (hn : ∀ f : Nat → Nat, narrow (tyc ci j) (mv f v) = mv f v) (hfit : ∀ f : Nat → Nat, fits (tyc ci j) (mv f v) = true) (hv : ∀ f : Nat → Nat, mv f v = fvl f (mup M i j x) i (ftg ci j) j) (h : V k Q (mup M i j x) (pc + 3) lv st) : V k Q M pc lv (v :: .ref i :: st) := by
  intro Z A p l e R s m args below meth c cells slots Qw C Rt H locs ls hP hS hl
  have hg := wl_get Z M ob.1
  rw [cell_ob ob] at hg
  have hD := wl_D (Z := Z) M C.2.2.2.2.2.2.2.2.1 C.2.2.2.2.2.2.2.2.2.1
  have he : (wl Z M).set i (Z.1 i, .inr (ci, (flds Z.1 M i ci).set j (mv Z.1 v))) = wl Z (mup M i j x) := wl_set Z ob.1 (fun q hq => mup_ne hq) (by rw [cell_ob ob, flds_set fl.1 (hv Z.1)])
  obtain ⟨hj, f1 | ⟨host, f1⟩⟩ := fl
  · refine va_put C.1 C.2.1 C.2.2.2.2.1 (in_ok ob.2.2) (tyc ci) (ty_ok ob.2.2) (nm_ok ob.2.2) C.2.2.2.1 C.2.2.2.2.2.2.1 hP hD hS i hg (cl_ok ob.2.2) j hj (C.2.2.2.2.1 _ f1) (fun _ q => q) hf (ty_ok ob.2.2 j hj) (hn Z.1) (hfit Z.1) (by rw [flds_len]; exact hj) d (fun H1 locs1 hP1 _ hS1 => ?_)
    rw [he] at hP1
    exact h Z A p l e R s m args below meth c cells slots Qw C Rt H1 locs1 ls hP1 hS1 hl
  · refine va_putN C.1 C.2.1 C.2.2.2.2.1 (in_ok ob.2.2) (tyc ci) (ty_ok ob.2.2) (nm_ok ob.2.2) C.2.2.2.1 C.2.2.2.2.2.2.1 hP hD hS i hg (cl_ok ob.2.2) j hj (va_Nw.use rfl (C.2.2.2.2.2.1 _ f1)) (fun _ q => q) hf (ty_ok ob.2.2 j hj) (hn Z.1) (hfit Z.1) (by rw [flds_len]; exact hj) d (fun H1 locs1 hP1 _ hS1 => ?_)
    rw [he] at hP1
    exact h Z A p l e R s m args below meth c cells slots Qw C Rt H1 locs1 ls hP1 hS1 hl
theorem v_putI {i ci j idx : Nat} {x : Int32} (d : decode k.2.1 pc = .ok (.putfield idx, 3)) (fl : FL k.1.cls idx ci j) (ob : OB i ci) (hf : (Tc ci j).2.2.2 = false) (ht : ftg ci j = 0) (hty : tyc ci j = .int) (h : V k Q (mup M i j x) (pc + 3) lv st) : V k Q M pc lv (.int x :: .ref i :: st) :=
  v_put (x := x) d fl ob hf (fun f => by rw [hty]; rfl) (fun f => by rw [hty]; rfl) (fun f => by rw [ht]; show Value.int x = Value.int (mup M i j x i j); rw [mup_eq]; simp [upd]) h
theorem v_putD {i ci j idx t : Nat} {n : String} (d : decode k.2.1 pc = .ok (.putfield idx, 3)) (fl : FL k.1.cls idx ci j) (ob : OB i ci) (hf : (Tc ci j).2.2.2 = false) (ht : ftg ci j = 1) (hty : tyc ci j = .object n) (hb : t < 2 ^ 31) (h : V k Q (mup M i j (nI t)) (pc + 3) lv st) : V k Q M pc lv (.ref t :: .ref i :: st) :=
  v_put (x := nI t) d fl ob hf (fun f => by rw [hty]; rfl) (fun f => by rw [hty]; rfl) (fun f => by rw [ht]; show Value.ref (f t) = Value.ref (f (mup M i j (nI t) i j).toNatClampNeg); rw [mup_eq]; simp [upd, nI_clamp hb]) h
theorem ar_sz {t i n : Nat} (ar : AR t i n) : n < 2 ^ 31 := by
  obtain ⟨h, -, rfl⟩ := ar
  have : ∀ i, i < 71 → szc i < 1000 := by decide +kernel
  have := this i h
  omega
theorem v_iald {i n a : Nat} {x : Int32} (d : decode k.2.1 pc = .ok (.iaload, 1)) (ar : AR 10 i n) (hx : x = nI a) (ha : a < n) (h : V k Q M (pc + 1) lv (.int (M i a) :: st)) : V k Q M pc lv (.int x :: .ref i :: st) := by
  intro Z A p l e R s m args below meth c cells slots Qw C Rt H locs ls hP hS hl
  have hg := wl_get Z M ar.1
  rw [cell_ar ar (by decide) (by decide)] at hg
  subst hx
  have hz := ar_sz ar
  refine va_iald C.1 C.2.1 C.2.2.2.2.2.2.1 hP i 0 hg rfl (vp_in_nI ha hz) d ?_
  rw [nI_clamp (by omega)]
  exact h Z A p l e R s m args below meth c cells slots Qw C Rt H locs ls hP hS hl
theorem v_cald {i n a : Nat} {x : Int32} (d : decode k.2.1 pc = .ok (.caload, 1)) (ar : AR 11 i n) (hx : x = nI a) (ha : a < n) (h : V k Q M (pc + 1) lv (.int (M i a) :: st)) : V k Q M pc lv (.int x :: .ref i :: st) := by
  intro Z A p l e R s m args below meth c cells slots Qw C Rt H locs ls hP hS hl
  have hg := wl_get Z M ar.1
  rw [cell_ar ar (by decide) (by decide)] at hg
  subst hx
  have hz := ar_sz ar
  refine va_cald C.1 C.2.1 C.2.2.2.2.2.2.1 hP i 1 hg rfl (vp_in_nI ha hz) d ?_
  rw [nI_clamp (by omega)]
  exact h Z A p l e R s m args below meth c cells slots Qw C Rt H locs ls hP hS hl
theorem v_zald {i n a : Nat} {x : Int32} (d : decode k.2.1 pc = .ok (.baload, 1)) (ar : AR 12 i n) (hx : x = nI a) (ha : a < n) (h : V k Q M (pc + 1) lv (.int (M i a) :: st)) : V k Q M pc lv (.int x :: .ref i :: st) := by
  intro Z A p l e R s m args below meth c cells slots Qw C Rt H locs ls hP hS hl
  have hg := wl_get Z M ar.1
  rw [cell_ar ar (by decide) (by decide)] at hg
  subst hx
  have hz := ar_sz ar
  refine va_zald C.1 C.2.1 C.2.2.2.2.2.2.1 hP i 2 hg rfl (vp_in_nI ha hz) d ?_
  rw [nI_clamp (by omega)]
  exact h Z A p l e R s m args below meth c cells slots Qw C Rt H locs ls hP hS hl
theorem v_aald {i n a t : Nat} {x : Int32} (d : decode k.2.1 pc = .ok (.aaload, 1)) (ar : AR 13 i n) (hx : x = nI a) (ha : a < n) (hm : M i a = nI t) (hb : t < 2 ^ 31) (h : V k Q M (pc + 1) lv (.ref t :: st)) : V k Q M pc lv (.int x :: .ref i :: st) := by
  intro Z A p l e R s m args below meth c cells slots Qw C Rt H locs ls hP hS hl
  have hg := wl_get Z M ar.1
  rw [cell_aq ar] at hg
  subst hx
  have hz := ar_sz ar
  refine va_aldq C.1 C.2.1 C.2.2.2.2.2.2.1 hP i 3 hg rfl (vp_in_nI ha hz) d ?_
  rw [nI_clamp (by omega), hm, nI_clamp hb]
  exact h Z A p l e R s m args below meth c cells slots Qw C Rt H locs ls hP hS hl
theorem v_iast {i n a : Nat} {x y : Int32} (d : decode k.2.1 pc = .ok (.iastore, 1)) (ar : AR 10 i n) (hx : x = nI a) (ha : a < n) (h : V k Q (mup M i a y) (pc + 1) lv st) : V k Q M pc lv (.int y :: .int x :: .ref i :: st) := by
  intro Z A p l e R s m args below meth c cells slots Qw C Rt H locs ls hP hS hl
  have hg := wl_get Z M ar.1
  rw [cell_ar ar (by decide) (by decide)] at hg
  subst hx
  have hz := ar_sz ar
  have hD := wl_D (Z := Z) M C.2.2.2.2.2.2.2.2.1 C.2.2.2.2.2.2.2.2.2.1
  refine va_iast C.1 C.2.1 C.2.2.2.2.2.2.1 hP hD hS i 0 hg rfl (vp_in_nI ha hz) d (fun H1 locs1 hP1 _ hS1 => ?_)
  rw [nI_clamp (by omega), wl_set Z (M' := mup M i a y) ar.1 (fun q hq => mup_ne hq) (by rw [cell_ar ar (by decide) (by decide), mup_eq])] at hP1
  exact h Z A p l e R s m args below meth c cells slots Qw C Rt H1 locs1 ls hP1 hS1 hl
theorem v_cast {i n a : Nat} {x y : Int32} (d : decode k.2.1 pc = .ok (.castore, 1)) (ar : AR 11 i n) (hx : x = nI a) (ha : a < n) (h : V k Q (mup M i a (vp_nar .char y)) (pc + 1) lv st) : V k Q M pc lv (.int y :: .int x :: .ref i :: st) := by
  intro Z A p l e R s m args below meth c cells slots Qw C Rt H locs ls hP hS hl
  have hg := wl_get Z M ar.1
  rw [cell_ar ar (by decide) (by decide)] at hg
  subst hx
  have hz := ar_sz ar
  have hD := wl_D (Z := Z) M C.2.2.2.2.2.2.2.2.1 C.2.2.2.2.2.2.2.2.2.1
  refine va_cast C.1 C.2.1 C.2.2.2.2.2.2.1 hP hD hS i 1 hg rfl (vp_in_nI ha hz) d (fun H1 locs1 hP1 _ hS1 => ?_)
  rw [nI_clamp (by omega), wl_set Z (M' := mup M i a (vp_nar .char y)) ar.1 (fun q hq => mup_ne hq) (by rw [cell_ar ar (by decide) (by decide), mup_eq])] at hP1
  exact h Z A p l e R s m args below meth c cells slots Qw C Rt H1 locs1 ls hP1 hS1 hl
theorem v_zast {i n a : Nat} {x y : Int32} (d : decode k.2.1 pc = .ok (.bastore, 1)) (ar : AR 12 i n) (hx : x = nI a) (ha : a < n) (h : V k Q (mup M i a (vp_nar .boolean y)) (pc + 1) lv st) : V k Q M pc lv (.int y :: .int x :: .ref i :: st) := by
  intro Z A p l e R s m args below meth c cells slots Qw C Rt H locs ls hP hS hl
  have hg := wl_get Z M ar.1
  rw [cell_ar ar (by decide) (by decide)] at hg
  subst hx
  have hz := ar_sz ar
  have hD := wl_D (Z := Z) M C.2.2.2.2.2.2.2.2.1 C.2.2.2.2.2.2.2.2.2.1
  refine va_zast C.1 C.2.1 C.2.2.2.2.2.2.1 hP hD hS i 2 hg rfl (vp_in_nI ha hz) d (fun H1 locs1 hP1 _ hS1 => ?_)
  rw [nI_clamp (by omega), wl_set Z (M' := mup M i a (vp_nar .boolean y)) ar.1 (fun q hq => mup_ne hq) (by rw [cell_ar ar (by decide) (by decide), mup_eq])] at hP1
  exact h Z A p l e R s m args below meth c cells slots Qw C Rt H1 locs1 ls hP1 hS1 hl
theorem v_aast {i n a t : Nat} {x : Int32} (d : decode k.2.1 pc = .ok (.aastore, 1)) (ar : AR 13 i n) (ob : OB t 1) (hx : x = nI a) (ha : a < n) (h : V k Q (mup M i a (nI t)) (pc + 1) lv st) : V k Q M pc lv (.ref t :: .int x :: .ref i :: st) := by
  intro Z A p l e R s m args below meth c cells slots Qw C Rt H locs ls hP hS hl
  have hg := wl_get Z M ar.1
  rw [cell_aq ar] at hg
  have ho := wl_get Z M ob.1
  rw [cell_ob ob] at ho
  subst hx
  have hz := ar_sz ar
  have h7 := ob.1
  have hD := wl_D (Z := Z) M C.2.2.2.2.2.2.2.2.1 C.2.2.2.2.2.2.2.2.2.1
  refine va_astq C.1 C.2.1 C.2.2.2.2.2.2.1 hP hD hS i 3 t 1 hg rfl ho (cl_ok (by decide)) (vp_in_nI ha hz) d (fun H1 locs1 hP1 _ hS1 => ?_)
  rw [nI_clamp (by omega), wl_set Z (M' := mup M i a (nI t)) ar.1 (fun q hq => mup_ne hq) (by
    rw [cell_aq ar, mup_eq]
    congr 7
    funext q
    by_cases hq : q = a
    · simp [va_up, upd, hq, nI_clamp (show t < 2 ^ 31 by omega)]
    · simp [va_up, upd, hq])] at hP1
  exact h Z A p l e R s m args below meth c cells slots Qw C Rt H1 locs1 ls hP1 hS1 hl
theorem v_alen {t i n : Nat} (d : decode k.2.1 pc = .ok (.arraylength, 1)) (ar : AR t i n) (ht : t = 10 ∨ t = 11 ∨ t = 12 ∨ t = 13) (h : V k Q M (pc + 1) lv (.int (nI n) :: st)) : V k Q M pc lv (.ref i :: st) := by
  intro Z A p l e R s m args below meth c cells slots Qw C Rt H locs ls hP hS hl
  have hg := wl_get Z M ar.1
  have n2 := h Z A p l e R s m args below meth c cells slots Qw C Rt H locs ls hP hS hl
  rcases ht with rfl | rfl | rfl | rfl
  · rw [cell_ar ar (by decide) (by decide)] at hg
    exact va_alen C.1 C.2.1 C.2.2.2.2.2.2.1 hP i 0 hg (ty := .int) rfl rfl d n2
  · rw [cell_ar ar (by decide) (by decide)] at hg
    exact va_alen C.1 C.2.1 C.2.2.2.2.2.2.1 hP i 1 hg (ty := .char) rfl rfl d n2
  · rw [cell_ar ar (by decide) (by decide)] at hg
    exact va_alen C.1 C.2.1 C.2.2.2.2.2.2.1 hP i 2 hg (ty := .boolean) rfl rfl d n2
  · rw [cell_aq ar] at hg
    exact va_alen C.1 C.2.1 C.2.2.2.2.2.2.1 hP i 3 hg (ty := .object "ClockCrossings$Moment") rfl rfl d n2
end V6
end
section
/-! V: calls. A contract of a method is V at its entry. -/
theorem lg_len (vs : List Value) : (lg_sl vs).length = (vs.map fun v => v.category).sum := by
  induction vs with
  | nil => rfl
  | cons v t ih =>
    have e : lg_sl (v :: t) = (if v.category = 2 then [Slot.val v, Slot.second] else [Slot.val v]) ++ lg_sl t := rfl
    rw [e, List.length_append, ih, List.map_cons, List.sum_cons]
    rcases lv_cat v with h | h
    · rw [if_neg (by omega), h]; rfl
    · rw [if_pos h, h]; rfl
theorem lv_args_mv (f : Nat → Nat) : ∀ (vs : List Value) (i : Nat), lv_args i (vs.map (mv f)) = (lv_args i vs).map (ml f)
  | [], _ => rfl
  | v :: t, i => by
    show (i, mv f v) :: lv_args (if (mv f v).category = 2 then i + 2 else i + 1) (t.map (mv f)) = ml f (i, v) :: (lv_args (if v.category = 2 then i + 2 else i + 1) t).map (ml f)
    rw [mv_cat, lv_args_mv f t]
    rfl
theorem cat_mv (f : Nat → Nat) (vs : List Value) : ((vs.map (mv f)).map fun v => v.category) = vs.map fun v => v.category := by
  rw [List.map_map]
  apply List.map_congr_left
  intro v _
  exact mv_cat f v
def vA (Z : vZ) : Nat → Prop := fun q => ∃ i, i < 71 ∧ q = Z.1 i
def vPc (Z : vZ) (M : vM) (as : List Value) : Array Value → State → Prop := fun a U => a = (as.map (mv Z.1)).toArray ∧ va_P Z.2.1 vwCl (wl Z M) U.heap ∧ va_K Z.2.1 vwCl (tys Z) U ∧ (∀ w ∈ nw, va_Nw w U) ∧ xE Z (vA Z) U
def vQc (Z : vZ) (Q : Option Value → vM → Prop) : Array Value → State → Outcome → State → Prop := fun _ st o t => ∃ v M', o = .returned (v.map (mv Z.1)) ∧ Q v M' ∧ va_P Z.2.1 vwCl (wl Z M') t.heap ∧ va_F (vA Z) st t
def vws (k : vK) : List Cond := .code k.1 k.2.1 k.2.2.1 k.2.2.2.1 :: wg
def vrm (k : vK) : Room := { frames := k.2.2.2.2.1, cells := 0, slots := 0, locals := k.2.2.2.2.2.1 }
theorem wg_good {k : vK} (h : Cond.code k.1 k.2.1 k.2.2.1 k.2.2.2.1 ∈ wg) : GoodIn wg (vws k) := by
  intro w hw
  have hw' : w ∈ wg := by
    rcases List.mem_cons.mp hw with rfl | q
    · exact h
    · exact q
  exact ⟨hw', good_of_word (List.mem_filter.mp hw').2⟩
theorem nw_onTables : ∀ w ∈ nw, w.onTables = true := by decide +kernel
theorem nw_warm {s U : State} (hW : s.WarmedH U.vm) (h : ∀ w ∈ nw, va_Nw w s) : ∀ w ∈ nw, va_Nw w U := by
  intro w hw
  have hn : isNst w = true := (List.mem_filter.mp hw).2
  have hs := h w hw
  cases w <;> first | exact va_Nw.warmF hW hs | exact va_Nw.warmM hW hs | (exact absurd hn (by simp [isNst]))
theorem xE_go {Z : vZ} {A B : Nat → Prop} {s U : State} {H : Heap} {locs : List Loc} (hE : xE Z A s) (hW : s.WarmedH U.vm) (hU : U.heap = H) (hS : va_S A s.heap H locs) (hB : ∀ q, B q → A q) : xE Z B U := by
  subst hU
  obtain ⟨h1, h2, h3, h4, h5⟩ := hE
  exact ⟨((h1.kept hS.2.1).moved hW.alike).narrow hB, ((h2.kept hS.2.1).moved hW.alike).narrow hB, ((h3.kept hS.2.1).moved hW.alike).narrow hB, fun i hi => (h4 i hi).warm hW, ((h5.kept hS.2.1).moved hW.alike).narrow hB⟩
theorem xE_call {Z : vZ} {A : Nat → Prop} {U : State} {g : JFrame} {mk : MethodId} {a : Array Value} (hE : xE Z A U) : xE Z A (U.calling g mk a) := by
  obtain ⟨h1, h2, h3, h4, h5⟩ := hE
  exact ⟨va_Z.moved (u := U) (U := U.calling g mk a) (Vm.Alike.refl U.vm) h1, va_T.moved (u := U) (U := U.calling g mk a) (Vm.Alike.refl U.vm) h2, vk_S.moved (u := U) (U := U.calling g mk a) (Vm.Alike.refl U.vm) h3, fun i hi => vk_R.same (u := U) (U := U.calling g mk a) rfl (h4 i hi), va_Z.moved (u := U) (U := U.calling g mk a) (Vm.Alike.refl U.vm) h5⟩
theorem vPc_blind (Z : vZ) (M : vM) (as : List Value) : FrameBlind (vPc Z M as) := by
  intro a U g mk h
  obtain ⟨h1, h2, h3, h4, h5⟩ := h
  exact ⟨h1, h2, va_K.moved (u := U) (U := U.calling g mk a) (Vm.Alike.refl U.vm) h3, fun w hw => va_Nw.same (nw_onTables w hw) (u := U) (U := U.calling g mk a) rfl (h4 w hw), xE_call h5⟩
theorem v_met {k : vK} {Q : Option Value → vM → Prop} {M : vM} {as : List Value} (hscr : k.2.2.2.2.2.2 = none) (hpl : plainName k.1.cls = true) (hlen : (as.map fun v => v.category).sum ≤ k.2.2.1) (hV : V k Q M 0 (lv_args 0 as) []) (l : Launch) (Z : vZ) (hinj : ∀ i j, i < 71 → j < 71 → Z.1 i = Z.1 j → i = j) :
    Met l k.1 (vws k) (vrm k) (vPc Z M as) (vQc Z Q) 0 0 (vA Z) := by
  refine Met.ofW (cc := k.2.1) (maxL := k.2.2.1) (ret := k.2.2.2.1) hpl rfl ?_
  intro p e s m args below meth c s₁ B hml hv
  obtain ⟨rfl, hP, hK, hN, hE⟩ := hv
  have hts := atoms_spec (ws := vws k) B.pre
  have hlocks := B.notSynchronized
  have hr := B.returns
  have hl := lv_entry (as.map (mv Z.1)) (n := k.2.2.1) (by rw [lg_len, cat_mv]; exact hlen)
  rw [lg_entry_eq]
  rw [lv_args_mv] at hl
  refine hV Z (vA Z) p l e _ s m _ below meth c 0 0 _ ⟨B.exec, B.bytes, hml, findClass_of_methodNamed B.named, fun w h => hts w (List.mem_cons_of_mem _ h), hN, hK, ⟨Nat.le_refl _, Nat.le_refl _, Nat.zero_le _, Nat.zero_le _⟩, hinj, fun i h => ⟨i, h, rfl⟩, hE, by unfold xS; rw [hscr]; trivial⟩ ?_ s.heap [] _ hP va_S.rf hl
  intro v M' H locs pc' ls hq hP' hS' hd
  have fin : ∀ t : State, t.heap = H → vQc Z Q (as.map (mv Z.1)).toArray s (.returned (v.map (mv Z.1))) t := fun t ht => ⟨v, M', rfl, hq, by rw [ht]; exact hP', hS'.F ht⟩
  match v, hd, fin with
  | none, hd, fin => exact W.vret B.exec B.bytes (hr.trans hd.2) (fun t ht _ => fin t ht) hS'.2.2 hd.1
  | some (.int x), hd, fin =>
    obtain ⟨h1, ty, h2, h3⟩ := hd
    exact W.zret B.exec B.bytes (hr.trans h2) h3 (fun t ht _ => fin t ht) hS'.2.2 h1
  | some (.float x), hd, fin => exact W.fret B.exec B.bytes (hr.trans hd.2) (fun t ht _ => fin t ht) hS'.2.2 hd.1
  | some (.ref x), hd, fin =>
    obtain ⟨h1, n, h2⟩ := hd
    exact W.aret (v := .ref (Z.1 x)) B.exec B.bytes (hr.trans h2) (Or.inl ⟨n, rfl⟩) (Or.inr ⟨_, rfl⟩) (fun t ht _ => fin t ht) hS'.2.2 h1
theorem v_back {p : Program} {l : Launch} {e : Env} {R : Room} {s : State} {m : MethodId} {args : Array Value} {below : List Frame} {meth : Method} {c : Code} {H : Heap} {locs : List Loc} {cells slots : Nat} {Qw : State → Prop} {Z : vZ} {A : Nat → Prop} {Q' : Option Value → vM → Prop} {a : Array Value} {pc : Nat} {ls : Array Slot} {st0 rest : List Value}
    (hr : va_Run p l e R s m args below meth c H locs cells slots 0 0 (F0 m pc ls st0) rest (vQc Z Q' a) (vA Z)) (hS : va_S A s.heap H locs) (hA : ∀ q, vA Z q → A q)
    (kk : ∀ (v : Option Value) (M' : vM) (H1 : Heap) (locs1 : List Loc), Q' v M' → va_P Z.2.1 vwCl (wl Z M') H1 → va_S A s.heap H1 locs1 → W p l e R s m args below meth c H1 locs1 cells slots Qw (F0 m (pc + 3) ls ((v.map (mv Z.1)).toList ++ rest))) : W p l e R s m args below meth c H locs cells slots Qw (F0 m pc ls st0) := by
  intro T hT X
  obtain ⟨v, st₀, t, T', L, h0, X', hL, e1, e2, ⟨v', M', hv, hq, hp, hz, hk⟩, st⟩ := hr T hT X
  cases hv
  rw [h0] at hz hk
  obtain ⟨t2, a1, b1⟩ := kk v' M' T'.heap (locs ++ L) hq (by rw [e1]; exact hp)
    ⟨Nat.le_trans hS.1 (by rw [e1]; exact hz), fun q h1 h2 => by rw [e1, hk q (Nat.lt_of_lt_of_le h1 hS.1) (fun z => h2 (hA q z))]; exact hS.2.1 q h1 h2, fun q hq => by
      rcases List.mem_append.mp hq with h | h
      · exact hS.2.2 q h
      · exact hA _ (hL q h)⟩ T' rfl X'
  exact ⟨t2, st t2 a1, b1⟩
/-- an entry of a class's pool names the method k' -/
def ML (own : String) (idx : Nat) (k' : vK) : Prop := Cond.methodLink own idx k'.1 ∈ wg ∨ ∃ host, Cond.methodLinkNest own idx k'.1 host ∈ nw
/-- what every call of k' needs -/
def CK (k' : vK) (n : Nat) : Prop := (Cond.code k'.1 k'.2.1 k'.2.2.1 k'.2.2.2.1 ∈ wg ∧ Cond.initialized k'.1.cls ∈ wg) ∧ (k'.1.cls ≠ "java/lang/invoke/MethodHandle" ∧ k'.1.cls ≠ "java/lang/invoke/VarHandle" ∧ (parseMethodDescriptor k'.1.desc).map (fun d => d.parameters.length) = some n) ∧ plainName k'.1.cls = true ∧ k'.2.2.2.2.2.2 = none
def KS (k' : vK) (n : Nat) : Prop := CK k' n ∧ Cond.static k'.1 ∈ wg
def KV (k' : vK) (ci n : Nat) : Prop := CK k' n ∧ ci < 5 ∧ k'.1.cls = Rc ci ∧ Cond.instanceMethod k'.1 ∈ wg ∧ Cond.selects (Rc ci) k'.1 k'.1 ∈ wg
/-- the callee's room in the caller's -/
def RM (k k' : vK) : Prop := k'.2.2.2.2.1 + 1 ≤ k.2.2.2.2.1 ∧ 8 + (k'.2.2.1 + 11) + k'.2.2.2.2.2.1 ≤ k.2.2.2.2.2.1
section V7
variable {k k' : vK} {Q Q' : Option Value → vM → Prop} {M : vM} {pc : Nat} {lv : List (Nat × Value)} {st : List Value}
theorem v_callS {idx n : Nat} {as stk : List Value} (d : decode k.2.1 pc = .ok (.invokestatic idx, 3)) (ml : ML k.1.cls idx k') (ks : KS k' n) (rm : RM k k') (hn : as.length = n) (hlen : (as.map fun v => v.category).sum ≤ k'.2.2.1) (hst : as.reverse ++ st = stk) (hrs : (st.map fun v => v.category).sum ≤ 8)
    (hV : V k' Q' M 0 (lv_args 0 as) []) (h : ∀ v M', Q' v M' → V k Q M' (pc + 3) lv (v.toList ++ st)) : V k Q M pc lv stk := by
  intro Z A p l e R s m args below meth c cells slots Qw C Rt H locs ls hP hS hl
  have hsz : ls.size = k.2.2.1 := hl.1
  obtain ⟨⟨⟨hc1, hc2⟩, hd, hpl, hscr⟩, hstat⟩ := ks
  obtain ⟨hx, hb, hml, hown, hts, hnw, hK, ⟨r1, r2, r3, r4⟩, hinj, hA, hE, hX⟩ := id C
  have hA' : ∀ q, vA Z q → A q := fun q ⟨i, h1, h2⟩ => by rw [h2]; exact hA i h1
  have hM := v_met hscr hpl hlen hV l Z hinj
  have hpre : PreS s H (vPc Z M as) (as.map (mv Z.1)) := ⟨vPc_blind Z M as, fun U hU hW => ⟨rfl, by rw [hU]; exact hP, va_K.moved hW.alike hK, nw_warm hW hnw, xE_go hE hW hU hS hA'⟩⟩
  have hroom : (vrm k').frames + 1 ≤ R.frames ∧ 8 + (k'.2.2.1 + 11) + (vrm k').locals ≤ R.locals := ⟨Nat.le_trans rm.1 r1, Nat.le_trans rm.2 r2⟩
  have hstack : (F0 m pc ls (stk.map (mv Z.1))).stack = (as.map (mv Z.1)).reverse ++ st.map (mv Z.1) := by
    show stk.map (mv Z.1) = _
    rw [← hst, List.map_append, List.map_reverse]
  have hrs' : 2 * (F0 m pc ls (stk.map (mv Z.1))).monitorRoom + ((st.map (mv Z.1)).map fun v => v.category).sum ≤ 8 := lv_room (st := st.map (mv Z.1)) (by rw [cat_mv]; exact hrs)
  have run : va_Run p l e R s m args below meth c H locs cells slots 0 0 (F0 m pc ls (stk.map (mv Z.1))) (st.map (mv Z.1)) (vQc Z Q' (as.map (mv Z.1)).toArray) (vA Z) := by
    rcases ml with f1 | ⟨host, f1⟩
    · exact va_runS (As := as.map (mv Z.1)) (n := n) (bytes := k'.2.1) (maxL := k'.2.2.1) (ret := k'.2.2.2.1) (index := idx) ⟨hx, hb, hml, hown, hts⟩ hM ⟨callB_of n hts (wg_good hc1) rfl rfl rfl (hts _ hc2) (hts _ f1) hd hroom, hts _ hstat⟩ hpre rfl (by rw [List.length_map]; exact hn) hsz hstack hrs' d ⟨r3, r4⟩
    · exact va_runSN (As := as.map (mv Z.1)) (n := n) (bytes := k'.2.1) (maxL := k'.2.2.1) (ret := k'.2.2.2.1) (index := idx) (host := host) ⟨hx, hb, hml, hown, hts⟩ hM ⟨va_cnB n hts (wg_good hc1) rfl rfl rfl (hnw _ f1) (hts _ hc2) hd hroom, hts _ hstat, trivial⟩ hpre rfl (by rw [List.length_map]; exact hn) hsz hstack hrs' d ⟨r3, r4⟩
  refine v_back run hS hA' (fun v M' H1 locs1 hq hP1 hS1 => ?_)
  have e1 : (v.map (mv Z.1)).toList ++ st.map (mv Z.1) = (v.toList ++ st).map (mv Z.1) := by cases v <;> rfl
  rw [e1]
  exact h v M' hq Z A p l e R s m args below meth c cells slots Qw C Rt H1 locs1 ls hP1 hS1 hl
theorem v_callV {idx n ci i : Nat} {as stk : List Value} (d : decode k.2.1 pc = .ok (.invokevirtual idx, 3)) (ml : ML k.1.cls idx k') (kv : KV k' ci n) (ob : OB i ci) (rm : RM k k') (hn : as.length = n) (hlen : ((Value.ref i :: as).map fun v => v.category).sum ≤ k'.2.2.1) (hst : as.reverse ++ .ref i :: st = stk) (hrs : (st.map fun v => v.category).sum ≤ 8)
    (hV : V k' Q' M 0 (lv_args 0 (.ref i :: as)) []) (h : ∀ v M', Q' v M' → V k Q M' (pc + 3) lv (v.toList ++ st)) : V k Q M pc lv stk := by
  intro Z A p l e R s m args below meth c cells slots Qw C Rt H locs ls hP hS hl
  have hsz : ls.size = k.2.2.1 := hl.1
  obtain ⟨⟨⟨hc1, hc2⟩, hd, hpl, hscr⟩, hci, hcls, hinst, hsel⟩ := kv
  obtain ⟨hx, hb, hml, hown, hts, hnw, hK, ⟨r1, r2, r3, r4⟩, hinj, hA, hE, hX⟩ := id C
  have hA' : ∀ q, vA Z q → A q := fun q ⟨i, h1, h2⟩ => by rw [h2]; exact hA i h1
  have hM := v_met (as := .ref i :: as) hscr hpl hlen hV l Z hinj
  have hg := wl_get Z M ob.1
  rw [cell_ob ob] at hg
  have hpre : PreV s H (Rc ci) (Z.1 i) (vPc Z M (.ref i :: as)) (as.map (mv Z.1)) := ⟨vPc_blind Z M _, va_recv hK hP (cl_ok hci) hg, fun U hU hW => ⟨rfl, by rw [hU]; exact hP, va_K.moved hW.alike hK, nw_warm hW hnw, xE_go hE hW hU hS hA'⟩⟩
  have hroom : (vrm k').frames + 1 ≤ R.frames ∧ 8 + (k'.2.2.1 + 11) + (vrm k').locals ≤ R.locals := ⟨Nat.le_trans rm.1 r1, Nat.le_trans rm.2 r2⟩
  have hstack : (F0 m pc ls (stk.map (mv Z.1))).stack = (as.map (mv Z.1)).reverse ++ .ref (Z.1 i) :: st.map (mv Z.1) := by
    show stk.map (mv Z.1) = _
    rw [← hst, List.map_append, List.map_reverse]
    rfl
  have hrs' : 2 * (F0 m pc ls (stk.map (mv Z.1))).monitorRoom + ((st.map (mv Z.1)).map fun v => v.category).sum ≤ 8 := lv_room (st := st.map (mv Z.1)) (by rw [cat_mv]; exact hrs)
  have run : va_Run p l e R s m args below meth c H locs cells slots 0 0 (F0 m pc ls (stk.map (mv Z.1))) (st.map (mv Z.1)) (vQc Z Q' (Value.ref (Z.1 i) :: as.map (mv Z.1)).toArray) (vA Z) := by
    rcases ml with f1 | ⟨host, f1⟩
    · exact va_runV (As := as.map (mv Z.1)) (n := n) (bytes := k'.2.1) (maxL := k'.2.2.1) (ret := k'.2.2.2.1) (index := idx) (C := Rc ci) ⟨hx, hb, hml, hown, hts⟩ hM ⟨callB_of n hts (wg_good hc1) rfl rfl rfl (hts _ hc2) (hts _ f1) hd hroom, hts _ hinst, hts _ hsel⟩ hpre rfl (by rw [List.length_map]; exact hn) hsz hstack hrs' d ⟨r3, r4⟩
    · exact va_runVN (As := as.map (mv Z.1)) (n := n) (bytes := k'.2.1) (maxL := k'.2.2.1) (ret := k'.2.2.2.1) (index := idx) (host := host) (C := Rc ci) ⟨hx, hb, hml, hown, hts⟩ hM ⟨va_cnB n hts (wg_good hc1) rfl rfl rfl (hnw _ f1) (hts _ hc2) hd hroom, hts _ hinst, hts _ hsel⟩ hpre rfl (by rw [List.length_map]; exact hn) hsz hstack hrs' d ⟨r3, r4⟩
  refine v_back run hS hA' (fun v M' H1 locs1 hq hP1 hS1 => ?_)
  have e1 : (v.map (mv Z.1)).toList ++ st.map (mv Z.1) = (v.toList ++ st).map (mv Z.1) := by cases v <;> rfl
  rw [e1]
  exact h v M' hq Z A p l e R s m args below meth c cells slots Qw C Rt H1 locs1 ls hP1 hS1 hl
end V7
end
section
/-! printed by program: each method as V knows it, the entries of the pools, what a call needs -/
theorem wgi (i : Nat) {w : Cond} (h : lw_tbl[i]? = some w) (hg : goodWord w = true) : w ∈ wg := List.mem_filter.mpr ⟨List.mem_of_getElem? h, hg⟩
theorem nwi (i : Nat) {w : Cond} (h : tables_1[i]? = some w) (hg : isNst w = true) : w ∈ nw := List.mem_filter.mpr ⟨List.mem_of_getElem? h, hg⟩
def kX0_init : vK := (yX0_init, cX0_init, 1, none, 1, 40, none)
def kX0_empty : vK := (yX0_empty, cX0_empty, 1, none, 1, 40, none)
def kX0_isNode : vK := (yX0_isNode, cX0_isNode, 2, (some .boolean), 0, 0, none)
def kX0_isOf : vK := (yX0_isOf, cX0_isOf, 3, (some .boolean), 0, 0, none)
def kX0_isLeaf : vK := (yX0_isLeaf, cX0_isLeaf, 2, (some .boolean), 0, 0, none)
def kX0_partOf : vK := (yX0_partOf, cX0_partOf, 3, (some .int), 1, 21, none)
def kX0_periodOf : vK := (yX0_periodOf, cX0_periodOf, 3, (some .int), 1, 21, none)
def kX0_edgesAt : vK := (yX0_edgesAt, cX0_edgesAt, 4, (some .int), 2, 43, none)
def kX0_hasRoomFor : vK := (yX0_hasRoomFor, cX0_hasRoomFor, 2, (some .boolean), 0, 0, none)
def kX0_allows : vK := (yX0_allows, cX0_allows, 4, (some .boolean), 1, 21, none)
def kX0_add : vK := (yX0_add, cX0_add, 5, none, 3, 70, none)
def kX0_addNode : vK := (yX0_addNode, cX0_addNode, 7, none, 2, 44, none)
def kX0_addPart : vK := (yX0_addPart, cX0_addPart, 4, none, 1, 21, none)
def kX0_setPeriod : vK := (yX0_setPeriod, cX0_setPeriod, 3, none, 0, 0, none)
def kX0_addMark : vK := (yX0_addMark, cX0_addMark, 3, none, 1, 21, none)
def kX0_measureDepths : vK := (yX0_measureDepths, cX0_measureDepths, 4, none, 2, 44, none)
def kX0_onlyHaver : vK := (yX0_onlyHaver, cX0_onlyHaver, 4, (some .int), 1, 21, none)
def kX0_clocksOf : vK := (yX0_clocksOf, cX0_clocksOf, 4, (some .int), 1, 21, none)
def kX0_unlikeClock : vK := (yX0_unlikeClock, cX0_unlikeClock, 5, (some .int), 0, 0, none)
def kX0_isCrossing : vK := (yX0_isCrossing, cX0_isCrossing, 2, (some .boolean), 1, 21, none)
def kX0_isDirect : vK := (yX0_isDirect, cX0_isDirect, 2, (some .boolean), 1, 21, none)
def kX0_isSafe : vK := (yX0_isSafe, cX0_isSafe, 3, (some .boolean), 2, 42, none)
def kX0_kindOf : vK := (yX0_kindOf, cX0_kindOf, 3, (some .int), 4, 96, none)
def kX0_isHeld : vK := (yX0_isHeld, cX0_isHeld, 9, (some .boolean), 3, 68, none)
def kX0_backFrom : vK := (yX0_backFrom, cX0_backFrom, 5, (some .int), 2, 44, none)
def kX0_reachedFrom : vK := (yX0_reachedFrom, cX0_reachedFrom, 5, (some .int), 2, 44, none)
def kX0_passes : vK := (yX0_passes, cX0_passes, 3, (some .boolean), 1, 22, none)
def kX0_whereJoined : vK := (yX0_whereJoined, cX0_whereJoined, 5, (some .int), 3, 68, none)
def kX0_lowestBit : vK := (yX0_lowestBit, cX0_lowestBit, 2, (some .int), 1, 21, none)
def kX0_weightOf : vK := (yX0_weightOf, cX0_weightOf, 3, (some .float), 5, 118, none)
def kX0_halved : vK := (yX0_halved, cX0_halved, 3, (some .float), 0, 0, none)
def kX1_init : vK := (yX1_init, cX1_init, 1, none, 1, 40, none)
def kX1_begin : vK := (yX1_begin, cX1_begin, 2, none, 0, 0, none)
def kX1_copy : vK := (yX1_copy, cX1_copy, 2, none, 1, 40, none)
def kX1_follow : vK := (yX1_follow, cX1_follow, 6, none, 3, 70, none)
def kX1_leafValue : vK := (yX1_leafValue, cX1_leafValue, 8, (some .int), 2, 43, none)
def kX1_gateValue : vK := (yX1_gateValue, cX1_gateValue, 5, (some .int), 2, 43, none)
def kX1_ruledBy : vK := (yX1_ruledBy, cX1_ruledBy, 3, (some .int), 0, 0, none)
def kX1_chosen : vK := (yX1_chosen, cX1_chosen, 3, (some .int), 0, 0, none)
def kX2_init : vK := (yX2_init, cX2_init, 1, none, 1, 40, none)
def kX2_put : vK := (yX2_put, cX2_put, 2, (some .boolean), 0, 0, none)
def kX2_readInto : vK := (yX2_readInto, cX2_readInto, 3, (some .int), 6, 130, none)
def kX2_readItem : vK := (yX2_readItem, cX2_readItem, 5, (some .boolean), 5, 106, none)
def kX2_shapeOf : vK := (yX2_shapeOf, cX2_shapeOf, 1, (some (.object "java/lang/String")), 0, 0, none)
def kX2_readToken : vK := (yX2_readToken, cX2_readToken, 1, none, 2, 42, none)
def kX2_readNumber : vK := (yX2_readNumber, cX2_readNumber, 2, none, 1, 21, none)
def kX2_isFigure : vK := (yX2_isFigure, cX2_isFigure, 1, (some .boolean), 0, 0, none)
def kX3_init : vK := (yX3_init, cX3_init, 2, none, 2, 60, none)
def kX3_type : vK := (yX3_type, cX3_type, 2, (some .int), 1, 21, none)
def kX3_clear : vK := (yX3_clear, cX3_clear, 2, (some .int), 0, 0, none)
def kX3_tells : vK := (yX3_tells, cX3_tells, 4, (some .int), 7, 152, none)
def kX3_needs : vK := (yX3_needs, cX3_needs, 3, (some .int), 3, 83, none)
def kX3_wishes : vK := (yX3_wishes, cX3_wishes, 4, (some .int), 3, 83, none)
def kX3_ticks : vK := (yX3_ticks, cX3_ticks, 4, (some .int), 5, 116, none)
def kX3_undo : vK := (yX3_undo, cX3_undo, 3, (some .int), 2, 61, none)
def kX3_node : vK := (yX3_node, cX3_node, 3, (some .int), 2, 44, none)
def kX3_register : vK := (yX3_register, cX3_register, 3, (some .int), 5, 118, none)
def kX3_crossing : vK := (yX3_crossing, cX3_crossing, 4, (some .int), 2, 42, none)
def kX3_kinds : vK := (yX3_kinds, cX3_kinds, 4, (some .int), 5, 118, none)
def kX3_join : vK := (yX3_join, cX3_join, 7, (some .int), 4, 92, none)
def kX3_risk : vK := (yX3_risk, cX3_risk, 3, (some .int), 6, 140, none)
def kX3_period : vK := (yX3_period, cX3_period, 2, (some .int), 2, 43, none)
def kX3_wish : vK := (yX3_wish, cX3_wish, 2, (some .int), 1, 22, none)
def kX3_when : vK := (yX3_when, cX3_when, 4, (some .int), 5, 116, none)
def kX3_keep : vK := (yX3_keep, cX3_keep, 2, (some .int), 2, 61, none)
def kX3_back : vK := (yX3_back, cX3_back, 2, (some .int), 2, 61, none)
def kX3_count : vK := (yX3_count, cX3_count, 2, (some .int), 0, 0, none)
def kX3_tick : vK := (yX3_tick, cX3_tick, 2, none, 4, 95, none)
def kX3_remember : vK := (yX3_remember, cX3_remember, 3, none, 2, 61, none)
def kX3_at : vK := (yX3_at, cX3_at, 2, (some .int), 0, 0, none)
def kX3_hasBit : vK := (yX3_hasBit, cX3_hasBit, 2, (some .boolean), 0, 0, none)
def kX4_init : vK := (yX4_init, cX4_init, 1, none, 1, 40, none)
def kX4_in : vK := (yX4_in, cX4_in, 3, (some .boolean), 0, 0, none)
def kX4_has : vK := (yX4_has, cX4_has, 2, (some .boolean), 0, 0, none)
def kX4_begin : vK := (yX4_begin, cX4_begin, 2, none, 0, 0, none)
def kX4_start : vK := (yX4_start, cX4_start, 2, none, 0, 0, none)
def kX4_many : vK := (yX4_many, cX4_many, 1, (some .int), 0, 0, none)
def kX4_isNode : vK := (yX4_isNode, cX4_isNode, 2, (some .boolean), 1, 22, none)
def kX4_sort : vK := (yX4_sort, cX4_sort, 2, (some .int), 0, 0, none)
def kX4_isLeaf : vK := (yX4_isLeaf, cX4_isLeaf, 2, (some .boolean), 0, 0, none)
def kX4_isRegister : vK := (yX4_isRegister, cX4_isRegister, 2, (some .boolean), 2, 43, none)
def kX4_clock : vK := (yX4_clock, cX4_clock, 2, (some .int), 0, 0, none)
def kX4_of : vK := (yX4_of, cX4_of, 3, (some .int), 0, 0, none)
def kX4_hasMany : vK := (yX4_hasMany, cX4_hasMany, 1, (some .int), 0, 0, none)
def kX4_often : vK := (yX4_often, cX4_often, 5, (some .int), 1, 22, none)
def kX4_findLeaves : vK := (yX4_findLeaves, cX4_findLeaves, 3, none, 1, 22, none)
def kX4_leavesOf : vK := (yX4_leavesOf, cX4_leavesOf, 2, (some .int), 2, 44, none)
def kX4_sourcesOf : vK := (yX4_sourcesOf, cX4_sourcesOf, 5, (some .int), 3, 65, none)
def kX4_foreign : vK := (yX4_foreign, cX4_foreign, 4, (some .int), 3, 65, none)
def kX4_isDirect : vK := (yX4_isDirect, cX4_isDirect, 2, (some .boolean), 4, 88, none)
def kX4_onlyOne : vK := (yX4_onlyOne, cX4_onlyOne, 5, (some .int), 2, 46, none)
def kX4_depth : vK := (yX4_depth, cX4_depth, 4, (some .int), 3, 70, none)
def kX4_isSafe : vK := (yX4_isSafe, cX4_isSafe, 2, (some .boolean), 5, 109, none)
def kX4_backFrom : vK := (yX4_backFrom, cX4_backFrom, 6, (some .int), 1, 22, none)
def kX4_isHeld : vK := (yX4_isHeld, cX4_isHeld, 9, (some .boolean), 6, 130, none)
def kX4_kindOf : vK := (yX4_kindOf, cX4_kindOf, 2, (some .int), 7, 158, none)
def kX4_kindAt : vK := (yX4_kindAt, cX4_kindAt, 2, (some .int), 8, 179, none)
def kX4_reached : vK := (yX4_reached, cX4_reached, 6, (some .int), 1, 22, none)
def kX4_areMarked : vK := (yX4_areMarked, cX4_areMarked, 7, (some .boolean), 0, 0, none)
def kX4_areApart : vK := (yX4_areApart, cX4_areApart, 5, (some .boolean), 5, 109, none)
def kX4_lowest : vK := (yX4_lowest, cX4_lowest, 2, (some .int), 1, 21, none)
def kX4_joinAt : vK := (yX4_joinAt, cX4_joinAt, 7, (some .int), 6, 133, none)
def kX4_and : vK := (yX4_and, cX4_and, 2, (some .int), 0, 0, none)
def kX4_or : vK := (yX4_or, cX4_or, 2, (some .int), 0, 0, none)
def kX4_xor : vK := (yX4_xor, cX4_xor, 2, (some .int), 0, 0, none)
def kX4_choose : vK := (yX4_choose, cX4_choose, 3, (some .int), 0, 0, none)
def kX4_gate : vK := (yX4_gate, cX4_gate, 4, (some .int), 1, 22, none)
def kX4_findValues : vK := (yX4_findValues, cX4_findValues, 3, none, 2, 45, none)
def kX4_tick : vK := (yX4_tick, cX4_tick, 5, none, 7, 154, none)
def kX4_isSettled : vK := (yX4_isSettled, cX4_isSettled, 3, (some .boolean), 5, 109, none)
def kX4_taken : vK := (yX4_taken, cX4_taken, 4, (some .int), 6, 131, none)
def kX4_note : vK := (yX4_note, cX4_note, 2, none, 0, 0, none)
def kX4_needs : vK := (yX4_needs, cX4_needs, 3, (some .int), 1, 22, none)
def kX4_isInput : vK := (yX4_isInput, cX4_isInput, 2, (some .boolean), 2, 43, none)
def kX4_wishes : vK := (yX4_wishes, cX4_wishes, 4, (some .int), 3, 64, none)
def kX4_ticks : vK := (yX4_ticks, cX4_ticks, 4, (some .int), 8, 178, none)
def kX4_undo : vK := (yX4_undo, cX4_undo, 2, (some .int), 0, 0, none)
def kX4_node : vK := (yX4_node, cX4_node, 3, (some .int), 4, 89, none)
def kX4_register : vK := (yX4_register, cX4_register, 3, (some .int), 8, 179, none)
def kX4_crossing : vK := (yX4_crossing, cX4_crossing, 4, (some .int), 9, 200, none)
def kX4_kinds : vK := (yX4_kinds, cX4_kinds, 4, (some .int), 9, 200, none)
def kX4_join : vK := (yX4_join, cX4_join, 3, (some .int), 7, 159, none)
def kX4_weight : vK := (yX4_weight, cX4_weight, 5, (some .float), 4, 93, none)
def kX4_risk : vK := (yX4_risk, cX4_risk, 4, (some .int), 9, 200, none)
def kX4_period : vK := (yX4_period, cX4_period, 2, (some .int), 1, 22, none)
def kX4_wish : vK := (yX4_wish, cX4_wish, 2, (some .int), 3, 64, none)
def kX4_when : vK := (yX4_when, cX4_when, 4, (some .int), 8, 178, none)
def kX4_keep : vK := (yX4_keep, cX4_keep, 3, (some .int), 1, 22, none)
def kX4_back : vK := (yX4_back, cX4_back, 3, (some .int), 1, 22, none)
def kX4_count : vK := (yX4_count, cX4_count, 2, (some .int), 1, 20, none)
def kX4_type : vK := (yX4_type, cX4_type, 2, (some .int), 1, 22, none)
def kX4_clear : vK := (yX4_clear, cX4_clear, 2, (some .int), 0, 0, none)
def kX4_isItem : vK := (yX4_isItem, cX4_isItem, 1, (some .boolean), 0, 0, none)
def kX4_next : vK := (yX4_next, cX4_next, 1, none, 1, 22, none)
def kX4_must : vK := (yX4_must, cX4_must, 3, (some .int), 2, 42, none)
def kX4_number : vK := (yX4_number, cX4_number, 3, (some .int), 3, 64, none)
def kX4_sortOf : vK := (yX4_sortOf, cX4_sortOf, 1, (some .int), 0, 0, none)
def kX4_readNode : vK := (yX4_readNode, cX4_readNode, 4, none, 4, 86, none)
def kX4_isToldLeaf : vK := (yX4_isToldLeaf, cX4_isToldLeaf, 1, (some .boolean), 1, 22, none)
def kX4_readMark : vK := (yX4_readMark, cX4_readMark, 4, none, 3, 64, none)
def kX4_readItem : vK := (yX4_readItem, cX4_readItem, 6, none, 5, 109, none)
def kX4_tells : vK := (yX4_tells, cX4_tells, 3, (some .int), 6, 134, none)
def kJ6_bitCount_0f7a4 : vK := (yJ6_bitCount_0f7a4, cJ6_bitCount_0f7a4, 1, (some .int), 0, 0, none)
def kJ9_min_7cf53 : vK := (yJ9_min_7cf53, cJ9_min_7cf53, 2, (some .int), 0, 0, none)
def kJ0_length_8abf5 : vK := (yJ0_length_8abf5, cJ0_length_8abf5, 1, (some .int), 1, 20, none)
def kJ0_isEmpty_aae02 : vK := (yJ0_isEmpty_aae02, cJ0_isEmpty_aae02, 1, (some .boolean), 0, 0, none)
def kJ0_charAt_5068e : vK := (yJ0_charAt_5068e, cJ0_charAt_5068e, 2, (some .char), 4, 85, none)
def kJ0_coder_7d493 : vK := (yJ0_coder_7d493, cJ0_coder_7d493, 1, (some .byte), 0, 0, none)
def kJ0_isLatin1_aae02 : vK := (yJ0_isLatin1_aae02, cJ0_isLatin1_aae02, 1, (some .boolean), 0, 0, none)
def kJ0_checkIndex_df160 : vK := (yJ0_checkIndex_df160, cJ0_checkIndex_df160, 2, none, 1, 22, none)
def kJ1_charAt_3b067 : vK := (yJ1_charAt_3b067, cJ1_charAt_3b067, 2, (some .char), 2, 43, none)
def kJ2_getChar_3b067 : vK := (yJ2_getChar_3b067, cJ2_getChar_3b067, 2, (some .char), 1, 20, none)
def kJ2_length_9d52b : vK := (yJ2_length_9d52b, cJ2_length_9d52b, 1, (some .int), 0, 0, none)
def kJ2_charAt_3b067 : vK := (yJ2_charAt_3b067, cJ2_charAt_3b067, 2, (some .char), 3, 64, none)
def kJ2_checkIndex_2214a : vK := (yJ2_checkIndex_2214a, cJ2_checkIndex_2214a, 2, none, 2, 43, none)
def kJ3_checkIndex_8e157 : vK := (yJ3_checkIndex_8e157, cJ3_checkIndex_8e157, 3, (some .int), 0, 0, none)
def kL_law (L : Nat) (xs : Nat → Int32) : vK := (yL_law, cL_law, 4, ret, 12, 446, some (L, xs))
theorem kv_X0_empty : KV kX0_empty 0 0 := ⟨⟨⟨(wgi 279 (by decide +kernel) (by decide +kernel)), (wgi 83 (by decide +kernel) (by decide +kernel))⟩, ⟨(by decide +kernel), (by decide +kernel), (by decide +kernel)⟩, (by decide +kernel), rfl⟩, by decide, rfl, (wgi 278 (by decide +kernel) (by decide +kernel)), (wgi 2 (by decide +kernel) (by decide +kernel))⟩
theorem kv_X0_isNode : KV kX0_isNode 0 1 := ⟨⟨⟨(wgi 389 (by decide +kernel) (by decide +kernel)), (wgi 83 (by decide +kernel) (by decide +kernel))⟩, ⟨(by decide +kernel), (by decide +kernel), (by decide +kernel)⟩, (by decide +kernel), rfl⟩, by decide, rfl, (wgi 388 (by decide +kernel) (by decide +kernel)), (wgi 11 (by decide +kernel) (by decide +kernel))⟩
theorem kv_X0_isOf : KV kX0_isOf 0 2 := ⟨⟨⟨(wgi 311 (by decide +kernel) (by decide +kernel)), (wgi 83 (by decide +kernel) (by decide +kernel))⟩, ⟨(by decide +kernel), (by decide +kernel), (by decide +kernel)⟩, (by decide +kernel), rfl⟩, by decide, rfl, (wgi 310 (by decide +kernel) (by decide +kernel)), (wgi 7 (by decide +kernel) (by decide +kernel))⟩
theorem kv_X0_isLeaf : KV kX0_isLeaf 0 1 := ⟨⟨⟨(wgi 393 (by decide +kernel) (by decide +kernel)), (wgi 83 (by decide +kernel) (by decide +kernel))⟩, ⟨(by decide +kernel), (by decide +kernel), (by decide +kernel)⟩, (by decide +kernel), rfl⟩, by decide, rfl, (wgi 392 (by decide +kernel) (by decide +kernel)), (wgi 12 (by decide +kernel) (by decide +kernel))⟩
theorem kv_X0_partOf : KV kX0_partOf 0 2 := ⟨⟨⟨(wgi 472 (by decide +kernel) (by decide +kernel)), (wgi 83 (by decide +kernel) (by decide +kernel))⟩, ⟨(by decide +kernel), (by decide +kernel), (by decide +kernel)⟩, (by decide +kernel), rfl⟩, by decide, rfl, (wgi 471 (by decide +kernel) (by decide +kernel)), (wgi 27 (by decide +kernel) (by decide +kernel))⟩
theorem kv_X0_periodOf : KV kX0_periodOf 0 1 := ⟨⟨⟨(wgi 463 (by decide +kernel) (by decide +kernel)), (wgi 83 (by decide +kernel) (by decide +kernel))⟩, ⟨(by decide +kernel), (by decide +kernel), (by decide +kernel)⟩, (by decide +kernel), rfl⟩, by decide, rfl, (wgi 462 (by decide +kernel) (by decide +kernel)), (wgi 25 (by decide +kernel) (by decide +kernel))⟩
theorem kv_X0_edgesAt : KV kX0_edgesAt 0 1 := ⟨⟨⟨(wgi 459 (by decide +kernel) (by decide +kernel)), (wgi 83 (by decide +kernel) (by decide +kernel))⟩, ⟨(by decide +kernel), (by decide +kernel), (by decide +kernel)⟩, (by decide +kernel), rfl⟩, by decide, rfl, (wgi 458 (by decide +kernel) (by decide +kernel)), (wgi 24 (by decide +kernel) (by decide +kernel))⟩
theorem kv_X0_hasRoomFor : KV kX0_hasRoomFor 0 1 := ⟨⟨⟨(wgi 333 (by decide +kernel) (by decide +kernel)), (wgi 83 (by decide +kernel) (by decide +kernel))⟩, ⟨(by decide +kernel), (by decide +kernel), (by decide +kernel)⟩, (by decide +kernel), rfl⟩, by decide, rfl, (wgi 332 (by decide +kernel) (by decide +kernel)), (wgi 9 (by decide +kernel) (by decide +kernel))⟩
theorem kv_X0_allows : KV kX0_allows 0 3 := ⟨⟨⟨(wgi 385 (by decide +kernel) (by decide +kernel)), (wgi 83 (by decide +kernel) (by decide +kernel))⟩, ⟨(by decide +kernel), (by decide +kernel), (by decide +kernel)⟩, (by decide +kernel), rfl⟩, by decide, rfl, (wgi 384 (by decide +kernel) (by decide +kernel)), (wgi 10 (by decide +kernel) (by decide +kernel))⟩
theorem kv_X0_add : KV kX0_add 0 4 := ⟨⟨⟨(wgi 397 (by decide +kernel) (by decide +kernel)), (wgi 83 (by decide +kernel) (by decide +kernel))⟩, ⟨(by decide +kernel), (by decide +kernel), (by decide +kernel)⟩, (by decide +kernel), rfl⟩, by decide, rfl, (wgi 396 (by decide +kernel) (by decide +kernel)), (wgi 13 (by decide +kernel) (by decide +kernel))⟩
theorem kv_X0_addNode : KV kX0_addNode 0 5 := ⟨⟨⟨(wgi 401 (by decide +kernel) (by decide +kernel)), (wgi 83 (by decide +kernel) (by decide +kernel))⟩, ⟨(by decide +kernel), (by decide +kernel), (by decide +kernel)⟩, (by decide +kernel), rfl⟩, by decide, rfl, (wgi 400 (by decide +kernel) (by decide +kernel)), (wgi 14 (by decide +kernel) (by decide +kernel))⟩
theorem kv_X0_addPart : KV kX0_addPart 0 3 := ⟨⟨⟨(wgi 405 (by decide +kernel) (by decide +kernel)), (wgi 83 (by decide +kernel) (by decide +kernel))⟩, ⟨(by decide +kernel), (by decide +kernel), (by decide +kernel)⟩, (by decide +kernel), rfl⟩, by decide, rfl, (wgi 404 (by decide +kernel) (by decide +kernel)), (wgi 15 (by decide +kernel) (by decide +kernel))⟩
theorem kv_X0_setPeriod : KV kX0_setPeriod 0 2 := ⟨⟨⟨(wgi 416 (by decide +kernel) (by decide +kernel)), (wgi 83 (by decide +kernel) (by decide +kernel))⟩, ⟨(by decide +kernel), (by decide +kernel), (by decide +kernel)⟩, (by decide +kernel), rfl⟩, by decide, rfl, (wgi 415 (by decide +kernel) (by decide +kernel)), (wgi 17 (by decide +kernel) (by decide +kernel))⟩
theorem kv_X0_addMark : KV kX0_addMark 0 2 := ⟨⟨⟨(wgi 420 (by decide +kernel) (by decide +kernel)), (wgi 83 (by decide +kernel) (by decide +kernel))⟩, ⟨(by decide +kernel), (by decide +kernel), (by decide +kernel)⟩, (by decide +kernel), rfl⟩, by decide, rfl, (wgi 419 (by decide +kernel) (by decide +kernel)), (wgi 18 (by decide +kernel) (by decide +kernel))⟩
theorem kv_X0_measureDepths : KV kX0_measureDepths 0 0 := ⟨⟨⟨(wgi 300 (by decide +kernel) (by decide +kernel)), (wgi 83 (by decide +kernel) (by decide +kernel))⟩, ⟨(by decide +kernel), (by decide +kernel), (by decide +kernel)⟩, (by decide +kernel), rfl⟩, by decide, rfl, (wgi 299 (by decide +kernel) (by decide +kernel)), (wgi 5 (by decide +kernel) (by decide +kernel))⟩
theorem kv_X0_onlyHaver : KV kX0_onlyHaver 0 1 := ⟨⟨⟨(wgi 304 (by decide +kernel) (by decide +kernel)), (wgi 83 (by decide +kernel) (by decide +kernel))⟩, ⟨(by decide +kernel), (by decide +kernel), (by decide +kernel)⟩, (by decide +kernel), rfl⟩, by decide, rfl, (wgi 303 (by decide +kernel) (by decide +kernel)), (wgi 6 (by decide +kernel) (by decide +kernel))⟩
theorem kv_X0_clocksOf : KV kX0_clocksOf 0 1 := ⟨⟨⟨(wgi 504 (by decide +kernel) (by decide +kernel)), (wgi 83 (by decide +kernel) (by decide +kernel))⟩, ⟨(by decide +kernel), (by decide +kernel), (by decide +kernel)⟩, (by decide +kernel), rfl⟩, by decide, rfl, (wgi 503 (by decide +kernel) (by decide +kernel)), (wgi 30 (by decide +kernel) (by decide +kernel))⟩
theorem kv_X0_unlikeClock : KV kX0_unlikeClock 0 2 := ⟨⟨⟨(wgi 412 (by decide +kernel) (by decide +kernel)), (wgi 83 (by decide +kernel) (by decide +kernel))⟩, ⟨(by decide +kernel), (by decide +kernel), (by decide +kernel)⟩, (by decide +kernel), rfl⟩, by decide, rfl, (wgi 411 (by decide +kernel) (by decide +kernel)), (wgi 16 (by decide +kernel) (by decide +kernel))⟩
theorem kv_X0_isCrossing : KV kX0_isCrossing 0 1 := ⟨⟨⟨(wgi 516 (by decide +kernel) (by decide +kernel)), (wgi 83 (by decide +kernel) (by decide +kernel))⟩, ⟨(by decide +kernel), (by decide +kernel), (by decide +kernel)⟩, (by decide +kernel), rfl⟩, by decide, rfl, (wgi 515 (by decide +kernel) (by decide +kernel)), (wgi 32 (by decide +kernel) (by decide +kernel))⟩
theorem kv_X0_isDirect : KV kX0_isDirect 0 1 := ⟨⟨⟨(wgi 489 (by decide +kernel) (by decide +kernel)), (wgi 83 (by decide +kernel) (by decide +kernel))⟩, ⟨(by decide +kernel), (by decide +kernel), (by decide +kernel)⟩, (by decide +kernel), rfl⟩, by decide, rfl, (wgi 488 (by decide +kernel) (by decide +kernel)), (wgi 29 (by decide +kernel) (by decide +kernel))⟩
theorem kv_X0_isSafe : KV kX0_isSafe 0 2 := ⟨⟨⟨(wgi 521 (by decide +kernel) (by decide +kernel)), (wgi 83 (by decide +kernel) (by decide +kernel))⟩, ⟨(by decide +kernel), (by decide +kernel), (by decide +kernel)⟩, (by decide +kernel), rfl⟩, by decide, rfl, (wgi 520 (by decide +kernel) (by decide +kernel)), (wgi 33 (by decide +kernel) (by decide +kernel))⟩
theorem kv_X0_kindOf : KV kX0_kindOf 0 2 := ⟨⟨⟨(wgi 512 (by decide +kernel) (by decide +kernel)), (wgi 83 (by decide +kernel) (by decide +kernel))⟩, ⟨(by decide +kernel), (by decide +kernel), (by decide +kernel)⟩, (by decide +kernel), rfl⟩, by decide, rfl, (wgi 511 (by decide +kernel) (by decide +kernel)), (wgi 31 (by decide +kernel) (by decide +kernel))⟩
theorem kv_X0_isHeld : KV kX0_isHeld 0 2 := ⟨⟨⟨(wgi 525 (by decide +kernel) (by decide +kernel)), (wgi 83 (by decide +kernel) (by decide +kernel))⟩, ⟨(by decide +kernel), (by decide +kernel), (by decide +kernel)⟩, (by decide +kernel), rfl⟩, by decide, rfl, (wgi 524 (by decide +kernel) (by decide +kernel)), (wgi 34 (by decide +kernel) (by decide +kernel))⟩
theorem kv_X0_backFrom : KV kX0_backFrom 0 2 := ⟨⟨⟨(wgi 537 (by decide +kernel) (by decide +kernel)), (wgi 83 (by decide +kernel) (by decide +kernel))⟩, ⟨(by decide +kernel), (by decide +kernel), (by decide +kernel)⟩, (by decide +kernel), rfl⟩, by decide, rfl, (wgi 536 (by decide +kernel) (by decide +kernel)), (wgi 35 (by decide +kernel) (by decide +kernel))⟩
theorem kv_X0_reachedFrom : KV kX0_reachedFrom 0 1 := ⟨⟨⟨(wgi 562 (by decide +kernel) (by decide +kernel)), (wgi 83 (by decide +kernel) (by decide +kernel))⟩, ⟨(by decide +kernel), (by decide +kernel), (by decide +kernel)⟩, (by decide +kernel), rfl⟩, by decide, rfl, (wgi 561 (by decide +kernel) (by decide +kernel)), (wgi 38 (by decide +kernel) (by decide +kernel))⟩
theorem kv_X0_passes : KV kX0_passes 0 2 := ⟨⟨⟨(wgi 541 (by decide +kernel) (by decide +kernel)), (wgi 83 (by decide +kernel) (by decide +kernel))⟩, ⟨(by decide +kernel), (by decide +kernel), (by decide +kernel)⟩, (by decide +kernel), rfl⟩, by decide, rfl, (wgi 540 (by decide +kernel) (by decide +kernel)), (wgi 36 (by decide +kernel) (by decide +kernel))⟩
theorem kv_X0_whereJoined : KV kX0_whereJoined 0 2 := ⟨⟨⟨(wgi 558 (by decide +kernel) (by decide +kernel)), (wgi 83 (by decide +kernel) (by decide +kernel))⟩, ⟨(by decide +kernel), (by decide +kernel), (by decide +kernel)⟩, (by decide +kernel), rfl⟩, by decide, rfl, (wgi 557 (by decide +kernel) (by decide +kernel)), (wgi 37 (by decide +kernel) (by decide +kernel))⟩
theorem ks_X0_lowestBit : KS kX0_lowestBit 1 := ⟨⟨⟨(wgi 565 (by decide +kernel) (by decide +kernel)), (wgi 83 (by decide +kernel) (by decide +kernel))⟩, ⟨(by decide +kernel), (by decide +kernel), (by decide +kernel)⟩, (by decide +kernel), rfl⟩, (wgi 564 (by decide +kernel) (by decide +kernel))⟩
theorem kv_X0_weightOf : KV kX0_weightOf 0 2 := ⟨⟨⟨(wgi 573 (by decide +kernel) (by decide +kernel)), (wgi 83 (by decide +kernel) (by decide +kernel))⟩, ⟨(by decide +kernel), (by decide +kernel), (by decide +kernel)⟩, (by decide +kernel), rfl⟩, by decide, rfl, (wgi 572 (by decide +kernel) (by decide +kernel)), (wgi 39 (by decide +kernel) (by decide +kernel))⟩
theorem ks_X0_halved : KS kX0_halved 1 := ⟨⟨⟨(wgi 577 (by decide +kernel) (by decide +kernel)), (wgi 83 (by decide +kernel) (by decide +kernel))⟩, ⟨(by decide +kernel), (by decide +kernel), (by decide +kernel)⟩, (by decide +kernel), rfl⟩, (wgi 576 (by decide +kernel) (by decide +kernel))⟩
theorem kv_X1_begin : KV kX1_begin 1 0 := ⟨⟨⟨(wgi 424 (by decide +kernel) (by decide +kernel)), (wgi 84 (by decide +kernel) (by decide +kernel))⟩, ⟨(by decide +kernel), (by decide +kernel), (by decide +kernel)⟩, (by decide +kernel), rfl⟩, by decide, rfl, (wgi 423 (by decide +kernel) (by decide +kernel)), (wgi 19 (by decide +kernel) (by decide +kernel))⟩
theorem kv_X1_copy : KV kX1_copy 1 1 := ⟨⟨⟨(wgi 437 (by decide +kernel) (by decide +kernel)), (wgi 84 (by decide +kernel) (by decide +kernel))⟩, ⟨(by decide +kernel), (by decide +kernel), (by decide +kernel)⟩, (by decide +kernel), rfl⟩, by decide, rfl, (wgi 436 (by decide +kernel) (by decide +kernel)), (wgi 21 (by decide +kernel) (by decide +kernel))⟩
theorem kv_X1_follow : KV kX1_follow 1 2 := ⟨⟨⟨(wgi 455 (by decide +kernel) (by decide +kernel)), (wgi 84 (by decide +kernel) (by decide +kernel))⟩, ⟨(by decide +kernel), (by decide +kernel), (by decide +kernel)⟩, (by decide +kernel), rfl⟩, by decide, rfl, (wgi 454 (by decide +kernel) (by decide +kernel)), (wgi 23 (by decide +kernel) (by decide +kernel))⟩
theorem kv_X1_leafValue : KV kX1_leafValue 1 4 := ⟨⟨⟨(wgi 484 (by decide +kernel) (by decide +kernel)), (wgi 84 (by decide +kernel) (by decide +kernel))⟩, ⟨(by decide +kernel), (by decide +kernel), (by decide +kernel)⟩, (by decide +kernel), rfl⟩, by decide, rfl, (wgi 483 (by decide +kernel) (by decide +kernel)), (wgi 28 (by decide +kernel) (by decide +kernel))⟩
theorem kv_X1_gateValue : KV kX1_gateValue 1 2 := ⟨⟨⟨(wgi 468 (by decide +kernel) (by decide +kernel)), (wgi 84 (by decide +kernel) (by decide +kernel))⟩, ⟨(by decide +kernel), (by decide +kernel), (by decide +kernel)⟩, (by decide +kernel), rfl⟩, by decide, rfl, (wgi 467 (by decide +kernel) (by decide +kernel)), (wgi 26 (by decide +kernel) (by decide +kernel))⟩
theorem ks_X1_ruledBy : KS kX1_ruledBy 3 := ⟨⟨⟨(wgi 476 (by decide +kernel) (by decide +kernel)), (wgi 84 (by decide +kernel) (by decide +kernel))⟩, ⟨(by decide +kernel), (by decide +kernel), (by decide +kernel)⟩, (by decide +kernel), rfl⟩, (wgi 475 (by decide +kernel) (by decide +kernel))⟩
theorem ks_X1_chosen : KS kX1_chosen 3 := ⟨⟨⟨(wgi 479 (by decide +kernel) (by decide +kernel)), (wgi 84 (by decide +kernel) (by decide +kernel))⟩, ⟨(by decide +kernel), (by decide +kernel), (by decide +kernel)⟩, (by decide +kernel), rfl⟩, (wgi 478 (by decide +kernel) (by decide +kernel))⟩
theorem kv_X2_put : KV kX2_put 2 1 := ⟨⟨⟨(wgi 263 (by decide +kernel) (by decide +kernel)), (wgi 82 (by decide +kernel) (by decide +kernel))⟩, ⟨(by decide +kernel), (by decide +kernel), (by decide +kernel)⟩, (by decide +kernel), rfl⟩, by decide, rfl, (wgi 262 (by decide +kernel) (by decide +kernel)), (wgi 0 (by decide +kernel) (by decide +kernel))⟩
theorem kv_X2_readInto : KV kX2_readInto 2 1 := ⟨⟨⟨(wgi 275 (by decide +kernel) (by decide +kernel)), (wgi 82 (by decide +kernel) (by decide +kernel))⟩, ⟨(by decide +kernel), (by decide +kernel), (by decide +kernel)⟩, (by decide +kernel), rfl⟩, by decide, rfl, (wgi 274 (by decide +kernel) (by decide +kernel)), (wgi 1 (by decide +kernel) (by decide +kernel))⟩
theorem kv_X2_readItem : KV kX2_readItem 2 1 := ⟨⟨⟨(wgi 315 (by decide +kernel) (by decide +kernel)), (wgi 82 (by decide +kernel) (by decide +kernel))⟩, ⟨(by decide +kernel), (by decide +kernel), (by decide +kernel)⟩, (by decide +kernel), rfl⟩, by decide, rfl, (wgi 314 (by decide +kernel) (by decide +kernel)), (wgi 8 (by decide +kernel) (by decide +kernel))⟩
theorem ks_X2_shapeOf : KS kX2_shapeOf 1 := ⟨⟨⟨(wgi 318 (by decide +kernel) (by decide +kernel)), (wgi 82 (by decide +kernel) (by decide +kernel))⟩, ⟨(by decide +kernel), (by decide +kernel), (by decide +kernel)⟩, (by decide +kernel), rfl⟩, (wgi 317 (by decide +kernel) (by decide +kernel))⟩
theorem kv_X2_readToken : KV kX2_readToken 2 0 := ⟨⟨⟨(wgi 286 (by decide +kernel) (by decide +kernel)), (wgi 82 (by decide +kernel) (by decide +kernel))⟩, ⟨(by decide +kernel), (by decide +kernel), (by decide +kernel)⟩, (by decide +kernel), rfl⟩, by decide, rfl, (wgi 285 (by decide +kernel) (by decide +kernel)), (wgi 3 (by decide +kernel) (by decide +kernel))⟩
theorem kv_X2_readNumber : KV kX2_readNumber 2 0 := ⟨⟨⟨(wgi 293 (by decide +kernel) (by decide +kernel)), (wgi 82 (by decide +kernel) (by decide +kernel))⟩, ⟨(by decide +kernel), (by decide +kernel), (by decide +kernel)⟩, (by decide +kernel), rfl⟩, by decide, rfl, (wgi 292 (by decide +kernel) (by decide +kernel)), (wgi 4 (by decide +kernel) (by decide +kernel))⟩
theorem ks_X2_isFigure : KS kX2_isFigure 1 := ⟨⟨⟨(wgi 289 (by decide +kernel) (by decide +kernel)), (wgi 82 (by decide +kernel) (by decide +kernel))⟩, ⟨(by decide +kernel), (by decide +kernel), (by decide +kernel)⟩, (by decide +kernel), rfl⟩, (wgi 288 (by decide +kernel) (by decide +kernel))⟩
theorem kv_X3_type : KV kX3_type 3 1 := ⟨⟨⟨(wgi 259 (by decide +kernel) (by decide +kernel)), (wgi 81 (by decide +kernel) (by decide +kernel))⟩, ⟨(by decide +kernel), (by decide +kernel), (by decide +kernel)⟩, (by decide +kernel), rfl⟩, by decide, rfl, (wgi 257 (by decide +kernel) (by decide +kernel)), (wgi 258 (by decide +kernel) (by decide +kernel))⟩
theorem kv_X3_clear : KV kX3_clear 3 0 := ⟨⟨⟨(wgi 267 (by decide +kernel) (by decide +kernel)), (wgi 81 (by decide +kernel) (by decide +kernel))⟩, ⟨(by decide +kernel), (by decide +kernel), (by decide +kernel)⟩, (by decide +kernel), rfl⟩, by decide, rfl, (wgi 265 (by decide +kernel) (by decide +kernel)), (wgi 266 (by decide +kernel) (by decide +kernel))⟩
theorem kv_X3_tells : KV kX3_tells 3 0 := ⟨⟨⟨(wgi 271 (by decide +kernel) (by decide +kernel)), (wgi 81 (by decide +kernel) (by decide +kernel))⟩, ⟨(by decide +kernel), (by decide +kernel), (by decide +kernel)⟩, (by decide +kernel), rfl⟩, by decide, rfl, (wgi 269 (by decide +kernel) (by decide +kernel)), (wgi 270 (by decide +kernel) (by decide +kernel))⟩
theorem kv_X3_needs : KV kX3_needs 3 1 := ⟨⟨⟨(wgi 429 (by decide +kernel) (by decide +kernel)), (wgi 81 (by decide +kernel) (by decide +kernel))⟩, ⟨(by decide +kernel), (by decide +kernel), (by decide +kernel)⟩, (by decide +kernel), rfl⟩, by decide, rfl, (wgi 427 (by decide +kernel) (by decide +kernel)), (wgi 428 (by decide +kernel) (by decide +kernel))⟩
theorem kv_X3_wishes : KV kX3_wishes 3 2 := ⟨⟨⟨(wgi 442 (by decide +kernel) (by decide +kernel)), (wgi 81 (by decide +kernel) (by decide +kernel))⟩, ⟨(by decide +kernel), (by decide +kernel), (by decide +kernel)⟩, (by decide +kernel), rfl⟩, by decide, rfl, (wgi 440 (by decide +kernel) (by decide +kernel)), (wgi 441 (by decide +kernel) (by decide +kernel))⟩
theorem kv_X3_ticks : KV kX3_ticks 3 1 := ⟨⟨⟨(wgi 447 (by decide +kernel) (by decide +kernel)), (wgi 81 (by decide +kernel) (by decide +kernel))⟩, ⟨(by decide +kernel), (by decide +kernel), (by decide +kernel)⟩, (by decide +kernel), rfl⟩, by decide, rfl, (wgi 445 (by decide +kernel) (by decide +kernel)), (wgi 446 (by decide +kernel) (by decide +kernel))⟩
theorem kv_X3_undo : KV kX3_undo 3 0 := ⟨⟨⟨(wgi 493 (by decide +kernel) (by decide +kernel)), (wgi 81 (by decide +kernel) (by decide +kernel))⟩, ⟨(by decide +kernel), (by decide +kernel), (by decide +kernel)⟩, (by decide +kernel), rfl⟩, by decide, rfl, (wgi 491 (by decide +kernel) (by decide +kernel)), (wgi 492 (by decide +kernel) (by decide +kernel))⟩
theorem kv_X3_node : KV kX3_node 3 2 := ⟨⟨⟨(wgi 497 (by decide +kernel) (by decide +kernel)), (wgi 81 (by decide +kernel) (by decide +kernel))⟩, ⟨(by decide +kernel), (by decide +kernel), (by decide +kernel)⟩, (by decide +kernel), rfl⟩, by decide, rfl, (wgi 495 (by decide +kernel) (by decide +kernel)), (wgi 496 (by decide +kernel) (by decide +kernel))⟩
theorem kv_X3_register : KV kX3_register 3 2 := ⟨⟨⟨(wgi 508 (by decide +kernel) (by decide +kernel)), (wgi 81 (by decide +kernel) (by decide +kernel))⟩, ⟨(by decide +kernel), (by decide +kernel), (by decide +kernel)⟩, (by decide +kernel), rfl⟩, by decide, rfl, (wgi 506 (by decide +kernel) (by decide +kernel)), (wgi 507 (by decide +kernel) (by decide +kernel))⟩
theorem kv_X3_crossing : KV kX3_crossing 3 1 := ⟨⟨⟨(wgi 545 (by decide +kernel) (by decide +kernel)), (wgi 81 (by decide +kernel) (by decide +kernel))⟩, ⟨(by decide +kernel), (by decide +kernel), (by decide +kernel)⟩, (by decide +kernel), rfl⟩, by decide, rfl, (wgi 543 (by decide +kernel) (by decide +kernel)), (wgi 544 (by decide +kernel) (by decide +kernel))⟩
theorem kv_X3_kinds : KV kX3_kinds 3 1 := ⟨⟨⟨(wgi 550 (by decide +kernel) (by decide +kernel)), (wgi 81 (by decide +kernel) (by decide +kernel))⟩, ⟨(by decide +kernel), (by decide +kernel), (by decide +kernel)⟩, (by decide +kernel), rfl⟩, by decide, rfl, (wgi 548 (by decide +kernel) (by decide +kernel)), (wgi 549 (by decide +kernel) (by decide +kernel))⟩
theorem kv_X3_join : KV kX3_join 3 2 := ⟨⟨⟨(wgi 554 (by decide +kernel) (by decide +kernel)), (wgi 81 (by decide +kernel) (by decide +kernel))⟩, ⟨(by decide +kernel), (by decide +kernel), (by decide +kernel)⟩, (by decide +kernel), rfl⟩, by decide, rfl, (wgi 552 (by decide +kernel) (by decide +kernel)), (wgi 553 (by decide +kernel) (by decide +kernel))⟩
theorem kv_X3_risk : KV kX3_risk 3 0 := ⟨⟨⟨(wgi 569 (by decide +kernel) (by decide +kernel)), (wgi 81 (by decide +kernel) (by decide +kernel))⟩, ⟨(by decide +kernel), (by decide +kernel), (by decide +kernel)⟩, (by decide +kernel), rfl⟩, by decide, rfl, (wgi 567 (by decide +kernel) (by decide +kernel)), (wgi 568 (by decide +kernel) (by decide +kernel))⟩
theorem kv_X3_period : KV kX3_period 3 1 := ⟨⟨⟨(wgi 587 (by decide +kernel) (by decide +kernel)), (wgi 81 (by decide +kernel) (by decide +kernel))⟩, ⟨(by decide +kernel), (by decide +kernel), (by decide +kernel)⟩, (by decide +kernel), rfl⟩, by decide, rfl, (wgi 585 (by decide +kernel) (by decide +kernel)), (wgi 586 (by decide +kernel) (by decide +kernel))⟩
theorem kv_X3_wish : KV kX3_wish 3 1 := ⟨⟨⟨(wgi 591 (by decide +kernel) (by decide +kernel)), (wgi 81 (by decide +kernel) (by decide +kernel))⟩, ⟨(by decide +kernel), (by decide +kernel), (by decide +kernel)⟩, (by decide +kernel), rfl⟩, by decide, rfl, (wgi 589 (by decide +kernel) (by decide +kernel)), (wgi 590 (by decide +kernel) (by decide +kernel))⟩
theorem kv_X3_when : KV kX3_when 3 2 := ⟨⟨⟨(wgi 595 (by decide +kernel) (by decide +kernel)), (wgi 81 (by decide +kernel) (by decide +kernel))⟩, ⟨(by decide +kernel), (by decide +kernel), (by decide +kernel)⟩, (by decide +kernel), rfl⟩, by decide, rfl, (wgi 593 (by decide +kernel) (by decide +kernel)), (wgi 594 (by decide +kernel) (by decide +kernel))⟩
theorem kv_X3_keep : KV kX3_keep 3 1 := ⟨⟨⟨(wgi 599 (by decide +kernel) (by decide +kernel)), (wgi 81 (by decide +kernel) (by decide +kernel))⟩, ⟨(by decide +kernel), (by decide +kernel), (by decide +kernel)⟩, (by decide +kernel), rfl⟩, by decide, rfl, (wgi 597 (by decide +kernel) (by decide +kernel)), (wgi 598 (by decide +kernel) (by decide +kernel))⟩
theorem kv_X3_back : KV kX3_back 3 1 := ⟨⟨⟨(wgi 603 (by decide +kernel) (by decide +kernel)), (wgi 81 (by decide +kernel) (by decide +kernel))⟩, ⟨(by decide +kernel), (by decide +kernel), (by decide +kernel)⟩, (by decide +kernel), rfl⟩, by decide, rfl, (wgi 601 (by decide +kernel) (by decide +kernel)), (wgi 602 (by decide +kernel) (by decide +kernel))⟩
theorem kv_X3_count : KV kX3_count 3 1 := ⟨⟨⟨(wgi 607 (by decide +kernel) (by decide +kernel)), (wgi 81 (by decide +kernel) (by decide +kernel))⟩, ⟨(by decide +kernel), (by decide +kernel), (by decide +kernel)⟩, (by decide +kernel), rfl⟩, by decide, rfl, (wgi 605 (by decide +kernel) (by decide +kernel)), (wgi 606 (by decide +kernel) (by decide +kernel))⟩
theorem kv_X3_tick : KV kX3_tick 3 1 := ⟨⟨⟨(wgi 451 (by decide +kernel) (by decide +kernel)), (wgi 81 (by decide +kernel) (by decide +kernel))⟩, ⟨(by decide +kernel), (by decide +kernel), (by decide +kernel)⟩, (by decide +kernel), rfl⟩, by decide, rfl, (wgi 450 (by decide +kernel) (by decide +kernel)), (wgi 22 (by decide +kernel) (by decide +kernel))⟩
theorem kv_X3_remember : KV kX3_remember 3 0 := ⟨⟨⟨(wgi 433 (by decide +kernel) (by decide +kernel)), (wgi 81 (by decide +kernel) (by decide +kernel))⟩, ⟨(by decide +kernel), (by decide +kernel), (by decide +kernel)⟩, (by decide +kernel), rfl⟩, by decide, rfl, (wgi 432 (by decide +kernel) (by decide +kernel)), (wgi 20 (by decide +kernel) (by decide +kernel))⟩
theorem ks_X3_at : KS kX3_at 2 := ⟨⟨⟨(wgi 408 (by decide +kernel) (by decide +kernel)), (wgi 81 (by decide +kernel) (by decide +kernel))⟩, ⟨(by decide +kernel), (by decide +kernel), (by decide +kernel)⟩, (by decide +kernel), rfl⟩, (wgi 407 (by decide +kernel) (by decide +kernel))⟩
theorem ks_X3_hasBit : KS kX3_hasBit 2 := ⟨⟨⟨(wgi 307 (by decide +kernel) (by decide +kernel)), (wgi 81 (by decide +kernel) (by decide +kernel))⟩, ⟨(by decide +kernel), (by decide +kernel), (by decide +kernel)⟩, (by decide +kernel), rfl⟩, (wgi 306 (by decide +kernel) (by decide +kernel))⟩
theorem ks_X4_in : KS kX4_in 3 := ⟨⟨⟨(wgi 679 (by decide +kernel) (by decide +kernel)), (wgi 85 (by decide +kernel) (by decide +kernel))⟩, ⟨(by decide +kernel), (by decide +kernel), (by decide +kernel)⟩, (by decide +kernel), rfl⟩, (wgi 678 (by decide +kernel) (by decide +kernel))⟩
theorem ks_X4_has : KS kX4_has 2 := ⟨⟨⟨(wgi 773 (by decide +kernel) (by decide +kernel)), (wgi 85 (by decide +kernel) (by decide +kernel))⟩, ⟨(by decide +kernel), (by decide +kernel), (by decide +kernel)⟩, (by decide +kernel), rfl⟩, (wgi 772 (by decide +kernel) (by decide +kernel))⟩
theorem ks_X4_begin : KS kX4_begin 1 := ⟨⟨⟨(wgi 616 (by decide +kernel) (by decide +kernel)), (wgi 85 (by decide +kernel) (by decide +kernel))⟩, ⟨(by decide +kernel), (by decide +kernel), (by decide +kernel)⟩, (by decide +kernel), rfl⟩, (wgi 615 (by decide +kernel) (by decide +kernel))⟩
theorem kv_X4_start : KV kX4_start 4 0 := ⟨⟨⟨(wgi 620 (by decide +kernel) (by decide +kernel)), (wgi 85 (by decide +kernel) (by decide +kernel))⟩, ⟨(by decide +kernel), (by decide +kernel), (by decide +kernel)⟩, (by decide +kernel), rfl⟩, by decide, rfl, (wgi 619 (by decide +kernel) (by decide +kernel)), (wgi 40 (by decide +kernel) (by decide +kernel))⟩
theorem kv_X4_many : KV kX4_many 4 0 := ⟨⟨⟨(wgi 699 (by decide +kernel) (by decide +kernel)), (wgi 85 (by decide +kernel) (by decide +kernel))⟩, ⟨(by decide +kernel), (by decide +kernel), (by decide +kernel)⟩, (by decide +kernel), rfl⟩, by decide, rfl, (wgi 698 (by decide +kernel) (by decide +kernel)), (wgi 44 (by decide +kernel) (by decide +kernel))⟩
theorem kv_X4_isNode : KV kX4_isNode 4 1 := ⟨⟨⟨(wgi 695 (by decide +kernel) (by decide +kernel)), (wgi 85 (by decide +kernel) (by decide +kernel))⟩, ⟨(by decide +kernel), (by decide +kernel), (by decide +kernel)⟩, (by decide +kernel), rfl⟩, by decide, rfl, (wgi 694 (by decide +kernel) (by decide +kernel)), (wgi 43 (by decide +kernel) (by decide +kernel))⟩
theorem kv_X4_sort : KV kX4_sort 4 1 := ⟨⟨⟨(wgi 703 (by decide +kernel) (by decide +kernel)), (wgi 85 (by decide +kernel) (by decide +kernel))⟩, ⟨(by decide +kernel), (by decide +kernel), (by decide +kernel)⟩, (by decide +kernel), rfl⟩, by decide, rfl, (wgi 702 (by decide +kernel) (by decide +kernel)), (wgi 45 (by decide +kernel) (by decide +kernel))⟩
theorem kv_X4_isLeaf : KV kX4_isLeaf 4 1 := ⟨⟨⟨(wgi 719 (by decide +kernel) (by decide +kernel)), (wgi 85 (by decide +kernel) (by decide +kernel))⟩, ⟨(by decide +kernel), (by decide +kernel), (by decide +kernel)⟩, (by decide +kernel), rfl⟩, by decide, rfl, (wgi 718 (by decide +kernel) (by decide +kernel)), (wgi 48 (by decide +kernel) (by decide +kernel))⟩
theorem kv_X4_isRegister : KV kX4_isRegister 4 1 := ⟨⟨⟨(wgi 793 (by decide +kernel) (by decide +kernel)), (wgi 85 (by decide +kernel) (by decide +kernel))⟩, ⟨(by decide +kernel), (by decide +kernel), (by decide +kernel)⟩, (by decide +kernel), rfl⟩, by decide, rfl, (wgi 792 (by decide +kernel) (by decide +kernel)), (wgi 59 (by decide +kernel) (by decide +kernel))⟩
theorem kv_X4_clock : KV kX4_clock 4 1 := ⟨⟨⟨(wgi 743 (by decide +kernel) (by decide +kernel)), (wgi 85 (by decide +kernel) (by decide +kernel))⟩, ⟨(by decide +kernel), (by decide +kernel), (by decide +kernel)⟩, (by decide +kernel), rfl⟩, by decide, rfl, (wgi 742 (by decide +kernel) (by decide +kernel)), (wgi 51 (by decide +kernel) (by decide +kernel))⟩
theorem kv_X4_of : KV kX4_of 4 2 := ⟨⟨⟨(wgi 727 (by decide +kernel) (by decide +kernel)), (wgi 85 (by decide +kernel) (by decide +kernel))⟩, ⟨(by decide +kernel), (by decide +kernel), (by decide +kernel)⟩, (by decide +kernel), rfl⟩, by decide, rfl, (wgi 726 (by decide +kernel) (by decide +kernel)), (wgi 50 (by decide +kernel) (by decide +kernel))⟩
theorem ks_X4_hasMany : KS kX4_hasMany 1 := ⟨⟨⟨(wgi 758 (by decide +kernel) (by decide +kernel)), (wgi 85 (by decide +kernel) (by decide +kernel))⟩, ⟨(by decide +kernel), (by decide +kernel), (by decide +kernel)⟩, (by decide +kernel), rfl⟩, (wgi 757 (by decide +kernel) (by decide +kernel))⟩
theorem kv_X4_often : KV kX4_often 4 2 := ⟨⟨⟨(wgi 805 (by decide +kernel) (by decide +kernel)), (wgi 85 (by decide +kernel) (by decide +kernel))⟩, ⟨(by decide +kernel), (by decide +kernel), (by decide +kernel)⟩, (by decide +kernel), rfl⟩, by decide, rfl, (wgi 804 (by decide +kernel) (by decide +kernel)), (wgi 62 (by decide +kernel) (by decide +kernel))⟩
theorem kv_X4_findLeaves : KV kX4_findLeaves 4 0 := ⟨⟨⟨(wgi 755 (by decide +kernel) (by decide +kernel)), (wgi 85 (by decide +kernel) (by decide +kernel))⟩, ⟨(by decide +kernel), (by decide +kernel), (by decide +kernel)⟩, (by decide +kernel), rfl⟩, by decide, rfl, (wgi 754 (by decide +kernel) (by decide +kernel)), (wgi 54 (by decide +kernel) (by decide +kernel))⟩
theorem kv_X4_leavesOf : KV kX4_leavesOf 4 1 := ⟨⟨⟨(wgi 751 (by decide +kernel) (by decide +kernel)), (wgi 85 (by decide +kernel) (by decide +kernel))⟩, ⟨(by decide +kernel), (by decide +kernel), (by decide +kernel)⟩, (by decide +kernel), rfl⟩, by decide, rfl, (wgi 750 (by decide +kernel) (by decide +kernel)), (wgi 53 (by decide +kernel) (by decide +kernel))⟩
theorem kv_X4_sourcesOf : KV kX4_sourcesOf 4 1 := ⟨⟨⟨(wgi 785 (by decide +kernel) (by decide +kernel)), (wgi 85 (by decide +kernel) (by decide +kernel))⟩, ⟨(by decide +kernel), (by decide +kernel), (by decide +kernel)⟩, (by decide +kernel), rfl⟩, by decide, rfl, (wgi 784 (by decide +kernel) (by decide +kernel)), (wgi 58 (by decide +kernel) (by decide +kernel))⟩
theorem kv_X4_foreign : KV kX4_foreign 4 1 := ⟨⟨⟨(wgi 747 (by decide +kernel) (by decide +kernel)), (wgi 85 (by decide +kernel) (by decide +kernel))⟩, ⟨(by decide +kernel), (by decide +kernel), (by decide +kernel)⟩, (by decide +kernel), rfl⟩, by decide, rfl, (wgi 746 (by decide +kernel) (by decide +kernel)), (wgi 52 (by decide +kernel) (by decide +kernel))⟩
theorem kv_X4_isDirect : KV kX4_isDirect 4 1 := ⟨⟨⟨(wgi 770 (by decide +kernel) (by decide +kernel)), (wgi 85 (by decide +kernel) (by decide +kernel))⟩, ⟨(by decide +kernel), (by decide +kernel), (by decide +kernel)⟩, (by decide +kernel), rfl⟩, by decide, rfl, (wgi 769 (by decide +kernel) (by decide +kernel)), (wgi 57 (by decide +kernel) (by decide +kernel))⟩
theorem kv_X4_onlyOne : KV kX4_onlyOne 4 1 := ⟨⟨⟨(wgi 801 (by decide +kernel) (by decide +kernel)), (wgi 85 (by decide +kernel) (by decide +kernel))⟩, ⟨(by decide +kernel), (by decide +kernel), (by decide +kernel)⟩, (by decide +kernel), rfl⟩, by decide, rfl, (wgi 800 (by decide +kernel) (by decide +kernel)), (wgi 61 (by decide +kernel) (by decide +kernel))⟩
theorem kv_X4_depth : KV kX4_depth 4 1 := ⟨⟨⟨(wgi 797 (by decide +kernel) (by decide +kernel)), (wgi 85 (by decide +kernel) (by decide +kernel))⟩, ⟨(by decide +kernel), (by decide +kernel), (by decide +kernel)⟩, (by decide +kernel), rfl⟩, by decide, rfl, (wgi 796 (by decide +kernel) (by decide +kernel)), (wgi 60 (by decide +kernel) (by decide +kernel))⟩
theorem kv_X4_isSafe : KV kX4_isSafe 4 1 := ⟨⟨⟨(wgi 813 (by decide +kernel) (by decide +kernel)), (wgi 85 (by decide +kernel) (by decide +kernel))⟩, ⟨(by decide +kernel), (by decide +kernel), (by decide +kernel)⟩, (by decide +kernel), rfl⟩, by decide, rfl, (wgi 812 (by decide +kernel) (by decide +kernel)), (wgi 64 (by decide +kernel) (by decide +kernel))⟩
theorem kv_X4_backFrom : KV kX4_backFrom 4 2 := ⟨⟨⟨(wgi 821 (by decide +kernel) (by decide +kernel)), (wgi 85 (by decide +kernel) (by decide +kernel))⟩, ⟨(by decide +kernel), (by decide +kernel), (by decide +kernel)⟩, (by decide +kernel), rfl⟩, by decide, rfl, (wgi 820 (by decide +kernel) (by decide +kernel)), (wgi 66 (by decide +kernel) (by decide +kernel))⟩
theorem kv_X4_isHeld : KV kX4_isHeld 4 1 := ⟨⟨⟨(wgi 817 (by decide +kernel) (by decide +kernel)), (wgi 85 (by decide +kernel) (by decide +kernel))⟩, ⟨(by decide +kernel), (by decide +kernel), (by decide +kernel)⟩, (by decide +kernel), rfl⟩, by decide, rfl, (wgi 816 (by decide +kernel) (by decide +kernel)), (wgi 65 (by decide +kernel) (by decide +kernel))⟩
theorem kv_X4_kindOf : KV kX4_kindOf 4 1 := ⟨⟨⟨(wgi 809 (by decide +kernel) (by decide +kernel)), (wgi 85 (by decide +kernel) (by decide +kernel))⟩, ⟨(by decide +kernel), (by decide +kernel), (by decide +kernel)⟩, (by decide +kernel), rfl⟩, by decide, rfl, (wgi 808 (by decide +kernel) (by decide +kernel)), (wgi 63 (by decide +kernel) (by decide +kernel))⟩
theorem kv_X4_kindAt : KV kX4_kindAt 4 1 := ⟨⟨⟨(wgi 829 (by decide +kernel) (by decide +kernel)), (wgi 85 (by decide +kernel) (by decide +kernel))⟩, ⟨(by decide +kernel), (by decide +kernel), (by decide +kernel)⟩, (by decide +kernel), rfl⟩, by decide, rfl, (wgi 828 (by decide +kernel) (by decide +kernel)), (wgi 67 (by decide +kernel) (by decide +kernel))⟩
theorem kv_X4_reached : KV kX4_reached 4 1 := ⟨⟨⟨(wgi 853 (by decide +kernel) (by decide +kernel)), (wgi 85 (by decide +kernel) (by decide +kernel))⟩, ⟨(by decide +kernel), (by decide +kernel), (by decide +kernel)⟩, (by decide +kernel), rfl⟩, by decide, rfl, (wgi 852 (by decide +kernel) (by decide +kernel)), (wgi 71 (by decide +kernel) (by decide +kernel))⟩
theorem kv_X4_areMarked : KV kX4_areMarked 4 2 := ⟨⟨⟨(wgi 849 (by decide +kernel) (by decide +kernel)), (wgi 85 (by decide +kernel) (by decide +kernel))⟩, ⟨(by decide +kernel), (by decide +kernel), (by decide +kernel)⟩, (by decide +kernel), rfl⟩, by decide, rfl, (wgi 848 (by decide +kernel) (by decide +kernel)), (wgi 70 (by decide +kernel) (by decide +kernel))⟩
theorem kv_X4_areApart : KV kX4_areApart 4 2 := ⟨⟨⟨(wgi 845 (by decide +kernel) (by decide +kernel)), (wgi 85 (by decide +kernel) (by decide +kernel))⟩, ⟨(by decide +kernel), (by decide +kernel), (by decide +kernel)⟩, (by decide +kernel), rfl⟩, by decide, rfl, (wgi 844 (by decide +kernel) (by decide +kernel)), (wgi 69 (by decide +kernel) (by decide +kernel))⟩
theorem ks_X4_lowest : KS kX4_lowest 1 := ⟨⟨⟨(wgi 856 (by decide +kernel) (by decide +kernel)), (wgi 85 (by decide +kernel) (by decide +kernel))⟩, ⟨(by decide +kernel), (by decide +kernel), (by decide +kernel)⟩, (by decide +kernel), rfl⟩, (wgi 855 (by decide +kernel) (by decide +kernel))⟩
theorem kv_X4_joinAt : KV kX4_joinAt 4 2 := ⟨⟨⟨(wgi 841 (by decide +kernel) (by decide +kernel)), (wgi 85 (by decide +kernel) (by decide +kernel))⟩, ⟨(by decide +kernel), (by decide +kernel), (by decide +kernel)⟩, (by decide +kernel), rfl⟩, by decide, rfl, (wgi 840 (by decide +kernel) (by decide +kernel)), (wgi 68 (by decide +kernel) (by decide +kernel))⟩
theorem ks_X4_and : KS kX4_and 2 := ⟨⟨⟨(wgi 730 (by decide +kernel) (by decide +kernel)), (wgi 85 (by decide +kernel) (by decide +kernel))⟩, ⟨(by decide +kernel), (by decide +kernel), (by decide +kernel)⟩, (by decide +kernel), rfl⟩, (wgi 729 (by decide +kernel) (by decide +kernel))⟩
theorem ks_X4_or : KS kX4_or 2 := ⟨⟨⟨(wgi 733 (by decide +kernel) (by decide +kernel)), (wgi 85 (by decide +kernel) (by decide +kernel))⟩, ⟨(by decide +kernel), (by decide +kernel), (by decide +kernel)⟩, (by decide +kernel), rfl⟩, (wgi 732 (by decide +kernel) (by decide +kernel))⟩
theorem ks_X4_xor : KS kX4_xor 2 := ⟨⟨⟨(wgi 736 (by decide +kernel) (by decide +kernel)), (wgi 85 (by decide +kernel) (by decide +kernel))⟩, ⟨(by decide +kernel), (by decide +kernel), (by decide +kernel)⟩, (by decide +kernel), rfl⟩, (wgi 735 (by decide +kernel) (by decide +kernel))⟩
theorem ks_X4_choose : KS kX4_choose 3 := ⟨⟨⟨(wgi 739 (by decide +kernel) (by decide +kernel)), (wgi 85 (by decide +kernel) (by decide +kernel))⟩, ⟨(by decide +kernel), (by decide +kernel), (by decide +kernel)⟩, (by decide +kernel), rfl⟩, (wgi 738 (by decide +kernel) (by decide +kernel))⟩
theorem kv_X4_gate : KV kX4_gate 4 1 := ⟨⟨⟨(wgi 723 (by decide +kernel) (by decide +kernel)), (wgi 85 (by decide +kernel) (by decide +kernel))⟩, ⟨(by decide +kernel), (by decide +kernel), (by decide +kernel)⟩, (by decide +kernel), rfl⟩, by decide, rfl, (wgi 722 (by decide +kernel) (by decide +kernel)), (wgi 49 (by decide +kernel) (by decide +kernel))⟩
theorem kv_X4_findValues : KV kX4_findValues 4 1 := ⟨⟨⟨(wgi 715 (by decide +kernel) (by decide +kernel)), (wgi 85 (by decide +kernel) (by decide +kernel))⟩, ⟨(by decide +kernel), (by decide +kernel), (by decide +kernel)⟩, (by decide +kernel), rfl⟩, by decide, rfl, (wgi 714 (by decide +kernel) (by decide +kernel)), (wgi 47 (by decide +kernel) (by decide +kernel))⟩
theorem kv_X4_tick : KV kX4_tick 4 1 := ⟨⟨⟨(wgi 711 (by decide +kernel) (by decide +kernel)), (wgi 85 (by decide +kernel) (by decide +kernel))⟩, ⟨(by decide +kernel), (by decide +kernel), (by decide +kernel)⟩, (by decide +kernel), rfl⟩, by decide, rfl, (wgi 710 (by decide +kernel) (by decide +kernel)), (wgi 46 (by decide +kernel) (by decide +kernel))⟩
theorem kv_X4_isSettled : KV kX4_isSettled 4 1 := ⟨⟨⟨(wgi 766 (by decide +kernel) (by decide +kernel)), (wgi 85 (by decide +kernel) (by decide +kernel))⟩, ⟨(by decide +kernel), (by decide +kernel), (by decide +kernel)⟩, (by decide +kernel), rfl⟩, by decide, rfl, (wgi 765 (by decide +kernel) (by decide +kernel)), (wgi 56 (by decide +kernel) (by decide +kernel))⟩
theorem kv_X4_taken : KV kX4_taken 4 1 := ⟨⟨⟨(wgi 762 (by decide +kernel) (by decide +kernel)), (wgi 85 (by decide +kernel) (by decide +kernel))⟩, ⟨(by decide +kernel), (by decide +kernel), (by decide +kernel)⟩, (by decide +kernel), rfl⟩, by decide, rfl, (wgi 761 (by decide +kernel) (by decide +kernel)), (wgi 55 (by decide +kernel) (by decide +kernel))⟩
theorem kv_X4_note : KV kX4_note 4 0 := ⟨⟨⟨(wgi 683 (by decide +kernel) (by decide +kernel)), (wgi 85 (by decide +kernel) (by decide +kernel))⟩, ⟨(by decide +kernel), (by decide +kernel), (by decide +kernel)⟩, (by decide +kernel), rfl⟩, by decide, rfl, (wgi 682 (by decide +kernel) (by decide +kernel)), (wgi 41 (by decide +kernel) (by decide +kernel))⟩
theorem kv_X4_needs : KV kX4_needs 4 1 := ⟨⟨⟨(wgi 676 (by decide +kernel) (by decide +kernel)), (wgi 85 (by decide +kernel) (by decide +kernel))⟩, ⟨(by decide +kernel), (by decide +kernel), (by decide +kernel)⟩, (by decide +kernel), rfl⟩, by decide, rfl, (wgi 674 (by decide +kernel) (by decide +kernel)), (wgi 675 (by decide +kernel) (by decide +kernel))⟩
theorem kv_X4_isInput : KV kX4_isInput 4 1 := ⟨⟨⟨(wgi 691 (by decide +kernel) (by decide +kernel)), (wgi 85 (by decide +kernel) (by decide +kernel))⟩, ⟨(by decide +kernel), (by decide +kernel), (by decide +kernel)⟩, (by decide +kernel), rfl⟩, by decide, rfl, (wgi 690 (by decide +kernel) (by decide +kernel)), (wgi 42 (by decide +kernel) (by decide +kernel))⟩
theorem kv_X4_wishes : KV kX4_wishes 4 2 := ⟨⟨⟨(wgi 687 (by decide +kernel) (by decide +kernel)), (wgi 85 (by decide +kernel) (by decide +kernel))⟩, ⟨(by decide +kernel), (by decide +kernel), (by decide +kernel)⟩, (by decide +kernel), rfl⟩, by decide, rfl, (wgi 685 (by decide +kernel) (by decide +kernel)), (wgi 686 (by decide +kernel) (by decide +kernel))⟩
theorem kv_X4_ticks : KV kX4_ticks 4 1 := ⟨⟨⟨(wgi 707 (by decide +kernel) (by decide +kernel)), (wgi 85 (by decide +kernel) (by decide +kernel))⟩, ⟨(by decide +kernel), (by decide +kernel), (by decide +kernel)⟩, (by decide +kernel), rfl⟩, by decide, rfl, (wgi 705 (by decide +kernel) (by decide +kernel)), (wgi 706 (by decide +kernel) (by decide +kernel))⟩
theorem kv_X4_undo : KV kX4_undo 4 0 := ⟨⟨⟨(wgi 777 (by decide +kernel) (by decide +kernel)), (wgi 85 (by decide +kernel) (by decide +kernel))⟩, ⟨(by decide +kernel), (by decide +kernel), (by decide +kernel)⟩, (by decide +kernel), rfl⟩, by decide, rfl, (wgi 775 (by decide +kernel) (by decide +kernel)), (wgi 776 (by decide +kernel) (by decide +kernel))⟩
theorem kv_X4_node : KV kX4_node 4 2 := ⟨⟨⟨(wgi 781 (by decide +kernel) (by decide +kernel)), (wgi 85 (by decide +kernel) (by decide +kernel))⟩, ⟨(by decide +kernel), (by decide +kernel), (by decide +kernel)⟩, (by decide +kernel), rfl⟩, by decide, rfl, (wgi 779 (by decide +kernel) (by decide +kernel)), (wgi 780 (by decide +kernel) (by decide +kernel))⟩
theorem kv_X4_register : KV kX4_register 4 2 := ⟨⟨⟨(wgi 789 (by decide +kernel) (by decide +kernel)), (wgi 85 (by decide +kernel) (by decide +kernel))⟩, ⟨(by decide +kernel), (by decide +kernel), (by decide +kernel)⟩, (by decide +kernel), rfl⟩, by decide, rfl, (wgi 787 (by decide +kernel) (by decide +kernel)), (wgi 788 (by decide +kernel) (by decide +kernel))⟩
theorem kv_X4_crossing : KV kX4_crossing 4 1 := ⟨⟨⟨(wgi 825 (by decide +kernel) (by decide +kernel)), (wgi 85 (by decide +kernel) (by decide +kernel))⟩, ⟨(by decide +kernel), (by decide +kernel), (by decide +kernel)⟩, (by decide +kernel), rfl⟩, by decide, rfl, (wgi 823 (by decide +kernel) (by decide +kernel)), (wgi 824 (by decide +kernel) (by decide +kernel))⟩
theorem kv_X4_kinds : KV kX4_kinds 4 1 := ⟨⟨⟨(wgi 833 (by decide +kernel) (by decide +kernel)), (wgi 85 (by decide +kernel) (by decide +kernel))⟩, ⟨(by decide +kernel), (by decide +kernel), (by decide +kernel)⟩, (by decide +kernel), rfl⟩, by decide, rfl, (wgi 831 (by decide +kernel) (by decide +kernel)), (wgi 832 (by decide +kernel) (by decide +kernel))⟩
theorem kv_X4_join : KV kX4_join 4 2 := ⟨⟨⟨(wgi 837 (by decide +kernel) (by decide +kernel)), (wgi 85 (by decide +kernel) (by decide +kernel))⟩, ⟨(by decide +kernel), (by decide +kernel), (by decide +kernel)⟩, (by decide +kernel), rfl⟩, by decide, rfl, (wgi 835 (by decide +kernel) (by decide +kernel)), (wgi 836 (by decide +kernel) (by decide +kernel))⟩
theorem kv_X4_weight : KV kX4_weight 4 2 := ⟨⟨⟨(wgi 864 (by decide +kernel) (by decide +kernel)), (wgi 85 (by decide +kernel) (by decide +kernel))⟩, ⟨(by decide +kernel), (by decide +kernel), (by decide +kernel)⟩, (by decide +kernel), rfl⟩, by decide, rfl, (wgi 863 (by decide +kernel) (by decide +kernel)), (wgi 72 (by decide +kernel) (by decide +kernel))⟩
theorem kv_X4_risk : KV kX4_risk 4 0 := ⟨⟨⟨(wgi 860 (by decide +kernel) (by decide +kernel)), (wgi 85 (by decide +kernel) (by decide +kernel))⟩, ⟨(by decide +kernel), (by decide +kernel), (by decide +kernel)⟩, (by decide +kernel), rfl⟩, by decide, rfl, (wgi 858 (by decide +kernel) (by decide +kernel)), (wgi 859 (by decide +kernel) (by decide +kernel))⟩
theorem kv_X4_period : KV kX4_period 4 1 := ⟨⟨⟨(wgi 873 (by decide +kernel) (by decide +kernel)), (wgi 85 (by decide +kernel) (by decide +kernel))⟩, ⟨(by decide +kernel), (by decide +kernel), (by decide +kernel)⟩, (by decide +kernel), rfl⟩, by decide, rfl, (wgi 871 (by decide +kernel) (by decide +kernel)), (wgi 872 (by decide +kernel) (by decide +kernel))⟩
theorem kv_X4_wish : KV kX4_wish 4 1 := ⟨⟨⟨(wgi 877 (by decide +kernel) (by decide +kernel)), (wgi 85 (by decide +kernel) (by decide +kernel))⟩, ⟨(by decide +kernel), (by decide +kernel), (by decide +kernel)⟩, (by decide +kernel), rfl⟩, by decide, rfl, (wgi 875 (by decide +kernel) (by decide +kernel)), (wgi 876 (by decide +kernel) (by decide +kernel))⟩
theorem kv_X4_when : KV kX4_when 4 2 := ⟨⟨⟨(wgi 881 (by decide +kernel) (by decide +kernel)), (wgi 85 (by decide +kernel) (by decide +kernel))⟩, ⟨(by decide +kernel), (by decide +kernel), (by decide +kernel)⟩, (by decide +kernel), rfl⟩, by decide, rfl, (wgi 879 (by decide +kernel) (by decide +kernel)), (wgi 880 (by decide +kernel) (by decide +kernel))⟩
theorem kv_X4_keep : KV kX4_keep 4 1 := ⟨⟨⟨(wgi 885 (by decide +kernel) (by decide +kernel)), (wgi 85 (by decide +kernel) (by decide +kernel))⟩, ⟨(by decide +kernel), (by decide +kernel), (by decide +kernel)⟩, (by decide +kernel), rfl⟩, by decide, rfl, (wgi 883 (by decide +kernel) (by decide +kernel)), (wgi 884 (by decide +kernel) (by decide +kernel))⟩
theorem kv_X4_back : KV kX4_back 4 1 := ⟨⟨⟨(wgi 889 (by decide +kernel) (by decide +kernel)), (wgi 85 (by decide +kernel) (by decide +kernel))⟩, ⟨(by decide +kernel), (by decide +kernel), (by decide +kernel)⟩, (by decide +kernel), rfl⟩, by decide, rfl, (wgi 887 (by decide +kernel) (by decide +kernel)), (wgi 888 (by decide +kernel) (by decide +kernel))⟩
theorem kv_X4_count : KV kX4_count 4 1 := ⟨⟨⟨(wgi 893 (by decide +kernel) (by decide +kernel)), (wgi 85 (by decide +kernel) (by decide +kernel))⟩, ⟨(by decide +kernel), (by decide +kernel), (by decide +kernel)⟩, (by decide +kernel), rfl⟩, by decide, rfl, (wgi 891 (by decide +kernel) (by decide +kernel)), (wgi 892 (by decide +kernel) (by decide +kernel))⟩
theorem kv_X4_type : KV kX4_type 4 1 := ⟨⟨⟨(wgi 897 (by decide +kernel) (by decide +kernel)), (wgi 85 (by decide +kernel) (by decide +kernel))⟩, ⟨(by decide +kernel), (by decide +kernel), (by decide +kernel)⟩, (by decide +kernel), rfl⟩, by decide, rfl, (wgi 895 (by decide +kernel) (by decide +kernel)), (wgi 896 (by decide +kernel) (by decide +kernel))⟩
theorem kv_X4_clear : KV kX4_clear 4 0 := ⟨⟨⟨(wgi 901 (by decide +kernel) (by decide +kernel)), (wgi 85 (by decide +kernel) (by decide +kernel))⟩, ⟨(by decide +kernel), (by decide +kernel), (by decide +kernel)⟩, (by decide +kernel), rfl⟩, by decide, rfl, (wgi 899 (by decide +kernel) (by decide +kernel)), (wgi 900 (by decide +kernel) (by decide +kernel))⟩
theorem ks_X4_isItem : KS kX4_isItem 1 := ⟨⟨⟨(wgi 912 (by decide +kernel) (by decide +kernel)), (wgi 85 (by decide +kernel) (by decide +kernel))⟩, ⟨(by decide +kernel), (by decide +kernel), (by decide +kernel)⟩, (by decide +kernel), rfl⟩, (wgi 911 (by decide +kernel) (by decide +kernel))⟩
theorem kv_X4_next : KV kX4_next 4 0 := ⟨⟨⟨(wgi 909 (by decide +kernel) (by decide +kernel)), (wgi 85 (by decide +kernel) (by decide +kernel))⟩, ⟨(by decide +kernel), (by decide +kernel), (by decide +kernel)⟩, (by decide +kernel), rfl⟩, by decide, rfl, (wgi 908 (by decide +kernel) (by decide +kernel)), (wgi 73 (by decide +kernel) (by decide +kernel))⟩
theorem kv_X4_must : KV kX4_must 4 1 := ⟨⟨⟨(wgi 923 (by decide +kernel) (by decide +kernel)), (wgi 85 (by decide +kernel) (by decide +kernel))⟩, ⟨(by decide +kernel), (by decide +kernel), (by decide +kernel)⟩, (by decide +kernel), rfl⟩, by decide, rfl, (wgi 922 (by decide +kernel) (by decide +kernel)), (wgi 75 (by decide +kernel) (by decide +kernel))⟩
theorem kv_X4_number : KV kX4_number 4 2 := ⟨⟨⟨(wgi 931 (by decide +kernel) (by decide +kernel)), (wgi 85 (by decide +kernel) (by decide +kernel))⟩, ⟨(by decide +kernel), (by decide +kernel), (by decide +kernel)⟩, (by decide +kernel), rfl⟩, by decide, rfl, (wgi 930 (by decide +kernel) (by decide +kernel)), (wgi 77 (by decide +kernel) (by decide +kernel))⟩
theorem ks_X4_sortOf : KS kX4_sortOf 1 := ⟨⟨⟨(wgi 919 (by decide +kernel) (by decide +kernel)), (wgi 85 (by decide +kernel) (by decide +kernel))⟩, ⟨(by decide +kernel), (by decide +kernel), (by decide +kernel)⟩, (by decide +kernel), rfl⟩, (wgi 918 (by decide +kernel) (by decide +kernel))⟩
theorem kv_X4_readNode : KV kX4_readNode 4 1 := ⟨⟨⟨(wgi 927 (by decide +kernel) (by decide +kernel)), (wgi 85 (by decide +kernel) (by decide +kernel))⟩, ⟨(by decide +kernel), (by decide +kernel), (by decide +kernel)⟩, (by decide +kernel), rfl⟩, by decide, rfl, (wgi 926 (by decide +kernel) (by decide +kernel)), (wgi 76 (by decide +kernel) (by decide +kernel))⟩
theorem kv_X4_isToldLeaf : KV kX4_isToldLeaf 4 0 := ⟨⟨⟨(wgi 939 (by decide +kernel) (by decide +kernel)), (wgi 85 (by decide +kernel) (by decide +kernel))⟩, ⟨(by decide +kernel), (by decide +kernel), (by decide +kernel)⟩, (by decide +kernel), rfl⟩, by decide, rfl, (wgi 938 (by decide +kernel) (by decide +kernel)), (wgi 79 (by decide +kernel) (by decide +kernel))⟩
theorem kv_X4_readMark : KV kX4_readMark 4 0 := ⟨⟨⟨(wgi 935 (by decide +kernel) (by decide +kernel)), (wgi 85 (by decide +kernel) (by decide +kernel))⟩, ⟨(by decide +kernel), (by decide +kernel), (by decide +kernel)⟩, (by decide +kernel), rfl⟩, by decide, rfl, (wgi 934 (by decide +kernel) (by decide +kernel)), (wgi 78 (by decide +kernel) (by decide +kernel))⟩
theorem kv_X4_readItem : KV kX4_readItem 4 0 := ⟨⟨⟨(wgi 916 (by decide +kernel) (by decide +kernel)), (wgi 85 (by decide +kernel) (by decide +kernel))⟩, ⟨(by decide +kernel), (by decide +kernel), (by decide +kernel)⟩, (by decide +kernel), rfl⟩, by decide, rfl, (wgi 915 (by decide +kernel) (by decide +kernel)), (wgi 74 (by decide +kernel) (by decide +kernel))⟩
theorem kv_X4_tells : KV kX4_tells 4 0 := ⟨⟨⟨(wgi 905 (by decide +kernel) (by decide +kernel)), (wgi 85 (by decide +kernel) (by decide +kernel))⟩, ⟨(by decide +kernel), (by decide +kernel), (by decide +kernel)⟩, (by decide +kernel), rfl⟩, by decide, rfl, (wgi 903 (by decide +kernel) (by decide +kernel)), (wgi 904 (by decide +kernel) (by decide +kernel))⟩
theorem ks_J6_bitCount_0f7a4 : KS kJ6_bitCount_0f7a4 1 := ⟨⟨⟨(wgi 530 (by decide +kernel) (by decide +kernel)), (wgi 92 (by decide +kernel) (by decide +kernel))⟩, ⟨(by decide +kernel), (by decide +kernel), (by decide +kernel)⟩, (by decide +kernel), rfl⟩, (wgi 529 (by decide +kernel) (by decide +kernel))⟩
theorem ks_J0_checkIndex_df160 : KS kJ0_checkIndex_df160 2 := ⟨⟨⟨(wgi 357 (by decide +kernel) (by decide +kernel)), (wgi 88 (by decide +kernel) (by decide +kernel))⟩, ⟨(by decide +kernel), (by decide +kernel), (by decide +kernel)⟩, (by decide +kernel), rfl⟩, (wgi 356 (by decide +kernel) (by decide +kernel))⟩
theorem ks_J1_charAt_3b067 : KS kJ1_charAt_3b067 2 := ⟨⟨⟨(wgi 354 (by decide +kernel) (by decide +kernel)), (wgi 89 (by decide +kernel) (by decide +kernel))⟩, ⟨(by decide +kernel), (by decide +kernel), (by decide +kernel)⟩, (by decide +kernel), rfl⟩, (wgi 353 (by decide +kernel) (by decide +kernel))⟩
theorem ks_J2_getChar_3b067 : KS kJ2_getChar_3b067 2 := ⟨⟨⟨(wgi 375 (by decide +kernel) (by decide +kernel)), (wgi 91 (by decide +kernel) (by decide +kernel))⟩, ⟨(by decide +kernel), (by decide +kernel), (by decide +kernel)⟩, (by decide +kernel), rfl⟩, (wgi 374 (by decide +kernel) (by decide +kernel))⟩
theorem ks_J2_length_9d52b : KS kJ2_length_9d52b 1 := ⟨⟨⟨(wgi 371 (by decide +kernel) (by decide +kernel)), (wgi 91 (by decide +kernel) (by decide +kernel))⟩, ⟨(by decide +kernel), (by decide +kernel), (by decide +kernel)⟩, (by decide +kernel), rfl⟩, (wgi 370 (by decide +kernel) (by decide +kernel))⟩
theorem ks_J2_charAt_3b067 : KS kJ2_charAt_3b067 2 := ⟨⟨⟨(wgi 365 (by decide +kernel) (by decide +kernel)), (wgi 91 (by decide +kernel) (by decide +kernel))⟩, ⟨(by decide +kernel), (by decide +kernel), (by decide +kernel)⟩, (by decide +kernel), rfl⟩, (wgi 364 (by decide +kernel) (by decide +kernel))⟩
theorem ks_J2_checkIndex_2214a : KS kJ2_checkIndex_2214a 2 := ⟨⟨⟨(wgi 368 (by decide +kernel) (by decide +kernel)), (wgi 91 (by decide +kernel) (by decide +kernel))⟩, ⟨(by decide +kernel), (by decide +kernel), (by decide +kernel)⟩, (by decide +kernel), rfl⟩, (wgi 367 (by decide +kernel) (by decide +kernel))⟩
theorem ks_J3_checkIndex_8e157 : KS kJ3_checkIndex_8e157 3 := ⟨⟨⟨(wgi 362 (by decide +kernel) (by decide +kernel)), (wgi 90 (by decide +kernel) (by decide +kernel))⟩, ⟨(by decide +kernel), (by decide +kernel), (by decide +kernel)⟩, (by decide +kernel), rfl⟩, (wgi 361 (by decide +kernel) (by decide +kernel))⟩
theorem ml_X3_50 : ML RX3 50 kX2_put := Or.inr ⟨"ClockCrossings", (nwi 180 (by decide +kernel) (by decide +kernel))⟩
theorem ml_X3_58 : ML RX3 58 kX2_readInto := Or.inr ⟨"ClockCrossings", (nwi 192 (by decide +kernel) (by decide +kernel))⟩
theorem ml_X3_62 : ML RX3 62 kX1_begin := Or.inr ⟨"ClockCrossings", (nwi 341 (by decide +kernel) (by decide +kernel))⟩
theorem ml_X3_71 : ML RX3 71 kX3_remember := Or.inl (wgi 430 (by decide +kernel) (by decide +kernel))
theorem ml_X3_74 : ML RX3 74 kX0_isOf := Or.inr ⟨"ClockCrossings", (nwi 363 (by decide +kernel) (by decide +kernel))⟩
theorem ml_X3_88 : ML RX3 88 kX3_tick := Or.inl (wgi 448 (by decide +kernel) (by decide +kernel))
theorem ml_X3_92 : ML RX3 92 kX1_copy := Or.inr ⟨"ClockCrossings", (nwi 354 (by decide +kernel) (by decide +kernel))⟩
theorem ml_X3_95 : ML RX3 95 kX0_isNode := Or.inr ⟨"ClockCrossings", (nwi 418 (by decide +kernel) (by decide +kernel))⟩
theorem ml_X3_101 : ML RX3 101 kX3_at := Or.inl (wgi 499 (by decide +kernel) (by decide +kernel))
theorem ml_X3_108 : ML RX3 108 kX0_partOf := Or.inr ⟨"ClockCrossings", (nwi 420 (by decide +kernel) (by decide +kernel))⟩
theorem ml_X3_115 : ML RX3 115 kX0_clocksOf := Or.inr ⟨"ClockCrossings", (nwi 421 (by decide +kernel) (by decide +kernel))⟩
theorem ml_X3_128 : ML RX3 128 kX0_kindOf := Or.inr ⟨"ClockCrossings", (nwi 429 (by decide +kernel) (by decide +kernel))⟩
theorem ml_X3_134 : ML RX3 134 kX0_isCrossing := Or.inr ⟨"ClockCrossings", (nwi 466 (by decide +kernel) (by decide +kernel))⟩
theorem ml_X3_137 : ML RX3 137 kX0_whereJoined := Or.inr ⟨"ClockCrossings", (nwi 475 (by decide +kernel) (by decide +kernel))⟩
theorem ml_X3_140 : ML RX3 140 kX0_weightOf := Or.inr ⟨"ClockCrossings", (nwi 490 (by decide +kernel) (by decide +kernel))⟩
theorem ml_X3_144 : ML RX3 144 kX0_periodOf := Or.inr ⟨"ClockCrossings", (nwi 502 (by decide +kernel) (by decide +kernel))⟩
theorem ml_X3_154 : ML RX3 154 kX1_follow := Or.inr ⟨"ClockCrossings", (nwi 372 (by decide +kernel) (by decide +kernel))⟩
theorem ml_X0_60 : ML RX0 60 kX3_at := Or.inr ⟨"ClockCrossings", (nwi 326 (by decide +kernel) (by decide +kernel))⟩
theorem ml_X0_64 : ML RX0 64 kX0_periodOf := Or.inl (wgi 460 (by decide +kernel) (by decide +kernel))
theorem ml_X0_68 : ML RX0 68 kX0_isNode := Or.inl (wgi 386 (by decide +kernel) (by decide +kernel))
theorem ml_X0_72 : ML RX0 72 kX0_isLeaf := Or.inl (wgi 390 (by decide +kernel) (by decide +kernel))
theorem ml_X0_75 : ML RX0 75 kX0_addNode := Or.inl (wgi 398 (by decide +kernel) (by decide +kernel))
theorem ml_X0_79 : ML RX0 79 kX0_setPeriod := Or.inl (wgi 413 (by decide +kernel) (by decide +kernel))
theorem ml_X0_83 : ML RX0 83 kX0_addMark := Or.inl (wgi 417 (by decide +kernel) (by decide +kernel))
theorem ml_X0_86 : ML RX0 86 kX0_addPart := Or.inl (wgi 402 (by decide +kernel) (by decide +kernel))
theorem ml_X0_90 : ML RX0 90 kX0_unlikeClock := Or.inl (wgi 409 (by decide +kernel) (by decide +kernel))
theorem ml_X0_94 : ML RX0 94 kX0_onlyHaver := Or.inl (wgi 301 (by decide +kernel) (by decide +kernel))
theorem ml_X0_97 : ML RX0 97 kX0_isOf := Or.inl (wgi 308 (by decide +kernel) (by decide +kernel))
theorem ml_X0_101 : ML RX0 101 kX3_hasBit := Or.inr ⟨"ClockCrossings", (nwi 225 (by decide +kernel) (by decide +kernel))⟩
theorem ml_X0_104 : ML RX0 104 kX0_isDirect := Or.inl (wgi 517 (by decide +kernel) (by decide +kernel))
theorem ml_X0_107 : ML RX0 107 kX0_isCrossing := Or.inl (wgi 513 (by decide +kernel) (by decide +kernel))
theorem ml_X0_110 : ML RX0 110 kX0_isSafe := Or.inl (wgi 518 (by decide +kernel) (by decide +kernel))
theorem ml_X0_113 : ML RX0 113 kX0_isHeld := Or.inl (wgi 522 (by decide +kernel) (by decide +kernel))
theorem ml_X0_116 : ML RX0 116 kX0_partOf := Or.inl (wgi 526 (by decide +kernel) (by decide +kernel))
theorem ml_X0_119 : ML RX0 119 kX0_clocksOf := Or.inl (wgi 527 (by decide +kernel) (by decide +kernel))
theorem ml_X0_122 : ML RX0 122 kJ6_bitCount_0f7a4 := Or.inl (wgi 528 (by decide +kernel) (by decide +kernel))
theorem ml_X0_127 : ML RX0 127 kX0_backFrom := Or.inl (wgi 534 (by decide +kernel) (by decide +kernel))
theorem ml_X0_130 : ML RX0 130 kX0_passes := Or.inl (wgi 538 (by decide +kernel) (by decide +kernel))
theorem ml_X0_133 : ML RX0 133 kX0_reachedFrom := Or.inl (wgi 559 (by decide +kernel) (by decide +kernel))
theorem ml_X0_136 : ML RX0 136 kX0_lowestBit := Or.inl (wgi 563 (by decide +kernel) (by decide +kernel))
theorem ml_X0_139 : ML RX0 139 kX0_kindOf := Or.inl (wgi 574 (by decide +kernel) (by decide +kernel))
theorem ml_X0_142 : ML RX0 142 kX0_halved := Or.inl (wgi 575 (by decide +kernel) (by decide +kernel))
theorem ml_X1_37 : ML RX1 37 kX0_edgesAt := Or.inr ⟨"ClockCrossings", (nwi 376 (by decide +kernel) (by decide +kernel))⟩
theorem ml_X1_46 : ML RX1 46 kX0_isLeaf := Or.inr ⟨"ClockCrossings", (nwi 384 (by decide +kernel) (by decide +kernel))⟩
theorem ml_X1_50 : ML RX1 50 kX1_gateValue := Or.inl (wgi 465 (by decide +kernel) (by decide +kernel))
theorem ml_X1_57 : ML RX1 57 kX3_at := Or.inr ⟨"ClockCrossings", (nwi 393 (by decide +kernel) (by decide +kernel))⟩
theorem ml_X1_61 : ML RX1 61 kX3_hasBit := Or.inr ⟨"ClockCrossings", (nwi 400 (by decide +kernel) (by decide +kernel))⟩
theorem ml_X1_65 : ML RX1 65 kX1_leafValue := Or.inl (wgi 481 (by decide +kernel) (by decide +kernel))
theorem ml_X1_69 : ML RX1 69 kX0_isOf := Or.inr ⟨"ClockCrossings", (nwi 405 (by decide +kernel) (by decide +kernel))⟩
theorem ml_X1_75 : ML RX1 75 kX0_partOf := Or.inr ⟨"ClockCrossings", (nwi 389 (by decide +kernel) (by decide +kernel))⟩
theorem ml_X1_79 : ML RX1 79 kX0_isDirect := Or.inr ⟨"ClockCrossings", (nwi 406 (by decide +kernel) (by decide +kernel))⟩
theorem ml_X1_85 : ML RX1 85 kX1_ruledBy := Or.inl (wgi 474 (by decide +kernel) (by decide +kernel))
theorem ml_X1_89 : ML RX1 89 kX1_chosen := Or.inl (wgi 477 (by decide +kernel) (by decide +kernel))
theorem ml_X2_23 : ML RX2 23 kX0_empty := Or.inr ⟨"ClockCrossings", (nwi 196 (by decide +kernel) (by decide +kernel))⟩
theorem ml_X2_31 : ML RX2 31 kX2_readToken := Or.inl (wgi 283 (by decide +kernel) (by decide +kernel))
theorem ml_X2_37 : ML RX2 37 kX0_measureDepths := Or.inr ⟨"ClockCrossings", (nwi 217 (by decide +kernel) (by decide +kernel))⟩
theorem ml_X2_40 : ML RX2 40 kX2_readItem := Or.inl (wgi 312 (by decide +kernel) (by decide +kernel))
theorem ml_X2_47 : ML RX2 47 kX2_shapeOf := Or.inl (wgi 316 (by decide +kernel) (by decide +kernel))
theorem ml_X2_51 : ML RX2 51 kJ0_isEmpty_aae02 := Or.inl (wgi 326 (by decide +kernel) (by decide +kernel))
theorem ml_X2_57 : ML RX2 57 kX0_hasRoomFor := Or.inr ⟨"ClockCrossings", (nwi 250 (by decide +kernel) (by decide +kernel))⟩
theorem ml_X2_61 : ML RX2 61 kJ0_length_8abf5 := Or.inl (wgi 334 (by decide +kernel) (by decide +kernel))
theorem ml_X2_65 : ML RX2 65 kJ0_charAt_5068e := Or.inl (wgi 344 (by decide +kernel) (by decide +kernel))
theorem ml_X2_72 : ML RX2 72 kX0_allows := Or.inr ⟨"ClockCrossings", (nwi 302 (by decide +kernel) (by decide +kernel))⟩
theorem ml_X2_76 : ML RX2 76 kX0_add := Or.inr ⟨"ClockCrossings", (nwi 314 (by decide +kernel) (by decide +kernel))⟩
theorem ml_X2_94 : ML RX2 94 kX2_isFigure := Or.inl (wgi 287 (by decide +kernel) (by decide +kernel))
theorem ml_X2_98 : ML RX2 98 kX2_readNumber := Or.inl (wgi 290 (by decide +kernel) (by decide +kernel))
theorem ml_X2_101 : ML RX2 101 kJ9_min_7cf53 := Or.inl (wgi 294 (by decide +kernel) (by decide +kernel))
theorem ml_L_13 : ML RL 13 kX3_type := Or.inl (wgi 256 (by decide +kernel) (by decide +kernel))
theorem ml_L_17 : ML RL 17 kX4_type := Or.inl (wgi 894 (by decide +kernel) (by decide +kernel))
theorem ml_L_18 : ML RL 18 kX3_clear := Or.inl (wgi 264 (by decide +kernel) (by decide +kernel))
theorem ml_L_22 : ML RL 22 kX4_clear := Or.inl (wgi 898 (by decide +kernel) (by decide +kernel))
theorem ml_L_23 : ML RL 23 kX3_tells := Or.inl (wgi 268 (by decide +kernel) (by decide +kernel))
theorem ml_L_26 : ML RL 26 kX4_tells := Or.inl (wgi 902 (by decide +kernel) (by decide +kernel))
theorem ml_L_27 : ML RL 27 kX3_needs := Or.inl (wgi 426 (by decide +kernel) (by decide +kernel))
theorem ml_L_30 : ML RL 30 kX4_needs := Or.inl (wgi 673 (by decide +kernel) (by decide +kernel))
theorem ml_L_31 : ML RL 31 kX3_wishes := Or.inl (wgi 439 (by decide +kernel) (by decide +kernel))
theorem ml_L_35 : ML RL 35 kX4_wishes := Or.inl (wgi 684 (by decide +kernel) (by decide +kernel))
theorem ml_L_36 : ML RL 36 kX3_ticks := Or.inl (wgi 444 (by decide +kernel) (by decide +kernel))
theorem ml_L_39 : ML RL 39 kX4_ticks := Or.inl (wgi 704 (by decide +kernel) (by decide +kernel))
theorem ml_L_40 : ML RL 40 kX3_undo := Or.inl (wgi 490 (by decide +kernel) (by decide +kernel))
theorem ml_L_43 : ML RL 43 kX4_undo := Or.inl (wgi 774 (by decide +kernel) (by decide +kernel))
theorem ml_L_44 : ML RL 44 kX3_node := Or.inl (wgi 494 (by decide +kernel) (by decide +kernel))
theorem ml_L_47 : ML RL 47 kX4_node := Or.inl (wgi 778 (by decide +kernel) (by decide +kernel))
theorem ml_L_48 : ML RL 48 kX3_register := Or.inl (wgi 505 (by decide +kernel) (by decide +kernel))
theorem ml_L_51 : ML RL 51 kX4_register := Or.inl (wgi 786 (by decide +kernel) (by decide +kernel))
theorem ml_L_52 : ML RL 52 kX3_crossing := Or.inl (wgi 542 (by decide +kernel) (by decide +kernel))
theorem ml_L_55 : ML RL 55 kX4_crossing := Or.inl (wgi 822 (by decide +kernel) (by decide +kernel))
theorem ml_L_56 : ML RL 56 kX3_kinds := Or.inl (wgi 547 (by decide +kernel) (by decide +kernel))
theorem ml_L_59 : ML RL 59 kX4_kinds := Or.inl (wgi 830 (by decide +kernel) (by decide +kernel))
theorem ml_L_60 : ML RL 60 kX3_join := Or.inl (wgi 551 (by decide +kernel) (by decide +kernel))
theorem ml_L_63 : ML RL 63 kX4_join := Or.inl (wgi 834 (by decide +kernel) (by decide +kernel))
theorem ml_L_64 : ML RL 64 kX3_risk := Or.inl (wgi 566 (by decide +kernel) (by decide +kernel))
theorem ml_L_67 : ML RL 67 kX4_risk := Or.inl (wgi 857 (by decide +kernel) (by decide +kernel))
theorem ml_L_68 : ML RL 68 kX3_period := Or.inl (wgi 584 (by decide +kernel) (by decide +kernel))
theorem ml_L_71 : ML RL 71 kX4_period := Or.inl (wgi 870 (by decide +kernel) (by decide +kernel))
theorem ml_L_72 : ML RL 72 kX3_wish := Or.inl (wgi 588 (by decide +kernel) (by decide +kernel))
theorem ml_L_75 : ML RL 75 kX4_wish := Or.inl (wgi 874 (by decide +kernel) (by decide +kernel))
theorem ml_L_76 : ML RL 76 kX3_when := Or.inl (wgi 592 (by decide +kernel) (by decide +kernel))
theorem ml_L_79 : ML RL 79 kX4_when := Or.inl (wgi 878 (by decide +kernel) (by decide +kernel))
theorem ml_L_80 : ML RL 80 kX3_keep := Or.inl (wgi 596 (by decide +kernel) (by decide +kernel))
theorem ml_L_83 : ML RL 83 kX4_keep := Or.inl (wgi 882 (by decide +kernel) (by decide +kernel))
theorem ml_L_84 : ML RL 84 kX3_back := Or.inl (wgi 600 (by decide +kernel) (by decide +kernel))
theorem ml_L_87 : ML RL 87 kX4_back := Or.inl (wgi 886 (by decide +kernel) (by decide +kernel))
theorem ml_L_88 : ML RL 88 kX3_count := Or.inl (wgi 604 (by decide +kernel) (by decide +kernel))
theorem ml_L_91 : ML RL 91 kX4_count := Or.inl (wgi 890 (by decide +kernel) (by decide +kernel))
theorem ml_X4_41 : ML RX4 41 kX4_begin := Or.inl (wgi 614 (by decide +kernel) (by decide +kernel))
theorem ml_X4_45 : ML RX4 45 kX4_start := Or.inl (wgi 617 (by decide +kernel) (by decide +kernel))
theorem ml_X4_52 : ML RX4 52 kX4_many := Or.inl (wgi 696 (by decide +kernel) (by decide +kernel))
theorem ml_X4_56 : ML RX4 56 kX4_in := Or.inl (wgi 677 (by decide +kernel) (by decide +kernel))
theorem ml_X4_60 : ML RX4 60 kX4_isNode := Or.inl (wgi 692 (by decide +kernel) (by decide +kernel))
theorem ml_X4_64 : ML RX4 64 kX4_sort := Or.inl (wgi 700 (by decide +kernel) (by decide +kernel))
theorem ml_X4_68 : ML RX4 68 kX4_hasMany := Or.inl (wgi 756 (by decide +kernel) (by decide +kernel))
theorem ml_X4_71 : ML RX4 71 kX4_of := Or.inl (wgi 724 (by decide +kernel) (by decide +kernel))
theorem ml_X4_75 : ML RX4 75 kX4_isLeaf := Or.inl (wgi 716 (by decide +kernel) (by decide +kernel))
theorem ml_X4_78 : ML RX4 78 kX4_findLeaves := Or.inl (wgi 752 (by decide +kernel) (by decide +kernel))
theorem ml_X4_81 : ML RX4 81 kX4_leavesOf := Or.inl (wgi 748 (by decide +kernel) (by decide +kernel))
theorem ml_X4_84 : ML RX4 84 kX4_has := Or.inl (wgi 771 (by decide +kernel) (by decide +kernel))
theorem ml_X4_88 : ML RX4 88 kX4_clock := Or.inl (wgi 740 (by decide +kernel) (by decide +kernel))
theorem ml_X4_91 : ML RX4 91 kX4_foreign := Or.inl (wgi 744 (by decide +kernel) (by decide +kernel))
theorem ml_X4_94 : ML RX4 94 kX4_often := Or.inl (wgi 802 (by decide +kernel) (by decide +kernel))
theorem ml_X4_97 : ML RX4 97 kX4_onlyOne := Or.inl (wgi 798 (by decide +kernel) (by decide +kernel))
theorem ml_X4_100 : ML RX4 100 kX4_isDirect := Or.inl (wgi 767 (by decide +kernel) (by decide +kernel))
theorem ml_X4_103 : ML RX4 103 kX4_depth := Or.inl (wgi 794 (by decide +kernel) (by decide +kernel))
theorem ml_X4_106 : ML RX4 106 kX4_sourcesOf := Or.inl (wgi 782 (by decide +kernel) (by decide +kernel))
theorem ml_X4_109 : ML RX4 109 kX4_backFrom := Or.inl (wgi 818 (by decide +kernel) (by decide +kernel))
theorem ml_X4_112 : ML RX4 112 kX4_isSafe := Or.inl (wgi 810 (by decide +kernel) (by decide +kernel))
theorem ml_X4_115 : ML RX4 115 kX4_isHeld := Or.inl (wgi 814 (by decide +kernel) (by decide +kernel))
theorem ml_X4_118 : ML RX4 118 kX4_kindOf := Or.inl (wgi 806 (by decide +kernel) (by decide +kernel))
theorem ml_X4_121 : ML RX4 121 kX4_areMarked := Or.inl (wgi 846 (by decide +kernel) (by decide +kernel))
theorem ml_X4_124 : ML RX4 124 kX4_areApart := Or.inl (wgi 842 (by decide +kernel) (by decide +kernel))
theorem ml_X4_127 : ML RX4 127 kX4_reached := Or.inl (wgi 850 (by decide +kernel) (by decide +kernel))
theorem ml_X4_130 : ML RX4 130 kX4_lowest := Or.inl (wgi 854 (by decide +kernel) (by decide +kernel))
theorem ml_X4_133 : ML RX4 133 kX4_and := Or.inl (wgi 728 (by decide +kernel) (by decide +kernel))
theorem ml_X4_136 : ML RX4 136 kX4_or := Or.inl (wgi 731 (by decide +kernel) (by decide +kernel))
theorem ml_X4_139 : ML RX4 139 kX4_xor := Or.inl (wgi 734 (by decide +kernel) (by decide +kernel))
theorem ml_X4_142 : ML RX4 142 kX4_choose := Or.inl (wgi 737 (by decide +kernel) (by decide +kernel))
theorem ml_X4_146 : ML RX4 146 kX4_gate := Or.inl (wgi 720 (by decide +kernel) (by decide +kernel))
theorem ml_X4_149 : ML RX4 149 kX4_findValues := Or.inl (wgi 712 (by decide +kernel) (by decide +kernel))
theorem ml_X4_152 : ML RX4 152 kX4_taken := Or.inl (wgi 759 (by decide +kernel) (by decide +kernel))
theorem ml_X4_155 : ML RX4 155 kX4_isSettled := Or.inl (wgi 763 (by decide +kernel) (by decide +kernel))
theorem ml_X4_158 : ML RX4 158 kX4_note := Or.inl (wgi 680 (by decide +kernel) (by decide +kernel))
theorem ml_X4_161 : ML RX4 161 kX4_isInput := Or.inl (wgi 688 (by decide +kernel) (by decide +kernel))
theorem ml_X4_164 : ML RX4 164 kX4_tick := Or.inl (wgi 708 (by decide +kernel) (by decide +kernel))
theorem ml_X4_167 : ML RX4 167 kX4_isRegister := Or.inl (wgi 790 (by decide +kernel) (by decide +kernel))
theorem ml_X4_170 : ML RX4 170 kX4_kindAt := Or.inl (wgi 826 (by decide +kernel) (by decide +kernel))
theorem ml_X4_173 : ML RX4 173 kX4_joinAt := Or.inl (wgi 838 (by decide +kernel) (by decide +kernel))
theorem ml_X4_180 : ML RX4 180 kX4_weight := Or.inl (wgi 861 (by decide +kernel) (by decide +kernel))
theorem ml_X4_200 : ML RX4 200 kX4_isItem := Or.inl (wgi 910 (by decide +kernel) (by decide +kernel))
theorem ml_X4_206 : ML RX4 206 kX4_next := Or.inl (wgi 906 (by decide +kernel) (by decide +kernel))
theorem ml_X4_209 : ML RX4 209 kX4_must := Or.inl (wgi 920 (by decide +kernel) (by decide +kernel))
theorem ml_X4_213 : ML RX4 213 kX4_number := Or.inl (wgi 928 (by decide +kernel) (by decide +kernel))
theorem ml_X4_216 : ML RX4 216 kX4_isToldLeaf := Or.inl (wgi 936 (by decide +kernel) (by decide +kernel))
theorem ml_X4_220 : ML RX4 220 kX4_sortOf := Or.inl (wgi 917 (by decide +kernel) (by decide +kernel))
theorem ml_X4_223 : ML RX4 223 kX4_readNode := Or.inl (wgi 924 (by decide +kernel) (by decide +kernel))
theorem ml_X4_227 : ML RX4 227 kX4_readMark := Or.inl (wgi 932 (by decide +kernel) (by decide +kernel))
theorem ml_X4_230 : ML RX4 230 kX4_readItem := Or.inl (wgi 913 (by decide +kernel) (by decide +kernel))
theorem ml_J0_335 : ML RJ0 335 kJ0_coder_7d493 := Or.inl (wgi 338 (by decide +kernel) (by decide +kernel))
theorem ml_J0_492 : ML RJ0 492 kJ0_isLatin1_aae02 := Or.inl (wgi 348 (by decide +kernel) (by decide +kernel))
theorem ml_J0_495 : ML RJ0 495 kJ1_charAt_3b067 := Or.inl (wgi 352 (by decide +kernel) (by decide +kernel))
theorem ml_J0_498 : ML RJ0 498 kJ2_charAt_3b067 := Or.inl (wgi 363 (by decide +kernel) (by decide +kernel))
theorem ml_J0_1059 : ML RJ0 1059 kJ3_checkIndex_8e157 := Or.inl (wgi 360 (by decide +kernel) (by decide +kernel))
theorem ml_J1_9 : ML RJ1 9 kJ0_checkIndex_df160 := Or.inl (wgi 355 (by decide +kernel) (by decide +kernel))
theorem ml_J2_48 : ML RJ2 48 kJ2_length_9d52b := Or.inl (wgi 369 (by decide +kernel) (by decide +kernel))
theorem ml_J2_67 : ML RJ2 67 kJ2_checkIndex_2214a := Or.inl (wgi 366 (by decide +kernel) (by decide +kernel))
theorem ml_J2_71 : ML RJ2 71 kJ2_getChar_3b067 := Or.inl (wgi 373 (by decide +kernel) (by decide +kernel))
theorem ml_J2_414 : ML RJ2 414 kJ0_checkIndex_df160 := Or.inl (wgi 372 (by decide +kernel) (by decide +kernel))
theorem fl_X3_10 : FL RX3 10 3 0 := ⟨by decide, Or.inl (wgi 224 (by decide +kernel) (by decide +kernel))⟩
theorem fl_X3_19 : FL RX3 19 3 1 := ⟨by decide, Or.inl (wgi 225 (by decide +kernel) (by decide +kernel))⟩
theorem fl_X3_23 : FL RX3 23 3 2 := ⟨by decide, Or.inl (wgi 226 (by decide +kernel) (by decide +kernel))⟩
theorem fl_X3_29 : FL RX3 29 3 3 := ⟨by decide, Or.inl (wgi 227 (by decide +kernel) (by decide +kernel))⟩
theorem fl_X3_33 : FL RX3 33 3 8 := ⟨by decide, Or.inl (wgi 232 (by decide +kernel) (by decide +kernel))⟩
theorem fl_X3_36 : FL RX3 36 3 9 := ⟨by decide, Or.inl (wgi 233 (by decide +kernel) (by decide +kernel))⟩
theorem fl_X3_39 : FL RX3 39 3 4 := ⟨by decide, Or.inl (wgi 228 (by decide +kernel) (by decide +kernel))⟩
theorem fl_X3_43 : FL RX3 43 3 6 := ⟨by decide, Or.inl (wgi 230 (by decide +kernel) (by decide +kernel))⟩
theorem fl_X3_46 : FL RX3 46 3 7 := ⟨by decide, Or.inl (wgi 231 (by decide +kernel) (by decide +kernel))⟩
theorem fl_X3_54 : FL RX3 54 2 1 := ⟨by decide, Or.inr ⟨"ClockCrossings", (nwi 29 (by decide +kernel) (by decide +kernel))⟩⟩
theorem fl_X3_65 : FL RX3 65 3 5 := ⟨by decide, Or.inl (wgi 229 (by decide +kernel) (by decide +kernel))⟩
theorem fl_X3_68 : FL RX3 68 1 0 := ⟨by decide, Or.inr ⟨"ClockCrossings", (nwi 119 (by decide +kernel) (by decide +kernel))⟩⟩
theorem fl_X3_78 : FL RX3 78 1 5 := ⟨by decide, Or.inr ⟨"ClockCrossings", (nwi 129 (by decide +kernel) (by decide +kernel))⟩⟩
theorem fl_X3_82 : FL RX3 82 1 1 := ⟨by decide, Or.inr ⟨"ClockCrossings", (nwi 121 (by decide +kernel) (by decide +kernel))⟩⟩
theorem fl_X3_85 : FL RX3 85 1 2 := ⟨by decide, Or.inr ⟨"ClockCrossings", (nwi 123 (by decide +kernel) (by decide +kernel))⟩⟩
theorem fl_X3_98 : FL RX3 98 0 2 := ⟨by decide, Or.inr ⟨"ClockCrossings", (nwi 74 (by decide +kernel) (by decide +kernel))⟩⟩
theorem fl_X3_105 : FL RX3 105 0 3 := ⟨by decide, Or.inr ⟨"ClockCrossings", (nwi 77 (by decide +kernel) (by decide +kernel))⟩⟩
theorem fl_X3_112 : FL RX3 112 0 6 := ⟨by decide, Or.inr ⟨"ClockCrossings", (nwi 81 (by decide +kernel) (by decide +kernel))⟩⟩
theorem fl_X3_119 : FL RX3 119 1 4 := ⟨by decide, Or.inr ⟨"ClockCrossings", (nwi 127 (by decide +kernel) (by decide +kernel))⟩⟩
theorem fl_X3_122 : FL RX3 122 0 7 := ⟨by decide, Or.inr ⟨"ClockCrossings", (nwi 84 (by decide +kernel) (by decide +kernel))⟩⟩
theorem fl_X3_125 : FL RX3 125 0 8 := ⟨by decide, Or.inr ⟨"ClockCrossings", (nwi 86 (by decide +kernel) (by decide +kernel))⟩⟩
theorem fl_X3_131 : FL RX3 131 0 0 := ⟨by decide, Or.inr ⟨"ClockCrossings", (nwi 69 (by decide +kernel) (by decide +kernel))⟩⟩
theorem fl_X3_148 : FL RX3 148 0 1 := ⟨by decide, Or.inr ⟨"ClockCrossings", (nwi 71 (by decide +kernel) (by decide +kernel))⟩⟩
theorem fl_X3_151 : FL RX3 151 1 3 := ⟨by decide, Or.inr ⟨"ClockCrossings", (nwi 125 (by decide +kernel) (by decide +kernel))⟩⟩
theorem fl_X0_9 : FL RX0 9 0 2 := ⟨by decide, Or.inl (wgi 152 (by decide +kernel) (by decide +kernel))⟩
theorem fl_X0_15 : FL RX0 15 0 3 := ⟨by decide, Or.inl (wgi 155 (by decide +kernel) (by decide +kernel))⟩
theorem fl_X0_18 : FL RX0 18 0 4 := ⟨by decide, Or.inl (wgi 158 (by decide +kernel) (by decide +kernel))⟩
theorem fl_X0_21 : FL RX0 21 0 5 := ⟨by decide, Or.inl (wgi 159 (by decide +kernel) (by decide +kernel))⟩
theorem fl_X0_24 : FL RX0 24 0 6 := ⟨by decide, Or.inl (wgi 160 (by decide +kernel) (by decide +kernel))⟩
theorem fl_X0_27 : FL RX0 27 0 7 := ⟨by decide, Or.inl (wgi 162 (by decide +kernel) (by decide +kernel))⟩
theorem fl_X0_30 : FL RX0 30 0 8 := ⟨by decide, Or.inl (wgi 165 (by decide +kernel) (by decide +kernel))⟩
theorem fl_X0_33 : FL RX0 33 0 9 := ⟨by decide, Or.inl (wgi 167 (by decide +kernel) (by decide +kernel))⟩
theorem fl_X0_44 : FL RX0 44 0 10 := ⟨by decide, Or.inl (wgi 168 (by decide +kernel) (by decide +kernel))⟩
theorem fl_X0_47 : FL RX0 47 0 0 := ⟨by decide, Or.inl (wgi 147 (by decide +kernel) (by decide +kernel))⟩
theorem fl_X0_51 : FL RX0 51 0 1 := ⟨by decide, Or.inl (wgi 150 (by decide +kernel) (by decide +kernel))⟩
theorem fl_X1_9 : FL RX1 9 1 4 := ⟨by decide, Or.inl (wgi 206 (by decide +kernel) (by decide +kernel))⟩
theorem fl_X1_15 : FL RX1 15 1 5 := ⟨by decide, Or.inl (wgi 208 (by decide +kernel) (by decide +kernel))⟩
theorem fl_X1_18 : FL RX1 18 1 0 := ⟨by decide, Or.inl (wgi 198 (by decide +kernel) (by decide +kernel))⟩
theorem fl_X1_22 : FL RX1 22 1 1 := ⟨by decide, Or.inl (wgi 200 (by decide +kernel) (by decide +kernel))⟩
theorem fl_X1_25 : FL RX1 25 1 2 := ⟨by decide, Or.inl (wgi 202 (by decide +kernel) (by decide +kernel))⟩
theorem fl_X1_28 : FL RX1 28 1 3 := ⟨by decide, Or.inl (wgi 204 (by decide +kernel) (by decide +kernel))⟩
theorem fl_X1_43 : FL RX1 43 0 0 := ⟨by decide, Or.inr ⟨"ClockCrossings", (nwi 68 (by decide +kernel) (by decide +kernel))⟩⟩
theorem fl_X1_54 : FL RX1 54 0 3 := ⟨by decide, Or.inr ⟨"ClockCrossings", (nwi 76 (by decide +kernel) (by decide +kernel))⟩⟩
theorem fl_X1_72 : FL RX1 72 0 7 := ⟨by decide, Or.inr ⟨"ClockCrossings", (nwi 83 (by decide +kernel) (by decide +kernel))⟩⟩
theorem fl_X1_82 : FL RX1 82 0 2 := ⟨by decide, Or.inr ⟨"ClockCrossings", (nwi 73 (by decide +kernel) (by decide +kernel))⟩⟩
theorem fl_X2_9 : FL RX2 9 2 0 := ⟨by decide, Or.inl (wgi 107 (by decide +kernel) (by decide +kernel))⟩
theorem fl_X2_15 : FL RX2 15 2 6 := ⟨by decide, Or.inl (wgi 114 (by decide +kernel) (by decide +kernel))⟩
theorem fl_X2_19 : FL RX2 19 2 1 := ⟨by decide, Or.inl (wgi 108 (by decide +kernel) (by decide +kernel))⟩
theorem fl_X2_28 : FL RX2 28 2 2 := ⟨by decide, Or.inl (wgi 110 (by decide +kernel) (by decide +kernel))⟩
theorem fl_X2_34 : FL RX2 34 2 4 := ⟨by decide, Or.inl (wgi 112 (by decide +kernel) (by decide +kernel))⟩
theorem fl_X2_44 : FL RX2 44 2 3 := ⟨by decide, Or.inl (wgi 111 (by decide +kernel) (by decide +kernel))⟩
theorem fl_X2_69 : FL RX2 69 2 5 := ⟨by decide, Or.inl (wgi 113 (by decide +kernel) (by decide +kernel))⟩
theorem fl_X4_7 : FL RX4 7 4 0 := ⟨by decide, Or.inl (wgi 621 (by decide +kernel) (by decide +kernel))⟩
theorem fl_X4_13 : FL RX4 13 4 1 := ⟨by decide, Or.inl (wgi 622 (by decide +kernel) (by decide +kernel))⟩
theorem fl_X4_16 : FL RX4 16 4 2 := ⟨by decide, Or.inl (wgi 623 (by decide +kernel) (by decide +kernel))⟩
theorem fl_X4_19 : FL RX4 19 4 3 := ⟨by decide, Or.inl (wgi 624 (by decide +kernel) (by decide +kernel))⟩
theorem fl_X4_22 : FL RX4 22 4 4 := ⟨by decide, Or.inl (wgi 625 (by decide +kernel) (by decide +kernel))⟩
theorem fl_X4_25 : FL RX4 25 4 6 := ⟨by decide, Or.inl (wgi 627 (by decide +kernel) (by decide +kernel))⟩
theorem fl_X4_28 : FL RX4 28 4 7 := ⟨by decide, Or.inl (wgi 628 (by decide +kernel) (by decide +kernel))⟩
theorem fl_X4_32 : FL RX4 32 4 8 := ⟨by decide, Or.inl (wgi 629 (by decide +kernel) (by decide +kernel))⟩
theorem fl_X4_35 : FL RX4 35 4 9 := ⟨by decide, Or.inl (wgi 630 (by decide +kernel) (by decide +kernel))⟩
theorem fl_X4_38 : FL RX4 38 4 10 := ⟨by decide, Or.inl (wgi 631 (by decide +kernel) (by decide +kernel))⟩
theorem fl_X4_48 : FL RX4 48 4 5 := ⟨by decide, Or.inl (wgi 626 (by decide +kernel) (by decide +kernel))⟩
theorem fl_X4_185 : FL RX4 185 4 11 := ⟨by decide, Or.inl (wgi 632 (by decide +kernel) (by decide +kernel))⟩
theorem fl_X4_188 : FL RX4 188 4 12 := ⟨by decide, Or.inl (wgi 633 (by decide +kernel) (by decide +kernel))⟩
theorem fl_X4_191 : FL RX4 191 4 13 := ⟨by decide, Or.inl (wgi 634 (by decide +kernel) (by decide +kernel))⟩
theorem fl_X4_194 : FL RX4 194 4 15 := ⟨by decide, Or.inl (wgi 636 (by decide +kernel) (by decide +kernel))⟩
theorem fl_X4_197 : FL RX4 197 4 14 := ⟨by decide, Or.inl (wgi 635 (by decide +kernel) (by decide +kernel))⟩
theorem fl_X4_203 : FL RX4 203 4 16 := ⟨by decide, Or.inl (wgi 637 (by decide +kernel) (by decide +kernel))⟩
theorem cs_J6_265 : Cond.constant RJ6 265 1431655765 ∈ wg := (wgi 531 (by decide +kernel) (by decide +kernel))
theorem cs_J6_266 : Cond.constant RJ6 266 858993459 ∈ wg := (wgi 532 (by decide +kernel) (by decide +kernel))
theorem cs_J6_267 : Cond.constant RJ6 267 252645135 ∈ wg := (wgi 533 (by decide +kernel) (by decide +kernel))
theorem cf_X0_149 : Cond.constantFloat RX0 149 1056964608 ∈ wg := (wgi 578 (by decide +kernel) (by decide +kernel))
theorem cf_X0_146 : Cond.constantFloat RX0 146 1061158912 ∈ wg := (wgi 579 (by decide +kernel) (by decide +kernel))
theorem cf_X0_147 : Cond.constantFloat RX0 147 1040187392 ∈ wg := (wgi 580 (by decide +kernel) (by decide +kernel))
theorem cf_X0_148 : Cond.constantFloat RX0 148 1069547520 ∈ wg := (wgi 581 (by decide +kernel) (by decide +kernel))
theorem cf_X3_147 : Cond.constantFloat RX3 147 1176256512 ∈ wg := (wgi 583 (by decide +kernel) (by decide +kernel))
theorem cf_X4_176 : Cond.constantFloat RX4 176 1061158912 ∈ wg := (wgi 865 (by decide +kernel) (by decide +kernel))
theorem cf_X4_177 : Cond.constantFloat RX4 177 1040187392 ∈ wg := (wgi 866 (by decide +kernel) (by decide +kernel))
theorem cf_X4_178 : Cond.constantFloat RX4 178 1069547520 ∈ wg := (wgi 867 (by decide +kernel) (by decide +kernel))
theorem cf_X4_179 : Cond.constantFloat RX4 179 1056964608 ∈ wg := (wgi 868 (by decide +kernel) (by decide +kernel))
theorem cf_X4_184 : Cond.constantFloat RX4 184 1176256512 ∈ wg := (wgi 869 (by decide +kernel) (by decide +kernel))
end
section
/-! V: rows with numbers, truth values, calls with one answer -/
def bI (p : Prop) [Decidable p] : Int32 := if p then 1 else 0
theorem bI_t {p : Prop} [Decidable p] (h : p) : bI p = 1 := if_pos h
theorem bI_f {p : Prop} [Decidable p] (h : ¬ p) : bI p = 0 := if_neg h
theorem bI_0 {p : Prop} [Decidable p] : bI p = 0 ↔ ¬ p := by
  by_cases h : p
  · rw [bI_t h]; simp [h]
  · rw [bI_f h]; simp [h]
theorem bI_01 {p : Prop} [Decidable p] : bI p = 0 ∨ bI p = 1 := by
  by_cases h : p
  · exact Or.inr (bI_t h)
  · exact Or.inl (bI_f h)
theorem bI_c {p q : Prop} [Decidable p] [Decidable q] (h : p ↔ q) : bI p = bI q := by
  by_cases hp : p
  · rw [bI_t hp, bI_t (h.mp hp)]
  · rw [bI_f hp, bI_f (fun z => hp (h.mpr z))]
def rt (x : Value) (M : vM) : Option Value → vM → Prop := fun v M' => v = some x ∧ M' = M
def rv (M : vM) : Option Value → vM → Prop := fun v M' => v = none ∧ M' = M
section V9
variable {k k' : vK} {Q Q' : Option Value → vM → Prop} {M M1 : vM} {pc : Nat} {lv lv' : List (Nat × Value)} {st : List Value}
theorem v_top {x y : Int32} (e : x = y) (h : V k Q M pc lv (.int y :: st)) : V k Q M pc lv (.int x :: st) := e ▸ h
theorem v_nam {x : Int32} (h : ∀ y : Int32, y = x → V k Q M pc lv (.int y :: st)) : V k Q M pc lv (.int x :: st) := h x rfl
theorem v_ifB_eq {p : Prop} [Decidable p] {off : Int} {tgt : Nat} (d : decode k.2.1 pc = .ok (.ifCond .eq off, 3)) (ht : (pc : Int) + off = (tgt : Int)) (kt : ¬ p → V k Q M tgt lv st) (kf : p → V k Q M (pc + 3) lv st) : V k Q M pc lv (.int (bI p) :: st) :=
  v_if_eq d ht (fun h => kt (bI_0.mp h)) (fun h => kf (by by_cases hp : p; exact hp; exact absurd (bI_f hp) h))
theorem v_ifB_ne {p : Prop} [Decidable p] {off : Int} {tgt : Nat} (d : decode k.2.1 pc = .ok (.ifCond .ne off, 3)) (ht : (pc : Int) + off = (tgt : Int)) (kt : p → V k Q M tgt lv st) (kf : ¬ p → V k Q M (pc + 3) lv st) : V k Q M pc lv (.int (bI p) :: st) :=
  v_if_ne d ht (fun h => kt (by by_cases hp : p; exact hp; exact absurd (bI_f hp) h)) (fun h => kf (bI_0.mp h))
theorem v_bret {p : Prop} [Decidable p] (d : decode k.2.1 pc = .ok (.ireturn, 1)) (hr : k.2.2.2.1 = some .boolean) (hq : Q (some (.int (bI p))) M) : V k Q M pc lv [.int (bI p)] := v_zret d hr bI_01 hq
theorem v_iaddN {a b : Nat} (d : decode k.2.1 pc = .ok (.iadd, 1)) (h : V k Q M (pc + 1) lv (.int (nI (a + b)) :: st)) : V k Q M pc lv (.int (nI b) :: .int (nI a) :: st) := v_iadd d (by rw [nI_add]; exact h)
theorem v_imulN {a b : Nat} (d : decode k.2.1 pc = .ok (.imul, 1)) (h : V k Q M (pc + 1) lv (.int (nI (a * b)) :: st)) : V k Q M pc lv (.int (nI b) :: .int (nI a) :: st) := v_imul d (by rw [pk_mul]; exact h)
theorem v_isubN {a b : Nat} (d : decode k.2.1 pc = .ok (.isub, 1)) (hab : b ≤ a) (h : V k Q M (pc + 1) lv (.int (nI (a - b)) :: st)) : V k Q M pc lv (.int (nI b) :: .int (nI a) :: st) := v_isub d (by rw [pk_sub hab]; exact h)
theorem v_iincN {i a : Nat} (d : decode k.2.1 pc = .ok (.iinc i 1, 3)) (hx : lget lv i = some (.int (nI a))) (hn : i < k.2.2.1) (hl' : lset lv i (.int (nI (a + 1))) = lv') (h : V k Q M (pc + 3) lv' st) : V k Q M pc lv st := v_iinc d hx (by rw [show Int32.ofInt 1 = 1 from rfl]; exact nI_1 a) hn hl' h
theorem v_idecN {i a : Nat} (d : decode k.2.1 pc = .ok (.iinc i (-1), 3)) (hx : lget lv i = some (.int (nI (a + 1)))) (hn : i < k.2.2.1) (hl' : lset lv i (.int (nI a)) = lv') (h : V k Q M (pc + 3) lv' st) : V k Q M pc lv st := v_iinc d hx (by rw [show Int32.ofInt (-1) = -1 from rfl]; exact pk_m1 a) hn hl' h
theorem v_iald2 {i n a : Nat} {x y : Int32} (d : decode k.2.1 pc = .ok (.iaload, 1)) (ar : AR 10 i n) (hx : x = nI a) (ha : a < n) (e : M i a = y) (h : V k Q M (pc + 1) lv (.int y :: st)) : V k Q M pc lv (.int x :: .ref i :: st) := v_iald d ar hx ha (e ▸ h)
theorem v_getI2 {i ci j idx : Nat} {y : Int32} (d : decode k.2.1 pc = .ok (.getfield idx, 3)) (fl : FL k.1.cls idx ci j) (ob : OB i ci) (ht : ftg ci j = 0) (e : M i j = y) (h : V k Q M (pc + 3) lv (.int y :: st)) : V k Q M pc lv (.ref i :: st) := v_getI d fl ob ht (e ▸ h)
theorem v_callSr {idx n : Nat} {as stk : List Value} {x : Value} (d : decode k.2.1 pc = .ok (.invokestatic idx, 3)) (ml : ML k.1.cls idx k') (ks : KS k' n) (rm : RM k k') (hn : as.length = n) (hlen : (as.map fun v => v.category).sum ≤ k'.2.2.1) (hst : as.reverse ++ st = stk) (hrs : (st.map fun v => v.category).sum ≤ 8)
    (hV : V k' (rt x M1) M 0 (lv_args 0 as) []) (h : V k Q M1 (pc + 3) lv (x :: st)) : V k Q M pc lv stk :=
  v_callS d ml ks rm hn hlen hst hrs hV (fun v M' hq => by obtain ⟨rfl, rfl⟩ := hq; exact h)
theorem v_callSv {idx n : Nat} {as stk : List Value} (d : decode k.2.1 pc = .ok (.invokestatic idx, 3)) (ml : ML k.1.cls idx k') (ks : KS k' n) (rm : RM k k') (hn : as.length = n) (hlen : (as.map fun v => v.category).sum ≤ k'.2.2.1) (hst : as.reverse ++ st = stk) (hrs : (st.map fun v => v.category).sum ≤ 8)
    (hV : V k' (rv M1) M 0 (lv_args 0 as) []) (h : V k Q M1 (pc + 3) lv st) : V k Q M pc lv stk :=
  v_callS d ml ks rm hn hlen hst hrs hV (fun v M' hq => by obtain ⟨rfl, rfl⟩ := hq; exact h)
theorem v_callVr {idx n ci i : Nat} {as stk : List Value} {x : Value} (d : decode k.2.1 pc = .ok (.invokevirtual idx, 3)) (ml : ML k.1.cls idx k') (kv : KV k' ci n) (ob : OB i ci) (rm : RM k k') (hn : as.length = n) (hlen : ((Value.ref i :: as).map fun v => v.category).sum ≤ k'.2.2.1) (hst : as.reverse ++ .ref i :: st = stk) (hrs : (st.map fun v => v.category).sum ≤ 8)
    (hV : V k' (rt x M1) M 0 (lv_args 0 (.ref i :: as)) []) (h : V k Q M1 (pc + 3) lv (x :: st)) : V k Q M pc lv stk :=
  v_callV d ml kv ob rm hn hlen hst hrs hV (fun v M' hq => by obtain ⟨rfl, rfl⟩ := hq; exact h)
theorem v_callVv {idx n ci i : Nat} {as stk : List Value} (d : decode k.2.1 pc = .ok (.invokevirtual idx, 3)) (ml : ML k.1.cls idx k') (kv : KV k' ci n) (ob : OB i ci) (rm : RM k k') (hn : as.length = n) (hlen : ((Value.ref i :: as).map fun v => v.category).sum ≤ k'.2.2.1) (hst : as.reverse ++ .ref i :: st = stk) (hrs : (st.map fun v => v.category).sum ≤ 8)
    (hV : V k' (rv M1) M 0 (lv_args 0 (.ref i :: as)) []) (h : V k Q M1 (pc + 3) lv st) : V k Q M pc lv stk :=
  v_callV d ml kv ob rm hn hlen hst hrs hV (fun v M' hq => by obtain ⟨rfl, rfl⟩ := hq; exact h)
theorem v_use {x : Value} {as : List (Nat × Value)} (hV : V k (rt x M1) M pc as st) (hq : ∀ v M', v = some x → M' = M1 → Q v M') : V k Q M pc as st := v_post (fun v M' h => hq v M' h.1 h.2) hV
theorem v_icmpN_eq {a b : Nat} {off : Int} {tgt : Nat} (d : decode k.2.1 pc = .ok (.if_icmp .eq off, 3)) (ht : (pc : Int) + off = (tgt : Int)) (ha : a < 2 ^ 31) (hb : b < 2 ^ 31) (kt : a = b → V k Q M tgt lv st) (kf : ¬ a = b → V k Q M (pc + 3) lv st) : V k Q M pc lv (.int (nI b) :: .int (nI a) :: st) := v_icmp_eq d ht (fun h => kt ((nI_eq ha hb).mp h)) (fun h => kf (fun e => h ((nI_eq ha hb).mpr e)))
theorem v_icmpN_ne {a b : Nat} {off : Int} {tgt : Nat} (d : decode k.2.1 pc = .ok (.if_icmp .ne off, 3)) (ht : (pc : Int) + off = (tgt : Int)) (ha : a < 2 ^ 31) (hb : b < 2 ^ 31) (kt : ¬ a = b → V k Q M tgt lv st) (kf : a = b → V k Q M (pc + 3) lv st) : V k Q M pc lv (.int (nI b) :: .int (nI a) :: st) := v_icmp_ne d ht (fun h => kt (fun e => h ((nI_eq ha hb).mpr e))) (fun h => kf ((nI_eq ha hb).mp h))
theorem v_icmpN_lt {a b : Nat} {off : Int} {tgt : Nat} (d : decode k.2.1 pc = .ok (.if_icmp .lt off, 3)) (ht : (pc : Int) + off = (tgt : Int)) (ha : a < 2 ^ 31) (hb : b < 2 ^ 31) (kt : a < b → V k Q M tgt lv st) (kf : b ≤ a → V k Q M (pc + 3) lv st) : V k Q M pc lv (.int (nI b) :: .int (nI a) :: st) := v_icmp_lt d ht (fun h => kt ((nI_ltI ha hb).mp h)) (fun h => kf (Nat.not_lt.mp (fun e => h ((nI_ltI ha hb).mpr e))))
theorem v_icmpN_ge {a b : Nat} {off : Int} {tgt : Nat} (d : decode k.2.1 pc = .ok (.if_icmp .ge off, 3)) (ht : (pc : Int) + off = (tgt : Int)) (ha : a < 2 ^ 31) (hb : b < 2 ^ 31) (kt : b ≤ a → V k Q M tgt lv st) (kf : a < b → V k Q M (pc + 3) lv st) : V k Q M pc lv (.int (nI b) :: .int (nI a) :: st) := v_icmp_ge d ht (fun h => kt ((nI_leI hb ha).mp h)) (fun h => kf (Nat.not_le.mp (fun e => h ((nI_leI hb ha).mpr e))))
theorem v_icmpN_gt {a b : Nat} {off : Int} {tgt : Nat} (d : decode k.2.1 pc = .ok (.if_icmp .gt off, 3)) (ht : (pc : Int) + off = (tgt : Int)) (ha : a < 2 ^ 31) (hb : b < 2 ^ 31) (kt : b < a → V k Q M tgt lv st) (kf : a ≤ b → V k Q M (pc + 3) lv st) : V k Q M pc lv (.int (nI b) :: .int (nI a) :: st) := v_icmp_gt d ht (fun h => kt ((nI_ltI hb ha).mp h)) (fun h => kf (Nat.not_lt.mp (fun e => h ((nI_ltI hb ha).mpr e))))
theorem v_icmpN_le {a b : Nat} {off : Int} {tgt : Nat} (d : decode k.2.1 pc = .ok (.if_icmp .le off, 3)) (ht : (pc : Int) + off = (tgt : Int)) (ha : a < 2 ^ 31) (hb : b < 2 ^ 31) (kt : a ≤ b → V k Q M tgt lv st) (kf : b < a → V k Q M (pc + 3) lv st) : V k Q M pc lv (.int (nI b) :: .int (nI a) :: st) := v_icmp_le d ht (fun h => kt ((nI_leI ha hb).mp h)) (fun h => kf (Nat.not_le.mp (fun e => h ((nI_leI ha hb).mpr e))))
theorem v_ifN_eq {a : Nat} {off : Int} {tgt : Nat} (d : decode k.2.1 pc = .ok (.ifCond .eq off, 3)) (ht : (pc : Int) + off = (tgt : Int)) (ha : a < 2 ^ 31) (kt : a = 0 → V k Q M tgt lv st) (kf : ¬ a = 0 → V k Q M (pc + 3) lv st) : V k Q M pc lv (.int (nI a) :: st) := v_if_eq d ht (fun h => kt ((nI_eq ha (by decide)).mp (h.trans nI_0.symm))) (fun h => kf (fun e => h (by rw [e]; exact nI_0)))
theorem v_ifN_ne {a : Nat} {off : Int} {tgt : Nat} (d : decode k.2.1 pc = .ok (.ifCond .ne off, 3)) (ht : (pc : Int) + off = (tgt : Int)) (ha : a < 2 ^ 31) (kt : ¬ a = 0 → V k Q M tgt lv st) (kf : a = 0 → V k Q M (pc + 3) lv st) : V k Q M pc lv (.int (nI a) :: st) := v_if_ne d ht (fun h => kt (fun e => h (by rw [e]; exact nI_0))) (fun h => kf ((nI_eq ha (by decide)).mp (h.trans nI_0.symm)))
theorem v_ifN_le {a : Nat} {off : Int} {tgt : Nat} (d : decode k.2.1 pc = .ok (.ifCond .le off, 3)) (ht : (pc : Int) + off = (tgt : Int)) (ha : a < 2 ^ 31) (kt : a = 0 → V k Q M tgt lv st) (kf : ¬ a = 0 → V k Q M (pc + 3) lv st) : V k Q M pc lv (.int (nI a) :: st) := v_if_le d ht (fun h => kt (by have := (nI_leI ha (by decide)).mp (show nI a ≤ nI 0 from h); omega)) (fun h => kf (fun e => h (by rw [e]; exact Int32.le_refl _)))
theorem v_ifN_gt {a : Nat} {off : Int} {tgt : Nat} (d : decode k.2.1 pc = .ok (.ifCond .gt off, 3)) (ht : (pc : Int) + off = (tgt : Int)) (ha : a < 2 ^ 31) (kt : 0 < a → V k Q M tgt lv st) (kf : a = 0 → V k Q M (pc + 3) lv st) : V k Q M pc lv (.int (nI a) :: st) := v_if_gt d ht (fun h => kt ((nI_ltI (by decide) ha).mp (show nI 0 < nI a from h))) (fun h => kf (by rcases Nat.eq_zero_or_pos a with e | e; exact e; exact absurd (nI_lt e ha) h))
theorem v_ifN_ge {a : Nat} {off : Int} {tgt : Nat} (d : decode k.2.1 pc = .ok (.ifCond .ge off, 3)) (ht : (pc : Int) + off = (tgt : Int)) (ha : a < 2 ^ 31) (kt : V k Q M tgt lv st) : V k Q M pc lv (.int (nI a) :: st) := v_if_ge d ht (fun _ => kt) (fun h => absurd (nI_pos' ha) h)
theorem v_ifN_lt {a : Nat} {off : Int} {tgt : Nat} (d : decode k.2.1 pc = .ok (.ifCond .lt off, 3)) (ht : (pc : Int) + off = (tgt : Int)) (ha : a < 2 ^ 31) (kf : V k Q M (pc + 3) lv st) : V k Q M pc lv (.int (nI a) :: st) := v_if_lt d ht (fun h => absurd h (nI_pos ha)) (fun _ => kf)
end V9
end
section
/-! rows on bits, shifts and unsigned numbers, to paste: each family out of a closed proof of our own, whole with what it rests on; each by itself clean at Lean in its own claim (generation 39, form 5). Take a family whole -/
/-! ===== Int32 by its bits: bt x i ===== -/
def bt (x : Int32) (i : Nat) : Bool := x.toBitVec.getLsbD i
theorem b_ext {x y : Int32} (h : ∀ i, i < 32 → bt x i = bt y i) : x = y := Int32.toBitVec_inj.mp (BitVec.eq_of_getLsbD_eq (fun i hi => h i hi))
theorem b_or (x y : Int32) (i : Nat) : bt (x ||| y) i = (bt x i || bt y i) := by unfold bt; rw [Int32.toBitVec_or, BitVec.getLsbD_or]
theorem b_and (x y : Int32) (i : Nat) : bt (x &&& y) i = (bt x i && bt y i) := by unfold bt; rw [Int32.toBitVec_and, BitVec.getLsbD_and]
theorem b_xor (x y : Int32) (i : Nat) : bt (x ^^^ y) i = (bt x i ^^ bt y i) := by unfold bt; rw [Int32.toBitVec_xor, BitVec.getLsbD_xor]
theorem b_big {x : Int32} {i : Nat} (h : 32 ≤ i) : bt x i = false := BitVec.getLsbD_of_ge _ _ h
theorem b_255 (i : Nat) : bt 255 i = decide (i < 8) := by
  rcases Nat.lt_or_ge i 32 with h | h
  · exact (by decide +kernel : ∀ i, i < 32 → bt 255 i = decide (i < 8)) i h
  · rw [b_big h, decide_eq_false (by omega)]
theorem b_65535 (i : Nat) : bt 65535 i = decide (i < 16) := by
  rcases Nat.lt_or_ge i 32 with h | h
  · exact (by decide +kernel : ∀ i, i < 32 → bt 65535 i = decide (i < 16)) i h
  · rw [b_big h, decide_eq_false (by omega)]
theorem b_m1 : ∀ i, i < 32 → bt (-1) i = true := by decide +kernel
theorem b_0 (i : Nat) : bt 0 i = false := BitVec.getLsbD_zero
theorem s_l : ∀ n, n < 32 → ((nI n &&& 31).toBitVec.smod 32).toNat = n := by decide +kernel
theorem s_u : ∀ n, n < 32 → (((nI n).toUInt32 &&& Int32.toUInt32 31).toBitVec % 32).toNat = n := by decide +kernel
theorem b_shl (n : Nat) (hn : n < 32) (x : Int32) {i : Nat} (hi : i < 32) : bt (x <<< (nI n &&& 31)) i = (decide (n ≤ i) && bt x (i - n)) := by
  unfold bt
  rw [Int32.toBitVec_shiftLeft]
  show (x.toBitVec <<< ((nI n &&& 31).toBitVec.smod 32).toNat).getLsbD i = _
  rw [s_l n hn, BitVec.getLsbD_shiftLeft]
  rcases Nat.lt_or_ge i n with h | h
  · simp [h, Nat.not_le.mpr h]
  · simp [hi, h, Nat.not_lt.mpr h]
theorem b_ushr (n : Nat) (hn : n < 32) (x : Int32) (i : Nat) : bt ((x.toUInt32 >>> ((nI n).toUInt32 &&& Int32.toUInt32 31)).toInt32) i = bt x (n + i) := by
  show (x.toUInt32 >>> ((nI n).toUInt32 &&& Int32.toUInt32 31)).toBitVec.getLsbD i = x.toUInt32.toBitVec.getLsbD (n + i)
  rw [UInt32.toBitVec_shiftRight]
  show (x.toUInt32.toBitVec >>> (((nI n).toUInt32 &&& Int32.toUInt32 31).toBitVec % 32).toNat).getLsbD i = _
  rw [s_u n hn, BitVec.getLsbD_ushiftRight]
theorem b_sshr (n : Nat) (hn : n < 32) (x : Int32) {i : Nat} (hi : i < 32) : bt (x >>> (nI n &&& 31)) i = if n + i < 32 then bt x (n + i) else bt x 31 := by
  unfold bt
  rw [Int32.toBitVec_shiftRight]
  show (x.toBitVec.sshiftRight ((nI n &&& 31).toBitVec.smod 32).toNat).getLsbD i = _
  rw [s_l n hn, BitVec.getLsbD_sshiftRight, BitVec.msb_eq_getLsbD_last]
  simp [hi]
/-! bits of an int as sets -/
def bx (n : Nat) : Int32 := nI 1 <<< (nI n &&& 31)
theorem bt_1 : ∀ i, i < 32 → bt (nI 1) i = decide (i = 0) := by decide +kernel
theorem b_bx {n i : Nat} (hn : n < 32) (hi : i < 32) : bt (bx n) i = decide (i = n) := by
  unfold bx
  rw [b_shl n hn _ hi, bt_1 _ (by omega)]
  by_cases h : i = n
  · subst h; simp
  · have : ¬ (n ≤ i ∧ i - n = 0) := by omega
    simp only [h, decide_false]
    by_cases h1 : n ≤ i
    · have : ¬ i - n = 0 := by omega
      simp [this]
    · simp [h1]
theorem sh_bit (x : Int32) {n : Nat} (hn : n < 32) : x >>> (nI n &&& 31) &&& nI 1 = if bt x n = true then nI 1 else nI 0 := by
  apply b_ext
  intro i hi
  rw [b_and, b_sshr n hn _ hi, bt_1 i hi]
  by_cases h0 : i = 0
  · subst h0
    rw [Nat.add_zero, if_pos hn]
    cases h : bt x n
    · rw [if_neg (by decide)]; rfl
    · rw [if_pos rfl, bt_1 0 (by omega)]; rfl
  · have e1 : bt (nI 1) i = false := by rw [bt_1 i hi]; simp [h0]
    have e0 : bt (nI 0) i = false := b_0 i
    simp only [h0, decide_false, Bool.and_false]
    by_cases h : bt x n = true
    · rw [if_pos h, e1]
    · rw [if_neg h, e0]
theorem sh_one (x : Int32) {n : Nat} (hn : n < 32) : (x >>> (nI n &&& 31) &&& nI 1 = nI 1) ↔ bt x n = true := by
  rw [sh_bit x hn]
  by_cases h : bt x n = true
  · rw [if_pos h]; simp [h]
  · rw [if_neg h]; constructor
    · intro q; exact absurd q (by decide)
    · intro q; exact absurd q h
theorem sh_non (x : Int32) {n : Nat} (hn : n < 32) : (¬ x >>> (nI n &&& 31) &&& nI 1 = 0) ↔ bt x n = true := by
  rw [sh_bit x hn]
  by_cases h : bt x n = true
  · rw [if_pos h]; simp only [h, iff_true]; decide
  · rw [if_neg h]; constructor
    · intro q; exact absurd rfl q
    · intro q; exact absurd q h
theorem b_not (x : Int32) {i : Nat} (hi : i < 32) : bt (x ^^^ (-1)) i = !(bt x i) := by
  rw [b_xor, b_m1 i hi]; cases bt x i <;> rfl
theorem b_ne0 {x : Int32} : ¬ x = 0 ↔ ∃ i, i < 32 ∧ bt x i = true := by
  constructor
  · intro h
    by_cases q : ∃ i, i < 32 ∧ bt x i = true
    · exact q
    · exfalso; apply h
      apply b_ext
      intro i hi
      rw [b_0]
      cases e : bt x i
      · rfl
      · exact absurd ⟨i, hi, e⟩ q
  · rintro ⟨i, -, hi⟩ e
    rw [e, b_0] at hi
    cases hi
/-! the told row of the reference, read as numbers -/
def tN (T : Nat → Int32) (i : Nat) : Nat := (T i).toNatClampNeg
def nN (T : Nat → Int32) : Nat := tN T 95
def nK (T : Nat → Int32) : Nat := tN T 96
def so (T : Nat → Int32) (n : Nat) : Nat := tN T n
def ck (T : Nat → Int32) (n : Nat) : Nat := tN T (16 + n)
def pt (T : Nat → Int32) (n k : Nat) : Nat := tN T (32 + 3 * n + k)
def pe (T : Nat → Int32) (c : Nat) : Nat := tN T (92 + c)
def mk (T : Nat → Int32) (i : Nat) : Nat := tN T (80 + i)
def hmF (s : Nat) : Nat := if s = 0 then 0 else if s = 1 then 1 else if s = 5 then 3 else 2
def WF (T : Nat → Int32) : Prop :=
  (T 95 = nI (nN T) ∧ nN T ≤ 16) ∧ (T 96 = nI (nK T) ∧ nK T ≤ 6) ∧
  (∀ n, n < nN T → T n = nI (so T n) ∧ so T n ≤ 5) ∧
  (∀ n, n < nN T → T (16 + n) = nI (ck T n) ∧ ck T n ≤ 2) ∧
  (∀ n, n < nN T → ∀ k, k < hmF (so T n) → T (32 + 3 * n + k) = nI (pt T n k) ∧ pt T n k < n) ∧
  (∀ i, i < 2 * nK T → T (80 + i) = nI (mk T i) ∧ mk T i < nN T ∧ so T (mk T i) ≤ 1) ∧
  (∀ i, i < nK T → mk T (2 * i) ≠ mk T (2 * i + 1)) ∧
  (∀ c, c < 3 → T (92 + c) = nI (pe T c) ∧ 1 ≤ pe T c ∧ pe T c ≤ 9)
theorem hmF_le (s : Nat) : hmF s ≤ 3 := by unfold hmF; split <;> (try split) <;> (try split) <;> omega
theorem hm_reg {s : Nat} (h : s = 1) : hmF s = 1 := by subst h; rfl
section WFs
variable {T : Nat → Int32} (hW : WF T)
theorem WF.n16 (hW : WF T) : nN T ≤ 16 := hW.1.2
theorem WF.so5 (hW : WF T) {n : Nat} (h : n < nN T) : so T n ≤ 5 := (hW.2.2.1 n h).2
theorem WF.ck2 (hW : WF T) {n : Nat} (h : n < nN T) : ck T n ≤ 2 := (hW.2.2.2.1 n h).2
theorem WF.ptlt (hW : WF T) {n k : Nat} (h : n < nN T) (hk : k < hmF (so T n)) : pt T n k < n := (hW.2.2.2.2.1 n h k hk).2
end WFs
/-- rows that a reading method of the reference may change: leaves -/
def sc (M0 M : vM) : Prop := ∀ i, i ≠ 68 → M i = M0 i
theorem sc_rf (M : vM) : sc M M := fun _ _ => rfl
theorem sc_tr {A B C : vM} (h : sc A B) (g : sc B C) : sc A C := fun i hi => (g i hi).trans (h i hi)
theorem sc_up {M0 M : vM} (h : sc M0 M) {b : Nat} {x : Int32} : sc M0 (mup M 68 b x) := fun i hi => (mup_ne hi).trans (h i hi)
def rs (x : Value) (M0 : vM) : Option Value → vM → Prop := fun v M' => v = some x ∧ sc M0 M'
end
section
/-! the reference: reads of the told row, small functions -/
section R11
variable {M : vM} {T : Nat → Int32}
theorem c_in (x a b : Int32) : V kX4_in (rt (.int (bI (a ≤ x ∧ x ≤ b))) M) M 0 [(0, .int x), (1, .int a), (2, .int b)] [] := by
  refine v_iload_n dX4_in_0 rfl ?_
  refine v_iload_n dX4_in_1 rfl ?_
  refine v_icmp_lt (tgt := 14) dX4_in_2 (by decide) (fun c2 => ?_) (fun c2 => ?_)
  · refine v_iconst (v := (nI 0)) dX4_in_14 rfl ?_
    refine v_zret dX4_in_15 rfl (Or.inl rfl) ?_
    refine ⟨?_, rfl⟩
    rw [bI_f (fun q => by first | exact absurd c2 (Int32.not_lt.mpr q.1) | exact absurd c7 (Int32.not_lt.mpr q.2))]; rfl
  · refine v_iload_n dX4_in_5 rfl ?_
    refine v_iload_n dX4_in_6 rfl ?_
    refine v_icmp_gt (tgt := 14) dX4_in_7 (by decide) (fun c7 => ?_) (fun c7 => ?_)
    · refine v_iconst (v := (nI 0)) dX4_in_14 rfl ?_
      refine v_zret dX4_in_15 rfl (Or.inl rfl) ?_
      refine ⟨?_, rfl⟩
      rw [bI_f (fun q => by first | exact absurd c2 (Int32.not_lt.mpr q.1) | exact absurd c7 (Int32.not_lt.mpr q.2))]; rfl
    · refine v_iconst (v := (nI 1)) dX4_in_10 rfl ?_
      refine v_goto (tgt := 15) dX4_in_11 (by decide) ?_
      refine v_zret dX4_in_15 rfl (Or.inr rfl) ?_
      refine ⟨?_, rfl⟩
      rw [bI_t ⟨Int32.not_lt.mp c2, Int32.not_lt.mp c7⟩]; rfl
theorem c_inN {x a b : Nat} (hx : x < 2 ^ 31) (ha : a < 2 ^ 31) (hb : b < 2 ^ 31) : V kX4_in (rt (.int (bI (a ≤ x ∧ x ≤ b))) M) M 0 [(0, .int (nI x)), (1, .int (nI a)), (2, .int (nI b))] [] := by
  refine v_iload_n dX4_in_0 rfl ?_
  refine v_iload_n dX4_in_1 rfl ?_
  refine v_icmpN_lt (tgt := 14) dX4_in_2 (by decide) (by omega) (by omega) (fun c2 => ?_) (fun c2 => ?_)
  · refine v_iconst (v := (nI 0)) dX4_in_14 rfl ?_
    refine v_zret dX4_in_15 rfl (Or.inl rfl) ?_
    refine ⟨?_, rfl⟩
    rw [bI_f (by omega)]; rfl
  · refine v_iload_n dX4_in_5 rfl ?_
    refine v_iload_n dX4_in_6 rfl ?_
    refine v_icmpN_gt (tgt := 14) dX4_in_7 (by decide) (by omega) (by omega) (fun c7 => ?_) (fun c7 => ?_)
    · refine v_iconst (v := (nI 0)) dX4_in_14 rfl ?_
      refine v_zret dX4_in_15 rfl (Or.inl rfl) ?_
      refine ⟨?_, rfl⟩
      rw [bI_f (by omega)]; rfl
    · refine v_iconst (v := (nI 1)) dX4_in_10 rfl ?_
      refine v_goto (tgt := 15) dX4_in_11 (by decide) ?_
      refine v_zret dX4_in_15 rfl (Or.inr rfl) ?_
      refine ⟨?_, rfl⟩
      rw [bI_t ⟨c2, c7⟩]; rfl
theorem c_has (s : Int32) {n : Nat} (hn : n < 32) : V kX4_has (rt (.int (bI (bt s n = true))) M) M 0 [(0, .int s), (1, .int (nI n))] [] := by
  refine v_iload_n dX4_has_0 rfl ?_
  refine v_iload_n dX4_has_1 rfl ?_
  refine v_ishr dX4_has_2 ?_
  refine v_iconst (v := (nI 1)) dX4_has_3 rfl ?_
  refine v_iand dX4_has_4 ?_
  refine v_iconst (v := (nI 1)) dX4_has_5 rfl ?_
  refine v_icmp_ne (tgt := 13) dX4_has_6 (by decide) (fun c6 => ?_) (fun c6 => ?_)
  · refine v_iconst (v := (nI 0)) dX4_has_13 rfl ?_
    refine v_zret dX4_has_14 rfl (Or.inl rfl) ?_
    refine ⟨?_, rfl⟩
    rw [bI_f (fun q => c6 ((sh_one s hn).mpr q))]; rfl
  · refine v_iconst (v := (nI 1)) dX4_has_9 rfl ?_
    refine v_goto (tgt := 14) dX4_has_10 (by decide) ?_
    refine v_zret dX4_has_14 rfl (Or.inr rfl) ?_
    refine ⟨?_, rfl⟩
    rw [bI_t ((sh_one s hn).mp c6)]; rfl
theorem c_many (hM : M 61 = T) (hW : WF T) : V kX4_many (rt (.int (nI (nN T))) M) M 0 [(0, .ref 60)] [] := by
  refine v_aload_n dX4_many_0 rfl ?_
  refine v_getR (t := 61) dX4_many_1 fl_X4_7 ⟨by decide, rfl, by decide⟩ rfl rfl ?_
  refine v_bipush (v := (nI 95)) dX4_many_4 rfl ?_
  refine v_iald2 (n := 97) (a := 95) (y := (nI (nN T))) dX4_many_6 ⟨by decide, rfl, rfl⟩ (rfl) (by omega) (by rw [hM]; exact hW.1.1) ?_
  refine v_iret dX4_many_7 rfl ?_
  exact ⟨rfl, rfl⟩
theorem c_sort (hM : M 61 = T) (hW : WF T) {n : Nat} (hn : n < nN T) : V kX4_sort (rt (.int (nI (so T n))) M) M 0 [(0, .ref 60), (1, .int (nI n))] [] := by
  refine v_aload_n dX4_sort_0 rfl ?_
  refine v_getR (t := 61) dX4_sort_1 fl_X4_7 ⟨by decide, rfl, by decide⟩ rfl rfl ?_
  refine v_iload_n dX4_sort_4 rfl ?_
  refine v_iald2 (n := 97) (a := n) (y := (nI (so T n))) dX4_sort_5 ⟨by decide, rfl, rfl⟩ (rfl) (by have := hW.n16; omega) (by rw [hM]; exact (hW.2.2.1 n hn).1) ?_
  refine v_iret dX4_sort_6 rfl ?_
  exact ⟨rfl, rfl⟩
theorem c_isLeaf (hM : M 61 = T) (hW : WF T) {n : Nat} (hn : n < nN T) : V kX4_isLeaf (rt (.int (bI (so T n ≤ 1))) M) M 0 [(0, .ref 60), (1, .int (nI n))] [] := by
  refine v_aload_n dX4_isLeaf_0 rfl ?_
  refine v_getR (t := 61) dX4_isLeaf_1 fl_X4_7 ⟨by decide, rfl, by decide⟩ rfl rfl ?_
  refine v_iload_n dX4_isLeaf_4 rfl ?_
  refine v_iald2 (n := 97) (a := n) (y := (nI (so T n))) dX4_isLeaf_5 ⟨by decide, rfl, rfl⟩ (rfl) (by have := hW.n16; omega) (by rw [hM]; exact (hW.2.2.1 n hn).1) ?_
  refine v_iconst (v := (nI 1)) dX4_isLeaf_6 rfl ?_
  refine v_icmpN_gt (tgt := 14) dX4_isLeaf_7 (by decide) (by have := hW.so5 hn; omega) (by omega) (fun c7 => ?_) (fun c7 => ?_)
  · refine v_iconst (v := (nI 0)) dX4_isLeaf_14 rfl ?_
    refine v_zret dX4_isLeaf_15 rfl (Or.inl rfl) ?_
    refine ⟨?_, rfl⟩
    rw [bI_f (by omega)]; rfl
  · refine v_iconst (v := (nI 1)) dX4_isLeaf_10 rfl ?_
    refine v_goto (tgt := 15) dX4_isLeaf_11 (by decide) ?_
    refine v_zret dX4_isLeaf_15 rfl (Or.inr rfl) ?_
    refine ⟨?_, rfl⟩
    rw [bI_t c7]; rfl
theorem c_clock (hM : M 61 = T) (hW : WF T) {n : Nat} (hn : n < nN T) : V kX4_clock (rt (.int (nI (ck T n))) M) M 0 [(0, .ref 60), (1, .int (nI n))] [] := by
  refine v_aload_n dX4_clock_0 rfl ?_
  refine v_getR (t := 61) dX4_clock_1 fl_X4_7 ⟨by decide, rfl, by decide⟩ rfl rfl ?_
  refine v_bipush (v := (nI 16)) dX4_clock_4 rfl ?_
  refine v_iload_n dX4_clock_6 rfl ?_
  refine v_iaddN dX4_clock_7 ?_
  refine v_iald2 (n := 97) (a := 16 + n) (y := (nI (ck T n))) dX4_clock_8 ⟨by decide, rfl, rfl⟩ (rfl) (by have := hW.n16; omega) (by rw [hM]; exact (hW.2.2.2.1 n hn).1) ?_
  refine v_iret dX4_clock_9 rfl ?_
  exact ⟨rfl, rfl⟩
theorem c_of (hM : M 61 = T) (hW : WF T) {n j : Nat} (hn : n < nN T) (hj : j < hmF (so T n)) : V kX4_of (rt (.int (nI (pt T n j))) M) M 0 [(0, .ref 60), (1, .int (nI n)), (2, .int (nI j))] [] := by
  refine v_aload_n dX4_of_0 rfl ?_
  refine v_getR (t := 61) dX4_of_1 fl_X4_7 ⟨by decide, rfl, by decide⟩ rfl rfl ?_
  refine v_bipush (v := (nI 32)) dX4_of_4 rfl ?_
  refine v_iconst (v := (nI 3)) dX4_of_6 rfl ?_
  refine v_iload_n dX4_of_7 rfl ?_
  refine v_imulN dX4_of_8 ?_
  refine v_iaddN dX4_of_9 ?_
  refine v_iload_n dX4_of_10 rfl ?_
  refine v_iaddN dX4_of_11 ?_
  refine v_iald2 (n := 97) (a := 32 + (3 * n) + j) (y := (nI (pt T n j))) dX4_of_12 ⟨by decide, rfl, rfl⟩ (rfl) (by have := hW.n16; have := hmF_le (so T n); omega) (by rw [hM]; exact (hW.2.2.2.2.1 n hn j hj).1) ?_
  refine v_iret dX4_of_13 rfl ?_
  exact ⟨rfl, rfl⟩
theorem c_hasMany {s : Nat} (hs : s < 2 ^ 31) : V kX4_hasMany (rt (.int (nI (hmF s))) M) M 0 [(0, .int (nI s))] [] := by
  refine v_iload_n dX4_hasMany_0 rfl ?_
  refine v_ifN_ne (tgt := 8) dX4_hasMany_1 (by decide) (by omega) (fun c1 => ?_) (fun c1 => ?_)
  · refine v_iload_n dX4_hasMany_8 rfl ?_
    refine v_iconst (v := (nI 1)) dX4_hasMany_9 rfl ?_
    refine v_icmpN_ne (tgt := 17) dX4_hasMany_10 (by decide) (by omega) (by omega) (fun c10 => ?_) (fun c10 => ?_)
    · refine v_iload_n dX4_hasMany_17 rfl ?_
      refine v_iconst (v := (nI 5)) dX4_hasMany_18 rfl ?_
      refine v_icmpN_ne (tgt := 26) dX4_hasMany_19 (by decide) (by omega) (by omega) (fun c19 => ?_) (fun c19 => ?_)
      · refine v_iconst (v := (nI 2)) dX4_hasMany_26 rfl ?_
        refine v_iret dX4_hasMany_27 rfl ?_
        refine ⟨?_, rfl⟩
        simp [hmF, *]
      · refine v_iconst (v := (nI 3)) dX4_hasMany_22 rfl ?_
        refine v_goto (tgt := 27) dX4_hasMany_23 (by decide) ?_
        refine v_iret dX4_hasMany_27 rfl ?_
        refine ⟨?_, rfl⟩
        simp [hmF, *]
    · refine v_iconst (v := (nI 1)) dX4_hasMany_13 rfl ?_
      refine v_goto (tgt := 27) dX4_hasMany_14 (by decide) ?_
      refine v_iret dX4_hasMany_27 rfl ?_
      refine ⟨?_, rfl⟩
      simp [hmF, *]
  · refine v_iconst (v := (nI 0)) dX4_hasMany_4 rfl ?_
    refine v_goto (tgt := 27) dX4_hasMany_5 (by decide) ?_
    refine v_iret dX4_hasMany_27 rfl ?_
    refine ⟨?_, rfl⟩
    simp [hmF, *]
end R11
end
section
/-! the reference: leaves, sources, foreign, depth -/
def isN (T : Nat → Int32) (x : Int32) : Prop := nI 0 ≤ x ∧ x < nI (nN T)
theorem isN_nI {T : Nat → Int32} {x : Int32} (h16 : nN T ≤ 16) : isN T x ↔ ∃ n, n < nN T ∧ x = nI n := by
  constructor
  · rintro ⟨h1, h2⟩
    obtain ⟨j, hj, rfl⟩ := nI_of (show ¬ x < 0 from Int32.not_lt.mpr h1)
    exact ⟨j, (nI_ltI hj (by omega)).mp h2, rfl⟩
  · rintro ⟨n, hn, rfl⟩
    exact ⟨(nI_leI (by omega) (by omega)).mpr (by omega), (nI_ltI (by omega) (by omega)).mpr hn⟩
def oI : Option Nat → Int32
  | none => (-9)
  | some n => nI n
def ofN (T : Nat → Int32) (n r : Nat) : Nat → Nat
  | 0 => 0
  | k + 1 => ofN T n r k + (if pt T n k = r then 1 else 0)
def oft (T : Nat → Int32) (n r : Nat) : Nat := ofN T n r (hmF (so T n))
def lvG (T f : Nat → Int32) (n : Nat) : Nat → Int32
  | 0 => nI 0
  | k + 1 => lvG T f n k ||| f (pt T n k)
def lvS (T f : Nat → Int32) (n : Nat) : Int32 := if so T n ≤ 1 then bx n else lvG T f n (hmF (so T n))
def lvT (T : Nat → Int32) : Nat → Nat → Int32
  | 0 => fun _ => 0
  | n + 1 => upd (lvT T n) n (lvS T (lvT T n) n)
def lvF (T : Nat → Int32) (n : Nat) : Int32 := lvS T (lvT T n) n
theorem lvT_lt {T : Nat → Int32} {n j : Nat} (h : j < n) : lvT T n j = lvF T j := by
  induction n with
  | zero => omega
  | succ n ih =>
    by_cases hj : j = n
    · subst hj; simp [lvT, upd, lvF]
    · have h1 : j < n := by omega
      simp only [lvT, upd, if_neg hj]
      exact ih h1
theorem lvG_c {T f g : Nat → Int32} {n : Nat} : ∀ {k : Nat}, (∀ j, j < k → f (pt T n j) = g (pt T n j)) → lvG T f n k = lvG T g n k
  | 0, _ => rfl
  | k + 1, h => by
    simp only [lvG]
    rw [lvG_c (fun j hj => h j (by omega)), h k (by omega)]
theorem lvF_eq {T : Nat → Int32} (hW : WF T) {n : Nat} (hn : n < nN T) : lvF T n = if so T n ≤ 1 then bx n else lvG T (lvF T) n (hmF (so T n)) := by
  unfold lvF lvS
  split
  · rfl
  · exact lvG_c (fun j hj => lvT_lt (hW.ptlt hn hj))
def srcN (T : Nat → Int32) (s : Int32) : Nat → Int32
  | 0 => nI 0
  | k + 1 => srcN T s k ||| (if bt s k = true then bx (ck T k) else nI 0)
def srcF (T : Nat → Int32) (s : Int32) : Int32 := srcN T s (nN T)
def frN (T : Nat → Int32) (r : Nat) (s : Int32) : Nat → Int32
  | 0 => s
  | k + 1 => frN T r s k &&& (if so T k ≤ 1 ∧ ck T k = ck T r then bx k ^^^ (-1) else (-1))
def frF (T : Nat → Int32) (r : Nat) : Int32 := frN T r (lvF T (pt T r 0)) (nN T)
def dirF (T : Nat → Int32) (r : Nat) : Bool := bt (frF T r) (pt T r 0)
def ooI (T : Nat → Int32) (r : Nat) : Nat → Option Nat
  | 0 => none
  | n + 1 => if 0 < oft T n r then some n else ooI T r n
def ooT (T : Nat → Int32) (r : Nat) : Nat → Nat
  | 0 => 0
  | n + 1 => ooT T r n + oft T n r
def ooO (T : Nat → Int32) (r : Nat) : Option Nat := if ooT T r (nN T) = 1 then ooI T r (nN T) else none
def dpN (T : Nat → Int32) (c : Nat) : Nat → Option Nat → Nat
  | 0, _ => 0
  | _ + 1, none => 0
  | f + 1, some n => if so T n = 1 ∧ ck T n = c then 1 + dpN T c f (ooO T n) else 0
def dpF (T : Nat → Int32) (r : Nat) : Nat := 1 + dpN T (ck T r) 16 (ooO T r)
def safF (T : Nat → Int32) (nd r : Nat) : Bool := dirF T r && decide (nd ≤ dpF T r)
theorem ofN_pos {T : Nat → Int32} {n r : Nat} : ∀ {k : Nat}, 0 < ofN T n r k → ∃ j, j < k ∧ pt T n j = r
  | 0, h => by simp [ofN] at h
  | k + 1, h => by
    by_cases e : pt T n k = r
    · exact ⟨k, by omega, e⟩
    · simp only [ofN, if_neg e, Nat.add_zero] at h
      obtain ⟨j, hj, h2⟩ := ofN_pos h
      exact ⟨j, by omega, h2⟩
theorem ofN_le {T : Nat → Int32} {n r : Nat} : ∀ k : Nat, ofN T n r k ≤ k
  | 0 => Nat.le_refl 0
  | k + 1 => by
    have := ofN_le (T := T) (n := n) (r := r) k
    simp only [ofN]
    split <;> omega
theorem oft_le {T : Nat → Int32} {n r : Nat} : oft T n r ≤ 3 := Nat.le_trans (ofN_le _) (hmF_le _)
theorem ooT_le {T : Nat → Int32} {r : Nat} : ∀ n : Nat, ooT T r n ≤ 3 * n
  | 0 => Nat.le_refl 0
  | n + 1 => by
    have := ooT_le (T := T) (r := r) n
    have := oft_le (T := T) (n := n) (r := r)
    simp only [ooT]
    omega
theorem ooI_lt {T : Nat → Int32} {r n : Nat} : ∀ {k : Nat}, ooI T r k = some n → n < k ∧ 0 < oft T n r
  | 0, h => by simp [ooI] at h
  | k + 1, h => by
    simp only [ooI] at h
    split at h
    · cases h; exact ⟨by omega, by assumption⟩
    · obtain ⟨h1, h2⟩ := ooI_lt h
      exact ⟨by omega, h2⟩
theorem ooO_lt {T : Nat → Int32} (hW : WF T) {r n : Nat} (h : ooO T r = some n) : n < nN T ∧ r < n := by
  unfold ooO at h
  split at h
  · obtain ⟨h1, h2⟩ := ooI_lt h
    obtain ⟨j, hj, e⟩ := ofN_pos h2
    have := hW.ptlt h1 hj
    exact ⟨h1, by omega⟩
  · cases h
theorem scT {M0 M : vM} {T : Nat → Int32} (hs : sc M0 M) (h : M0 61 = T) : M 61 = T := (hs 61 (by decide)).trans h
theorem isN_sub {T : Nat → Int32} {x : Int32} (hW : WF T) : (nI 0 ≤ x ∧ x ≤ nI (nN T) - nI 1) ↔ isN T x := by
  have h16 := hW.n16
  have e : (nI (nN T) - nI 1).toInt = (nN T : Int) - 1 := pk_sub_toInt (by omega) (by omega)
  unfold isN
  rw [Int32.le_iff_toInt_le (y := nI (nN T) - nI 1), Int32.lt_iff_toInt_lt (y := nI (nN T)), e, nI_toInt (by omega)]
  constructor
  · rintro ⟨h1, h2⟩; exact ⟨h1, by omega⟩
  · rintro ⟨h1, h2⟩; exact ⟨h1, by omega⟩
end
section
section R13
variable {M M0 : vM} {T : Nat → Int32}
set_option maxRecDepth 100000 in
theorem c_isNode (hM : M 61 = T) (hW : WF T) (x : Int32) : V kX4_isNode (rt (.int (bI (nI 0 ≤ x ∧ x ≤ nI (nN T) - nI 1))) M) M 0 [(0, .ref 60), (1, .int x)] [] := by
  have h16 := hW.n16
  refine v_iload_n dX4_isNode_0 rfl ?_
  refine v_iconst (v := (nI 0)) dX4_isNode_1 rfl ?_
  refine v_aload_n dX4_isNode_2 rfl ?_
  refine v_callVr (x := .int (nI (nN T))) (M1 := M) (as := []) (st := [.int (nI 0), .int x]) dX4_isNode_3 ml_X4_52 kv_X4_many ⟨by decide, rfl, by decide⟩ ⟨(Nat.le_of_ble_eq_true rfl), (Nat.le_of_ble_eq_true rfl)⟩ rfl (Nat.le_of_ble_eq_true rfl) rfl (Nat.le_of_ble_eq_true rfl) (c_many hM hW) ?_
  refine v_iconst (v := (nI 1)) dX4_isNode_6 rfl ?_
  refine v_isub dX4_isNode_7 ?_
  refine v_callSr (x := .int (bI (nI 0 ≤ x ∧ x ≤ nI (nN T) - nI 1))) (M1 := M) (as := [.int x, .int (nI 0), .int ((nI (nN T)) - (nI 1))]) (st := []) dX4_isNode_8 ml_X4_56 ks_X4_in ⟨(Nat.le_of_ble_eq_true rfl), (Nat.le_of_ble_eq_true rfl)⟩ rfl (Nat.le_of_ble_eq_true rfl) rfl (Nat.le_of_ble_eq_true rfl) (c_in _ _ _) ?_
  refine v_bret dX4_isNode_11 rfl ?_
  exact ⟨rfl, rfl⟩
set_option maxRecDepth 100000 in
theorem c_isRegister0 (hM : M 61 = T) (hW : WF T) {x : Int32} (hx : ¬ isN T x) : V kX4_isRegister (rt (.int (nI 0)) M) M 0 [(0, .ref 60), (1, .int x)] [] := by
  have h16 := hW.n16
  refine v_aload_n dX4_isRegister_0 rfl ?_
  refine v_iload_n dX4_isRegister_1 rfl ?_
  refine v_callVr (x := .int (bI (nI 0 ≤ x ∧ x ≤ nI (nN T) - nI 1))) (M1 := M) (as := [.int x]) (st := []) dX4_isRegister_2 ml_X4_60 kv_X4_isNode ⟨by decide, rfl, by decide⟩ ⟨(Nat.le_of_ble_eq_true rfl), (Nat.le_of_ble_eq_true rfl)⟩ rfl (Nat.le_of_ble_eq_true rfl) rfl (Nat.le_of_ble_eq_true rfl) (c_isNode hM hW _) ?_
  refine v_ifB_eq (tgt := 21) dX4_isRegister_5 (by decide) (fun c5 => ?_) (fun c5 => (absurd ((isN_sub hW).mp c5) hx))
  refine v_iconst (v := (nI 0)) dX4_isRegister_21 rfl ?_
  refine v_zret dX4_isRegister_22 rfl (Or.inl rfl) ?_
  exact ⟨rfl, rfl⟩
set_option maxRecDepth 100000 in
theorem c_isRegister (hM : M 61 = T) (hW : WF T) {n : Nat} (hn : n < nN T) : V kX4_isRegister (rt (.int (bI (so T n = 1))) M) M 0 [(0, .ref 60), (1, .int (nI n))] [] := by
  have h16 := hW.n16
  refine v_aload_n dX4_isRegister_0 rfl ?_
  refine v_iload_n dX4_isRegister_1 rfl ?_
  refine v_callVr (x := .int (bI (nI 0 ≤ (nI n) ∧ (nI n) ≤ nI (nN T) - nI 1))) (M1 := M) (as := [.int (nI n)]) (st := []) dX4_isRegister_2 ml_X4_60 kv_X4_isNode ⟨by decide, rfl, by decide⟩ ⟨(Nat.le_of_ble_eq_true rfl), (Nat.le_of_ble_eq_true rfl)⟩ rfl (Nat.le_of_ble_eq_true rfl) rfl (Nat.le_of_ble_eq_true rfl) (c_isNode hM hW _) ?_
  refine v_ifB_eq (tgt := 21) dX4_isRegister_5 (by decide) (fun c5 => (absurd ((isN_sub hW).mpr ((isN_nI h16).mpr ⟨n, hn, rfl⟩)) c5)) (fun c5 => ?_)
  refine v_aload_n dX4_isRegister_8 rfl ?_
  refine v_iload_n dX4_isRegister_9 rfl ?_
  refine v_callVr (x := .int (nI (so T n))) (M1 := M) (as := [.int (nI n)]) (st := []) dX4_isRegister_10 ml_X4_64 kv_X4_sort ⟨by decide, rfl, by decide⟩ ⟨(Nat.le_of_ble_eq_true rfl), (Nat.le_of_ble_eq_true rfl)⟩ rfl (Nat.le_of_ble_eq_true rfl) rfl (Nat.le_of_ble_eq_true rfl) (c_sort hM hW (by omega)) ?_
  refine v_iconst (v := (nI 1)) dX4_isRegister_13 rfl ?_
  refine v_icmpN_ne (tgt := 21) dX4_isRegister_14 (by decide) (by have := hW.so5 hn; omega) (by omega) (fun c14 => ?_) (fun c14 => ?_)
  · refine v_iconst (v := (nI 0)) dX4_isRegister_21 rfl ?_
    refine v_zret dX4_isRegister_22 rfl (Or.inl rfl) ?_
    refine ⟨?_, rfl⟩
    rw [bI_f (by omega)]; rfl
  · refine v_iconst (v := (nI 1)) dX4_isRegister_17 rfl ?_
    refine v_goto (tgt := 22) dX4_isRegister_18 (by decide) ?_
    refine v_zret dX4_isRegister_22 rfl (Or.inr rfl) ?_
    refine ⟨?_, rfl⟩
    rw [bI_t (by omega)]; rfl
set_option maxRecDepth 100000 in
theorem c_isInput0 (hM : M 61 = T) (hW : WF T) {x : Int32} (hx : ¬ isN T x) : V kX4_isInput (rt (.int (nI 0)) M) M 0 [(0, .ref 60), (1, .int x)] [] := by
  have h16 := hW.n16
  refine v_aload_n dX4_isInput_0 rfl ?_
  refine v_iload_n dX4_isInput_1 rfl ?_
  refine v_callVr (x := .int (bI (nI 0 ≤ x ∧ x ≤ nI (nN T) - nI 1))) (M1 := M) (as := [.int x]) (st := []) dX4_isInput_2 ml_X4_60 kv_X4_isNode ⟨by decide, rfl, by decide⟩ ⟨(Nat.le_of_ble_eq_true rfl), (Nat.le_of_ble_eq_true rfl)⟩ rfl (Nat.le_of_ble_eq_true rfl) rfl (Nat.le_of_ble_eq_true rfl) (c_isNode hM hW _) ?_
  refine v_ifB_eq (tgt := 20) dX4_isInput_5 (by decide) (fun c5 => ?_) (fun c5 => (absurd ((isN_sub hW).mp c5) hx))
  refine v_iconst (v := (nI 0)) dX4_isInput_20 rfl ?_
  refine v_zret dX4_isInput_21 rfl (Or.inl rfl) ?_
  exact ⟨rfl, rfl⟩
set_option maxRecDepth 100000 in
theorem c_isInput (hM : M 61 = T) (hW : WF T) {n : Nat} (hn : n < nN T) : V kX4_isInput (rt (.int (bI (so T n = 0))) M) M 0 [(0, .ref 60), (1, .int (nI n))] [] := by
  have h16 := hW.n16
  refine v_aload_n dX4_isInput_0 rfl ?_
  refine v_iload_n dX4_isInput_1 rfl ?_
  refine v_callVr (x := .int (bI (nI 0 ≤ (nI n) ∧ (nI n) ≤ nI (nN T) - nI 1))) (M1 := M) (as := [.int (nI n)]) (st := []) dX4_isInput_2 ml_X4_60 kv_X4_isNode ⟨by decide, rfl, by decide⟩ ⟨(Nat.le_of_ble_eq_true rfl), (Nat.le_of_ble_eq_true rfl)⟩ rfl (Nat.le_of_ble_eq_true rfl) rfl (Nat.le_of_ble_eq_true rfl) (c_isNode hM hW _) ?_
  refine v_ifB_eq (tgt := 20) dX4_isInput_5 (by decide) (fun c5 => (absurd ((isN_sub hW).mpr ((isN_nI h16).mpr ⟨n, hn, rfl⟩)) c5)) (fun c5 => ?_)
  refine v_aload_n dX4_isInput_8 rfl ?_
  refine v_iload_n dX4_isInput_9 rfl ?_
  refine v_callVr (x := .int (nI (so T n))) (M1 := M) (as := [.int (nI n)]) (st := []) dX4_isInput_10 ml_X4_64 kv_X4_sort ⟨by decide, rfl, by decide⟩ ⟨(Nat.le_of_ble_eq_true rfl), (Nat.le_of_ble_eq_true rfl)⟩ rfl (Nat.le_of_ble_eq_true rfl) rfl (Nat.le_of_ble_eq_true rfl) (c_sort hM hW (by omega)) ?_
  refine v_ifN_ne (tgt := 20) dX4_isInput_13 (by decide) (by have := hW.so5 hn; omega) (fun c13 => ?_) (fun c13 => ?_)
  · refine v_iconst (v := (nI 0)) dX4_isInput_20 rfl ?_
    refine v_zret dX4_isInput_21 rfl (Or.inl rfl) ?_
    refine ⟨?_, rfl⟩
    rw [bI_f (by omega)]; rfl
  · refine v_iconst (v := (nI 1)) dX4_isInput_16 rfl ?_
    refine v_goto (tgt := 21) dX4_isInput_17 (by decide) ?_
    refine v_zret dX4_isInput_21 rfl (Or.inr rfl) ?_
    refine ⟨?_, rfl⟩
    rw [bI_t (by omega)]; rfl
set_option maxRecDepth 100000 in
theorem l_often (hM : M 61 = T) (hW : WF T) {n r : Nat} (hn : n < nN T) (hr : r < 16) (d : Nat) : ∀ (k : Nat), k + d = hmF (so T n) → V kX4_often (rt (.int (nI (oft T n r))) M) M 5 [(0, .ref 60), (1, .int (nI n)), (2, .int (nI r)), (3, .int (nI (ofN T n r k))), (4, .int (nI k))] [] := by
  have h16 := hW.n16
  induction d with
  | zero =>
    intro k hk 
    refine v_iload dX4_often_5 rfl ?_
    refine v_aload_n dX4_often_7 rfl ?_
    refine v_iload_n dX4_often_8 rfl ?_
    refine v_callVr (x := .int (nI (so T n))) (M1 := M) (as := [.int (nI n)]) (st := [.int (nI k)]) dX4_often_9 ml_X4_64 kv_X4_sort ⟨by decide, rfl, by decide⟩ ⟨(Nat.le_of_ble_eq_true rfl), (Nat.le_of_ble_eq_true rfl)⟩ rfl (Nat.le_of_ble_eq_true rfl) rfl (Nat.le_of_ble_eq_true rfl) (c_sort hM hW (by omega)) ?_
    refine v_callSr (x := .int (nI (hmF (so T n)))) (M1 := M) (as := [.int (nI (so T n))]) (st := [.int (nI k)]) dX4_often_12 ml_X4_68 ks_X4_hasMany ⟨(Nat.le_of_ble_eq_true rfl), (Nat.le_of_ble_eq_true rfl)⟩ rfl (Nat.le_of_ble_eq_true rfl) rfl (Nat.le_of_ble_eq_true rfl) (c_hasMany (by have := hW.so5 (n := n) (by omega); omega)) ?_
    refine v_icmpN_ge (tgt := 43) dX4_often_15 (by decide) (by have := hmF_le (so T n); omega) (by have := hmF_le (so T n); omega) (fun c15 => ?_) (fun c15 => (by omega))
    refine v_iload_n dX4_often_43 rfl ?_
    refine v_iret dX4_often_44 rfl ?_
    refine ⟨?_, rfl⟩
    rw [show k = hmF (so T n) by omega]; rfl
  | succ d ih =>
    intro k hk 
    refine v_iload dX4_often_5 rfl ?_
    refine v_aload_n dX4_often_7 rfl ?_
    refine v_iload_n dX4_often_8 rfl ?_
    refine v_callVr (x := .int (nI (so T n))) (M1 := M) (as := [.int (nI n)]) (st := [.int (nI k)]) dX4_often_9 ml_X4_64 kv_X4_sort ⟨by decide, rfl, by decide⟩ ⟨(Nat.le_of_ble_eq_true rfl), (Nat.le_of_ble_eq_true rfl)⟩ rfl (Nat.le_of_ble_eq_true rfl) rfl (Nat.le_of_ble_eq_true rfl) (c_sort hM hW (by omega)) ?_
    refine v_callSr (x := .int (nI (hmF (so T n)))) (M1 := M) (as := [.int (nI (so T n))]) (st := [.int (nI k)]) dX4_often_12 ml_X4_68 ks_X4_hasMany ⟨(Nat.le_of_ble_eq_true rfl), (Nat.le_of_ble_eq_true rfl)⟩ rfl (Nat.le_of_ble_eq_true rfl) rfl (Nat.le_of_ble_eq_true rfl) (c_hasMany (by have := hW.so5 (n := n) (by omega); omega)) ?_
    refine v_icmpN_ge (tgt := 43) dX4_often_15 (by decide) (by have := hmF_le (so T n); omega) (by have := hmF_le (so T n); omega) (fun c15 => (by omega)) (fun c15 => ?_)
    refine v_iload_n dX4_often_18 rfl ?_
    refine v_aload_n dX4_often_19 rfl ?_
    refine v_iload_n dX4_often_20 rfl ?_
    refine v_iload dX4_often_21 rfl ?_
    refine v_callVr (x := .int (nI (pt T n k))) (M1 := M) (as := [.int (nI n), .int (nI k)]) (st := [.int (nI (ofN T n r k))]) dX4_often_23 ml_X4_71 kv_X4_of ⟨by decide, rfl, by decide⟩ ⟨(Nat.le_of_ble_eq_true rfl), (Nat.le_of_ble_eq_true rfl)⟩ rfl (Nat.le_of_ble_eq_true rfl) rfl (Nat.le_of_ble_eq_true rfl) (c_of hM hW (by omega) (by omega)) ?_
    refine v_iload_n dX4_often_26 rfl ?_
    refine v_icmpN_ne (tgt := 34) dX4_often_27 (by decide) (by have := hW.ptlt hn c15; omega) (by omega) (fun c27 => ?_) (fun c27 => ?_)
    · refine v_iconst (v := (nI 0)) dX4_often_34 rfl ?_
      refine v_iaddN dX4_often_35 ?_
      refine v_top (y := (nI (ofN T n r (k + 1)))) (by simp [ofN, c27]) ?_
      refine v_istore_n (lv' := [(0, .ref 60), (1, .int (nI n)), (2, .int (nI r)), (3, .int (nI (ofN T n r (k + 1)))), (4, .int (nI k))]) dX4_often_36 (Nat.le_of_ble_eq_true rfl) rfl ?_
      refine v_iincN (lv' := [(0, .ref 60), (1, .int (nI n)), (2, .int (nI r)), (3, .int (nI (ofN T n r (k + 1)))), (4, .int (nI (k + 1)))]) dX4_often_37 rfl (Nat.le_of_ble_eq_true rfl) rfl ?_
      refine v_goto (tgt := 5) dX4_often_40 (by decide) ?_
      exact ih (k + 1) (by omega)
    · refine v_iconst (v := (nI 1)) dX4_often_30 rfl ?_
      refine v_goto (tgt := 35) dX4_often_31 (by decide) ?_
      refine v_iaddN dX4_often_35 ?_
      refine v_top (y := (nI (ofN T n r (k + 1)))) (by simp [ofN, c27]) ?_
      refine v_istore_n (lv' := [(0, .ref 60), (1, .int (nI n)), (2, .int (nI r)), (3, .int (nI (ofN T n r (k + 1)))), (4, .int (nI k))]) dX4_often_36 (Nat.le_of_ble_eq_true rfl) rfl ?_
      refine v_iincN (lv' := [(0, .ref 60), (1, .int (nI n)), (2, .int (nI r)), (3, .int (nI (ofN T n r (k + 1)))), (4, .int (nI (k + 1)))]) dX4_often_37 rfl (Nat.le_of_ble_eq_true rfl) rfl ?_
      refine v_goto (tgt := 5) dX4_often_40 (by decide) ?_
      exact ih (k + 1) (by omega)
set_option maxRecDepth 100000 in
theorem c_often (hM : M 61 = T) (hW : WF T) {n r : Nat} (hn : n < nN T) (hr : r < 16) : V kX4_often (rt (.int (nI (oft T n r))) M) M 0 [(0, .ref 60), (1, .int (nI n)), (2, .int (nI r))] [] := by
  have h16 := hW.n16
  refine v_iconst (v := (nI 0)) dX4_often_0 rfl ?_
  refine v_istore_n (lv' := [(0, .ref 60), (1, .int (nI n)), (2, .int (nI r)), (3, .int (nI 0))]) dX4_often_1 (Nat.le_of_ble_eq_true rfl) rfl ?_
  refine v_iconst (v := (nI 0)) dX4_often_2 rfl ?_
  refine v_istore (lv' := [(0, .ref 60), (1, .int (nI n)), (2, .int (nI r)), (3, .int (nI 0)), (4, .int (nI 0))]) dX4_often_3 (Nat.le_of_ble_eq_true rfl) rfl ?_
  exact l_often hM hW hn hr (hmF (so T n)) 0 (by omega)
set_option maxRecDepth 100000 in
theorem l_find1 {Q : Option Value → vM → Prop} (hM : M0 61 = T) (hW : WF T) {n : Nat} (hn : n < nN T) (hl : ¬ so T n ≤ 1) (post : ∀ M1, sc M0 M1 → (∀ j, j < n + 1 → M1 68 j = lvF T j) → V kX4_findLeaves Q M1 2 [(0, .ref 60), (1, .int (nI (n + 1)))] []) (d : Nat) : ∀ (k : Nat) (M : vM), k + d = hmF (so T n) → sc M0 M → (∀ j, j < n → M 68 j = lvF T j) → M 68 n = lvG T (lvF T) n k → V kX4_findLeaves (Q) M 33 [(0, .ref 60), (1, .int (nI n)), (2, .int (nI k))] [] := by
  have h16 := hW.n16
  induction d with
  | zero =>
    intro k M hk hs hj he
    refine v_iload_n dX4_findLeaves_33 rfl ?_
    refine v_aload_n dX4_findLeaves_34 rfl ?_
    refine v_iload_n dX4_findLeaves_35 rfl ?_
    refine v_callVr (x := .int (nI (so T n))) (M1 := M) (as := [.int (nI n)]) (st := [.int (nI k)]) dX4_findLeaves_36 ml_X4_64 kv_X4_sort ⟨by decide, rfl, by decide⟩ ⟨(Nat.le_of_ble_eq_true rfl), (Nat.le_of_ble_eq_true rfl)⟩ rfl (Nat.le_of_ble_eq_true rfl) rfl (Nat.le_of_ble_eq_true rfl) (c_sort (scT hs hM) hW (by omega)) ?_
    refine v_callSr (x := .int (nI (hmF (so T n)))) (M1 := M) (as := [.int (nI (so T n))]) (st := [.int (nI k)]) dX4_findLeaves_39 ml_X4_68 ks_X4_hasMany ⟨(Nat.le_of_ble_eq_true rfl), (Nat.le_of_ble_eq_true rfl)⟩ rfl (Nat.le_of_ble_eq_true rfl) rfl (Nat.le_of_ble_eq_true rfl) (c_hasMany (by have := hW.so5 (n := n) (by omega); omega)) ?_
    refine v_icmpN_ge (tgt := 79) dX4_findLeaves_42 (by decide) (by have := hmF_le (so T n); omega) (by have := hmF_le (so T n); omega) (fun c42 => ?_) (fun c42 => (by omega))
    refine v_iincN (lv' := [(0, .ref 60), (1, .int (nI (n + 1))), (2, .int (nI k))]) dX4_findLeaves_79 rfl (Nat.le_of_ble_eq_true rfl) rfl ?_
    refine v_goto (tgt := 2) dX4_findLeaves_82 (by decide) ?_
    refine v_sub (lv' := [(0, .ref 60), (1, .int (nI (n + 1)))]) (by intro q hq; simp at hq; rcases hq with rfl | rfl <;> rfl) ?_
    refine post M hs (fun j hj9 => ?_)
    rcases Nat.lt_or_ge j n with h9 | h9
    · exact hj j h9
    · rw [show j = n by omega, he, lvF_eq hW hn, if_neg hl, show k = hmF (so T n) by omega]
  | succ d ih =>
    intro k M hk hs hj he
    refine v_iload_n dX4_findLeaves_33 rfl ?_
    refine v_aload_n dX4_findLeaves_34 rfl ?_
    refine v_iload_n dX4_findLeaves_35 rfl ?_
    refine v_callVr (x := .int (nI (so T n))) (M1 := M) (as := [.int (nI n)]) (st := [.int (nI k)]) dX4_findLeaves_36 ml_X4_64 kv_X4_sort ⟨by decide, rfl, by decide⟩ ⟨(Nat.le_of_ble_eq_true rfl), (Nat.le_of_ble_eq_true rfl)⟩ rfl (Nat.le_of_ble_eq_true rfl) rfl (Nat.le_of_ble_eq_true rfl) (c_sort (scT hs hM) hW (by omega)) ?_
    refine v_callSr (x := .int (nI (hmF (so T n)))) (M1 := M) (as := [.int (nI (so T n))]) (st := [.int (nI k)]) dX4_findLeaves_39 ml_X4_68 ks_X4_hasMany ⟨(Nat.le_of_ble_eq_true rfl), (Nat.le_of_ble_eq_true rfl)⟩ rfl (Nat.le_of_ble_eq_true rfl) rfl (Nat.le_of_ble_eq_true rfl) (c_hasMany (by have := hW.so5 (n := n) (by omega); omega)) ?_
    refine v_icmpN_ge (tgt := 79) dX4_findLeaves_42 (by decide) (by have := hmF_le (so T n); omega) (by have := hmF_le (so T n); omega) (fun c42 => (by omega)) (fun c42 => ?_)
    refine v_aload_n dX4_findLeaves_45 rfl ?_
    refine v_iload_n dX4_findLeaves_46 rfl ?_
    refine v_callVr (x := .int (bI (so T n ≤ 1))) (M1 := M) (as := [.int (nI n)]) (st := []) dX4_findLeaves_47 ml_X4_75 kv_X4_isLeaf ⟨by decide, rfl, by decide⟩ ⟨(Nat.le_of_ble_eq_true rfl), (Nat.le_of_ble_eq_true rfl)⟩ rfl (Nat.le_of_ble_eq_true rfl) rfl (Nat.le_of_ble_eq_true rfl) (c_isLeaf (scT hs hM) hW (by omega)) ?_
    refine v_ifB_ne (tgt := 79) dX4_findLeaves_50 (by decide) (fun c50 => (absurd c50 hl)) (fun c50 => ?_)
    refine v_aload_n dX4_findLeaves_53 rfl ?_
    refine v_getR (t := 68) dX4_findLeaves_54 fl_X4_32 ⟨by decide, rfl, by decide⟩ rfl rfl ?_
    refine v_iload_n dX4_findLeaves_57 rfl ?_
    refine v_dup2 dX4_findLeaves_58 rfl rfl ?_
    refine v_iald2 (n := 16) (a := n) (y := (lvG T (lvF T) n k)) dX4_findLeaves_59 ⟨by decide, rfl, rfl⟩ (rfl) (by omega) (he) ?_
    refine v_aload_n dX4_findLeaves_60 rfl ?_
    refine v_getR (t := 68) dX4_findLeaves_61 fl_X4_32 ⟨by decide, rfl, by decide⟩ rfl rfl ?_
    refine v_aload_n dX4_findLeaves_64 rfl ?_
    refine v_iload_n dX4_findLeaves_65 rfl ?_
    refine v_iload_n dX4_findLeaves_66 rfl ?_
    refine v_callVr (x := .int (nI (pt T n k))) (M1 := M) (as := [.int (nI n), .int (nI k)]) (st := [.ref 68, .int (lvG T (lvF T) n k), .int (nI n), .ref 68]) dX4_findLeaves_67 ml_X4_71 kv_X4_of ⟨by decide, rfl, by decide⟩ ⟨(Nat.le_of_ble_eq_true rfl), (Nat.le_of_ble_eq_true rfl)⟩ rfl (Nat.le_of_ble_eq_true rfl) rfl (Nat.le_of_ble_eq_true rfl) (c_of (scT hs hM) hW (by omega) (by omega)) ?_
    have h9 := hW.ptlt hn c42
    refine v_iald2 (n := 16) (a := pt T n k) (y := (lvF T (pt T n k))) dX4_findLeaves_70 ⟨by decide, rfl, rfl⟩ (rfl) (by omega) (hj _ h9) ?_
    refine v_ior dX4_findLeaves_71 ?_
    refine v_top (y := (lvG T (lvF T) n (k + 1))) (rfl) ?_
    refine v_iast (n := 16) (a := n) dX4_findLeaves_72 ⟨by decide, rfl, rfl⟩ (rfl) (by omega) ?_
    refine v_iincN (lv' := [(0, .ref 60), (1, .int (nI n)), (2, .int (nI (k + 1)))]) dX4_findLeaves_73 rfl (Nat.le_of_ble_eq_true rfl) rfl ?_
    refine v_goto (tgt := 33) dX4_findLeaves_76 (by decide) ?_
    refine ih (k + 1) _ (by omega) (sc_up hs) (fun j h9 => ?_) ?_
    · rw [mup_eq]; simp only [upd]; rw [if_neg (by omega)]; exact hj j h9
    · rw [mup_eq]; simp [upd]
set_option maxRecDepth 100000 in
theorem l_find (hM : M0 61 = T) (hW : WF T) (d : Nat) : ∀ (n : Nat) (M : vM), n + d = nN T → sc M0 M → (∀ j, j < n → M 68 j = lvF T j) → V kX4_findLeaves (fun v M1 => v = none ∧ sc M0 M1 ∧ ∀ j, j < nN T → M1 68 j = lvF T j) M 2 [(0, .ref 60), (1, .int (nI n))] [] := by
  have h16 := hW.n16
  induction d with
  | zero =>
    intro n M hk hs hj
    refine v_iload_n dX4_findLeaves_2 rfl ?_
    refine v_aload_n dX4_findLeaves_3 rfl ?_
    refine v_callVr (x := .int (nI (nN T))) (M1 := M) (as := []) (st := [.int (nI n)]) dX4_findLeaves_4 ml_X4_52 kv_X4_many ⟨by decide, rfl, by decide⟩ ⟨(Nat.le_of_ble_eq_true rfl), (Nat.le_of_ble_eq_true rfl)⟩ rfl (Nat.le_of_ble_eq_true rfl) rfl (Nat.le_of_ble_eq_true rfl) (c_many (scT hs hM) hW) ?_
    refine v_icmpN_ge (tgt := 85) dX4_findLeaves_7 (by decide) (by omega) (by omega) (fun c7 => ?_) (fun c7 => (by omega))
    refine v_vret dX4_findLeaves_85 rfl ?_
    exact ⟨rfl, hs, fun j h9 => hj j (by omega)⟩
  | succ d ih =>
    intro n M hk hs hj
    refine v_iload_n dX4_findLeaves_2 rfl ?_
    refine v_aload_n dX4_findLeaves_3 rfl ?_
    refine v_callVr (x := .int (nI (nN T))) (M1 := M) (as := []) (st := [.int (nI n)]) dX4_findLeaves_4 ml_X4_52 kv_X4_many ⟨by decide, rfl, by decide⟩ ⟨(Nat.le_of_ble_eq_true rfl), (Nat.le_of_ble_eq_true rfl)⟩ rfl (Nat.le_of_ble_eq_true rfl) rfl (Nat.le_of_ble_eq_true rfl) (c_many (scT hs hM) hW) ?_
    refine v_icmpN_ge (tgt := 85) dX4_findLeaves_7 (by decide) (by omega) (by omega) (fun c7 => (by omega)) (fun c7 => ?_)
    refine v_aload_n dX4_findLeaves_10 rfl ?_
    refine v_getR (t := 68) dX4_findLeaves_11 fl_X4_32 ⟨by decide, rfl, by decide⟩ rfl rfl ?_
    refine v_iload_n dX4_findLeaves_14 rfl ?_
    refine v_aload_n dX4_findLeaves_15 rfl ?_
    refine v_iload_n dX4_findLeaves_16 rfl ?_
    refine v_callVr (x := .int (bI (so T n ≤ 1))) (M1 := M) (as := [.int (nI n)]) (st := [.int (nI n), .ref 68]) dX4_findLeaves_17 ml_X4_75 kv_X4_isLeaf ⟨by decide, rfl, by decide⟩ ⟨(Nat.le_of_ble_eq_true rfl), (Nat.le_of_ble_eq_true rfl)⟩ rfl (Nat.le_of_ble_eq_true rfl) rfl (Nat.le_of_ble_eq_true rfl) (c_isLeaf (scT hs hM) hW (by omega)) ?_
    refine v_ifB_eq (tgt := 29) dX4_findLeaves_20 (by decide) (fun c20 => ?_) (fun c20 => ?_)
    · have hl : ¬ so T n ≤ 1 := c20
      refine v_iconst (v := (nI 0)) dX4_findLeaves_29 rfl ?_
      refine v_iast (n := 16) (a := n) dX4_findLeaves_30 ⟨by decide, rfl, rfl⟩ (rfl) (by omega) ?_
      refine v_iconst (v := (nI 0)) dX4_findLeaves_31 rfl ?_
      refine v_istore_n (lv' := [(0, .ref 60), (1, .int (nI n)), (2, .int (nI 0))]) dX4_findLeaves_32 (Nat.le_of_ble_eq_true rfl) rfl ?_
      refine l_find1 hM hW (by omega) hl (fun M1 h1 h2 => ih (n + 1) M1 (by omega) h1 h2) (hmF (so T n)) 0 _ (by omega) (sc_up hs) (fun j h9 => ?_) ?_
      · rw [mup_eq]; simp only [upd]; rw [if_neg (by omega)]; exact hj j h9
      · rw [mup_eq]; simp [upd, lvG]
    · refine v_iconst (v := (nI 1)) dX4_findLeaves_23 rfl ?_
      refine v_iload_n dX4_findLeaves_24 rfl ?_
      refine v_ishl dX4_findLeaves_25 ?_
      refine v_goto (tgt := 30) dX4_findLeaves_26 (by decide) ?_
      refine v_iast (n := 16) (a := n) dX4_findLeaves_30 ⟨by decide, rfl, rfl⟩ (rfl) (by omega) ?_
      refine v_iconst (v := (nI 0)) dX4_findLeaves_31 rfl ?_
      refine v_istore_n (lv' := [(0, .ref 60), (1, .int (nI n)), (2, .int (nI 0))]) dX4_findLeaves_32 (Nat.le_of_ble_eq_true rfl) rfl ?_
      refine v_iload_n dX4_findLeaves_33 rfl ?_
      refine v_aload_n dX4_findLeaves_34 rfl ?_
      refine v_iload_n dX4_findLeaves_35 rfl ?_
      refine v_callVr (x := .int (nI (so T n))) (M1 := mup M 68 n (nI 1 <<< (nI n &&& 31))) (as := [.int (nI n)]) (st := [.int (nI 0)]) dX4_findLeaves_36 ml_X4_64 kv_X4_sort ⟨by decide, rfl, by decide⟩ ⟨(Nat.le_of_ble_eq_true rfl), (Nat.le_of_ble_eq_true rfl)⟩ rfl (Nat.le_of_ble_eq_true rfl) rfl (Nat.le_of_ble_eq_true rfl) (c_sort (scT (sc_up hs) hM) hW (by omega)) ?_
      refine v_callSr (x := .int (nI (hmF (so T n)))) (M1 := mup M 68 n (nI 1 <<< (nI n &&& 31))) (as := [.int (nI (so T n))]) (st := [.int (nI 0)]) dX4_findLeaves_39 ml_X4_68 ks_X4_hasMany ⟨(Nat.le_of_ble_eq_true rfl), (Nat.le_of_ble_eq_true rfl)⟩ rfl (Nat.le_of_ble_eq_true rfl) rfl (Nat.le_of_ble_eq_true rfl) (c_hasMany (by have := hW.so5 (n := n) (by omega); omega)) ?_
      refine v_icmpN_ge (tgt := 79) dX4_findLeaves_42 (by decide) (by omega) (by have := hmF_le (so T n); omega) (fun c42 => ?_) (fun c42 => ?_)
      · refine v_iincN (lv' := [(0, .ref 60), (1, .int (nI (n + 1))), (2, .int (nI 0))]) dX4_findLeaves_79 rfl (Nat.le_of_ble_eq_true rfl) rfl ?_
        refine v_goto (tgt := 2) dX4_findLeaves_82 (by decide) ?_
        refine v_sub (lv' := [(0, .ref 60), (1, .int (nI (n + 1)))]) (by intro q hq; simp at hq; rcases hq with rfl | rfl <;> rfl) ?_
        refine ih (n + 1) _ (by omega) (sc_up hs) (fun j h9 => ?_)
        rw [mup_eq]; simp only [upd]
        by_cases h8 : j = n
        · rw [if_pos h8, h8, lvF_eq hW (by omega), if_pos c20]; rfl
        · rw [if_neg h8]; exact hj j (by omega)
      · refine v_aload_n dX4_findLeaves_45 rfl ?_
        refine v_iload_n dX4_findLeaves_46 rfl ?_
        refine v_callVr (x := .int (bI (so T n ≤ 1))) (M1 := mup M 68 n (nI 1 <<< (nI n &&& 31))) (as := [.int (nI n)]) (st := []) dX4_findLeaves_47 ml_X4_75 kv_X4_isLeaf ⟨by decide, rfl, by decide⟩ ⟨(Nat.le_of_ble_eq_true rfl), (Nat.le_of_ble_eq_true rfl)⟩ rfl (Nat.le_of_ble_eq_true rfl) rfl (Nat.le_of_ble_eq_true rfl) (c_isLeaf (scT (sc_up hs) hM) hW (by omega)) ?_
        refine v_ifB_ne (tgt := 79) dX4_findLeaves_50 (by decide) (fun c50 => ?_) (fun c50 => (absurd c20 c50))
        refine v_iincN (lv' := [(0, .ref 60), (1, .int (nI (n + 1))), (2, .int (nI 0))]) dX4_findLeaves_79 rfl (Nat.le_of_ble_eq_true rfl) rfl ?_
        refine v_goto (tgt := 2) dX4_findLeaves_82 (by decide) ?_
        refine v_sub (lv' := [(0, .ref 60), (1, .int (nI (n + 1)))]) (by intro q hq; simp at hq; rcases hq with rfl | rfl <;> rfl) ?_
        refine ih (n + 1) _ (by omega) (sc_up hs) (fun j h9 => ?_)
        rw [mup_eq]; simp only [upd]
        by_cases h8 : j = n
        · rw [if_pos h8, h8, lvF_eq hW (by omega), if_pos c20]; rfl
        · rw [if_neg h8]; exact hj j (by omega)
set_option maxRecDepth 100000 in
theorem c_find (hM : M0 61 = T) (hW : WF T) (hs : sc M0 M) : V kX4_findLeaves (fun v M1 => v = none ∧ sc M0 M1 ∧ ∀ j, j < nN T → M1 68 j = lvF T j) M 0 [(0, .ref 60)] [] := by
  have h16 := hW.n16
  refine v_iconst (v := (nI 0)) dX4_findLeaves_0 rfl ?_
  refine v_istore_n (lv' := [(0, .ref 60), (1, .int (nI 0))]) dX4_findLeaves_1 (Nat.le_of_ble_eq_true rfl) rfl ?_
  exact l_find hM hW (nN T) 0 M (by omega) hs (fun j h9 => absurd h9 (by omega))
set_option maxRecDepth 100000 in
theorem c_leavesOf (hs : sc M0 M) (hM : M0 61 = T) (hW : WF T) {n : Nat} (hn : n < nN T) : V kX4_leavesOf (rs (.int (lvF T n)) M0) M 0 [(0, .ref 60), (1, .int (nI n))] [] := by
  have h16 := hW.n16
  refine v_aload_n dX4_leavesOf_0 rfl ?_
  refine v_callV (as := []) (st := []) dX4_leavesOf_1 ml_X4_78 kv_X4_findLeaves ⟨by decide, rfl, by decide⟩ ⟨(Nat.le_of_ble_eq_true rfl), (Nat.le_of_ble_eq_true rfl)⟩ rfl (Nat.le_of_ble_eq_true rfl) rfl (Nat.le_of_ble_eq_true rfl) (c_find hM hW hs) (fun v M hq => ?_)
  obtain ⟨rfl, hs, hj⟩ := hq
  refine v_aload_n dX4_leavesOf_4 rfl ?_
  refine v_getR (t := 68) dX4_leavesOf_5 fl_X4_32 ⟨by decide, rfl, by decide⟩ rfl rfl ?_
  refine v_iload_n dX4_leavesOf_8 rfl ?_
  refine v_iald2 (n := 16) (a := n) (y := (lvF T n)) dX4_leavesOf_9 ⟨by decide, rfl, rfl⟩ (rfl) (by omega) (hj n hn) ?_
  refine v_iret dX4_leavesOf_10 rfl ?_
  exact ⟨rfl, hs⟩
set_option maxRecDepth 100000 in
theorem l_src (hs : sc M0 M) (hM : M0 61 = T) (hW : WF T) {n : Nat} {s : Int32} (d : Nat) : ∀ (k : Nat), k + d = nN T → V kX4_sourcesOf (rs (.int (srcF T s)) M0) M 11 [(0, .ref 60), (1, .int (nI n)), (2, .int s), (3, .int (srcN T s k)), (4, .int (nI k))] [] := by
  have h16 := hW.n16
  induction d with
  | zero =>
    intro k hk 
    refine v_iload dX4_sourcesOf_11 rfl ?_
    refine v_aload_n dX4_sourcesOf_13 rfl ?_
    refine v_callVr (x := .int (nI (nN T))) (M1 := M) (as := []) (st := [.int (nI k)]) dX4_sourcesOf_14 ml_X4_52 kv_X4_many ⟨by decide, rfl, by decide⟩ ⟨(Nat.le_of_ble_eq_true rfl), (Nat.le_of_ble_eq_true rfl)⟩ rfl (Nat.le_of_ble_eq_true rfl) rfl (Nat.le_of_ble_eq_true rfl) (c_many (scT hs hM) hW) ?_
    refine v_icmpN_ge (tgt := 50) dX4_sourcesOf_17 (by decide) (by omega) (by omega) (fun c17 => ?_) (fun c17 => (by omega))
    refine v_iload_n dX4_sourcesOf_50 rfl ?_
    refine v_iret dX4_sourcesOf_51 rfl ?_
    refine ⟨?_, hs⟩
    rw [show k = nN T by omega]; rfl
  | succ d ih =>
    intro k hk 
    refine v_iload dX4_sourcesOf_11 rfl ?_
    refine v_aload_n dX4_sourcesOf_13 rfl ?_
    refine v_callVr (x := .int (nI (nN T))) (M1 := M) (as := []) (st := [.int (nI k)]) dX4_sourcesOf_14 ml_X4_52 kv_X4_many ⟨by decide, rfl, by decide⟩ ⟨(Nat.le_of_ble_eq_true rfl), (Nat.le_of_ble_eq_true rfl)⟩ rfl (Nat.le_of_ble_eq_true rfl) rfl (Nat.le_of_ble_eq_true rfl) (c_many (scT hs hM) hW) ?_
    refine v_icmpN_ge (tgt := 50) dX4_sourcesOf_17 (by decide) (by omega) (by omega) (fun c17 => (by omega)) (fun c17 => ?_)
    refine v_iload_n dX4_sourcesOf_20 rfl ?_
    refine v_iload_n dX4_sourcesOf_21 rfl ?_
    refine v_iload dX4_sourcesOf_22 rfl ?_
    refine v_callSr (x := .int (bI (bt s k = true))) (M1 := M) (as := [.int s, .int (nI k)]) (st := [.int (srcN T s k)]) dX4_sourcesOf_24 ml_X4_84 ks_X4_has ⟨(Nat.le_of_ble_eq_true rfl), (Nat.le_of_ble_eq_true rfl)⟩ rfl (Nat.le_of_ble_eq_true rfl) rfl (Nat.le_of_ble_eq_true rfl) (c_has _ (by omega)) ?_
    refine v_ifB_eq (tgt := 41) dX4_sourcesOf_27 (by decide) (fun c27 => ?_) (fun c27 => ?_)
    · refine v_iconst (v := (nI 0)) dX4_sourcesOf_41 rfl ?_
      refine v_ior dX4_sourcesOf_42 ?_
      refine v_top (y := (srcN T s (k + 1))) (by simp [srcN, bx, c27]) ?_
      refine v_istore_n (lv' := [(0, .ref 60), (1, .int (nI n)), (2, .int s), (3, .int (srcN T s (k + 1))), (4, .int (nI k))]) dX4_sourcesOf_43 (Nat.le_of_ble_eq_true rfl) rfl ?_
      refine v_iincN (lv' := [(0, .ref 60), (1, .int (nI n)), (2, .int s), (3, .int (srcN T s (k + 1))), (4, .int (nI (k + 1)))]) dX4_sourcesOf_44 rfl (Nat.le_of_ble_eq_true rfl) rfl ?_
      refine v_goto (tgt := 11) dX4_sourcesOf_47 (by decide) ?_
      exact ih (k + 1) (by omega)
    · refine v_iconst (v := (nI 1)) dX4_sourcesOf_30 rfl ?_
      refine v_aload_n dX4_sourcesOf_31 rfl ?_
      refine v_iload dX4_sourcesOf_32 rfl ?_
      refine v_callVr (x := .int (nI (ck T k))) (M1 := M) (as := [.int (nI k)]) (st := [.int (nI 1), .int (srcN T s k)]) dX4_sourcesOf_34 ml_X4_88 kv_X4_clock ⟨by decide, rfl, by decide⟩ ⟨(Nat.le_of_ble_eq_true rfl), (Nat.le_of_ble_eq_true rfl)⟩ rfl (Nat.le_of_ble_eq_true rfl) rfl (Nat.le_of_ble_eq_true rfl) (c_clock (scT hs hM) hW (by omega)) ?_
      refine v_ishl dX4_sourcesOf_37 ?_
      refine v_goto (tgt := 42) dX4_sourcesOf_38 (by decide) ?_
      refine v_ior dX4_sourcesOf_42 ?_
      refine v_top (y := (srcN T s (k + 1))) (by simp [srcN, bx, c27]) ?_
      refine v_istore_n (lv' := [(0, .ref 60), (1, .int (nI n)), (2, .int s), (3, .int (srcN T s (k + 1))), (4, .int (nI k))]) dX4_sourcesOf_43 (Nat.le_of_ble_eq_true rfl) rfl ?_
      refine v_iincN (lv' := [(0, .ref 60), (1, .int (nI n)), (2, .int s), (3, .int (srcN T s (k + 1))), (4, .int (nI (k + 1)))]) dX4_sourcesOf_44 rfl (Nat.le_of_ble_eq_true rfl) rfl ?_
      refine v_goto (tgt := 11) dX4_sourcesOf_47 (by decide) ?_
      exact ih (k + 1) (by omega)
set_option maxRecDepth 100000 in
theorem c_sourcesOf (hs : sc M0 M) (hM : M0 61 = T) (hW : WF T) {n : Nat} (hn : n < nN T) : V kX4_sourcesOf (rs (.int (srcF T (lvF T n))) M0) M 0 [(0, .ref 60), (1, .int (nI n))] [] := by
  have h16 := hW.n16
  refine v_aload_n dX4_sourcesOf_0 rfl ?_
  refine v_iload_n dX4_sourcesOf_1 rfl ?_
  refine v_callV (as := [.int (nI n)]) (st := []) dX4_sourcesOf_2 ml_X4_81 kv_X4_leavesOf ⟨by decide, rfl, by decide⟩ ⟨(Nat.le_of_ble_eq_true rfl), (Nat.le_of_ble_eq_true rfl)⟩ rfl (Nat.le_of_ble_eq_true rfl) rfl (Nat.le_of_ble_eq_true rfl) (c_leavesOf hs hM hW (by omega)) (fun v M hq => ?_)
  obtain ⟨rfl, hs⟩ := hq
  refine v_istore_n (lv' := [(0, .ref 60), (1, .int (nI n)), (2, .int (lvF T n))]) dX4_sourcesOf_5 (Nat.le_of_ble_eq_true rfl) rfl ?_
  refine v_iconst (v := (nI 0)) dX4_sourcesOf_6 rfl ?_
  refine v_istore_n (lv' := [(0, .ref 60), (1, .int (nI n)), (2, .int (lvF T n)), (3, .int (nI 0))]) dX4_sourcesOf_7 (Nat.le_of_ble_eq_true rfl) rfl ?_
  refine v_iconst (v := (nI 0)) dX4_sourcesOf_8 rfl ?_
  refine v_istore (lv' := [(0, .ref 60), (1, .int (nI n)), (2, .int (lvF T n)), (3, .int (nI 0)), (4, .int (nI 0))]) dX4_sourcesOf_9 (Nat.le_of_ble_eq_true rfl) rfl ?_
  exact l_src hs hM hW (nN T) 0 (by omega)
set_option maxRecDepth 100000 in
theorem l_fr (hs : sc M0 M) (hM : M0 61 = T) (hW : WF T) {r : Nat} (hr : r < nN T) {s : Int32} (d : Nat) : ∀ (k : Nat), k + d = nN T → V kX4_foreign (rs (.int (frN T r s (nN T))) M0) M 13 [(0, .ref 60), (1, .int (nI r)), (2, .int (frN T r s k)), (3, .int (nI k))] [] := by
  have h16 := hW.n16
  induction d with
  | zero =>
    intro k hk 
    refine v_iload_n dX4_foreign_13 rfl ?_
    refine v_aload_n dX4_foreign_14 rfl ?_
    refine v_callVr (x := .int (nI (nN T))) (M1 := M) (as := []) (st := [.int (nI k)]) dX4_foreign_15 ml_X4_52 kv_X4_many ⟨by decide, rfl, by decide⟩ ⟨(Nat.le_of_ble_eq_true rfl), (Nat.le_of_ble_eq_true rfl)⟩ rfl (Nat.le_of_ble_eq_true rfl) rfl (Nat.le_of_ble_eq_true rfl) (c_many (scT hs hM) hW) ?_
    refine v_icmpN_ge (tgt := 60) dX4_foreign_18 (by decide) (by omega) (by omega) (fun c18 => ?_) (fun c18 => (by omega))
    refine v_iload_n dX4_foreign_60 rfl ?_
    refine v_iret dX4_foreign_61 rfl ?_
    refine ⟨?_, hs⟩
    rw [show k = nN T by omega]
  | succ d ih =>
    intro k hk 
    refine v_iload_n dX4_foreign_13 rfl ?_
    refine v_aload_n dX4_foreign_14 rfl ?_
    refine v_callVr (x := .int (nI (nN T))) (M1 := M) (as := []) (st := [.int (nI k)]) dX4_foreign_15 ml_X4_52 kv_X4_many ⟨by decide, rfl, by decide⟩ ⟨(Nat.le_of_ble_eq_true rfl), (Nat.le_of_ble_eq_true rfl)⟩ rfl (Nat.le_of_ble_eq_true rfl) rfl (Nat.le_of_ble_eq_true rfl) (c_many (scT hs hM) hW) ?_
    refine v_icmpN_ge (tgt := 60) dX4_foreign_18 (by decide) (by omega) (by omega) (fun c18 => (by omega)) (fun c18 => ?_)
    refine v_iload_n dX4_foreign_21 rfl ?_
    refine v_aload_n dX4_foreign_22 rfl ?_
    refine v_iload_n dX4_foreign_23 rfl ?_
    refine v_callVr (x := .int (bI (so T k ≤ 1))) (M1 := M) (as := [.int (nI k)]) (st := [.int (frN T r s k)]) dX4_foreign_24 ml_X4_75 kv_X4_isLeaf ⟨by decide, rfl, by decide⟩ ⟨(Nat.le_of_ble_eq_true rfl), (Nat.le_of_ble_eq_true rfl)⟩ rfl (Nat.le_of_ble_eq_true rfl) rfl (Nat.le_of_ble_eq_true rfl) (c_isLeaf (scT hs hM) hW (by omega)) ?_
    refine v_ifB_eq (tgt := 51) dX4_foreign_27 (by decide) (fun c27 => ?_) (fun c27 => ?_)
    · refine v_iconst (v := (-1)) dX4_foreign_51 (by decide) ?_
      refine v_iand dX4_foreign_52 ?_
      refine v_top (y := (frN T r s (k + 1))) (by simp [frN, bx, *]) ?_
      refine v_istore_n (lv' := [(0, .ref 60), (1, .int (nI r)), (2, .int (frN T r s (k + 1))), (3, .int (nI k))]) dX4_foreign_53 (Nat.le_of_ble_eq_true rfl) rfl ?_
      refine v_iincN (lv' := [(0, .ref 60), (1, .int (nI r)), (2, .int (frN T r s (k + 1))), (3, .int (nI (k + 1)))]) dX4_foreign_54 rfl (Nat.le_of_ble_eq_true rfl) rfl ?_
      refine v_goto (tgt := 13) dX4_foreign_57 (by decide) ?_
      exact ih (k + 1) (by omega)
    · refine v_aload_n dX4_foreign_30 rfl ?_
      refine v_iload_n dX4_foreign_31 rfl ?_
      refine v_callVr (x := .int (nI (ck T k))) (M1 := M) (as := [.int (nI k)]) (st := [.int (frN T r s k)]) dX4_foreign_32 ml_X4_88 kv_X4_clock ⟨by decide, rfl, by decide⟩ ⟨(Nat.le_of_ble_eq_true rfl), (Nat.le_of_ble_eq_true rfl)⟩ rfl (Nat.le_of_ble_eq_true rfl) rfl (Nat.le_of_ble_eq_true rfl) (c_clock (scT hs hM) hW (by omega)) ?_
      refine v_aload_n dX4_foreign_35 rfl ?_
      refine v_iload_n dX4_foreign_36 rfl ?_
      refine v_callVr (x := .int (nI (ck T r))) (M1 := M) (as := [.int (nI r)]) (st := [.int (nI (ck T k)), .int (frN T r s k)]) dX4_foreign_37 ml_X4_88 kv_X4_clock ⟨by decide, rfl, by decide⟩ ⟨(Nat.le_of_ble_eq_true rfl), (Nat.le_of_ble_eq_true rfl)⟩ rfl (Nat.le_of_ble_eq_true rfl) rfl (Nat.le_of_ble_eq_true rfl) (c_clock (scT hs hM) hW (by omega)) ?_
      refine v_icmpN_ne (tgt := 51) dX4_foreign_40 (by decide) (by have := hW.ck2 (n := k) (by omega); omega) (by have := hW.ck2 hr; omega) (fun c40 => ?_) (fun c40 => ?_)
      · refine v_iconst (v := (-1)) dX4_foreign_51 (by decide) ?_
        refine v_iand dX4_foreign_52 ?_
        refine v_top (y := (frN T r s (k + 1))) (by simp [frN, bx, *]) ?_
        refine v_istore_n (lv' := [(0, .ref 60), (1, .int (nI r)), (2, .int (frN T r s (k + 1))), (3, .int (nI k))]) dX4_foreign_53 (Nat.le_of_ble_eq_true rfl) rfl ?_
        refine v_iincN (lv' := [(0, .ref 60), (1, .int (nI r)), (2, .int (frN T r s (k + 1))), (3, .int (nI (k + 1)))]) dX4_foreign_54 rfl (Nat.le_of_ble_eq_true rfl) rfl ?_
        refine v_goto (tgt := 13) dX4_foreign_57 (by decide) ?_
        exact ih (k + 1) (by omega)
      · refine v_iconst (v := (nI 1)) dX4_foreign_43 rfl ?_
        refine v_iload_n dX4_foreign_44 rfl ?_
        refine v_ishl dX4_foreign_45 ?_
        refine v_iconst (v := (-1)) dX4_foreign_46 (by decide) ?_
        refine v_ixor dX4_foreign_47 ?_
        refine v_goto (tgt := 52) dX4_foreign_48 (by decide) ?_
        refine v_iand dX4_foreign_52 ?_
        refine v_top (y := (frN T r s (k + 1))) (by simp [frN, bx, *]) ?_
        refine v_istore_n (lv' := [(0, .ref 60), (1, .int (nI r)), (2, .int (frN T r s (k + 1))), (3, .int (nI k))]) dX4_foreign_53 (Nat.le_of_ble_eq_true rfl) rfl ?_
        refine v_iincN (lv' := [(0, .ref 60), (1, .int (nI r)), (2, .int (frN T r s (k + 1))), (3, .int (nI (k + 1)))]) dX4_foreign_54 rfl (Nat.le_of_ble_eq_true rfl) rfl ?_
        refine v_goto (tgt := 13) dX4_foreign_57 (by decide) ?_
        exact ih (k + 1) (by omega)
set_option maxRecDepth 100000 in
theorem c_foreign (hs : sc M0 M) (hM : M0 61 = T) (hW : WF T) {r : Nat} (hr : r < nN T) (h1 : so T r = 1) : V kX4_foreign (rs (.int (frF T r)) M0) M 0 [(0, .ref 60), (1, .int (nI r))] [] := by
  have h16 := hW.n16
  have hm1 := hm_reg h1
  have hp := hW.ptlt hr (show 0 < hmF (so T r) by omega)
  refine v_aload_n dX4_foreign_0 rfl ?_
  refine v_aload_n dX4_foreign_1 rfl ?_
  refine v_iload_n dX4_foreign_2 rfl ?_
  refine v_iconst (v := (nI 0)) dX4_foreign_3 rfl ?_
  refine v_callVr (x := .int (nI (pt T r 0))) (M1 := M) (as := [.int (nI r), .int (nI 0)]) (st := [.ref 60]) dX4_foreign_4 ml_X4_71 kv_X4_of ⟨by decide, rfl, by decide⟩ ⟨(Nat.le_of_ble_eq_true rfl), (Nat.le_of_ble_eq_true rfl)⟩ rfl (Nat.le_of_ble_eq_true rfl) rfl (Nat.le_of_ble_eq_true rfl) (c_of (scT hs hM) hW (by omega) (by omega)) ?_
  refine v_callV (as := [.int (nI (pt T r 0))]) (st := []) dX4_foreign_7 ml_X4_81 kv_X4_leavesOf ⟨by decide, rfl, by decide⟩ ⟨(Nat.le_of_ble_eq_true rfl), (Nat.le_of_ble_eq_true rfl)⟩ rfl (Nat.le_of_ble_eq_true rfl) rfl (Nat.le_of_ble_eq_true rfl) (c_leavesOf hs hM hW (by omega)) (fun v M hq => ?_)
  obtain ⟨rfl, hs⟩ := hq
  refine v_istore_n (lv' := [(0, .ref 60), (1, .int (nI r)), (2, .int (lvF T (pt T r 0)))]) dX4_foreign_10 (Nat.le_of_ble_eq_true rfl) rfl ?_
  refine v_iconst (v := (nI 0)) dX4_foreign_11 rfl ?_
  refine v_istore_n (lv' := [(0, .ref 60), (1, .int (nI r)), (2, .int (lvF T (pt T r 0))), (3, .int (nI 0))]) dX4_foreign_12 (Nat.le_of_ble_eq_true rfl) rfl ?_
  exact l_fr hs hM hW hr (nN T) 0 (by omega)
set_option maxRecDepth 100000 in
theorem c_isDirect (hs : sc M0 M) (hM : M0 61 = T) (hW : WF T) {r : Nat} (hr : r < nN T) (h1 : so T r = 1) : V kX4_isDirect (rs (.int (bI (dirF T r = true))) M0) M 0 [(0, .ref 60), (1, .int (nI r))] [] := by
  have h16 := hW.n16
  have hm1 := hm_reg h1
  have hp := hW.ptlt hr (show 0 < hmF (so T r) by omega)
  refine v_aload_n dX4_isDirect_0 rfl ?_
  refine v_iload_n dX4_isDirect_1 rfl ?_
  refine v_callV (as := [.int (nI r)]) (st := []) dX4_isDirect_2 ml_X4_91 kv_X4_foreign ⟨by decide, rfl, by decide⟩ ⟨(Nat.le_of_ble_eq_true rfl), (Nat.le_of_ble_eq_true rfl)⟩ rfl (Nat.le_of_ble_eq_true rfl) rfl (Nat.le_of_ble_eq_true rfl) (c_foreign hs hM hW (by omega) (by assumption)) (fun v M hq => ?_)
  obtain ⟨rfl, hs⟩ := hq
  refine v_aload_n dX4_isDirect_5 rfl ?_
  refine v_iload_n dX4_isDirect_6 rfl ?_
  refine v_iconst (v := (nI 0)) dX4_isDirect_7 rfl ?_
  refine v_callVr (x := .int (nI (pt T r 0))) (M1 := M) (as := [.int (nI r), .int (nI 0)]) (st := [.int (frF T r)]) dX4_isDirect_8 ml_X4_71 kv_X4_of ⟨by decide, rfl, by decide⟩ ⟨(Nat.le_of_ble_eq_true rfl), (Nat.le_of_ble_eq_true rfl)⟩ rfl (Nat.le_of_ble_eq_true rfl) rfl (Nat.le_of_ble_eq_true rfl) (c_of (scT hs hM) hW (by omega) (by omega)) ?_
  refine v_callSr (x := .int (bI (bt ((frF T r)) (pt T r 0) = true))) (M1 := M) (as := [.int (frF T r), .int (nI (pt T r 0))]) (st := []) dX4_isDirect_11 ml_X4_84 ks_X4_has ⟨(Nat.le_of_ble_eq_true rfl), (Nat.le_of_ble_eq_true rfl)⟩ rfl (Nat.le_of_ble_eq_true rfl) rfl (Nat.le_of_ble_eq_true rfl) (c_has _ (by omega)) ?_
  refine v_bret dX4_isDirect_14 rfl ?_
  exact ⟨rfl, hs⟩
end R13
end
section
/-! back, held, kinds -/
theorem dec_sub (x : Int32) : x + (-1) = x - 1 := by rw [Int32.sub_eq_add_neg]
theorem oI_none {o : Option Nat} (h : ∀ n, o = some n → n < 2 ^ 31) : oI o = (-9) ↔ o = none := by
  cases o with
  | none => exact ⟨fun _ => rfl, fun _ => rfl⟩
  | some n =>
    constructor
    · intro q
      have h0 := nI_pos' (h n rfl)
      have e : oI (some n) = nI n := rfl
      rw [← e, q] at h0
      exact absurd h0 (by decide)
    · intro q; cases q
theorem oI_some {o : Option Nat} {c : Nat} (h : ∀ n, o = some n → n < 2 ^ 31) (hc : c < 2 ^ 31) : oI o = nI c ↔ o = some c := by
  cases o with
  | none =>
    constructor
    · intro q
      have h0 := nI_pos' hc
      rw [← q] at h0
      exact absurd h0 (by decide)
    · intro q; cases q
  | some n =>
    show nI n = nI c ↔ _
    rw [nI_eq (h n rfl) hc]
    simp
theorem dpN_le {T : Nat → Int32} {c : Nat} : ∀ (f : Nat) (o : Option Nat), dpN T c f o ≤ f
  | 0, _ => Nat.le_refl 0
  | f + 1, none => Nat.zero_le _
  | f + 1, some n => by
    have := dpN_le (T := T) (c := c) f (ooO T n)
    simp only [dpN]
    split <;> omega
theorem dpF_le {T : Nat → Int32} {r : Nat} : dpF T r ≤ 17 := by
  have := dpN_le (T := T) (c := ck T r) 16 (ooO T r)
  unfold dpF; omega
def psB (T : Nat → Int32) (c n : Nat) : Bool := decide (1 < so T n) || (decide (so T n = 1) && decide (ck T n = c))
def bkP (T : Nat → Int32) (n : Nat) (s : Int32) : Nat → Int32
  | 0 => s
  | k + 1 => bkP T n s k ||| bx (pt T n k)
def bkS (T : Nat → Int32) (c : Nat) (s : Int32) (n : Nat) : Int32 := if bt s n = true ∧ psB T c n = true then bkP T n s (hmF (so T n)) else s
def bkD (T : Nat → Int32) (c : Nat) : Nat → Int32 → Int32
  | 0, s => s
  | n + 1, s => bkD T c n (bkS T c s n)
def bkF (T : Nat → Int32) (c i : Nat) : Int32 := bkD T c (i + 1) (bx i)
def otO (T : Nat → Int32) (s : Int32) : Nat → Option Nat
  | 0 => none
  | k + 1 => if bt s k = true then some (ck T k) else otO T s k
def otB (T : Nat → Int32) (s : Int32) : Nat → Bool
  | 0 => true
  | k + 1 => if bt s k = true then (otB T s k && (decide (otO T s k = none) || decide (otO T s k = some (ck T k)))) else otB T s k
def hbB (T : Nat → Int32) (nd r : Nat) (b : Int32) (ot : Option Nat) : Nat → Bool
  | 0 => false
  | q + 1 => hbB T nd r b ot q || (bt b q && decide (so T q = 1) && decide (ck T q = ck T r) && safF T nd q && decide (ot = some (ck T (pt T q 0))))
def heldF (T : Nat → Int32) (nd r : Nat) : Bool := decide (so T (pt T r 0) = 5) && decide (srcF T (lvF T (pt T (pt T r 0) 0)) = bx (ck T r)) && hbB T nd r (bkF T (ck T r) (pt T (pt T r 0) 0)) (otO T (frF T r) (nN T)) (nN T) && otB T (frF T r) (nN T)
def kdO (T : Nat → Int32) (nd r : Nat) : Option Nat := if frF T r = 0 then none else if dirF T r = true then (if safF T nd r = true then some 0 else some 1) else if heldF T nd r = true then some 2 else some 3
def kaO (T : Nat → Int32) (nd n : Nat) : Option Nat := if so T n = 1 then kdO T nd n else none
theorem otO_ck {T : Nat → Int32} {s : Int32} : ∀ {k n : Nat}, otO T s k = some n → ∃ j, j < k ∧ n = ck T j
  | 0, _, h => by simp [otO] at h
  | k + 1, n, h => by
    simp only [otO] at h
    split at h
    · cases h; exact ⟨k, by omega, rfl⟩
    · obtain ⟨j, hj, e⟩ := otO_ck h
      exact ⟨j, by omega, e⟩
theorem otO_b {T : Nat → Int32} (hW : WF T) {s : Int32} {k : Nat} (hk : k ≤ nN T) : ∀ n, otO T s k = some n → n < 2 ^ 31 := by
  intro n h
  obtain ⟨j, hj, rfl⟩ := otO_ck h
  have := hW.ck2 (n := j) (by omega)
  omega
theorem kdO_le {T : Nat → Int32} {nd r n : Nat} (h : kdO T nd r = some n) : n ≤ 3 := by
  unfold kdO at h
  split at h
  · cases h
  · split at h <;> split at h <;> cases h <;> omega
theorem kaO_le {T : Nat → Int32} {nd r n : Nat} (h : kaO T nd r = some n) : n ≤ 3 := by
  unfold kaO at h
  split at h
  · exact kdO_le h
  · cases h
end
section
section R15
variable {M M0 : vM} {T : Nat → Int32}
set_option maxRecDepth 100000 in
theorem l_only (hM : M 61 = T) (hW : WF T) {r : Nat} (hr : r < 16) (d : Nat) : ∀ (n : Nat), n + d = nN T → V kX4_onlyOne (rt (.int (oI (ooO T r))) M) M 8 [(0, .ref 60), (1, .int (nI r)), (2, .int (oI (ooI T r n))), (3, .int (nI (ooT T r n))), (4, .int (nI n))] [] := by
  have h16 := hW.n16
  induction d with
  | zero =>
    intro n hk 
    refine v_iload dX4_onlyOne_8 rfl ?_
    refine v_aload_n dX4_onlyOne_10 rfl ?_
    refine v_callVr (x := .int (nI (nN T))) (M1 := M) (as := []) (st := [.int (nI n)]) dX4_onlyOne_11 ml_X4_52 kv_X4_many ⟨by decide, rfl, by decide⟩ ⟨(Nat.le_of_ble_eq_true rfl), (Nat.le_of_ble_eq_true rfl)⟩ rfl (Nat.le_of_ble_eq_true rfl) rfl (Nat.le_of_ble_eq_true rfl) (c_many hM hW) ?_
    refine v_icmpN_ge (tgt := 50) dX4_onlyOne_14 (by decide) (by omega) (by omega) (fun c14 => ?_) (fun c14 => (by omega))
    refine v_iload_n dX4_onlyOne_50 rfl ?_
    refine v_iconst (v := (nI 1)) dX4_onlyOne_51 rfl ?_
    refine v_icmpN_ne (tgt := 59) dX4_onlyOne_52 (by decide) (by have := ooT_le (T := T) (r := r) n; omega) (by omega) (fun c52 => ?_) (fun c52 => ?_)
    · refine v_bipush (v := (-9)) dX4_onlyOne_59 (by decide) ?_
      refine v_iret dX4_onlyOne_61 rfl ?_
      refine ⟨?_, rfl⟩
      simp [ooO, oI, show nN T = n by omega, *]
    · refine v_iload_n dX4_onlyOne_55 rfl ?_
      refine v_goto (tgt := 61) dX4_onlyOne_56 (by decide) ?_
      refine v_iret dX4_onlyOne_61 rfl ?_
      refine ⟨?_, rfl⟩
      simp [ooO, oI, show nN T = n by omega, *]
  | succ d ih =>
    intro n hk 
    refine v_iload dX4_onlyOne_8 rfl ?_
    refine v_aload_n dX4_onlyOne_10 rfl ?_
    refine v_callVr (x := .int (nI (nN T))) (M1 := M) (as := []) (st := [.int (nI n)]) dX4_onlyOne_11 ml_X4_52 kv_X4_many ⟨by decide, rfl, by decide⟩ ⟨(Nat.le_of_ble_eq_true rfl), (Nat.le_of_ble_eq_true rfl)⟩ rfl (Nat.le_of_ble_eq_true rfl) rfl (Nat.le_of_ble_eq_true rfl) (c_many hM hW) ?_
    refine v_icmpN_ge (tgt := 50) dX4_onlyOne_14 (by decide) (by omega) (by omega) (fun c14 => (by omega)) (fun c14 => ?_)
    refine v_aload_n dX4_onlyOne_17 rfl ?_
    refine v_iload dX4_onlyOne_18 rfl ?_
    refine v_iload_n dX4_onlyOne_20 rfl ?_
    refine v_callVr (x := .int (nI (oft T n r))) (M1 := M) (as := [.int (nI n), .int (nI r)]) (st := []) dX4_onlyOne_21 ml_X4_94 kv_X4_often ⟨by decide, rfl, by decide⟩ ⟨(Nat.le_of_ble_eq_true rfl), (Nat.le_of_ble_eq_true rfl)⟩ rfl (Nat.le_of_ble_eq_true rfl) rfl (Nat.le_of_ble_eq_true rfl) (c_often hM hW (by omega) (by omega)) ?_
    refine v_ifN_le (tgt := 32) dX4_onlyOne_24 (by decide) (by have := oft_le (T := T) (n := n) (r := r); omega) (fun c24 => ?_) (fun c24 => ?_)
    · refine v_iload_n dX4_onlyOne_32 rfl ?_
      refine v_top (y := (oI (ooI T r (n + 1)))) (by simp [ooI, oI, c24, Nat.pos_iff_ne_zero]) ?_
      refine v_istore_n (lv' := [(0, .ref 60), (1, .int (nI r)), (2, .int (oI (ooI T r (n + 1)))), (3, .int (nI (ooT T r n))), (4, .int (nI n))]) dX4_onlyOne_33 (Nat.le_of_ble_eq_true rfl) rfl ?_
      refine v_iload_n dX4_onlyOne_34 rfl ?_
      refine v_aload_n dX4_onlyOne_35 rfl ?_
      refine v_iload dX4_onlyOne_36 rfl ?_
      refine v_iload_n dX4_onlyOne_38 rfl ?_
      refine v_callVr (x := .int (nI (oft T n r))) (M1 := M) (as := [.int (nI n), .int (nI r)]) (st := [.int (nI (ooT T r n))]) dX4_onlyOne_39 ml_X4_94 kv_X4_often ⟨by decide, rfl, by decide⟩ ⟨(Nat.le_of_ble_eq_true rfl), (Nat.le_of_ble_eq_true rfl)⟩ rfl (Nat.le_of_ble_eq_true rfl) rfl (Nat.le_of_ble_eq_true rfl) (c_often hM hW (by omega) (by omega)) ?_
      refine v_iaddN dX4_onlyOne_42 ?_
      refine v_top (y := (nI (ooT T r (n + 1)))) (rfl) ?_
      refine v_istore_n (lv' := [(0, .ref 60), (1, .int (nI r)), (2, .int (oI (ooI T r (n + 1)))), (3, .int (nI (ooT T r (n + 1)))), (4, .int (nI n))]) dX4_onlyOne_43 (Nat.le_of_ble_eq_true rfl) rfl ?_
      refine v_iincN (lv' := [(0, .ref 60), (1, .int (nI r)), (2, .int (oI (ooI T r (n + 1)))), (3, .int (nI (ooT T r (n + 1)))), (4, .int (nI (n + 1)))]) dX4_onlyOne_44 rfl (Nat.le_of_ble_eq_true rfl) rfl ?_
      refine v_goto (tgt := 8) dX4_onlyOne_47 (by decide) ?_
      exact ih (n + 1) (by omega)
    · refine v_iload dX4_onlyOne_27 rfl ?_
      refine v_goto (tgt := 33) dX4_onlyOne_29 (by decide) ?_
      refine v_top (y := (oI (ooI T r (n + 1)))) (by simp [ooI, oI, c24, Nat.pos_iff_ne_zero]) ?_
      refine v_istore_n (lv' := [(0, .ref 60), (1, .int (nI r)), (2, .int (oI (ooI T r (n + 1)))), (3, .int (nI (ooT T r n))), (4, .int (nI n))]) dX4_onlyOne_33 (Nat.le_of_ble_eq_true rfl) rfl ?_
      refine v_iload_n dX4_onlyOne_34 rfl ?_
      refine v_aload_n dX4_onlyOne_35 rfl ?_
      refine v_iload dX4_onlyOne_36 rfl ?_
      refine v_iload_n dX4_onlyOne_38 rfl ?_
      refine v_callVr (x := .int (nI (oft T n r))) (M1 := M) (as := [.int (nI n), .int (nI r)]) (st := [.int (nI (ooT T r n))]) dX4_onlyOne_39 ml_X4_94 kv_X4_often ⟨by decide, rfl, by decide⟩ ⟨(Nat.le_of_ble_eq_true rfl), (Nat.le_of_ble_eq_true rfl)⟩ rfl (Nat.le_of_ble_eq_true rfl) rfl (Nat.le_of_ble_eq_true rfl) (c_often hM hW (by omega) (by omega)) ?_
      refine v_iaddN dX4_onlyOne_42 ?_
      refine v_top (y := (nI (ooT T r (n + 1)))) (rfl) ?_
      refine v_istore_n (lv' := [(0, .ref 60), (1, .int (nI r)), (2, .int (oI (ooI T r (n + 1)))), (3, .int (nI (ooT T r (n + 1)))), (4, .int (nI n))]) dX4_onlyOne_43 (Nat.le_of_ble_eq_true rfl) rfl ?_
      refine v_iincN (lv' := [(0, .ref 60), (1, .int (nI r)), (2, .int (oI (ooI T r (n + 1)))), (3, .int (nI (ooT T r (n + 1)))), (4, .int (nI (n + 1)))]) dX4_onlyOne_44 rfl (Nat.le_of_ble_eq_true rfl) rfl ?_
      refine v_goto (tgt := 8) dX4_onlyOne_47 (by decide) ?_
      exact ih (n + 1) (by omega)
set_option maxRecDepth 100000 in
theorem c_onlyOne (hM : M 61 = T) (hW : WF T) {r : Nat} (hr : r < 16) : V kX4_onlyOne (rt (.int (oI (ooO T r))) M) M 0 [(0, .ref 60), (1, .int (nI r))] [] := by
  have h16 := hW.n16
  refine v_bipush (v := (-9)) dX4_onlyOne_0 (by decide) ?_
  refine v_istore_n (lv' := [(0, .ref 60), (1, .int (nI r)), (2, .int ((-9)))]) dX4_onlyOne_2 (Nat.le_of_ble_eq_true rfl) rfl ?_
  refine v_iconst (v := (nI 0)) dX4_onlyOne_3 rfl ?_
  refine v_istore_n (lv' := [(0, .ref 60), (1, .int (nI r)), (2, .int ((-9))), (3, .int (nI 0))]) dX4_onlyOne_4 (Nat.le_of_ble_eq_true rfl) rfl ?_
  refine v_iconst (v := (nI 0)) dX4_onlyOne_5 rfl ?_
  refine v_istore (lv' := [(0, .ref 60), (1, .int (nI r)), (2, .int ((-9))), (3, .int (nI 0)), (4, .int (nI 0))]) dX4_onlyOne_6 (Nat.le_of_ble_eq_true rfl) rfl ?_
  exact l_only hM hW hr (nN T) 0 (by omega)
set_option maxRecDepth 100000 in
theorem l_depth (hM : M 61 = T) (hW : WF T) {r : Nat} (hr : r < nN T) (d : Nat) : ∀ (dp : Nat) (nx : Option Nat), (∀ n, nx = some n → n < nN T ∧ nN T - n ≤ d) → V kX4_depth (rt (.int (nI (dp + dpN T (ck T r) d nx))) M) M 8 [(0, .ref 60), (1, .int (nI r)), (2, .int (nI dp)), (3, .int (oI nx))] [] := by
  have h16 := hW.n16
  induction d with
  | zero =>
    intro dp nx hnx
    cases nx with
    | some n => have := hnx n rfl; omega
    | none =>
      refine v_iload_n dX4_depth_8 rfl ?_
      refine v_bipush (v := (-9)) dX4_depth_9 (by decide) ?_
      refine v_icmp_eq (tgt := 48) dX4_depth_11 (by decide) (fun c11 => ?_) (fun c11 => (absurd rfl c11))
      refine v_iload_n dX4_depth_48 rfl ?_
      refine v_iret dX4_depth_49 rfl ?_
      refine ⟨?_, rfl⟩
      rfl
  | succ d ih =>
    intro dp nx hnx
    cases nx with
    | none =>
      refine v_iload_n dX4_depth_8 rfl ?_
      refine v_bipush (v := (-9)) dX4_depth_9 (by decide) ?_
      refine v_icmp_eq (tgt := 48) dX4_depth_11 (by decide) (fun c11 => ?_) (fun c11 => (absurd rfl c11))
      refine v_iload_n dX4_depth_48 rfl ?_
      refine v_iret dX4_depth_49 rfl ?_
      refine ⟨?_, rfl⟩
      cases d <;> rfl
    | some n =>
      have hn := hnx n rfl
      show V kX4_depth _ M 8 [(0, .ref 60), (1, .int (nI r)), (2, .int (nI dp)), (3, .int (nI n))] []
      refine v_iload_n dX4_depth_8 rfl ?_
      refine v_bipush (v := (-9)) dX4_depth_9 (by decide) ?_
      refine v_icmp_eq (tgt := 48) dX4_depth_11 (by decide) (fun c11 => (absurd c11 (fun q => by have := (oI_none (o := some n) (by intro m hm; cases hm; omega)).mp q; cases this))) (fun c11 => ?_)
      refine v_aload_n dX4_depth_14 rfl ?_
      refine v_iload_n dX4_depth_15 rfl ?_
      refine v_callVr (x := .int (nI (so T n))) (M1 := M) (as := [.int (nI n)]) (st := []) dX4_depth_16 ml_X4_64 kv_X4_sort ⟨by decide, rfl, by decide⟩ ⟨(Nat.le_of_ble_eq_true rfl), (Nat.le_of_ble_eq_true rfl)⟩ rfl (Nat.le_of_ble_eq_true rfl) rfl (Nat.le_of_ble_eq_true rfl) (c_sort hM hW (by omega)) ?_
      refine v_iconst (v := (nI 1)) dX4_depth_19 rfl ?_
      refine v_icmpN_ne (tgt := 48) dX4_depth_20 (by decide) (by have := hW.so5 (n := n) (by omega); omega) (by omega) (fun c20 => ?_) (fun c20 => ?_)
      · refine v_iload_n dX4_depth_48 rfl ?_
        refine v_iret dX4_depth_49 rfl ?_
        refine ⟨?_, rfl⟩
        simp [dpN, *]
      · refine v_aload_n dX4_depth_23 rfl ?_
        refine v_iload_n dX4_depth_24 rfl ?_
        refine v_callVr (x := .int (nI (ck T n))) (M1 := M) (as := [.int (nI n)]) (st := []) dX4_depth_25 ml_X4_88 kv_X4_clock ⟨by decide, rfl, by decide⟩ ⟨(Nat.le_of_ble_eq_true rfl), (Nat.le_of_ble_eq_true rfl)⟩ rfl (Nat.le_of_ble_eq_true rfl) rfl (Nat.le_of_ble_eq_true rfl) (c_clock hM hW (by omega)) ?_
        refine v_aload_n dX4_depth_28 rfl ?_
        refine v_iload_n dX4_depth_29 rfl ?_
        refine v_callVr (x := .int (nI (ck T r))) (M1 := M) (as := [.int (nI r)]) (st := [.int (nI (ck T n))]) dX4_depth_30 ml_X4_88 kv_X4_clock ⟨by decide, rfl, by decide⟩ ⟨(Nat.le_of_ble_eq_true rfl), (Nat.le_of_ble_eq_true rfl)⟩ rfl (Nat.le_of_ble_eq_true rfl) rfl (Nat.le_of_ble_eq_true rfl) (c_clock hM hW (by omega)) ?_
        refine v_icmpN_ne (tgt := 48) dX4_depth_33 (by decide) (by have := hW.ck2 (n := n) (by omega); omega) (by have := hW.ck2 (n := r) (by omega); omega) (fun c33 => ?_) (fun c33 => ?_)
        · refine v_iload_n dX4_depth_48 rfl ?_
          refine v_iret dX4_depth_49 rfl ?_
          refine ⟨?_, rfl⟩
          simp [dpN, *]
        · refine v_iincN (lv' := [(0, .ref 60), (1, .int (nI r)), (2, .int (nI (dp + 1))), (3, .int (nI n))]) dX4_depth_36 rfl (Nat.le_of_ble_eq_true rfl) rfl ?_
          refine v_aload_n dX4_depth_39 rfl ?_
          refine v_iload_n dX4_depth_40 rfl ?_
          refine v_callVr (x := .int (oI (ooO T n))) (M1 := M) (as := [.int (nI n)]) (st := []) dX4_depth_41 ml_X4_97 kv_X4_onlyOne ⟨by decide, rfl, by decide⟩ ⟨(Nat.le_of_ble_eq_true rfl), (Nat.le_of_ble_eq_true rfl)⟩ rfl (Nat.le_of_ble_eq_true rfl) rfl (Nat.le_of_ble_eq_true rfl) (c_onlyOne hM hW (by omega)) ?_
          refine v_istore_n (lv' := [(0, .ref 60), (1, .int (nI r)), (2, .int (nI (dp + 1))), (3, .int (oI (ooO T n)))]) dX4_depth_44 (Nat.le_of_ble_eq_true rfl) rfl ?_
          refine v_goto (tgt := 8) dX4_depth_45 (by decide) ?_
          have e : dp + dpN T (ck T r) (d + 1) (some n) = dp + 1 + dpN T (ck T r) d (ooO T n) := by
            simp only [dpN]
            rw [if_pos ⟨c20, c33⟩]
            omega
          rw [e]
          exact ih (dp + 1) (ooO T n) (fun m hm => by have := ooO_lt hW hm; omega)
set_option maxRecDepth 100000 in
theorem c_depth (hM : M 61 = T) (hW : WF T) {r : Nat} (hr : r < nN T) : V kX4_depth (rt (.int (nI (dpF T r))) M) M 0 [(0, .ref 60), (1, .int (nI r))] [] := by
  have h16 := hW.n16
  refine v_iconst (v := (nI 1)) dX4_depth_0 rfl ?_
  refine v_istore_n (lv' := [(0, .ref 60), (1, .int (nI r)), (2, .int (nI 1))]) dX4_depth_1 (Nat.le_of_ble_eq_true rfl) rfl ?_
  refine v_aload_n dX4_depth_2 rfl ?_
  refine v_iload_n dX4_depth_3 rfl ?_
  refine v_callVr (x := .int (oI (ooO T r))) (M1 := M) (as := [.int (nI r)]) (st := []) dX4_depth_4 ml_X4_97 kv_X4_onlyOne ⟨by decide, rfl, by decide⟩ ⟨(Nat.le_of_ble_eq_true rfl), (Nat.le_of_ble_eq_true rfl)⟩ rfl (Nat.le_of_ble_eq_true rfl) rfl (Nat.le_of_ble_eq_true rfl) (c_onlyOne hM hW (by omega)) ?_
  refine v_istore_n (lv' := [(0, .ref 60), (1, .int (nI r)), (2, .int (nI 1)), (3, .int (oI (ooO T r)))]) dX4_depth_7 (Nat.le_of_ble_eq_true rfl) rfl ?_
  exact l_depth hM hW hr 16 1 (ooO T r) (fun m hm => by have := ooO_lt hW hm; omega)
set_option maxRecDepth 100000 in
theorem c_isSafe {nd : Nat} (hs : sc M0 M) (hM : M0 61 = T) (hW : WF T) (hnd : M0 63 0 = nI nd) (hnb : nd < 2 ^ 31) {r : Nat} (hr : r < nN T) (h1 : so T r = 1) : V kX4_isSafe (rs (.int (bI (safF T nd r = true))) M0) M 0 [(0, .ref 60), (1, .int (nI r))] [] := by
  have h16 := hW.n16
  refine v_aload_n dX4_isSafe_0 rfl ?_
  refine v_iload_n dX4_isSafe_1 rfl ?_
  refine v_callV (as := [.int (nI r)]) (st := []) dX4_isSafe_2 ml_X4_100 kv_X4_isDirect ⟨by decide, rfl, by decide⟩ ⟨(Nat.le_of_ble_eq_true rfl), (Nat.le_of_ble_eq_true rfl)⟩ rfl (Nat.le_of_ble_eq_true rfl) rfl (Nat.le_of_ble_eq_true rfl) (c_isDirect hs hM hW (by omega) (by assumption)) (fun v M hq => ?_)
  obtain ⟨rfl, hs⟩ := hq
  refine v_ifB_eq (tgt := 26) dX4_isSafe_5 (by decide) (fun c5 => ?_) (fun c5 => ?_)
  · refine v_iconst (v := (nI 0)) dX4_isSafe_26 rfl ?_
    refine v_zret dX4_isSafe_27 rfl (Or.inl rfl) ?_
    refine ⟨?_, hs⟩
    rw [bI_f (by simp [safF, *])]; rfl
  · refine v_aload_n dX4_isSafe_8 rfl ?_
    refine v_iload_n dX4_isSafe_9 rfl ?_
    refine v_callVr (x := .int (nI (dpF T r))) (M1 := M) (as := [.int (nI r)]) (st := []) dX4_isSafe_10 ml_X4_103 kv_X4_depth ⟨by decide, rfl, by decide⟩ ⟨(Nat.le_of_ble_eq_true rfl), (Nat.le_of_ble_eq_true rfl)⟩ rfl (Nat.le_of_ble_eq_true rfl) rfl (Nat.le_of_ble_eq_true rfl) (c_depth (scT hs hM) hW (by omega)) ?_
    refine v_aload_n dX4_isSafe_13 rfl ?_
    refine v_getR (t := 63) dX4_isSafe_14 fl_X4_16 ⟨by decide, rfl, by decide⟩ rfl rfl ?_
    refine v_iconst (v := (nI 0)) dX4_isSafe_17 rfl ?_
    refine v_iald2 (n := 36) (a := 0) (y := (nI nd)) dX4_isSafe_18 ⟨by decide, rfl, rfl⟩ (rfl) (by omega) ((congrFun (hs 63 (by decide)) 0).trans hnd) ?_
    refine v_icmpN_lt (tgt := 26) dX4_isSafe_19 (by decide) (by have := dpF_le (T := T) (r := r); omega) (by omega) (fun c19 => ?_) (fun c19 => ?_)
    · refine v_iconst (v := (nI 0)) dX4_isSafe_26 rfl ?_
      refine v_zret dX4_isSafe_27 rfl (Or.inl rfl) ?_
      refine ⟨?_, hs⟩
      rw [bI_f (by simp [safF, *])]; rfl
    · refine v_iconst (v := (nI 1)) dX4_isSafe_22 rfl ?_
      refine v_goto (tgt := 27) dX4_isSafe_23 (by decide) ?_
      refine v_zret dX4_isSafe_27 rfl (Or.inr rfl) ?_
      refine ⟨?_, hs⟩
      rw [bI_t (by simp [safF, *])]; rfl
set_option maxRecDepth 100000 in
theorem l_bk1 (hM : M 61 = T) (hW : WF T) {Q : Option Value → vM → Prop} {i c n : Nat} {s : Int32} (hn : n < nN T) (post : V kX4_backFrom Q M 86 [(0, .ref 60), (1, .int (nI i)), (2, .int (nI c)), (3, .int (bkP T n s (hmF (so T n)))), (4, .int (nI n))] []) (d : Nat) : ∀ (k : Nat), k + d = hmF (so T n) → V kX4_backFrom (Q) M 53 [(0, .ref 60), (1, .int (nI i)), (2, .int (nI c)), (3, .int (bkP T n s k)), (4, .int (nI n)), (5, .int (nI k))] [] := by
  have h16 := hW.n16
  induction d with
  | zero =>
    intro k hk 
    refine v_iload dX4_backFrom_53 rfl ?_
    refine v_aload_n dX4_backFrom_55 rfl ?_
    refine v_iload dX4_backFrom_56 rfl ?_
    refine v_callVr (x := .int (nI (so T n))) (M1 := M) (as := [.int (nI n)]) (st := [.int (nI k)]) dX4_backFrom_58 ml_X4_64 kv_X4_sort ⟨by decide, rfl, by decide⟩ ⟨(Nat.le_of_ble_eq_true rfl), (Nat.le_of_ble_eq_true rfl)⟩ rfl (Nat.le_of_ble_eq_true rfl) rfl (Nat.le_of_ble_eq_true rfl) (c_sort hM hW (by omega)) ?_
    refine v_callSr (x := .int (nI (hmF (so T n)))) (M1 := M) (as := [.int (nI (so T n))]) (st := [.int (nI k)]) dX4_backFrom_61 ml_X4_68 ks_X4_hasMany ⟨(Nat.le_of_ble_eq_true rfl), (Nat.le_of_ble_eq_true rfl)⟩ rfl (Nat.le_of_ble_eq_true rfl) rfl (Nat.le_of_ble_eq_true rfl) (c_hasMany (by have := hW.so5 (n := n) (by omega); omega)) ?_
    refine v_icmpN_ge (tgt := 86) dX4_backFrom_64 (by decide) (by have := hmF_le (so T n); omega) (by have := hmF_le (so T n); omega) (fun c64 => ?_) (fun c64 => (by omega))
    refine v_sub (lv' := [(0, .ref 60), (1, .int (nI i)), (2, .int (nI c)), (3, .int (bkP T n s k)), (4, .int (nI n))]) (by intro q hq; simp at hq; rcases hq with rfl | rfl | rfl | rfl | rfl <;> rfl) ?_
    rw [show k = hmF (so T n) by omega]
    exact post
  | succ d ih =>
    intro k hk 
    refine v_iload dX4_backFrom_53 rfl ?_
    refine v_aload_n dX4_backFrom_55 rfl ?_
    refine v_iload dX4_backFrom_56 rfl ?_
    refine v_callVr (x := .int (nI (so T n))) (M1 := M) (as := [.int (nI n)]) (st := [.int (nI k)]) dX4_backFrom_58 ml_X4_64 kv_X4_sort ⟨by decide, rfl, by decide⟩ ⟨(Nat.le_of_ble_eq_true rfl), (Nat.le_of_ble_eq_true rfl)⟩ rfl (Nat.le_of_ble_eq_true rfl) rfl (Nat.le_of_ble_eq_true rfl) (c_sort hM hW (by omega)) ?_
    refine v_callSr (x := .int (nI (hmF (so T n)))) (M1 := M) (as := [.int (nI (so T n))]) (st := [.int (nI k)]) dX4_backFrom_61 ml_X4_68 ks_X4_hasMany ⟨(Nat.le_of_ble_eq_true rfl), (Nat.le_of_ble_eq_true rfl)⟩ rfl (Nat.le_of_ble_eq_true rfl) rfl (Nat.le_of_ble_eq_true rfl) (c_hasMany (by have := hW.so5 (n := n) (by omega); omega)) ?_
    refine v_icmpN_ge (tgt := 86) dX4_backFrom_64 (by decide) (by have := hmF_le (so T n); omega) (by have := hmF_le (so T n); omega) (fun c64 => (by omega)) (fun c64 => ?_)
    refine v_iload_n dX4_backFrom_67 rfl ?_
    refine v_iconst (v := (nI 1)) dX4_backFrom_68 rfl ?_
    refine v_aload_n dX4_backFrom_69 rfl ?_
    refine v_iload dX4_backFrom_70 rfl ?_
    refine v_iload dX4_backFrom_72 rfl ?_
    refine v_callVr (x := .int (nI (pt T n k))) (M1 := M) (as := [.int (nI n), .int (nI k)]) (st := [.int (nI 1), .int (bkP T n s k)]) dX4_backFrom_74 ml_X4_71 kv_X4_of ⟨by decide, rfl, by decide⟩ ⟨(Nat.le_of_ble_eq_true rfl), (Nat.le_of_ble_eq_true rfl)⟩ rfl (Nat.le_of_ble_eq_true rfl) rfl (Nat.le_of_ble_eq_true rfl) (c_of hM hW (by omega) (by omega)) ?_
    refine v_ishl dX4_backFrom_77 ?_
    refine v_ior dX4_backFrom_78 ?_
    refine v_top (y := (bkP T n s (k + 1))) (rfl) ?_
    refine v_istore_n (lv' := [(0, .ref 60), (1, .int (nI i)), (2, .int (nI c)), (3, .int (bkP T n s (k + 1))), (4, .int (nI n)), (5, .int (nI k))]) dX4_backFrom_79 (Nat.le_of_ble_eq_true rfl) rfl ?_
    refine v_iincN (lv' := [(0, .ref 60), (1, .int (nI i)), (2, .int (nI c)), (3, .int (bkP T n s (k + 1))), (4, .int (nI n)), (5, .int (nI (k + 1)))]) dX4_backFrom_80 rfl (Nat.le_of_ble_eq_true rfl) rfl ?_
    refine v_goto (tgt := 53) dX4_backFrom_83 (by decide) ?_
    exact ih (k + 1) (by omega)
set_option maxRecDepth 100000 in
theorem l_bk (hM : M 61 = T) (hW : WF T) {i c : Nat} (hc : c < 2 ^ 31) (d : Nat) : ∀ (s : Int32), d ≤ nN T → V kX4_backFrom (rt (.int (bkD T c d s)) M) M 7 [(0, .ref 60), (1, .int (nI i)), (2, .int (nI c)), (3, .int s), (4, .int (nI d - 1))] [] := by
  have h16 := hW.n16
  induction d with
  | zero =>
    intro s hd
    refine v_iload dX4_backFrom_7 rfl ?_
    refine v_if_lt (tgt := 92) dX4_backFrom_9 (by decide) (fun c9 => ?_) (fun c9 => (absurd (by decide) c9))
    refine v_iload_n dX4_backFrom_92 rfl ?_
    refine v_iret dX4_backFrom_93 rfl ?_
    exact ⟨rfl, rfl⟩
  | succ d ih =>
    intro s hd
    rw [nI_pred]
    refine v_iload dX4_backFrom_7 rfl ?_
    refine v_ifN_lt (tgt := 92) dX4_backFrom_9 (by decide) (by omega) ?_
    refine v_iload_n dX4_backFrom_12 rfl ?_
    refine v_iload dX4_backFrom_13 rfl ?_
    refine v_callSr (x := .int (bI (bt s d = true))) (M1 := M) (as := [.int s, .int (nI d)]) (st := []) dX4_backFrom_15 ml_X4_84 ks_X4_has ⟨(Nat.le_of_ble_eq_true rfl), (Nat.le_of_ble_eq_true rfl)⟩ rfl (Nat.le_of_ble_eq_true rfl) rfl (Nat.le_of_ble_eq_true rfl) (c_has _ (by omega)) ?_
    refine v_ifB_eq (tgt := 86) dX4_backFrom_18 (by decide) (fun c18 => ?_) (fun c18 => ?_)
    · refine v_iinc (v := ((nI d)) + (-1)) (lv' := [(0, .ref 60), (1, .int (nI i)), (2, .int (nI c)), (3, .int s), (4, .int (((nI d)) + (-1)))]) dX4_backFrom_86 rfl rfl (Nat.le_of_ble_eq_true rfl) rfl ?_
      refine v_goto (tgt := 7) dX4_backFrom_89 (by decide) ?_
      rw [dec_sub]
      have e : bkD T c (d + 1) s = bkD T c d (s) := by simp only [bkD]; congr 1; exact if_neg (fun q => by obtain ⟨q1, q2⟩ := q; first | exact c18 q1 | (simp [psB] at q2; omega))
      rw [e]
      exact ih _ (by omega)
    · refine v_aload_n dX4_backFrom_21 rfl ?_
      refine v_iload dX4_backFrom_22 rfl ?_
      refine v_callVr (x := .int (bI (so T d ≤ 1))) (M1 := M) (as := [.int (nI d)]) (st := []) dX4_backFrom_24 ml_X4_75 kv_X4_isLeaf ⟨by decide, rfl, by decide⟩ ⟨(Nat.le_of_ble_eq_true rfl), (Nat.le_of_ble_eq_true rfl)⟩ rfl (Nat.le_of_ble_eq_true rfl) rfl (Nat.le_of_ble_eq_true rfl) (c_isLeaf hM hW (by omega)) ?_
      refine v_ifB_eq (tgt := 50) dX4_backFrom_27 (by decide) (fun c27 => ?_) (fun c27 => ?_)
      · refine v_iconst (v := (nI 0)) dX4_backFrom_50 rfl ?_
        refine v_istore (lv' := [(0, .ref 60), (1, .int (nI i)), (2, .int (nI c)), (3, .int s), (4, .int (nI d)), (5, .int (nI 0))]) dX4_backFrom_51 (Nat.le_of_ble_eq_true rfl) rfl ?_
        refine l_bk1 hM hW (s := s) (by omega) ?_ (hmF (so T d)) 0 (by omega)
        refine v_iinc (v := ((nI d)) + (-1)) (lv' := [(0, .ref 60), (1, .int (nI i)), (2, .int (nI c)), (3, .int (bkP T d s (hmF (so T d)))), (4, .int (((nI d)) + (-1)))]) dX4_backFrom_86 rfl rfl (Nat.le_of_ble_eq_true rfl) rfl ?_
        refine v_goto (tgt := 7) dX4_backFrom_89 (by decide) ?_
        rw [dec_sub]
        have e : bkD T c (d + 1) s = bkD T c d ((bkP T d s (hmF (so T d)))) := by simp only [bkD]; congr 1; exact if_pos ⟨c18, by simp [psB]; omega⟩
        rw [e]
        exact ih _ (by omega)
      · refine v_aload_n dX4_backFrom_30 rfl ?_
        refine v_iload dX4_backFrom_31 rfl ?_
        refine v_callVr (x := .int (nI (so T d))) (M1 := M) (as := [.int (nI d)]) (st := []) dX4_backFrom_33 ml_X4_64 kv_X4_sort ⟨by decide, rfl, by decide⟩ ⟨(Nat.le_of_ble_eq_true rfl), (Nat.le_of_ble_eq_true rfl)⟩ rfl (Nat.le_of_ble_eq_true rfl) rfl (Nat.le_of_ble_eq_true rfl) (c_sort hM hW (by omega)) ?_
        refine v_iconst (v := (nI 1)) dX4_backFrom_36 rfl ?_
        refine v_icmpN_ne (tgt := 86) dX4_backFrom_37 (by decide) (by have := hW.so5 (n := d) (by omega); omega) (by omega) (fun c37 => ?_) (fun c37 => ?_)
        · refine v_iinc (v := ((nI d)) + (-1)) (lv' := [(0, .ref 60), (1, .int (nI i)), (2, .int (nI c)), (3, .int s), (4, .int (((nI d)) + (-1)))]) dX4_backFrom_86 rfl rfl (Nat.le_of_ble_eq_true rfl) rfl ?_
          refine v_goto (tgt := 7) dX4_backFrom_89 (by decide) ?_
          rw [dec_sub]
          have e : bkD T c (d + 1) s = bkD T c d (s) := by simp only [bkD]; congr 1; exact if_neg (fun q => by obtain ⟨q1, q2⟩ := q; first | exact c18 q1 | (simp [psB] at q2; omega))
          rw [e]
          exact ih _ (by omega)
        · refine v_aload_n dX4_backFrom_40 rfl ?_
          refine v_iload dX4_backFrom_41 rfl ?_
          refine v_callVr (x := .int (nI (ck T d))) (M1 := M) (as := [.int (nI d)]) (st := []) dX4_backFrom_43 ml_X4_88 kv_X4_clock ⟨by decide, rfl, by decide⟩ ⟨(Nat.le_of_ble_eq_true rfl), (Nat.le_of_ble_eq_true rfl)⟩ rfl (Nat.le_of_ble_eq_true rfl) rfl (Nat.le_of_ble_eq_true rfl) (c_clock hM hW (by omega)) ?_
          refine v_iload_n dX4_backFrom_46 rfl ?_
          refine v_icmpN_ne (tgt := 86) dX4_backFrom_47 (by decide) (by have := hW.ck2 (n := d) (by omega); omega) (by omega) (fun c47 => ?_) (fun c47 => ?_)
          · refine v_iinc (v := ((nI d)) + (-1)) (lv' := [(0, .ref 60), (1, .int (nI i)), (2, .int (nI c)), (3, .int s), (4, .int (((nI d)) + (-1)))]) dX4_backFrom_86 rfl rfl (Nat.le_of_ble_eq_true rfl) rfl ?_
            refine v_goto (tgt := 7) dX4_backFrom_89 (by decide) ?_
            rw [dec_sub]
            have e : bkD T c (d + 1) s = bkD T c d (s) := by simp only [bkD]; congr 1; exact if_neg (fun q => by obtain ⟨q1, q2⟩ := q; first | exact c18 q1 | (simp [psB] at q2; omega))
            rw [e]
            exact ih _ (by omega)
          · refine v_iconst (v := (nI 0)) dX4_backFrom_50 rfl ?_
            refine v_istore (lv' := [(0, .ref 60), (1, .int (nI i)), (2, .int (nI c)), (3, .int s), (4, .int (nI d)), (5, .int (nI 0))]) dX4_backFrom_51 (Nat.le_of_ble_eq_true rfl) rfl ?_
            refine l_bk1 hM hW (s := s) (by omega) ?_ (hmF (so T d)) 0 (by omega)
            refine v_iinc (v := ((nI d)) + (-1)) (lv' := [(0, .ref 60), (1, .int (nI i)), (2, .int (nI c)), (3, .int (bkP T d s (hmF (so T d)))), (4, .int (((nI d)) + (-1)))]) dX4_backFrom_86 rfl rfl (Nat.le_of_ble_eq_true rfl) rfl ?_
            refine v_goto (tgt := 7) dX4_backFrom_89 (by decide) ?_
            rw [dec_sub]
            have e : bkD T c (d + 1) s = bkD T c d ((bkP T d s (hmF (so T d)))) := by simp only [bkD]; congr 1; exact if_pos ⟨c18, by simp [psB]; omega⟩
            rw [e]
            exact ih _ (by omega)
set_option maxRecDepth 100000 in
theorem c_backFrom (hM : M 61 = T) (hW : WF T) {i c : Nat} (hi : i < nN T) (hc : c < 2 ^ 31) : V kX4_backFrom (rt (.int (bkF T c i)) M) M 0 [(0, .ref 60), (1, .int (nI i)), (2, .int (nI c))] [] := by
  have h16 := hW.n16
  refine v_iconst (v := (nI 1)) dX4_backFrom_0 rfl ?_
  refine v_iload_n dX4_backFrom_1 rfl ?_
  refine v_ishl dX4_backFrom_2 ?_
  refine v_istore_n (lv' := [(0, .ref 60), (1, .int (nI i)), (2, .int (nI c)), (3, .int ((nI 1) <<< ((nI i) &&& 31)))]) dX4_backFrom_3 (Nat.le_of_ble_eq_true rfl) rfl ?_
  refine v_iload_n dX4_backFrom_4 rfl ?_
  refine v_istore (lv' := [(0, .ref 60), (1, .int (nI i)), (2, .int (nI c)), (3, .int ((nI 1) <<< ((nI i) &&& 31))), (4, .int (nI i))]) dX4_backFrom_5 (Nat.le_of_ble_eq_true rfl) rfl ?_
  have h := l_bk hM hW (i := i) hc (i + 1) (bx i) (by omega)
  rw [nI_pred] at h
  exact h
set_option maxRecDepth 100000 in
theorem l_held1 (hM : M 61 = T) (hW : WF T) {Q : Option Value → vM → Prop} {r : Nat} {s : Int32} (post : V kX4_isHeld Q M 116 [(0, .ref 60), (1, .int (nI r)), (2, .int (nI (pt T r 0))), (3, .int s), (4, .int (oI (otO T s (nN T)))), (5, .int (bI (otB T s (nN T) = true)))] []) (d : Nat) : ∀ (k : Nat), k + d = nN T → V kX4_isHeld (Q) M 54 [(0, .ref 60), (1, .int (nI r)), (2, .int (nI (pt T r 0))), (3, .int s), (4, .int (oI (otO T s k))), (5, .int (bI (otB T s k = true))), (6, .int (nI k))] [] := by
  have h16 := hW.n16
  induction d with
  | zero =>
    intro k hk 
    refine v_iload dX4_isHeld_54 rfl ?_
    refine v_aload_n dX4_isHeld_56 rfl ?_
    refine v_callVr (x := .int (nI (nN T))) (M1 := M) (as := []) (st := [.int (nI k)]) dX4_isHeld_57 ml_X4_52 kv_X4_many ⟨by decide, rfl, by decide⟩ ⟨(Nat.le_of_ble_eq_true rfl), (Nat.le_of_ble_eq_true rfl)⟩ rfl (Nat.le_of_ble_eq_true rfl) rfl (Nat.le_of_ble_eq_true rfl) (c_many hM hW) ?_
    refine v_icmpN_ge (tgt := 116) dX4_isHeld_60 (by decide) (by omega) (by omega) (fun c60 => ?_) (fun c60 => (by omega))
    refine v_sub (lv' := [(0, .ref 60), (1, .int (nI r)), (2, .int (nI (pt T r 0))), (3, .int s), (4, .int (oI (otO T s k))), (5, .int (bI (otB T s k = true)))]) (by intro q hq; simp at hq; rcases hq with rfl | rfl | rfl | rfl | rfl | rfl <;> rfl) ?_
    rw [show k = nN T by omega]
    exact post
  | succ d ih =>
    intro k hk 
    refine v_iload dX4_isHeld_54 rfl ?_
    refine v_aload_n dX4_isHeld_56 rfl ?_
    refine v_callVr (x := .int (nI (nN T))) (M1 := M) (as := []) (st := [.int (nI k)]) dX4_isHeld_57 ml_X4_52 kv_X4_many ⟨by decide, rfl, by decide⟩ ⟨(Nat.le_of_ble_eq_true rfl), (Nat.le_of_ble_eq_true rfl)⟩ rfl (Nat.le_of_ble_eq_true rfl) rfl (Nat.le_of_ble_eq_true rfl) (c_many hM hW) ?_
    refine v_icmpN_ge (tgt := 116) dX4_isHeld_60 (by decide) (by omega) (by omega) (fun c60 => (by omega)) (fun c60 => ?_)
    refine v_iload_n dX4_isHeld_63 rfl ?_
    refine v_iload dX4_isHeld_64 rfl ?_
    refine v_callSr (x := .int (bI (bt s k = true))) (M1 := M) (as := [.int s, .int (nI k)]) (st := []) dX4_isHeld_66 ml_X4_84 ks_X4_has ⟨(Nat.le_of_ble_eq_true rfl), (Nat.le_of_ble_eq_true rfl)⟩ rfl (Nat.le_of_ble_eq_true rfl) rfl (Nat.le_of_ble_eq_true rfl) (c_has _ (by omega)) ?_
    refine v_ifB_eq (tgt := 110) dX4_isHeld_69 (by decide) (fun c69 => ?_) (fun c69 => ?_)
    · have e1 : otO T s (k + 1) = otO T s k := by simp [otO, c69]
      have e2 : otB T s (k + 1) = otB T s k := by simp [otB, c69]
      rw [← e1, ← e2]
      refine v_iincN (lv' := [(0, .ref 60), (1, .int (nI r)), (2, .int (nI (pt T r 0))), (3, .int s), (4, .int (oI (otO T s (k + 1)))), (5, .int (bI (otB T s (k + 1) = true))), (6, .int (nI (k + 1)))]) dX4_isHeld_110 rfl (Nat.le_of_ble_eq_true rfl) rfl ?_
      refine v_goto (tgt := 54) dX4_isHeld_113 (by decide) ?_
      exact ih (k + 1) (by omega)
    · refine v_iload dX4_isHeld_72 rfl ?_
      refine v_ifB_eq (tgt := 99) dX4_isHeld_74 (by decide) (fun c74 => ?_) (fun c74 => ?_)
      · refine v_iconst (v := (nI 0)) dX4_isHeld_99 rfl ?_
        refine v_top (y := (bI (otB T s (k + 1) = true))) ((bI_f (by simp [otB, *])).symm) ?_
        refine v_istore (lv' := [(0, .ref 60), (1, .int (nI r)), (2, .int (nI (pt T r 0))), (3, .int s), (4, .int (oI (otO T s k))), (5, .int (bI (otB T s (k + 1) = true))), (6, .int (nI k))]) dX4_isHeld_100 (Nat.le_of_ble_eq_true rfl) rfl ?_
        refine v_aload_n dX4_isHeld_102 rfl ?_
        refine v_iload dX4_isHeld_103 rfl ?_
        refine v_callVr (x := .int (nI (ck T k))) (M1 := M) (as := [.int (nI k)]) (st := []) dX4_isHeld_105 ml_X4_88 kv_X4_clock ⟨by decide, rfl, by decide⟩ ⟨(Nat.le_of_ble_eq_true rfl), (Nat.le_of_ble_eq_true rfl)⟩ rfl (Nat.le_of_ble_eq_true rfl) rfl (Nat.le_of_ble_eq_true rfl) (c_clock hM hW (by omega)) ?_
        refine v_top (y := (oI (otO T s (k + 1)))) (by simp [otO, oI, c69]) ?_
        refine v_istore (lv' := [(0, .ref 60), (1, .int (nI r)), (2, .int (nI (pt T r 0))), (3, .int s), (4, .int (oI (otO T s (k + 1)))), (5, .int (bI (otB T s (k + 1) = true))), (6, .int (nI k))]) dX4_isHeld_108 (Nat.le_of_ble_eq_true rfl) rfl ?_
        refine v_iincN (lv' := [(0, .ref 60), (1, .int (nI r)), (2, .int (nI (pt T r 0))), (3, .int s), (4, .int (oI (otO T s (k + 1)))), (5, .int (bI (otB T s (k + 1) = true))), (6, .int (nI (k + 1)))]) dX4_isHeld_110 rfl (Nat.le_of_ble_eq_true rfl) rfl ?_
        refine v_goto (tgt := 54) dX4_isHeld_113 (by decide) ?_
        exact ih (k + 1) (by omega)
      · refine v_iload dX4_isHeld_77 rfl ?_
        refine v_bipush (v := (-9)) dX4_isHeld_79 (by decide) ?_
        refine v_icmp_eq (tgt := 95) dX4_isHeld_81 (by decide) (fun c81 => ?_) (fun c81 => ?_)
        · have e81 : otO T s k = none := (oI_none (otO_b hW (by omega))).mp c81
          refine v_iconst (v := (nI 1)) dX4_isHeld_95 rfl ?_
          refine v_goto (tgt := 100) dX4_isHeld_96 (by decide) ?_
          refine v_top (y := (bI (otB T s (k + 1) = true))) ((bI_t (by simp [otB, *])).symm) ?_
          refine v_istore (lv' := [(0, .ref 60), (1, .int (nI r)), (2, .int (nI (pt T r 0))), (3, .int s), (4, .int (oI (otO T s k))), (5, .int (bI (otB T s (k + 1) = true))), (6, .int (nI k))]) dX4_isHeld_100 (Nat.le_of_ble_eq_true rfl) rfl ?_
          refine v_aload_n dX4_isHeld_102 rfl ?_
          refine v_iload dX4_isHeld_103 rfl ?_
          refine v_callVr (x := .int (nI (ck T k))) (M1 := M) (as := [.int (nI k)]) (st := []) dX4_isHeld_105 ml_X4_88 kv_X4_clock ⟨by decide, rfl, by decide⟩ ⟨(Nat.le_of_ble_eq_true rfl), (Nat.le_of_ble_eq_true rfl)⟩ rfl (Nat.le_of_ble_eq_true rfl) rfl (Nat.le_of_ble_eq_true rfl) (c_clock hM hW (by omega)) ?_
          refine v_top (y := (oI (otO T s (k + 1)))) (by simp [otO, oI, c69]) ?_
          refine v_istore (lv' := [(0, .ref 60), (1, .int (nI r)), (2, .int (nI (pt T r 0))), (3, .int s), (4, .int (oI (otO T s (k + 1)))), (5, .int (bI (otB T s (k + 1) = true))), (6, .int (nI k))]) dX4_isHeld_108 (Nat.le_of_ble_eq_true rfl) rfl ?_
          refine v_iincN (lv' := [(0, .ref 60), (1, .int (nI r)), (2, .int (nI (pt T r 0))), (3, .int s), (4, .int (oI (otO T s (k + 1)))), (5, .int (bI (otB T s (k + 1) = true))), (6, .int (nI (k + 1)))]) dX4_isHeld_110 rfl (Nat.le_of_ble_eq_true rfl) rfl ?_
          refine v_goto (tgt := 54) dX4_isHeld_113 (by decide) ?_
          exact ih (k + 1) (by omega)
        · have e81 : ¬ otO T s k = none := fun q => c81 ((oI_none (otO_b hW (by omega))).mpr q)
          refine v_iload dX4_isHeld_84 rfl ?_
          refine v_aload_n dX4_isHeld_86 rfl ?_
          refine v_iload dX4_isHeld_87 rfl ?_
          refine v_callVr (x := .int (nI (ck T k))) (M1 := M) (as := [.int (nI k)]) (st := [.int (oI (otO T s k))]) dX4_isHeld_89 ml_X4_88 kv_X4_clock ⟨by decide, rfl, by decide⟩ ⟨(Nat.le_of_ble_eq_true rfl), (Nat.le_of_ble_eq_true rfl)⟩ rfl (Nat.le_of_ble_eq_true rfl) rfl (Nat.le_of_ble_eq_true rfl) (c_clock hM hW (by omega)) ?_
          refine v_icmp_ne (tgt := 99) dX4_isHeld_92 (by decide) (fun c92 => ?_) (fun c92 => ?_)
          · have e92 : ¬ otO T s k = some (ck T k) := fun q => c92 ((oI_some (otO_b hW (by omega)) (by have := hW.ck2 (n := k) (by omega); omega)).mpr q)
            refine v_iconst (v := (nI 0)) dX4_isHeld_99 rfl ?_
            refine v_top (y := (bI (otB T s (k + 1) = true))) ((bI_f (by simp [otB, *])).symm) ?_
            refine v_istore (lv' := [(0, .ref 60), (1, .int (nI r)), (2, .int (nI (pt T r 0))), (3, .int s), (4, .int (oI (otO T s k))), (5, .int (bI (otB T s (k + 1) = true))), (6, .int (nI k))]) dX4_isHeld_100 (Nat.le_of_ble_eq_true rfl) rfl ?_
            refine v_aload_n dX4_isHeld_102 rfl ?_
            refine v_iload dX4_isHeld_103 rfl ?_
            refine v_callVr (x := .int (nI (ck T k))) (M1 := M) (as := [.int (nI k)]) (st := []) dX4_isHeld_105 ml_X4_88 kv_X4_clock ⟨by decide, rfl, by decide⟩ ⟨(Nat.le_of_ble_eq_true rfl), (Nat.le_of_ble_eq_true rfl)⟩ rfl (Nat.le_of_ble_eq_true rfl) rfl (Nat.le_of_ble_eq_true rfl) (c_clock hM hW (by omega)) ?_
            refine v_top (y := (oI (otO T s (k + 1)))) (by simp [otO, oI, c69]) ?_
            refine v_istore (lv' := [(0, .ref 60), (1, .int (nI r)), (2, .int (nI (pt T r 0))), (3, .int s), (4, .int (oI (otO T s (k + 1)))), (5, .int (bI (otB T s (k + 1) = true))), (6, .int (nI k))]) dX4_isHeld_108 (Nat.le_of_ble_eq_true rfl) rfl ?_
            refine v_iincN (lv' := [(0, .ref 60), (1, .int (nI r)), (2, .int (nI (pt T r 0))), (3, .int s), (4, .int (oI (otO T s (k + 1)))), (5, .int (bI (otB T s (k + 1) = true))), (6, .int (nI (k + 1)))]) dX4_isHeld_110 rfl (Nat.le_of_ble_eq_true rfl) rfl ?_
            refine v_goto (tgt := 54) dX4_isHeld_113 (by decide) ?_
            exact ih (k + 1) (by omega)
          · have e92 : otO T s k = some (ck T k) := (oI_some (otO_b hW (by omega)) (by have := hW.ck2 (n := k) (by omega); omega)).mp c92
            refine v_iconst (v := (nI 1)) dX4_isHeld_95 rfl ?_
            refine v_goto (tgt := 100) dX4_isHeld_96 (by decide) ?_
            refine v_top (y := (bI (otB T s (k + 1) = true))) ((bI_t (by simp [otB, *])).symm) ?_
            refine v_istore (lv' := [(0, .ref 60), (1, .int (nI r)), (2, .int (nI (pt T r 0))), (3, .int s), (4, .int (oI (otO T s k))), (5, .int (bI (otB T s (k + 1) = true))), (6, .int (nI k))]) dX4_isHeld_100 (Nat.le_of_ble_eq_true rfl) rfl ?_
            refine v_aload_n dX4_isHeld_102 rfl ?_
            refine v_iload dX4_isHeld_103 rfl ?_
            refine v_callVr (x := .int (nI (ck T k))) (M1 := M) (as := [.int (nI k)]) (st := []) dX4_isHeld_105 ml_X4_88 kv_X4_clock ⟨by decide, rfl, by decide⟩ ⟨(Nat.le_of_ble_eq_true rfl), (Nat.le_of_ble_eq_true rfl)⟩ rfl (Nat.le_of_ble_eq_true rfl) rfl (Nat.le_of_ble_eq_true rfl) (c_clock hM hW (by omega)) ?_
            refine v_top (y := (oI (otO T s (k + 1)))) (by simp [otO, oI, c69]) ?_
            refine v_istore (lv' := [(0, .ref 60), (1, .int (nI r)), (2, .int (nI (pt T r 0))), (3, .int s), (4, .int (oI (otO T s (k + 1)))), (5, .int (bI (otB T s (k + 1) = true))), (6, .int (nI k))]) dX4_isHeld_108 (Nat.le_of_ble_eq_true rfl) rfl ?_
            refine v_iincN (lv' := [(0, .ref 60), (1, .int (nI r)), (2, .int (nI (pt T r 0))), (3, .int s), (4, .int (oI (otO T s (k + 1)))), (5, .int (bI (otB T s (k + 1) = true))), (6, .int (nI (k + 1)))]) dX4_isHeld_110 rfl (Nat.le_of_ble_eq_true rfl) rfl ?_
            refine v_goto (tgt := 54) dX4_isHeld_113 (by decide) ?_
            exact ih (k + 1) (by omega)
set_option maxRecDepth 100000 in
theorem l_held2 {nd : Nat} (hM : M0 61 = T) (hW : WF T) (hnd : M0 63 0 = nI nd) (hnb : nd < 2 ^ 31) {r : Nat} (hr : r < nN T) {s b : Int32} {ot : Option Nat} {ob : Bool} (hot : ∀ n, ot = some n → n < 2 ^ 31) (d : Nat) : ∀ (q : Nat) (M : vM), q + d = nN T → sc M0 M → V kX4_isHeld (rs (.int (bI ((hbB T nd r b ot (nN T) && ob) = true))) M0) M 139 [(0, .ref 60), (1, .int (nI r)), (2, .int (nI (pt T r 0))), (3, .int s), (4, .int (oI ot)), (5, .int (bI (ob = true))), (6, .int b), (7, .int (bI (hbB T nd r b ot q = true))), (8, .int (nI q))] [] := by
  have h16 := hW.n16
  induction d with
  | zero =>
    intro q M hk hs
    refine v_iload dX4_isHeld_139 rfl ?_
    refine v_aload_n dX4_isHeld_141 rfl ?_
    refine v_callVr (x := .int (nI (nN T))) (M1 := M) (as := []) (st := [.int (nI q)]) dX4_isHeld_142 ml_X4_52 kv_X4_many ⟨by decide, rfl, by decide⟩ ⟨(Nat.le_of_ble_eq_true rfl), (Nat.le_of_ble_eq_true rfl)⟩ rfl (Nat.le_of_ble_eq_true rfl) rfl (Nat.le_of_ble_eq_true rfl) (c_many (scT hs hM) hW) ?_
    refine v_icmpN_ge (tgt := 225) dX4_isHeld_145 (by decide) (by omega) (by omega) (fun c145 => ?_) (fun c145 => (by omega))
    refine v_iload dX4_isHeld_225 rfl ?_
    refine v_ifB_eq (tgt := 239) dX4_isHeld_227 (by decide) (fun c227 => ?_) (fun c227 => ?_)
    · refine v_iconst (v := (nI 0)) dX4_isHeld_239 rfl ?_
      refine v_zret dX4_isHeld_240 rfl (Or.inl rfl) ?_
      refine ⟨?_, hs⟩
      rw [bI_f (by rw [show nN T = q by omega]; simp [*])]; rfl
    · refine v_iload dX4_isHeld_230 rfl ?_
      refine v_ifB_eq (tgt := 239) dX4_isHeld_232 (by decide) (fun c232 => ?_) (fun c232 => ?_)
      · refine v_iconst (v := (nI 0)) dX4_isHeld_239 rfl ?_
        refine v_zret dX4_isHeld_240 rfl (Or.inl rfl) ?_
        refine ⟨?_, hs⟩
        rw [bI_f (by rw [show nN T = q by omega]; simp [*])]; rfl
      · refine v_iconst (v := (nI 1)) dX4_isHeld_235 rfl ?_
        refine v_goto (tgt := 240) dX4_isHeld_236 (by decide) ?_
        refine v_zret dX4_isHeld_240 rfl (Or.inr rfl) ?_
        refine ⟨?_, hs⟩
        rw [bI_t (by rw [show nN T = q by omega]; simp [*])]; rfl
  | succ d ih =>
    intro q M hk hs
    refine v_iload dX4_isHeld_139 rfl ?_
    refine v_aload_n dX4_isHeld_141 rfl ?_
    refine v_callVr (x := .int (nI (nN T))) (M1 := M) (as := []) (st := [.int (nI q)]) dX4_isHeld_142 ml_X4_52 kv_X4_many ⟨by decide, rfl, by decide⟩ ⟨(Nat.le_of_ble_eq_true rfl), (Nat.le_of_ble_eq_true rfl)⟩ rfl (Nat.le_of_ble_eq_true rfl) rfl (Nat.le_of_ble_eq_true rfl) (c_many (scT hs hM) hW) ?_
    refine v_icmpN_ge (tgt := 225) dX4_isHeld_145 (by decide) (by omega) (by omega) (fun c145 => (by omega)) (fun c145 => ?_)
    refine v_iload dX4_isHeld_148 rfl ?_
    refine v_ifB_ne (tgt := 212) dX4_isHeld_150 (by decide) (fun c150 => ?_) (fun c150 => ?_)
    · refine v_iconst (v := (nI 1)) dX4_isHeld_212 rfl ?_
      refine v_goto (tgt := 217) dX4_isHeld_213 (by decide) ?_
      refine v_top (y := (bI (hbB T nd r b ot (q + 1) = true))) ((bI_t (by simp [hbB, *])).symm) ?_
      refine v_istore (lv' := [(0, .ref 60), (1, .int (nI r)), (2, .int (nI (pt T r 0))), (3, .int s), (4, .int (oI ot)), (5, .int (bI (ob = true))), (6, .int b), (7, .int (bI (hbB T nd r b ot (q + 1) = true))), (8, .int (nI q))]) dX4_isHeld_217 (Nat.le_of_ble_eq_true rfl) rfl ?_
      refine v_iincN (lv' := [(0, .ref 60), (1, .int (nI r)), (2, .int (nI (pt T r 0))), (3, .int s), (4, .int (oI ot)), (5, .int (bI (ob = true))), (6, .int b), (7, .int (bI (hbB T nd r b ot (q + 1) = true))), (8, .int (nI (q + 1)))]) dX4_isHeld_219 rfl (Nat.le_of_ble_eq_true rfl) rfl ?_
      refine v_goto (tgt := 139) dX4_isHeld_222 (by decide) ?_
      exact ih (q + 1) _ (by omega) hs
    · refine v_iload dX4_isHeld_153 rfl ?_
      refine v_iload dX4_isHeld_155 rfl ?_
      refine v_callSr (x := .int (bI (bt b q = true))) (M1 := M) (as := [.int b, .int (nI q)]) (st := []) dX4_isHeld_157 ml_X4_84 ks_X4_has ⟨(Nat.le_of_ble_eq_true rfl), (Nat.le_of_ble_eq_true rfl)⟩ rfl (Nat.le_of_ble_eq_true rfl) rfl (Nat.le_of_ble_eq_true rfl) (c_has _ (by omega)) ?_
      refine v_ifB_eq (tgt := 216) dX4_isHeld_160 (by decide) (fun c160 => ?_) (fun c160 => ?_)
      · refine v_iconst (v := (nI 0)) dX4_isHeld_216 rfl ?_
        refine v_top (y := (bI (hbB T nd r b ot (q + 1) = true))) ((bI_f (by simp [hbB, *])).symm) ?_
        refine v_istore (lv' := [(0, .ref 60), (1, .int (nI r)), (2, .int (nI (pt T r 0))), (3, .int s), (4, .int (oI ot)), (5, .int (bI (ob = true))), (6, .int b), (7, .int (bI (hbB T nd r b ot (q + 1) = true))), (8, .int (nI q))]) dX4_isHeld_217 (Nat.le_of_ble_eq_true rfl) rfl ?_
        refine v_iincN (lv' := [(0, .ref 60), (1, .int (nI r)), (2, .int (nI (pt T r 0))), (3, .int s), (4, .int (oI ot)), (5, .int (bI (ob = true))), (6, .int b), (7, .int (bI (hbB T nd r b ot (q + 1) = true))), (8, .int (nI (q + 1)))]) dX4_isHeld_219 rfl (Nat.le_of_ble_eq_true rfl) rfl ?_
        refine v_goto (tgt := 139) dX4_isHeld_222 (by decide) ?_
        exact ih (q + 1) _ (by omega) hs
      · refine v_aload_n dX4_isHeld_163 rfl ?_
        refine v_iload dX4_isHeld_164 rfl ?_
        refine v_callVr (x := .int (nI (so T q))) (M1 := M) (as := [.int (nI q)]) (st := []) dX4_isHeld_166 ml_X4_64 kv_X4_sort ⟨by decide, rfl, by decide⟩ ⟨(Nat.le_of_ble_eq_true rfl), (Nat.le_of_ble_eq_true rfl)⟩ rfl (Nat.le_of_ble_eq_true rfl) rfl (Nat.le_of_ble_eq_true rfl) (c_sort (scT hs hM) hW (by omega)) ?_
        refine v_iconst (v := (nI 1)) dX4_isHeld_169 rfl ?_
        refine v_icmpN_ne (tgt := 216) dX4_isHeld_170 (by decide) (by have := hW.so5 (n := q) (by omega); omega) (by omega) (fun c170 => ?_) (fun c170 => ?_)
        · refine v_iconst (v := (nI 0)) dX4_isHeld_216 rfl ?_
          refine v_top (y := (bI (hbB T nd r b ot (q + 1) = true))) ((bI_f (by simp [hbB, *])).symm) ?_
          refine v_istore (lv' := [(0, .ref 60), (1, .int (nI r)), (2, .int (nI (pt T r 0))), (3, .int s), (4, .int (oI ot)), (5, .int (bI (ob = true))), (6, .int b), (7, .int (bI (hbB T nd r b ot (q + 1) = true))), (8, .int (nI q))]) dX4_isHeld_217 (Nat.le_of_ble_eq_true rfl) rfl ?_
          refine v_iincN (lv' := [(0, .ref 60), (1, .int (nI r)), (2, .int (nI (pt T r 0))), (3, .int s), (4, .int (oI ot)), (5, .int (bI (ob = true))), (6, .int b), (7, .int (bI (hbB T nd r b ot (q + 1) = true))), (8, .int (nI (q + 1)))]) dX4_isHeld_219 rfl (Nat.le_of_ble_eq_true rfl) rfl ?_
          refine v_goto (tgt := 139) dX4_isHeld_222 (by decide) ?_
          exact ih (q + 1) _ (by omega) hs
        · refine v_aload_n dX4_isHeld_173 rfl ?_
          refine v_iload dX4_isHeld_174 rfl ?_
          refine v_callVr (x := .int (nI (ck T q))) (M1 := M) (as := [.int (nI q)]) (st := []) dX4_isHeld_176 ml_X4_88 kv_X4_clock ⟨by decide, rfl, by decide⟩ ⟨(Nat.le_of_ble_eq_true rfl), (Nat.le_of_ble_eq_true rfl)⟩ rfl (Nat.le_of_ble_eq_true rfl) rfl (Nat.le_of_ble_eq_true rfl) (c_clock (scT hs hM) hW (by omega)) ?_
          refine v_aload_n dX4_isHeld_179 rfl ?_
          refine v_iload_n dX4_isHeld_180 rfl ?_
          refine v_callVr (x := .int (nI (ck T r))) (M1 := M) (as := [.int (nI r)]) (st := [.int (nI (ck T q))]) dX4_isHeld_181 ml_X4_88 kv_X4_clock ⟨by decide, rfl, by decide⟩ ⟨(Nat.le_of_ble_eq_true rfl), (Nat.le_of_ble_eq_true rfl)⟩ rfl (Nat.le_of_ble_eq_true rfl) rfl (Nat.le_of_ble_eq_true rfl) (c_clock (scT hs hM) hW (by omega)) ?_
          refine v_icmpN_ne (tgt := 216) dX4_isHeld_184 (by decide) (by have := hW.ck2 (n := q) (by omega); omega) (by have := hW.ck2 (n := r) (by omega); omega) (fun c184 => ?_) (fun c184 => ?_)
          · refine v_iconst (v := (nI 0)) dX4_isHeld_216 rfl ?_
            refine v_top (y := (bI (hbB T nd r b ot (q + 1) = true))) ((bI_f (by simp [hbB, *])).symm) ?_
            refine v_istore (lv' := [(0, .ref 60), (1, .int (nI r)), (2, .int (nI (pt T r 0))), (3, .int s), (4, .int (oI ot)), (5, .int (bI (ob = true))), (6, .int b), (7, .int (bI (hbB T nd r b ot (q + 1) = true))), (8, .int (nI q))]) dX4_isHeld_217 (Nat.le_of_ble_eq_true rfl) rfl ?_
            refine v_iincN (lv' := [(0, .ref 60), (1, .int (nI r)), (2, .int (nI (pt T r 0))), (3, .int s), (4, .int (oI ot)), (5, .int (bI (ob = true))), (6, .int b), (7, .int (bI (hbB T nd r b ot (q + 1) = true))), (8, .int (nI (q + 1)))]) dX4_isHeld_219 rfl (Nat.le_of_ble_eq_true rfl) rfl ?_
            refine v_goto (tgt := 139) dX4_isHeld_222 (by decide) ?_
            exact ih (q + 1) _ (by omega) hs
          · refine v_aload_n dX4_isHeld_187 rfl ?_
            refine v_iload dX4_isHeld_188 rfl ?_
            refine v_callV (as := [.int (nI q)]) (st := []) dX4_isHeld_190 ml_X4_112 kv_X4_isSafe ⟨by decide, rfl, by decide⟩ ⟨(Nat.le_of_ble_eq_true rfl), (Nat.le_of_ble_eq_true rfl)⟩ rfl (Nat.le_of_ble_eq_true rfl) rfl (Nat.le_of_ble_eq_true rfl) (c_isSafe hs hM hW hnd hnb (by omega) (by assumption)) (fun v M hq => ?_)
            obtain ⟨rfl, hs⟩ := hq
            refine v_ifB_eq (tgt := 216) dX4_isHeld_193 (by decide) (fun c193 => ?_) (fun c193 => ?_)
            · refine v_iconst (v := (nI 0)) dX4_isHeld_216 rfl ?_
              refine v_top (y := (bI (hbB T nd r b ot (q + 1) = true))) ((bI_f (by simp [hbB, *])).symm) ?_
              refine v_istore (lv' := [(0, .ref 60), (1, .int (nI r)), (2, .int (nI (pt T r 0))), (3, .int s), (4, .int (oI ot)), (5, .int (bI (ob = true))), (6, .int b), (7, .int (bI (hbB T nd r b ot (q + 1) = true))), (8, .int (nI q))]) dX4_isHeld_217 (Nat.le_of_ble_eq_true rfl) rfl ?_
              refine v_iincN (lv' := [(0, .ref 60), (1, .int (nI r)), (2, .int (nI (pt T r 0))), (3, .int s), (4, .int (oI ot)), (5, .int (bI (ob = true))), (6, .int b), (7, .int (bI (hbB T nd r b ot (q + 1) = true))), (8, .int (nI (q + 1)))]) dX4_isHeld_219 rfl (Nat.le_of_ble_eq_true rfl) rfl ?_
              refine v_goto (tgt := 139) dX4_isHeld_222 (by decide) ?_
              exact ih (q + 1) _ (by omega) hs
            · refine v_aload_n dX4_isHeld_196 rfl ?_
              refine v_aload_n dX4_isHeld_197 rfl ?_
              refine v_iload dX4_isHeld_198 rfl ?_
              refine v_iconst (v := (nI 0)) dX4_isHeld_200 rfl ?_
              have hm2 := hm_reg c170
              have hp2 := hW.ptlt (n := q) (by omega) (show 0 < hmF (so T q) by omega)
              refine v_callVr (x := .int (nI (pt T q 0))) (M1 := M) (as := [.int (nI q), .int (nI 0)]) (st := [.ref 60]) dX4_isHeld_201 ml_X4_71 kv_X4_of ⟨by decide, rfl, by decide⟩ ⟨(Nat.le_of_ble_eq_true rfl), (Nat.le_of_ble_eq_true rfl)⟩ rfl (Nat.le_of_ble_eq_true rfl) rfl (Nat.le_of_ble_eq_true rfl) (c_of (scT hs hM) hW (by omega) (by omega)) ?_
              refine v_callVr (x := .int (nI (ck T (pt T q 0)))) (M1 := M) (as := [.int (nI (pt T q 0))]) (st := []) dX4_isHeld_204 ml_X4_88 kv_X4_clock ⟨by decide, rfl, by decide⟩ ⟨(Nat.le_of_ble_eq_true rfl), (Nat.le_of_ble_eq_true rfl)⟩ rfl (Nat.le_of_ble_eq_true rfl) rfl (Nat.le_of_ble_eq_true rfl) (c_clock (scT hs hM) hW (by omega)) ?_
              refine v_iload dX4_isHeld_207 rfl ?_
              refine v_icmp_ne (tgt := 216) dX4_isHeld_209 (by decide) (fun c209 => ?_) (fun c209 => ?_)
              · have e209 : ¬ ot = some (ck T (pt T q 0)) := fun z => c209 ((oI_some hot (by have := hW.ck2 (n := pt T q 0) (by omega); omega)).mpr z).symm
                refine v_iconst (v := (nI 0)) dX4_isHeld_216 rfl ?_
                refine v_top (y := (bI (hbB T nd r b ot (q + 1) = true))) ((bI_f (by simp [hbB, *])).symm) ?_
                refine v_istore (lv' := [(0, .ref 60), (1, .int (nI r)), (2, .int (nI (pt T r 0))), (3, .int s), (4, .int (oI ot)), (5, .int (bI (ob = true))), (6, .int b), (7, .int (bI (hbB T nd r b ot (q + 1) = true))), (8, .int (nI q))]) dX4_isHeld_217 (Nat.le_of_ble_eq_true rfl) rfl ?_
                refine v_iincN (lv' := [(0, .ref 60), (1, .int (nI r)), (2, .int (nI (pt T r 0))), (3, .int s), (4, .int (oI ot)), (5, .int (bI (ob = true))), (6, .int b), (7, .int (bI (hbB T nd r b ot (q + 1) = true))), (8, .int (nI (q + 1)))]) dX4_isHeld_219 rfl (Nat.le_of_ble_eq_true rfl) rfl ?_
                refine v_goto (tgt := 139) dX4_isHeld_222 (by decide) ?_
                exact ih (q + 1) _ (by omega) hs
              · have e209 : ot = some (ck T (pt T q 0)) := (oI_some hot (by have := hW.ck2 (n := pt T q 0) (by omega); omega)).mp c209.symm
                refine v_iconst (v := (nI 1)) dX4_isHeld_212 rfl ?_
                refine v_goto (tgt := 217) dX4_isHeld_213 (by decide) ?_
                refine v_top (y := (bI (hbB T nd r b ot (q + 1) = true))) ((bI_t (by simp [hbB, *])).symm) ?_
                refine v_istore (lv' := [(0, .ref 60), (1, .int (nI r)), (2, .int (nI (pt T r 0))), (3, .int s), (4, .int (oI ot)), (5, .int (bI (ob = true))), (6, .int b), (7, .int (bI (hbB T nd r b ot (q + 1) = true))), (8, .int (nI q))]) dX4_isHeld_217 (Nat.le_of_ble_eq_true rfl) rfl ?_
                refine v_iincN (lv' := [(0, .ref 60), (1, .int (nI r)), (2, .int (nI (pt T r 0))), (3, .int s), (4, .int (oI ot)), (5, .int (bI (ob = true))), (6, .int b), (7, .int (bI (hbB T nd r b ot (q + 1) = true))), (8, .int (nI (q + 1)))]) dX4_isHeld_219 rfl (Nat.le_of_ble_eq_true rfl) rfl ?_
                refine v_goto (tgt := 139) dX4_isHeld_222 (by decide) ?_
                exact ih (q + 1) _ (by omega) hs
set_option maxRecDepth 100000 in
theorem c_isHeld {nd : Nat} (hs : sc M0 M) (hM : M0 61 = T) (hW : WF T) (hnd : M0 63 0 = nI nd) (hnb : nd < 2 ^ 31) {r : Nat} (hr : r < nN T) (h1 : so T r = 1) : V kX4_isHeld (rs (.int (bI (heldF T nd r = true))) M0) M 0 [(0, .ref 60), (1, .int (nI r))] [] := by
  have h16 := hW.n16
  have hm1 := hm_reg h1
  have hp := hW.ptlt hr (show 0 < hmF (so T r) by omega)
  refine v_aload_n dX4_isHeld_0 rfl ?_
  refine v_iload_n dX4_isHeld_1 rfl ?_
  refine v_iconst (v := (nI 0)) dX4_isHeld_2 rfl ?_
  refine v_callVr (x := .int (nI (pt T r 0))) (M1 := M) (as := [.int (nI r), .int (nI 0)]) (st := []) dX4_isHeld_3 ml_X4_71 kv_X4_of ⟨by decide, rfl, by decide⟩ ⟨(Nat.le_of_ble_eq_true rfl), (Nat.le_of_ble_eq_true rfl)⟩ rfl (Nat.le_of_ble_eq_true rfl) rfl (Nat.le_of_ble_eq_true rfl) (c_of (scT hs hM) hW (by omega) (by omega)) ?_
  refine v_istore_n (lv' := [(0, .ref 60), (1, .int (nI r)), (2, .int (nI (pt T r 0)))]) dX4_isHeld_6 (Nat.le_of_ble_eq_true rfl) rfl ?_
  refine v_aload_n dX4_isHeld_7 rfl ?_
  refine v_iload_n dX4_isHeld_8 rfl ?_
  refine v_callVr (x := .int (nI (so T (pt T r 0)))) (M1 := M) (as := [.int (nI (pt T r 0))]) (st := []) dX4_isHeld_9 ml_X4_64 kv_X4_sort ⟨by decide, rfl, by decide⟩ ⟨(Nat.le_of_ble_eq_true rfl), (Nat.le_of_ble_eq_true rfl)⟩ rfl (Nat.le_of_ble_eq_true rfl) rfl (Nat.le_of_ble_eq_true rfl) (c_sort (scT hs hM) hW (by omega)) ?_
  refine v_iconst (v := (nI 5)) dX4_isHeld_12 rfl ?_
  refine v_icmpN_ne (tgt := 36) dX4_isHeld_13 (by decide) (by have := hW.so5 (n := pt T r 0) (by omega); omega) (by omega) (fun c13 => ?_) (fun c13 => ?_)
  · refine v_iconst (v := (nI 0)) dX4_isHeld_36 rfl ?_
    refine v_zret dX4_isHeld_37 rfl (Or.inl rfl) ?_
    refine ⟨?_, hs⟩
    rw [bI_f (by simp [heldF, bx, *])]; rfl
  · have hm2 : hmF (so T (pt T r 0)) = 3 := by rw [c13]; rfl
    have hp2 := hW.ptlt (n := pt T r 0) (by omega) (show 0 < hmF (so T (pt T r 0)) by omega)
    refine v_aload_n dX4_isHeld_16 rfl ?_
    refine v_aload_n dX4_isHeld_17 rfl ?_
    refine v_iload_n dX4_isHeld_18 rfl ?_
    refine v_iconst (v := (nI 0)) dX4_isHeld_19 rfl ?_
    refine v_callVr (x := .int (nI (pt T (pt T r 0) 0))) (M1 := M) (as := [.int (nI (pt T r 0)), .int (nI 0)]) (st := [.ref 60]) dX4_isHeld_20 ml_X4_71 kv_X4_of ⟨by decide, rfl, by decide⟩ ⟨(Nat.le_of_ble_eq_true rfl), (Nat.le_of_ble_eq_true rfl)⟩ rfl (Nat.le_of_ble_eq_true rfl) rfl (Nat.le_of_ble_eq_true rfl) (c_of (scT hs hM) hW (by omega) (by omega)) ?_
    refine v_callV (as := [.int (nI (pt T (pt T r 0) 0))]) (st := []) dX4_isHeld_23 ml_X4_106 kv_X4_sourcesOf ⟨by decide, rfl, by decide⟩ ⟨(Nat.le_of_ble_eq_true rfl), (Nat.le_of_ble_eq_true rfl)⟩ rfl (Nat.le_of_ble_eq_true rfl) rfl (Nat.le_of_ble_eq_true rfl) (c_sourcesOf hs hM hW (by omega)) (fun v M hq => ?_)
    obtain ⟨rfl, hs⟩ := hq
    refine v_iconst (v := (nI 1)) dX4_isHeld_26 rfl ?_
    refine v_aload_n dX4_isHeld_27 rfl ?_
    refine v_iload_n dX4_isHeld_28 rfl ?_
    refine v_callVr (x := .int (nI (ck T r))) (M1 := M) (as := [.int (nI r)]) (st := [.int (nI 1), .int (srcF T (lvF T (pt T (pt T r 0) 0)))]) dX4_isHeld_29 ml_X4_88 kv_X4_clock ⟨by decide, rfl, by decide⟩ ⟨(Nat.le_of_ble_eq_true rfl), (Nat.le_of_ble_eq_true rfl)⟩ rfl (Nat.le_of_ble_eq_true rfl) rfl (Nat.le_of_ble_eq_true rfl) (c_clock (scT hs hM) hW (by omega)) ?_
    refine v_ishl dX4_isHeld_32 ?_
    refine v_icmp_eq (tgt := 38) dX4_isHeld_33 (by decide) (fun c33 => ?_) (fun c33 => ?_)
    · refine v_aload_n dX4_isHeld_38 rfl ?_
      refine v_iload_n dX4_isHeld_39 rfl ?_
      refine v_callV (as := [.int (nI r)]) (st := []) dX4_isHeld_40 ml_X4_91 kv_X4_foreign ⟨by decide, rfl, by decide⟩ ⟨(Nat.le_of_ble_eq_true rfl), (Nat.le_of_ble_eq_true rfl)⟩ rfl (Nat.le_of_ble_eq_true rfl) rfl (Nat.le_of_ble_eq_true rfl) (c_foreign hs hM hW (by omega) (by assumption)) (fun v M hq => ?_)
      obtain ⟨rfl, hs⟩ := hq
      refine v_istore_n (lv' := [(0, .ref 60), (1, .int (nI r)), (2, .int (nI (pt T r 0))), (3, .int (frF T r))]) dX4_isHeld_43 (Nat.le_of_ble_eq_true rfl) rfl ?_
      refine v_bipush (v := (-9)) dX4_isHeld_44 (by decide) ?_
      refine v_istore (lv' := [(0, .ref 60), (1, .int (nI r)), (2, .int (nI (pt T r 0))), (3, .int (frF T r)), (4, .int ((-9)))]) dX4_isHeld_46 (Nat.le_of_ble_eq_true rfl) rfl ?_
      refine v_iconst (v := (nI 1)) dX4_isHeld_48 rfl ?_
      refine v_istore (lv' := [(0, .ref 60), (1, .int (nI r)), (2, .int (nI (pt T r 0))), (3, .int (frF T r)), (4, .int ((-9))), (5, .int (nI 1))]) dX4_isHeld_49 (Nat.le_of_ble_eq_true rfl) rfl ?_
      refine v_iconst (v := (nI 0)) dX4_isHeld_51 rfl ?_
      refine v_istore (lv' := [(0, .ref 60), (1, .int (nI r)), (2, .int (nI (pt T r 0))), (3, .int (frF T r)), (4, .int ((-9))), (5, .int (nI 1)), (6, .int (nI 0))]) dX4_isHeld_52 (Nat.le_of_ble_eq_true rfl) rfl ?_
      refine l_held1 (scT hs hM) hW ?_ (nN T) 0 (by omega)
      refine v_aload_n dX4_isHeld_116 rfl ?_
      refine v_aload_n dX4_isHeld_117 rfl ?_
      refine v_iload_n dX4_isHeld_118 rfl ?_
      refine v_iconst (v := (nI 0)) dX4_isHeld_119 rfl ?_
      refine v_callVr (x := .int (nI (pt T (pt T r 0) 0))) (M1 := M) (as := [.int (nI (pt T r 0)), .int (nI 0)]) (st := [.ref 60]) dX4_isHeld_120 ml_X4_71 kv_X4_of ⟨by decide, rfl, by decide⟩ ⟨(Nat.le_of_ble_eq_true rfl), (Nat.le_of_ble_eq_true rfl)⟩ rfl (Nat.le_of_ble_eq_true rfl) rfl (Nat.le_of_ble_eq_true rfl) (c_of (scT hs hM) hW (by omega) (by omega)) ?_
      refine v_aload_n dX4_isHeld_123 rfl ?_
      refine v_iload_n dX4_isHeld_124 rfl ?_
      refine v_callVr (x := .int (nI (ck T r))) (M1 := M) (as := [.int (nI r)]) (st := [.int (nI (pt T (pt T r 0) 0)), .ref 60]) dX4_isHeld_125 ml_X4_88 kv_X4_clock ⟨by decide, rfl, by decide⟩ ⟨(Nat.le_of_ble_eq_true rfl), (Nat.le_of_ble_eq_true rfl)⟩ rfl (Nat.le_of_ble_eq_true rfl) rfl (Nat.le_of_ble_eq_true rfl) (c_clock (scT hs hM) hW (by omega)) ?_
      have hck := hW.ck2 hr
      refine v_callVr (x := .int (bkF T (ck T r) (pt T (pt T r 0) 0))) (M1 := M) (as := [.int (nI (pt T (pt T r 0) 0)), .int (nI (ck T r))]) (st := []) dX4_isHeld_128 ml_X4_109 kv_X4_backFrom ⟨by decide, rfl, by decide⟩ ⟨(Nat.le_of_ble_eq_true rfl), (Nat.le_of_ble_eq_true rfl)⟩ rfl (Nat.le_of_ble_eq_true rfl) rfl (Nat.le_of_ble_eq_true rfl) (c_backFrom (scT hs hM) hW (by omega) (by omega)) ?_
      refine v_istore (lv' := [(0, .ref 60), (1, .int (nI r)), (2, .int (nI (pt T r 0))), (3, .int (frF T r)), (4, .int (oI (otO T (frF T r) (nN T)))), (5, .int (bI (otB T (frF T r) (nN T) = true))), (6, .int (bkF T (ck T r) (pt T (pt T r 0) 0)))]) dX4_isHeld_131 (Nat.le_of_ble_eq_true rfl) rfl ?_
      refine v_iconst (v := (nI 0)) dX4_isHeld_133 rfl ?_
      refine v_istore (lv' := [(0, .ref 60), (1, .int (nI r)), (2, .int (nI (pt T r 0))), (3, .int (frF T r)), (4, .int (oI (otO T (frF T r) (nN T)))), (5, .int (bI (otB T (frF T r) (nN T) = true))), (6, .int (bkF T (ck T r) (pt T (pt T r 0) 0))), (7, .int (nI 0))]) dX4_isHeld_134 (Nat.le_of_ble_eq_true rfl) rfl ?_
      refine v_iconst (v := (nI 0)) dX4_isHeld_136 rfl ?_
      refine v_istore (lv' := [(0, .ref 60), (1, .int (nI r)), (2, .int (nI (pt T r 0))), (3, .int (frF T r)), (4, .int (oI (otO T (frF T r) (nN T)))), (5, .int (bI (otB T (frF T r) (nN T) = true))), (6, .int (bkF T (ck T r) (pt T (pt T r 0) 0))), (7, .int (nI 0)), (8, .int (nI 0))]) dX4_isHeld_137 (Nat.le_of_ble_eq_true rfl) rfl ?_
      have e : heldF T nd r = (hbB T nd r (bkF T (ck T r) (pt T (pt T r 0) 0)) (otO T (frF T r) (nN T)) (nN T) && otB T (frF T r) (nN T)) := by
        have c33' : srcF T (lvF T (pt T (pt T r 0) 0)) = bx (ck T r) := c33
        simp [heldF, c13, c33']
      rw [e]
      refine v_sub (lv' := [(0, .ref 60), (1, .int (nI r)), (2, .int (nI (pt T r 0))), (3, .int (frF T r)), (4, .int (oI (otO T (frF T r) (nN T)))), (5, .int (bI (otB T (frF T r) (nN T) = true))), (6, .int (bkF T (ck T r) (pt T (pt T r 0) 0))), (7, .int (bI (false = true))), (8, .int (nI 0))]) ?_ ?_
      · intro q hq; simp at hq; rcases hq with rfl | rfl | rfl | rfl | rfl | rfl | rfl | rfl | rfl <;> rfl
      exact l_held2 hM hW hnd hnb hr (otO_b hW (Nat.le_refl _)) (nN T) 0 _ (by omega) hs
    · refine v_iconst (v := (nI 0)) dX4_isHeld_36 rfl ?_
      refine v_zret dX4_isHeld_37 rfl (Or.inl rfl) ?_
      refine ⟨?_, hs⟩
      rw [bI_f (by simp [heldF, bx, *])]; rfl
end R15
end
section
/-! reached, marks, joins -/
def rcP (T : Nat → Int32) (n : Nat) (s : Int32) : Nat → Int32
  | 0 => s
  | k + 1 => rcP T n s k ||| (if bt (rcP T n s k) (pt T n k) = true then bx n else nI 0)
def rcS (T : Nat → Int32) (c : Nat) (s : Int32) (n : Nat) : Int32 := if psB T c n = true then rcP T n s (hmF (so T n)) else s
def rcU (T : Nat → Int32) (r : Nat) : Nat → Int32
  | 0 => bx r
  | d + 1 => rcS T (ck T r) (rcU T r d) (r + 1 + d)
def rcF (T : Nat → Int32) (r : Nat) : Int32 := rcU T r (nN T - (r + 1))
def mkB (T : Nat → Int32) (a b : Nat) : Nat → Bool
  | 0 => false
  | k + 1 => mkB T a b k || (decide (mk T (2 * k) = a) && decide (mk T (2 * k + 1) = b)) || (decide (mk T (2 * k) = b) && decide (mk T (2 * k + 1) = a))
def apF (T : Nat → Int32) (r q : Nat) : Bool := decide (ck T r = ck T q) && dirF T r && dirF T q && !(decide (pt T r 0 = pt T q 0)) && decide (ck T (pt T r 0) = ck T (pt T q 0)) && !(mkB T (pt T r 0) (pt T q 0) (nK T))
def loN (s : Int32) : Nat → Nat → Nat
  | 0, k => k
  | d + 1, k => if bt s k = true then k else loN s d (k + 1)
def loF (s : Int32) : Nat := loN s 32 0
def boF (T : Nat → Int32) (r q : Nat) : Int32 := if so T q = 1 ∧ apF T r q = true then rcF T r &&& rcF T q else nI 0
def jQ (T : Nat → Int32) (k : Int32) (r : Nat) : Nat → Nat → Nat → Nat ⊕ Nat
  | 0, _, n => .inr n
  | d + 1, q, n => if boF T r q = 0 then jQ T k r d (q + 1) n else if nI n = k then .inl q else jQ T k r d (q + 1) (n + 1)
def jS (T : Nat → Int32) (k : Int32) (r n : Nat) : Nat ⊕ Nat := if so T r = 1 then jQ T k r (nN T - (r + 1)) (r + 1) n else .inr n
def jR (T : Nat → Int32) (k : Int32) : Nat → Nat → Nat → (Nat × Nat) ⊕ Nat
  | 0, _, n => .inr n
  | d + 1, r, n => match jS T k r n with
    | .inl q => .inl (r, q)
    | .inr n' => jR T k d (r + 1) n'
def jA (T : Nat → Int32) (k what : Int32) : (Nat × Nat) ⊕ Nat → Int32
  | .inl (r, q) => if what = 0 then nI r else if what = nI 1 then nI q else nI (loF (boF T r q))
  | .inr n => if k < 0 then nI n else (-9)
def joinF (T : Nat → Int32) (k what : Int32) : Int32 := jA T k what (jR T k (nN T) 0 0)
theorem rcP_n {T : Nat → Int32} {n : Nat} {s : Int32} (k : Nat) : ∀ i, i < 32 → n < 32 → i ≠ n → bt (rcP T n s k) i = bt s i := by
  induction k with
  | zero => intro i _ _ _; rfl
  | succ k ih =>
    intro i hi hn hne
    simp only [rcP]
    rw [b_or, ih i hi hn hne]
    split
    · rw [b_bx hn hi]; simp [hne]
    · rw [show bt (nI 0) i = false from b_0 i]; simp
theorem rcU_b {T : Nat → Int32} {r : Nat} (hr : r < 16) (d : Nat) : r + d < 32 → ∀ i, i < 32 → r + d < i → bt (rcU T r d) i = false := by
  induction d with
  | zero => intro h i hi hlt; show bt (bx r) i = false; rw [b_bx (by omega) hi]; simp; omega
  | succ d ih =>
    intro h i hi hlt
    simp only [rcU, rcS]
    split
    · rw [rcP_n _ i hi (by omega) (by omega)]; exact ih (by omega) i hi (by omega)
    · exact ih (by omega) i hi (by omega)
theorem rcF_b {T : Nat → Int32} (hW : WF T) {r : Nat} (hr : r < nN T) : ∀ i, i < 32 → nN T ≤ i → bt (rcF T r) i = false := by
  intro i hi h
  have h16 := hW.n16
  exact rcU_b (by omega) _ (by omega) i hi (by omega)
theorem boF_b {T : Nat → Int32} (hW : WF T) {r q : Nat} (hr : r < nN T) : ∀ i, i < 32 → nN T ≤ i → bt (boF T r q) i = false := by
  intro i hi h
  unfold boF
  split
  · rw [b_and, rcF_b hW hr i hi h]; rfl
  · exact b_0 i
end
section
section R17
variable {M M0 : vM} {T : Nat → Int32}
set_option maxRecDepth 100000 in
theorem c_kindOf {nd : Nat} (hs : sc M0 M) (hM : M0 61 = T) (hW : WF T) (hnd : M0 63 0 = nI nd) (hnb : nd < 2 ^ 31) {r : Nat} (hr : r < nN T) (h1 : so T r = 1) : V kX4_kindOf (rs (.int (oI (kdO T nd r))) M0) M 0 [(0, .ref 60), (1, .int (nI r))] [] := by
  have h16 := hW.n16
  refine v_aload_n dX4_kindOf_0 rfl ?_
  refine v_iload_n dX4_kindOf_1 rfl ?_
  refine v_callV (as := [.int (nI r)]) (st := []) dX4_kindOf_2 ml_X4_91 kv_X4_foreign ⟨by decide, rfl, by decide⟩ ⟨(Nat.le_of_ble_eq_true rfl), (Nat.le_of_ble_eq_true rfl)⟩ rfl (Nat.le_of_ble_eq_true rfl) rfl (Nat.le_of_ble_eq_true rfl) (c_foreign hs hM hW (by omega) (by assumption)) (fun v M hq => ?_)
  obtain ⟨rfl, hs⟩ := hq
  refine v_if_ne (tgt := 11) dX4_kindOf_5 (by decide) (fun c5 => ?_) (fun c5 => ?_)
  · refine v_aload_n dX4_kindOf_11 rfl ?_
    refine v_iload_n dX4_kindOf_12 rfl ?_
    refine v_callV (as := [.int (nI r)]) (st := []) dX4_kindOf_13 ml_X4_100 kv_X4_isDirect ⟨by decide, rfl, by decide⟩ ⟨(Nat.le_of_ble_eq_true rfl), (Nat.le_of_ble_eq_true rfl)⟩ rfl (Nat.le_of_ble_eq_true rfl) rfl (Nat.le_of_ble_eq_true rfl) (c_isDirect hs hM hW (by omega) (by assumption)) (fun v M hq => ?_)
    obtain ⟨rfl, hs⟩ := hq
    refine v_ifB_eq (tgt := 33) dX4_kindOf_16 (by decide) (fun c16 => ?_) (fun c16 => ?_)
    · refine v_aload_n dX4_kindOf_33 rfl ?_
      refine v_iload_n dX4_kindOf_34 rfl ?_
      refine v_callV (as := [.int (nI r)]) (st := []) dX4_kindOf_35 ml_X4_115 kv_X4_isHeld ⟨by decide, rfl, by decide⟩ ⟨(Nat.le_of_ble_eq_true rfl), (Nat.le_of_ble_eq_true rfl)⟩ rfl (Nat.le_of_ble_eq_true rfl) rfl (Nat.le_of_ble_eq_true rfl) (c_isHeld hs hM hW hnd hnb (by omega) (by assumption)) (fun v M hq => ?_)
      obtain ⟨rfl, hs⟩ := hq
      refine v_ifB_eq (tgt := 45) dX4_kindOf_38 (by decide) (fun c38 => ?_) (fun c38 => ?_)
      · refine v_iconst (v := (nI 3)) dX4_kindOf_45 rfl ?_
        refine v_iret dX4_kindOf_46 rfl ?_
        refine ⟨?_, hs⟩
        simp [kdO, oI, *]
      · refine v_iconst (v := (nI 2)) dX4_kindOf_41 rfl ?_
        refine v_goto (tgt := 46) dX4_kindOf_42 (by decide) ?_
        refine v_iret dX4_kindOf_46 rfl ?_
        refine ⟨?_, hs⟩
        simp [kdO, oI, *]
    · refine v_aload_n dX4_kindOf_19 rfl ?_
      refine v_iload_n dX4_kindOf_20 rfl ?_
      refine v_callV (as := [.int (nI r)]) (st := []) dX4_kindOf_21 ml_X4_112 kv_X4_isSafe ⟨by decide, rfl, by decide⟩ ⟨(Nat.le_of_ble_eq_true rfl), (Nat.le_of_ble_eq_true rfl)⟩ rfl (Nat.le_of_ble_eq_true rfl) rfl (Nat.le_of_ble_eq_true rfl) (c_isSafe hs hM hW hnd hnb (by omega) (by assumption)) (fun v M hq => ?_)
      obtain ⟨rfl, hs⟩ := hq
      refine v_ifB_eq (tgt := 31) dX4_kindOf_24 (by decide) (fun c24 => ?_) (fun c24 => ?_)
      · refine v_iconst (v := (nI 1)) dX4_kindOf_31 rfl ?_
        refine v_iret dX4_kindOf_32 rfl ?_
        refine ⟨?_, hs⟩
        simp [kdO, oI, *]
      · refine v_iconst (v := (nI 0)) dX4_kindOf_27 rfl ?_
        refine v_goto (tgt := 32) dX4_kindOf_28 (by decide) ?_
        refine v_iret dX4_kindOf_32 rfl ?_
        refine ⟨?_, hs⟩
        simp [kdO, oI, *]
  · refine v_bipush (v := (-9)) dX4_kindOf_8 (by decide) ?_
    refine v_iret dX4_kindOf_10 rfl ?_
    refine ⟨?_, hs⟩
    simp [kdO, oI, *]
set_option maxRecDepth 100000 in
theorem c_kindAt {nd : Nat} (hs : sc M0 M) (hM : M0 61 = T) (hW : WF T) (hnd : M0 63 0 = nI nd) (hnb : nd < 2 ^ 31) {r : Nat} (hr : r < nN T) : V kX4_kindAt (rs (.int (oI (kaO T nd r))) M0) M 0 [(0, .ref 60), (1, .int (nI r))] [] := by
  have h16 := hW.n16
  refine v_aload_n dX4_kindAt_0 rfl ?_
  refine v_iload_n dX4_kindAt_1 rfl ?_
  refine v_callVr (x := .int (nI (so T r))) (M1 := M) (as := [.int (nI r)]) (st := []) dX4_kindAt_2 ml_X4_64 kv_X4_sort ⟨by decide, rfl, by decide⟩ ⟨(Nat.le_of_ble_eq_true rfl), (Nat.le_of_ble_eq_true rfl)⟩ rfl (Nat.le_of_ble_eq_true rfl) rfl (Nat.le_of_ble_eq_true rfl) (c_sort (scT hs hM) hW (by omega)) ?_
  refine v_iconst (v := (nI 1)) dX4_kindAt_5 rfl ?_
  refine v_icmpN_ne (tgt := 17) dX4_kindAt_6 (by decide) (by have := hW.so5 hr; omega) (by omega) (fun c6 => ?_) (fun c6 => ?_)
  · refine v_bipush (v := (-9)) dX4_kindAt_17 (by decide) ?_
    refine v_iret dX4_kindAt_19 rfl ?_
    refine ⟨?_, hs⟩
    simp [kaO, oI, *]
  · refine v_aload_n dX4_kindAt_9 rfl ?_
    refine v_iload_n dX4_kindAt_10 rfl ?_
    refine v_callV (as := [.int (nI r)]) (st := []) dX4_kindAt_11 ml_X4_118 kv_X4_kindOf ⟨by decide, rfl, by decide⟩ ⟨(Nat.le_of_ble_eq_true rfl), (Nat.le_of_ble_eq_true rfl)⟩ rfl (Nat.le_of_ble_eq_true rfl) rfl (Nat.le_of_ble_eq_true rfl) (c_kindOf hs hM hW hnd hnb (by omega) (by assumption)) (fun v M hq => ?_)
    obtain ⟨rfl, hs⟩ := hq
    refine v_goto (tgt := 19) dX4_kindAt_14 (by decide) ?_
    refine v_iret dX4_kindAt_19 rfl ?_
    refine ⟨?_, hs⟩
    simp [kaO, oI, *]
set_option maxRecDepth 100000 in
theorem l_rc1 (hM : M 61 = T) (hW : WF T) {Q : Option Value → vM → Prop} {r n : Nat} {s : Int32} (hn : n < nN T) (post : V kX4_reached Q M 104 [(0, .ref 60), (1, .int (nI r)), (2, .int (rcP T n s (hmF (so T n)))), (3, .int (nI n))] []) (d : Nat) : ∀ (k : Nat), k + d = hmF (so T n) → V kX4_reached (Q) M 56 [(0, .ref 60), (1, .int (nI r)), (2, .int (rcP T n s k)), (3, .int (nI n)), (4, .int (bI (true = true))), (5, .int (nI k))] [] := by
  have h16 := hW.n16
  induction d with
  | zero =>
    intro k hk 
    refine v_iload dX4_reached_56 rfl ?_
    refine v_aload_n dX4_reached_58 rfl ?_
    refine v_iload_n dX4_reached_59 rfl ?_
    refine v_callVr (x := .int (nI (so T n))) (M1 := M) (as := [.int (nI n)]) (st := [.int (nI k)]) dX4_reached_60 ml_X4_64 kv_X4_sort ⟨by decide, rfl, by decide⟩ ⟨(Nat.le_of_ble_eq_true rfl), (Nat.le_of_ble_eq_true rfl)⟩ rfl (Nat.le_of_ble_eq_true rfl) rfl (Nat.le_of_ble_eq_true rfl) (c_sort hM hW (by omega)) ?_
    refine v_callSr (x := .int (nI (hmF (so T n)))) (M1 := M) (as := [.int (nI (so T n))]) (st := [.int (nI k)]) dX4_reached_63 ml_X4_68 ks_X4_hasMany ⟨(Nat.le_of_ble_eq_true rfl), (Nat.le_of_ble_eq_true rfl)⟩ rfl (Nat.le_of_ble_eq_true rfl) rfl (Nat.le_of_ble_eq_true rfl) (c_hasMany (by have := hW.so5 (n := n) (by omega); omega)) ?_
    refine v_icmpN_ge (tgt := 104) dX4_reached_66 (by decide) (by have := hmF_le (so T n); omega) (by have := hmF_le (so T n); omega) (fun c66 => ?_) (fun c66 => (by omega))
    refine v_sub (lv' := [(0, .ref 60), (1, .int (nI r)), (2, .int (rcP T n s k)), (3, .int (nI n))]) (by intro q hq; simp at hq; rcases hq with rfl | rfl | rfl | rfl <;> rfl) ?_
    rw [show k = hmF (so T n) by omega]
    exact post
  | succ d ih =>
    intro k hk 
    refine v_iload dX4_reached_56 rfl ?_
    refine v_aload_n dX4_reached_58 rfl ?_
    refine v_iload_n dX4_reached_59 rfl ?_
    refine v_callVr (x := .int (nI (so T n))) (M1 := M) (as := [.int (nI n)]) (st := [.int (nI k)]) dX4_reached_60 ml_X4_64 kv_X4_sort ⟨by decide, rfl, by decide⟩ ⟨(Nat.le_of_ble_eq_true rfl), (Nat.le_of_ble_eq_true rfl)⟩ rfl (Nat.le_of_ble_eq_true rfl) rfl (Nat.le_of_ble_eq_true rfl) (c_sort hM hW (by omega)) ?_
    refine v_callSr (x := .int (nI (hmF (so T n)))) (M1 := M) (as := [.int (nI (so T n))]) (st := [.int (nI k)]) dX4_reached_63 ml_X4_68 ks_X4_hasMany ⟨(Nat.le_of_ble_eq_true rfl), (Nat.le_of_ble_eq_true rfl)⟩ rfl (Nat.le_of_ble_eq_true rfl) rfl (Nat.le_of_ble_eq_true rfl) (c_hasMany (by have := hW.so5 (n := n) (by omega); omega)) ?_
    refine v_icmpN_ge (tgt := 104) dX4_reached_66 (by decide) (by have := hmF_le (so T n); omega) (by have := hmF_le (so T n); omega) (fun c66 => (by omega)) (fun c66 => ?_)
    refine v_iload dX4_reached_69 rfl ?_
    refine v_ifB_eq (tgt := 104) dX4_reached_71 (by decide) (fun c71 => (absurd rfl c71)) (fun c71 => ?_)
    refine v_iload_n dX4_reached_74 rfl ?_
    refine v_iload_n dX4_reached_75 rfl ?_
    refine v_aload_n dX4_reached_76 rfl ?_
    refine v_iload_n dX4_reached_77 rfl ?_
    refine v_iload dX4_reached_78 rfl ?_
    refine v_callVr (x := .int (nI (pt T n k))) (M1 := M) (as := [.int (nI n), .int (nI k)]) (st := [.int (rcP T n s k), .int (rcP T n s k)]) dX4_reached_80 ml_X4_71 kv_X4_of ⟨by decide, rfl, by decide⟩ ⟨(Nat.le_of_ble_eq_true rfl), (Nat.le_of_ble_eq_true rfl)⟩ rfl (Nat.le_of_ble_eq_true rfl) rfl (Nat.le_of_ble_eq_true rfl) (c_of hM hW (by omega) (by omega)) ?_
    have hq9 := hW.ptlt hn c66
    refine v_callSr (x := .int (bI (bt ((rcP T n s k)) (pt T n k) = true))) (M1 := M) (as := [.int (rcP T n s k), .int (nI (pt T n k))]) (st := [.int (rcP T n s k)]) dX4_reached_83 ml_X4_84 ks_X4_has ⟨(Nat.le_of_ble_eq_true rfl), (Nat.le_of_ble_eq_true rfl)⟩ rfl (Nat.le_of_ble_eq_true rfl) rfl (Nat.le_of_ble_eq_true rfl) (c_has _ (by omega)) ?_
    refine v_ifB_eq (tgt := 95) dX4_reached_86 (by decide) (fun c86 => ?_) (fun c86 => ?_)
    · refine v_iconst (v := (nI 0)) dX4_reached_95 rfl ?_
      refine v_ior dX4_reached_96 ?_
      refine v_top (y := (rcP T n s (k + 1))) (by simp [rcP, bx, c86]) ?_
      refine v_istore_n (lv' := [(0, .ref 60), (1, .int (nI r)), (2, .int (rcP T n s (k + 1))), (3, .int (nI n)), (4, .int (bI (true = true))), (5, .int (nI k))]) dX4_reached_97 (Nat.le_of_ble_eq_true rfl) rfl ?_
      refine v_iincN (lv' := [(0, .ref 60), (1, .int (nI r)), (2, .int (rcP T n s (k + 1))), (3, .int (nI n)), (4, .int (bI (true = true))), (5, .int (nI (k + 1)))]) dX4_reached_98 rfl (Nat.le_of_ble_eq_true rfl) rfl ?_
      refine v_goto (tgt := 56) dX4_reached_101 (by decide) ?_
      exact ih (k + 1) (by omega)
    · refine v_iconst (v := (nI 1)) dX4_reached_89 rfl ?_
      refine v_iload_n dX4_reached_90 rfl ?_
      refine v_ishl dX4_reached_91 ?_
      refine v_goto (tgt := 96) dX4_reached_92 (by decide) ?_
      refine v_ior dX4_reached_96 ?_
      refine v_top (y := (rcP T n s (k + 1))) (by simp [rcP, bx, c86]) ?_
      refine v_istore_n (lv' := [(0, .ref 60), (1, .int (nI r)), (2, .int (rcP T n s (k + 1))), (3, .int (nI n)), (4, .int (bI (true = true))), (5, .int (nI k))]) dX4_reached_97 (Nat.le_of_ble_eq_true rfl) rfl ?_
      refine v_iincN (lv' := [(0, .ref 60), (1, .int (nI r)), (2, .int (rcP T n s (k + 1))), (3, .int (nI n)), (4, .int (bI (true = true))), (5, .int (nI (k + 1)))]) dX4_reached_98 rfl (Nat.le_of_ble_eq_true rfl) rfl ?_
      refine v_goto (tgt := 56) dX4_reached_101 (by decide) ?_
      exact ih (k + 1) (by omega)
set_option maxRecDepth 100000 in
theorem l_rc (hM : M 61 = T) (hW : WF T) {r : Nat} (hr : r < nN T) (d : Nat) : ∀ (j : Nat), r + 1 + j + d = nN T → V kX4_reached (rt (.int (rcF T r)) M) M 8 [(0, .ref 60), (1, .int (nI r)), (2, .int (rcU T r j)), (3, .int (nI (r + 1 + j)))] [] := by
  have h16 := hW.n16
  induction d with
  | zero =>
    intro j hk 
    refine v_iload_n dX4_reached_8 rfl ?_
    refine v_aload_n dX4_reached_9 rfl ?_
    refine v_callVr (x := .int (nI (nN T))) (M1 := M) (as := []) (st := [.int (nI (r + 1 + j))]) dX4_reached_10 ml_X4_52 kv_X4_many ⟨by decide, rfl, by decide⟩ ⟨(Nat.le_of_ble_eq_true rfl), (Nat.le_of_ble_eq_true rfl)⟩ rfl (Nat.le_of_ble_eq_true rfl) rfl (Nat.le_of_ble_eq_true rfl) (c_many hM hW) ?_
    refine v_icmpN_ge (tgt := 110) dX4_reached_13 (by decide) (by omega) (by omega) (fun c13 => ?_) (fun c13 => (by omega))
    refine v_iload_n dX4_reached_110 rfl ?_
    refine v_iret dX4_reached_111 rfl ?_
    refine ⟨?_, rfl⟩
    unfold rcF; rw [show nN T - (r + 1) = j by omega]
  | succ d ih =>
    intro j hk 
    refine v_iload_n dX4_reached_8 rfl ?_
    refine v_aload_n dX4_reached_9 rfl ?_
    refine v_callVr (x := .int (nI (nN T))) (M1 := M) (as := []) (st := [.int (nI (r + 1 + j))]) dX4_reached_10 ml_X4_52 kv_X4_many ⟨by decide, rfl, by decide⟩ ⟨(Nat.le_of_ble_eq_true rfl), (Nat.le_of_ble_eq_true rfl)⟩ rfl (Nat.le_of_ble_eq_true rfl) rfl (Nat.le_of_ble_eq_true rfl) (c_many hM hW) ?_
    refine v_icmpN_ge (tgt := 110) dX4_reached_13 (by decide) (by omega) (by omega) (fun c13 => (by omega)) (fun c13 => ?_)
    refine v_aload_n dX4_reached_16 rfl ?_
    refine v_iload_n dX4_reached_17 rfl ?_
    refine v_callVr (x := .int (bI (so T (r + 1 + j) ≤ 1))) (M1 := M) (as := [.int (nI (r + 1 + j))]) (st := []) dX4_reached_18 ml_X4_75 kv_X4_isLeaf ⟨by decide, rfl, by decide⟩ ⟨(Nat.le_of_ble_eq_true rfl), (Nat.le_of_ble_eq_true rfl)⟩ rfl (Nat.le_of_ble_eq_true rfl) rfl (Nat.le_of_ble_eq_true rfl) (c_isLeaf hM hW (by omega)) ?_
    refine v_ifB_eq (tgt := 46) dX4_reached_21 (by decide) (fun c21 => ?_) (fun c21 => ?_)
    · refine v_iconst (v := (nI 1)) dX4_reached_46 rfl ?_
      refine v_goto (tgt := 51) dX4_reached_47 (by decide) ?_
      refine v_istore (lv' := [(0, .ref 60), (1, .int (nI r)), (2, .int (rcU T r j)), (3, .int (nI (r + 1 + j))), (4, .int (nI 1))]) dX4_reached_51 (Nat.le_of_ble_eq_true rfl) rfl ?_
      refine v_iconst (v := (nI 0)) dX4_reached_53 rfl ?_
      refine v_istore (lv' := [(0, .ref 60), (1, .int (nI r)), (2, .int (rcU T r j)), (3, .int (nI (r + 1 + j))), (4, .int (nI 1)), (5, .int (nI 0))]) dX4_reached_54 (Nat.le_of_ble_eq_true rfl) rfl ?_
      show V kX4_reached _ M 56 [(0, .ref 60), (1, .int (nI r)), (2, .int (rcU T r j)), (3, .int (nI (r + 1 + j))), (4, .int (bI (true = true))), (5, .int (nI 0))] []
      refine l_rc1 hM hW (n := r + 1 + j) (s := rcU T r j) (by omega) ?_ (hmF (so T (r + 1 + j))) 0 (by omega)
      refine v_iincN (lv' := [(0, .ref 60), (1, .int (nI r)), (2, .int (rcP T (r + 1 + j) (rcU T r j) (hmF (so T (r + 1 + j))))), (3, .int (nI (r + 1 + j + 1)))]) dX4_reached_104 rfl (Nat.le_of_ble_eq_true rfl) rfl ?_
      refine v_goto (tgt := 8) dX4_reached_107 (by decide) ?_
      have e : rcU T r (j + 1) = (rcP T (r + 1 + j) (rcU T r j) (hmF (so T (r + 1 + j)))) := by simp only [rcU, rcS]; exact if_pos (by simp [psB]; omega)
      rw [← e]
      exact ih (j + 1) (by omega)
    · refine v_aload_n dX4_reached_24 rfl ?_
      refine v_iload_n dX4_reached_25 rfl ?_
      refine v_callVr (x := .int (nI (so T (r + 1 + j)))) (M1 := M) (as := [.int (nI (r + 1 + j))]) (st := []) dX4_reached_26 ml_X4_64 kv_X4_sort ⟨by decide, rfl, by decide⟩ ⟨(Nat.le_of_ble_eq_true rfl), (Nat.le_of_ble_eq_true rfl)⟩ rfl (Nat.le_of_ble_eq_true rfl) rfl (Nat.le_of_ble_eq_true rfl) (c_sort hM hW (by omega)) ?_
      refine v_iconst (v := (nI 1)) dX4_reached_29 rfl ?_
      refine v_icmpN_ne (tgt := 50) dX4_reached_30 (by decide) (by have := hW.so5 (n := r + 1 + j) (by omega); omega) (by omega) (fun c30 => ?_) (fun c30 => ?_)
      · refine v_iconst (v := (nI 0)) dX4_reached_50 rfl ?_
        refine v_istore (lv' := [(0, .ref 60), (1, .int (nI r)), (2, .int (rcU T r j)), (3, .int (nI (r + 1 + j))), (4, .int (nI 0))]) dX4_reached_51 (Nat.le_of_ble_eq_true rfl) rfl ?_
        refine v_iconst (v := (nI 0)) dX4_reached_53 rfl ?_
        refine v_istore (lv' := [(0, .ref 60), (1, .int (nI r)), (2, .int (rcU T r j)), (3, .int (nI (r + 1 + j))), (4, .int (nI 0)), (5, .int (nI 0))]) dX4_reached_54 (Nat.le_of_ble_eq_true rfl) rfl ?_
        refine v_iload dX4_reached_56 rfl ?_
        refine v_aload_n dX4_reached_58 rfl ?_
        refine v_iload_n dX4_reached_59 rfl ?_
        refine v_callVr (x := .int (nI (so T (r + 1 + j)))) (M1 := M) (as := [.int (nI (r + 1 + j))]) (st := [.int (nI 0)]) dX4_reached_60 ml_X4_64 kv_X4_sort ⟨by decide, rfl, by decide⟩ ⟨(Nat.le_of_ble_eq_true rfl), (Nat.le_of_ble_eq_true rfl)⟩ rfl (Nat.le_of_ble_eq_true rfl) rfl (Nat.le_of_ble_eq_true rfl) (c_sort hM hW (by omega)) ?_
        refine v_callSr (x := .int (nI (hmF (so T (r + 1 + j))))) (M1 := M) (as := [.int (nI (so T (r + 1 + j)))]) (st := [.int (nI 0)]) dX4_reached_63 ml_X4_68 ks_X4_hasMany ⟨(Nat.le_of_ble_eq_true rfl), (Nat.le_of_ble_eq_true rfl)⟩ rfl (Nat.le_of_ble_eq_true rfl) rfl (Nat.le_of_ble_eq_true rfl) (c_hasMany (by have := hW.so5 (n := (r + 1 + j)) (by omega); omega)) ?_
        refine v_icmpN_ge (tgt := 104) dX4_reached_66 (by decide) (by omega) (by have := hmF_le (so T (r + 1 + j)); omega) (fun c66 => ?_) (fun c66 => ?_)
        · refine v_iincN (lv' := [(0, .ref 60), (1, .int (nI r)), (2, .int (rcU T r j)), (3, .int (nI (r + 1 + j + 1))), (4, .int (nI 0)), (5, .int (nI 0))]) dX4_reached_104 rfl (Nat.le_of_ble_eq_true rfl) rfl ?_
          refine v_goto (tgt := 8) dX4_reached_107 (by decide) ?_
          refine v_sub (lv' := [(0, .ref 60), (1, .int (nI r)), (2, .int (rcU T r j)), (3, .int (nI (r + 1 + j + 1)))]) (by intro q hq; simp at hq; rcases hq with rfl | rfl | rfl | rfl <;> rfl) ?_
          have e : rcU T r (j + 1) = rcU T r j := by simp only [rcU, rcS]; exact if_neg (by simp [psB]; omega)
          rw [← e]
          exact ih (j + 1) (by omega)
        · refine v_iload dX4_reached_69 rfl ?_
          refine v_ifN_eq (tgt := 104) dX4_reached_71 (by decide) (by omega) (fun c71 => ?_) (fun c71 => (absurd rfl c71))
          refine v_iincN (lv' := [(0, .ref 60), (1, .int (nI r)), (2, .int (rcU T r j)), (3, .int (nI (r + 1 + j + 1))), (4, .int (nI 0)), (5, .int (nI 0))]) dX4_reached_104 rfl (Nat.le_of_ble_eq_true rfl) rfl ?_
          refine v_goto (tgt := 8) dX4_reached_107 (by decide) ?_
          refine v_sub (lv' := [(0, .ref 60), (1, .int (nI r)), (2, .int (rcU T r j)), (3, .int (nI (r + 1 + j + 1)))]) (by intro q hq; simp at hq; rcases hq with rfl | rfl | rfl | rfl <;> rfl) ?_
          have e : rcU T r (j + 1) = rcU T r j := by simp only [rcU, rcS]; exact if_neg (by simp [psB]; omega)
          rw [← e]
          exact ih (j + 1) (by omega)
      · refine v_aload_n dX4_reached_33 rfl ?_
        refine v_iload_n dX4_reached_34 rfl ?_
        refine v_callVr (x := .int (nI (ck T (r + 1 + j)))) (M1 := M) (as := [.int (nI (r + 1 + j))]) (st := []) dX4_reached_35 ml_X4_88 kv_X4_clock ⟨by decide, rfl, by decide⟩ ⟨(Nat.le_of_ble_eq_true rfl), (Nat.le_of_ble_eq_true rfl)⟩ rfl (Nat.le_of_ble_eq_true rfl) rfl (Nat.le_of_ble_eq_true rfl) (c_clock hM hW (by omega)) ?_
        refine v_aload_n dX4_reached_38 rfl ?_
        refine v_iload_n dX4_reached_39 rfl ?_
        refine v_callVr (x := .int (nI (ck T r))) (M1 := M) (as := [.int (nI r)]) (st := [.int (nI (ck T (r + 1 + j)))]) dX4_reached_40 ml_X4_88 kv_X4_clock ⟨by decide, rfl, by decide⟩ ⟨(Nat.le_of_ble_eq_true rfl), (Nat.le_of_ble_eq_true rfl)⟩ rfl (Nat.le_of_ble_eq_true rfl) rfl (Nat.le_of_ble_eq_true rfl) (c_clock hM hW (by omega)) ?_
        refine v_icmpN_ne (tgt := 50) dX4_reached_43 (by decide) (by have := hW.ck2 (n := r + 1 + j) (by omega); omega) (by have := hW.ck2 hr; omega) (fun c43 => ?_) (fun c43 => ?_)
        · refine v_iconst (v := (nI 0)) dX4_reached_50 rfl ?_
          refine v_istore (lv' := [(0, .ref 60), (1, .int (nI r)), (2, .int (rcU T r j)), (3, .int (nI (r + 1 + j))), (4, .int (nI 0))]) dX4_reached_51 (Nat.le_of_ble_eq_true rfl) rfl ?_
          refine v_iconst (v := (nI 0)) dX4_reached_53 rfl ?_
          refine v_istore (lv' := [(0, .ref 60), (1, .int (nI r)), (2, .int (rcU T r j)), (3, .int (nI (r + 1 + j))), (4, .int (nI 0)), (5, .int (nI 0))]) dX4_reached_54 (Nat.le_of_ble_eq_true rfl) rfl ?_
          refine v_iload dX4_reached_56 rfl ?_
          refine v_aload_n dX4_reached_58 rfl ?_
          refine v_iload_n dX4_reached_59 rfl ?_
          refine v_callVr (x := .int (nI (so T (r + 1 + j)))) (M1 := M) (as := [.int (nI (r + 1 + j))]) (st := [.int (nI 0)]) dX4_reached_60 ml_X4_64 kv_X4_sort ⟨by decide, rfl, by decide⟩ ⟨(Nat.le_of_ble_eq_true rfl), (Nat.le_of_ble_eq_true rfl)⟩ rfl (Nat.le_of_ble_eq_true rfl) rfl (Nat.le_of_ble_eq_true rfl) (c_sort hM hW (by omega)) ?_
          refine v_callSr (x := .int (nI (hmF (so T (r + 1 + j))))) (M1 := M) (as := [.int (nI (so T (r + 1 + j)))]) (st := [.int (nI 0)]) dX4_reached_63 ml_X4_68 ks_X4_hasMany ⟨(Nat.le_of_ble_eq_true rfl), (Nat.le_of_ble_eq_true rfl)⟩ rfl (Nat.le_of_ble_eq_true rfl) rfl (Nat.le_of_ble_eq_true rfl) (c_hasMany (by have := hW.so5 (n := (r + 1 + j)) (by omega); omega)) ?_
          refine v_icmpN_ge (tgt := 104) dX4_reached_66 (by decide) (by omega) (by have := hmF_le (so T (r + 1 + j)); omega) (fun c66 => ?_) (fun c66 => ?_)
          · refine v_iincN (lv' := [(0, .ref 60), (1, .int (nI r)), (2, .int (rcU T r j)), (3, .int (nI (r + 1 + j + 1))), (4, .int (nI 0)), (5, .int (nI 0))]) dX4_reached_104 rfl (Nat.le_of_ble_eq_true rfl) rfl ?_
            refine v_goto (tgt := 8) dX4_reached_107 (by decide) ?_
            refine v_sub (lv' := [(0, .ref 60), (1, .int (nI r)), (2, .int (rcU T r j)), (3, .int (nI (r + 1 + j + 1)))]) (by intro q hq; simp at hq; rcases hq with rfl | rfl | rfl | rfl <;> rfl) ?_
            have e : rcU T r (j + 1) = rcU T r j := by simp only [rcU, rcS]; exact if_neg (by simp [psB]; omega)
            rw [← e]
            exact ih (j + 1) (by omega)
          · refine v_iload dX4_reached_69 rfl ?_
            refine v_ifN_eq (tgt := 104) dX4_reached_71 (by decide) (by omega) (fun c71 => ?_) (fun c71 => (absurd rfl c71))
            refine v_iincN (lv' := [(0, .ref 60), (1, .int (nI r)), (2, .int (rcU T r j)), (3, .int (nI (r + 1 + j + 1))), (4, .int (nI 0)), (5, .int (nI 0))]) dX4_reached_104 rfl (Nat.le_of_ble_eq_true rfl) rfl ?_
            refine v_goto (tgt := 8) dX4_reached_107 (by decide) ?_
            refine v_sub (lv' := [(0, .ref 60), (1, .int (nI r)), (2, .int (rcU T r j)), (3, .int (nI (r + 1 + j + 1)))]) (by intro q hq; simp at hq; rcases hq with rfl | rfl | rfl | rfl <;> rfl) ?_
            have e : rcU T r (j + 1) = rcU T r j := by simp only [rcU, rcS]; exact if_neg (by simp [psB]; omega)
            rw [← e]
            exact ih (j + 1) (by omega)
        · refine v_iconst (v := (nI 1)) dX4_reached_46 rfl ?_
          refine v_goto (tgt := 51) dX4_reached_47 (by decide) ?_
          refine v_istore (lv' := [(0, .ref 60), (1, .int (nI r)), (2, .int (rcU T r j)), (3, .int (nI (r + 1 + j))), (4, .int (nI 1))]) dX4_reached_51 (Nat.le_of_ble_eq_true rfl) rfl ?_
          refine v_iconst (v := (nI 0)) dX4_reached_53 rfl ?_
          refine v_istore (lv' := [(0, .ref 60), (1, .int (nI r)), (2, .int (rcU T r j)), (3, .int (nI (r + 1 + j))), (4, .int (nI 1)), (5, .int (nI 0))]) dX4_reached_54 (Nat.le_of_ble_eq_true rfl) rfl ?_
          show V kX4_reached _ M 56 [(0, .ref 60), (1, .int (nI r)), (2, .int (rcU T r j)), (3, .int (nI (r + 1 + j))), (4, .int (bI (true = true))), (5, .int (nI 0))] []
          refine l_rc1 hM hW (n := r + 1 + j) (s := rcU T r j) (by omega) ?_ (hmF (so T (r + 1 + j))) 0 (by omega)
          refine v_iincN (lv' := [(0, .ref 60), (1, .int (nI r)), (2, .int (rcP T (r + 1 + j) (rcU T r j) (hmF (so T (r + 1 + j))))), (3, .int (nI (r + 1 + j + 1)))]) dX4_reached_104 rfl (Nat.le_of_ble_eq_true rfl) rfl ?_
          refine v_goto (tgt := 8) dX4_reached_107 (by decide) ?_
          have e : rcU T r (j + 1) = (rcP T (r + 1 + j) (rcU T r j) (hmF (so T (r + 1 + j)))) := by simp only [rcU, rcS]; exact if_pos (by simp [psB]; omega)
          rw [← e]
          exact ih (j + 1) (by omega)
set_option maxRecDepth 100000 in
theorem c_reached (hM : M 61 = T) (hW : WF T) {r : Nat} (hr : r < nN T) : V kX4_reached (rt (.int (rcF T r)) M) M 0 [(0, .ref 60), (1, .int (nI r))] [] := by
  have h16 := hW.n16
  refine v_iconst (v := (nI 1)) dX4_reached_0 rfl ?_
  refine v_iload_n dX4_reached_1 rfl ?_
  refine v_ishl dX4_reached_2 ?_
  refine v_istore_n (lv' := [(0, .ref 60), (1, .int (nI r)), (2, .int ((nI 1) <<< ((nI r) &&& 31)))]) dX4_reached_3 (Nat.le_of_ble_eq_true rfl) rfl ?_
  refine v_iload_n dX4_reached_4 rfl ?_
  refine v_iconst (v := (nI 1)) dX4_reached_5 rfl ?_
  refine v_iaddN dX4_reached_6 ?_
  refine v_istore_n (lv' := [(0, .ref 60), (1, .int (nI r)), (2, .int ((nI 1) <<< ((nI r) &&& 31))), (3, .int (nI (r + 1)))]) dX4_reached_7 (Nat.le_of_ble_eq_true rfl) rfl ?_
  exact l_rc hM hW hr (nN T - (r + 1)) 0 (by omega)
set_option maxRecDepth 100000 in
theorem l_mk (hM : M 61 = T) (hW : WF T) {a b : Nat} (ha : a < 16) (hb : b < 16) (d : Nat) : ∀ (k : Nat), k + d = nK T → V kX4_areMarked (rt (.int (bI (mkB T a b (nK T) = true))) M) M 5 [(0, .ref 60), (1, .int (nI a)), (2, .int (nI b)), (3, .int (bI (mkB T a b k = true))), (4, .int (nI k))] [] := by
  have h16 := hW.n16
  induction d with
  | zero =>
    intro k hk 
    refine v_iload dX4_areMarked_5 rfl ?_
    refine v_aload_n dX4_areMarked_7 rfl ?_
    refine v_getR (t := 61) dX4_areMarked_8 fl_X4_7 ⟨by decide, rfl, by decide⟩ rfl rfl ?_
    refine v_bipush (v := (nI 96)) dX4_areMarked_11 rfl ?_
    refine v_iald2 (n := 97) (a := 96) (y := (nI (nK T))) dX4_areMarked_13 ⟨by decide, rfl, rfl⟩ (rfl) (by omega) (by rw [hM]; exact hW.2.1.1) ?_
    refine v_icmpN_ge (tgt := 87) dX4_areMarked_14 (by decide) (by have := hW.2.1.2; omega) (by have := hW.2.1.2; omega) (fun c14 => ?_) (fun c14 => (by omega))
    refine v_iload_n dX4_areMarked_87 rfl ?_
    refine v_bret dX4_areMarked_88 rfl ?_
    refine ⟨?_, rfl⟩
    rw [show k = nK T by omega]
  | succ d ih =>
    intro k hk 
    refine v_iload dX4_areMarked_5 rfl ?_
    refine v_aload_n dX4_areMarked_7 rfl ?_
    refine v_getR (t := 61) dX4_areMarked_8 fl_X4_7 ⟨by decide, rfl, by decide⟩ rfl rfl ?_
    refine v_bipush (v := (nI 96)) dX4_areMarked_11 rfl ?_
    refine v_iald2 (n := 97) (a := 96) (y := (nI (nK T))) dX4_areMarked_13 ⟨by decide, rfl, rfl⟩ (rfl) (by omega) (by rw [hM]; exact hW.2.1.1) ?_
    refine v_icmpN_ge (tgt := 87) dX4_areMarked_14 (by decide) (by have := hW.2.1.2; omega) (by have := hW.2.1.2; omega) (fun c14 => (by omega)) (fun c14 => ?_)
    have hK6 := hW.2.1.2
    have hm0 := hW.2.2.2.2.2.1 (2 * k) (by omega)
    have hm1 := hW.2.2.2.2.2.1 (2 * k + 1) (by omega)
    refine v_aload_n dX4_areMarked_17 rfl ?_
    refine v_getR (t := 61) dX4_areMarked_18 fl_X4_7 ⟨by decide, rfl, by decide⟩ rfl rfl ?_
    refine v_bipush (v := (nI 80)) dX4_areMarked_21 rfl ?_
    refine v_iconst (v := (nI 2)) dX4_areMarked_23 rfl ?_
    refine v_iload dX4_areMarked_24 rfl ?_
    refine v_imulN dX4_areMarked_26 ?_
    refine v_iaddN dX4_areMarked_27 ?_
    refine v_iald2 (n := 97) (a := 80 + (2 * k)) (y := (nI (mk T (2 * k)))) dX4_areMarked_28 ⟨by decide, rfl, rfl⟩ (rfl) (by omega) (by rw [hM]; exact hm0.1) ?_
    refine v_istore (lv' := [(0, .ref 60), (1, .int (nI a)), (2, .int (nI b)), (3, .int (bI (mkB T a b k = true))), (4, .int (nI k)), (5, .int (nI (mk T (2 * k))))]) dX4_areMarked_29 (Nat.le_of_ble_eq_true rfl) rfl ?_
    refine v_aload_n dX4_areMarked_31 rfl ?_
    refine v_getR (t := 61) dX4_areMarked_32 fl_X4_7 ⟨by decide, rfl, by decide⟩ rfl rfl ?_
    refine v_bipush (v := (nI 80)) dX4_areMarked_35 rfl ?_
    refine v_iconst (v := (nI 2)) dX4_areMarked_37 rfl ?_
    refine v_iload dX4_areMarked_38 rfl ?_
    refine v_imulN dX4_areMarked_40 ?_
    refine v_iaddN dX4_areMarked_41 ?_
    refine v_iconst (v := (nI 1)) dX4_areMarked_42 rfl ?_
    refine v_iaddN dX4_areMarked_43 ?_
    refine v_iald2 (n := 97) (a := 80 + (2 * k + 1)) (y := (nI (mk T (2 * k + 1)))) dX4_areMarked_44 ⟨by decide, rfl, rfl⟩ (congrArg nI (by omega)) (by omega) (by rw [hM]; exact hm1.1) ?_
    refine v_istore (lv' := [(0, .ref 60), (1, .int (nI a)), (2, .int (nI b)), (3, .int (bI (mkB T a b k = true))), (4, .int (nI k)), (5, .int (nI (mk T (2 * k)))), (6, .int (nI (mk T (2 * k + 1))))]) dX4_areMarked_45 (Nat.le_of_ble_eq_true rfl) rfl ?_
    refine v_iload_n dX4_areMarked_47 rfl ?_
    refine v_ifB_ne (tgt := 75) dX4_areMarked_48 (by decide) (fun c48 => ?_) (fun c48 => ?_)
    · refine v_iconst (v := (nI 1)) dX4_areMarked_75 rfl ?_
      refine v_goto (tgt := 80) dX4_areMarked_76 (by decide) ?_
      refine v_top (y := (bI (mkB T a b (k + 1) = true))) ((bI_t (by first | (simp [mkB, c48]; done) | (simp [mkB, c48]; omega))).symm) ?_
      refine v_istore_n (lv' := [(0, .ref 60), (1, .int (nI a)), (2, .int (nI b)), (3, .int (bI (mkB T a b (k + 1) = true))), (4, .int (nI k)), (5, .int (nI (mk T (2 * k)))), (6, .int (nI (mk T (2 * k + 1))))]) dX4_areMarked_80 (Nat.le_of_ble_eq_true rfl) rfl ?_
      refine v_iincN (lv' := [(0, .ref 60), (1, .int (nI a)), (2, .int (nI b)), (3, .int (bI (mkB T a b (k + 1) = true))), (4, .int (nI (k + 1))), (5, .int (nI (mk T (2 * k)))), (6, .int (nI (mk T (2 * k + 1))))]) dX4_areMarked_81 rfl (Nat.le_of_ble_eq_true rfl) rfl ?_
      refine v_goto (tgt := 5) dX4_areMarked_84 (by decide) ?_
      refine v_sub (lv' := [(0, .ref 60), (1, .int (nI a)), (2, .int (nI b)), (3, .int (bI (mkB T a b (k + 1) = true))), (4, .int (nI (k + 1)))]) (by intro q hq; simp at hq; rcases hq with rfl | rfl | rfl | rfl | rfl <;> rfl) ?_
      exact ih (k + 1) (by omega)
    · refine v_iload dX4_areMarked_51 rfl ?_
      refine v_iload_n dX4_areMarked_53 rfl ?_
      refine v_icmpN_ne (tgt := 63) dX4_areMarked_54 (by decide) (by omega) (by omega) (fun c54 => ?_) (fun c54 => ?_)
      · refine v_iload dX4_areMarked_63 rfl ?_
        refine v_iload_n dX4_areMarked_65 rfl ?_
        refine v_icmpN_ne (tgt := 79) dX4_areMarked_66 (by decide) (by omega) (by omega) (fun c66 => ?_) (fun c66 => ?_)
        · refine v_iconst (v := (nI 0)) dX4_areMarked_79 rfl ?_
          refine v_top (y := (bI (mkB T a b (k + 1) = true))) ((bI_f (by simp [mkB, c48]; omega)).symm) ?_
          refine v_istore_n (lv' := [(0, .ref 60), (1, .int (nI a)), (2, .int (nI b)), (3, .int (bI (mkB T a b (k + 1) = true))), (4, .int (nI k)), (5, .int (nI (mk T (2 * k)))), (6, .int (nI (mk T (2 * k + 1))))]) dX4_areMarked_80 (Nat.le_of_ble_eq_true rfl) rfl ?_
          refine v_iincN (lv' := [(0, .ref 60), (1, .int (nI a)), (2, .int (nI b)), (3, .int (bI (mkB T a b (k + 1) = true))), (4, .int (nI (k + 1))), (5, .int (nI (mk T (2 * k)))), (6, .int (nI (mk T (2 * k + 1))))]) dX4_areMarked_81 rfl (Nat.le_of_ble_eq_true rfl) rfl ?_
          refine v_goto (tgt := 5) dX4_areMarked_84 (by decide) ?_
          refine v_sub (lv' := [(0, .ref 60), (1, .int (nI a)), (2, .int (nI b)), (3, .int (bI (mkB T a b (k + 1) = true))), (4, .int (nI (k + 1)))]) (by intro q hq; simp at hq; rcases hq with rfl | rfl | rfl | rfl | rfl <;> rfl) ?_
          exact ih (k + 1) (by omega)
        · refine v_iload dX4_areMarked_69 rfl ?_
          refine v_iload_n dX4_areMarked_71 rfl ?_
          refine v_icmpN_ne (tgt := 79) dX4_areMarked_72 (by decide) (by omega) (by omega) (fun c72 => ?_) (fun c72 => ?_)
          · refine v_iconst (v := (nI 0)) dX4_areMarked_79 rfl ?_
            refine v_top (y := (bI (mkB T a b (k + 1) = true))) ((bI_f (by simp [mkB, c48]; omega)).symm) ?_
            refine v_istore_n (lv' := [(0, .ref 60), (1, .int (nI a)), (2, .int (nI b)), (3, .int (bI (mkB T a b (k + 1) = true))), (4, .int (nI k)), (5, .int (nI (mk T (2 * k)))), (6, .int (nI (mk T (2 * k + 1))))]) dX4_areMarked_80 (Nat.le_of_ble_eq_true rfl) rfl ?_
            refine v_iincN (lv' := [(0, .ref 60), (1, .int (nI a)), (2, .int (nI b)), (3, .int (bI (mkB T a b (k + 1) = true))), (4, .int (nI (k + 1))), (5, .int (nI (mk T (2 * k)))), (6, .int (nI (mk T (2 * k + 1))))]) dX4_areMarked_81 rfl (Nat.le_of_ble_eq_true rfl) rfl ?_
            refine v_goto (tgt := 5) dX4_areMarked_84 (by decide) ?_
            refine v_sub (lv' := [(0, .ref 60), (1, .int (nI a)), (2, .int (nI b)), (3, .int (bI (mkB T a b (k + 1) = true))), (4, .int (nI (k + 1)))]) (by intro q hq; simp at hq; rcases hq with rfl | rfl | rfl | rfl | rfl <;> rfl) ?_
            exact ih (k + 1) (by omega)
          · refine v_iconst (v := (nI 1)) dX4_areMarked_75 rfl ?_
            refine v_goto (tgt := 80) dX4_areMarked_76 (by decide) ?_
            refine v_top (y := (bI (mkB T a b (k + 1) = true))) ((bI_t (by first | (simp [mkB, c48]; done) | (simp [mkB, c48]; omega))).symm) ?_
            refine v_istore_n (lv' := [(0, .ref 60), (1, .int (nI a)), (2, .int (nI b)), (3, .int (bI (mkB T a b (k + 1) = true))), (4, .int (nI k)), (5, .int (nI (mk T (2 * k)))), (6, .int (nI (mk T (2 * k + 1))))]) dX4_areMarked_80 (Nat.le_of_ble_eq_true rfl) rfl ?_
            refine v_iincN (lv' := [(0, .ref 60), (1, .int (nI a)), (2, .int (nI b)), (3, .int (bI (mkB T a b (k + 1) = true))), (4, .int (nI (k + 1))), (5, .int (nI (mk T (2 * k)))), (6, .int (nI (mk T (2 * k + 1))))]) dX4_areMarked_81 rfl (Nat.le_of_ble_eq_true rfl) rfl ?_
            refine v_goto (tgt := 5) dX4_areMarked_84 (by decide) ?_
            refine v_sub (lv' := [(0, .ref 60), (1, .int (nI a)), (2, .int (nI b)), (3, .int (bI (mkB T a b (k + 1) = true))), (4, .int (nI (k + 1)))]) (by intro q hq; simp at hq; rcases hq with rfl | rfl | rfl | rfl | rfl <;> rfl) ?_
            exact ih (k + 1) (by omega)
      · refine v_iload dX4_areMarked_57 rfl ?_
        refine v_iload_n dX4_areMarked_59 rfl ?_
        refine v_icmpN_eq (tgt := 75) dX4_areMarked_60 (by decide) (by omega) (by omega) (fun c60 => ?_) (fun c60 => ?_)
        · refine v_iconst (v := (nI 1)) dX4_areMarked_75 rfl ?_
          refine v_goto (tgt := 80) dX4_areMarked_76 (by decide) ?_
          refine v_top (y := (bI (mkB T a b (k + 1) = true))) ((bI_t (by first | (simp [mkB, c48]; done) | (simp [mkB, c48]; omega))).symm) ?_
          refine v_istore_n (lv' := [(0, .ref 60), (1, .int (nI a)), (2, .int (nI b)), (3, .int (bI (mkB T a b (k + 1) = true))), (4, .int (nI k)), (5, .int (nI (mk T (2 * k)))), (6, .int (nI (mk T (2 * k + 1))))]) dX4_areMarked_80 (Nat.le_of_ble_eq_true rfl) rfl ?_
          refine v_iincN (lv' := [(0, .ref 60), (1, .int (nI a)), (2, .int (nI b)), (3, .int (bI (mkB T a b (k + 1) = true))), (4, .int (nI (k + 1))), (5, .int (nI (mk T (2 * k)))), (6, .int (nI (mk T (2 * k + 1))))]) dX4_areMarked_81 rfl (Nat.le_of_ble_eq_true rfl) rfl ?_
          refine v_goto (tgt := 5) dX4_areMarked_84 (by decide) ?_
          refine v_sub (lv' := [(0, .ref 60), (1, .int (nI a)), (2, .int (nI b)), (3, .int (bI (mkB T a b (k + 1) = true))), (4, .int (nI (k + 1)))]) (by intro q hq; simp at hq; rcases hq with rfl | rfl | rfl | rfl | rfl <;> rfl) ?_
          exact ih (k + 1) (by omega)
        · refine v_iload dX4_areMarked_63 rfl ?_
          refine v_iload_n dX4_areMarked_65 rfl ?_
          refine v_icmpN_ne (tgt := 79) dX4_areMarked_66 (by decide) (by omega) (by omega) (fun c66 => ?_) (fun c66 => ?_)
          · refine v_iconst (v := (nI 0)) dX4_areMarked_79 rfl ?_
            refine v_top (y := (bI (mkB T a b (k + 1) = true))) ((bI_f (by simp [mkB, c48]; omega)).symm) ?_
            refine v_istore_n (lv' := [(0, .ref 60), (1, .int (nI a)), (2, .int (nI b)), (3, .int (bI (mkB T a b (k + 1) = true))), (4, .int (nI k)), (5, .int (nI (mk T (2 * k)))), (6, .int (nI (mk T (2 * k + 1))))]) dX4_areMarked_80 (Nat.le_of_ble_eq_true rfl) rfl ?_
            refine v_iincN (lv' := [(0, .ref 60), (1, .int (nI a)), (2, .int (nI b)), (3, .int (bI (mkB T a b (k + 1) = true))), (4, .int (nI (k + 1))), (5, .int (nI (mk T (2 * k)))), (6, .int (nI (mk T (2 * k + 1))))]) dX4_areMarked_81 rfl (Nat.le_of_ble_eq_true rfl) rfl ?_
            refine v_goto (tgt := 5) dX4_areMarked_84 (by decide) ?_
            refine v_sub (lv' := [(0, .ref 60), (1, .int (nI a)), (2, .int (nI b)), (3, .int (bI (mkB T a b (k + 1) = true))), (4, .int (nI (k + 1)))]) (by intro q hq; simp at hq; rcases hq with rfl | rfl | rfl | rfl | rfl <;> rfl) ?_
            exact ih (k + 1) (by omega)
          · refine v_iload dX4_areMarked_69 rfl ?_
            refine v_iload_n dX4_areMarked_71 rfl ?_
            refine v_icmpN_ne (tgt := 79) dX4_areMarked_72 (by decide) (by omega) (by omega) (fun c72 => ?_) (fun c72 => ?_)
            · refine v_iconst (v := (nI 0)) dX4_areMarked_79 rfl ?_
              refine v_top (y := (bI (mkB T a b (k + 1) = true))) ((bI_f (by simp [mkB, c48]; omega)).symm) ?_
              refine v_istore_n (lv' := [(0, .ref 60), (1, .int (nI a)), (2, .int (nI b)), (3, .int (bI (mkB T a b (k + 1) = true))), (4, .int (nI k)), (5, .int (nI (mk T (2 * k)))), (6, .int (nI (mk T (2 * k + 1))))]) dX4_areMarked_80 (Nat.le_of_ble_eq_true rfl) rfl ?_
              refine v_iincN (lv' := [(0, .ref 60), (1, .int (nI a)), (2, .int (nI b)), (3, .int (bI (mkB T a b (k + 1) = true))), (4, .int (nI (k + 1))), (5, .int (nI (mk T (2 * k)))), (6, .int (nI (mk T (2 * k + 1))))]) dX4_areMarked_81 rfl (Nat.le_of_ble_eq_true rfl) rfl ?_
              refine v_goto (tgt := 5) dX4_areMarked_84 (by decide) ?_
              refine v_sub (lv' := [(0, .ref 60), (1, .int (nI a)), (2, .int (nI b)), (3, .int (bI (mkB T a b (k + 1) = true))), (4, .int (nI (k + 1)))]) (by intro q hq; simp at hq; rcases hq with rfl | rfl | rfl | rfl | rfl <;> rfl) ?_
              exact ih (k + 1) (by omega)
            · refine v_iconst (v := (nI 1)) dX4_areMarked_75 rfl ?_
              refine v_goto (tgt := 80) dX4_areMarked_76 (by decide) ?_
              refine v_top (y := (bI (mkB T a b (k + 1) = true))) ((bI_t (by first | (simp [mkB, c48]; done) | (simp [mkB, c48]; omega))).symm) ?_
              refine v_istore_n (lv' := [(0, .ref 60), (1, .int (nI a)), (2, .int (nI b)), (3, .int (bI (mkB T a b (k + 1) = true))), (4, .int (nI k)), (5, .int (nI (mk T (2 * k)))), (6, .int (nI (mk T (2 * k + 1))))]) dX4_areMarked_80 (Nat.le_of_ble_eq_true rfl) rfl ?_
              refine v_iincN (lv' := [(0, .ref 60), (1, .int (nI a)), (2, .int (nI b)), (3, .int (bI (mkB T a b (k + 1) = true))), (4, .int (nI (k + 1))), (5, .int (nI (mk T (2 * k)))), (6, .int (nI (mk T (2 * k + 1))))]) dX4_areMarked_81 rfl (Nat.le_of_ble_eq_true rfl) rfl ?_
              refine v_goto (tgt := 5) dX4_areMarked_84 (by decide) ?_
              refine v_sub (lv' := [(0, .ref 60), (1, .int (nI a)), (2, .int (nI b)), (3, .int (bI (mkB T a b (k + 1) = true))), (4, .int (nI (k + 1)))]) (by intro q hq; simp at hq; rcases hq with rfl | rfl | rfl | rfl | rfl <;> rfl) ?_
              exact ih (k + 1) (by omega)
set_option maxRecDepth 100000 in
theorem c_areMarked (hM : M 61 = T) (hW : WF T) {a b : Nat} (ha : a < 16) (hb : b < 16) : V kX4_areMarked (rt (.int (bI (mkB T a b (nK T) = true))) M) M 0 [(0, .ref 60), (1, .int (nI a)), (2, .int (nI b))] [] := by
  have h16 := hW.n16
  refine v_iconst (v := (nI 0)) dX4_areMarked_0 rfl ?_
  refine v_istore_n (lv' := [(0, .ref 60), (1, .int (nI a)), (2, .int (nI b)), (3, .int (nI 0))]) dX4_areMarked_1 (Nat.le_of_ble_eq_true rfl) rfl ?_
  refine v_iconst (v := (nI 0)) dX4_areMarked_2 rfl ?_
  refine v_istore (lv' := [(0, .ref 60), (1, .int (nI a)), (2, .int (nI b)), (3, .int (nI 0)), (4, .int (nI 0))]) dX4_areMarked_3 (Nat.le_of_ble_eq_true rfl) rfl ?_
  show V kX4_areMarked _ M 5 [(0, .ref 60), (1, .int (nI a)), (2, .int (nI b)), (3, .int (bI (mkB T a b 0 = true))), (4, .int (nI 0))] []
  exact l_mk hM hW ha hb (nK T) 0 (by omega)
set_option maxRecDepth 100000 in
theorem c_areApart (hs : sc M0 M) (hM : M0 61 = T) (hW : WF T) {r q : Nat} (hr : r < nN T) (hq : q < nN T) (h1 : so T r = 1) (h2 : so T q = 1) : V kX4_areApart (rs (.int (bI (apF T r q = true))) M0) M 0 [(0, .ref 60), (1, .int (nI r)), (2, .int (nI q))] [] := by
  have h16 := hW.n16
  have hm1 := hm_reg h1
  have hp1 := hW.ptlt hr (show 0 < hmF (so T r) by omega)
  have hm2 := hm_reg h2
  have hp2 := hW.ptlt hq (show 0 < hmF (so T q) by omega)
  refine v_aload_n dX4_areApart_0 rfl ?_
  refine v_iload_n dX4_areApart_1 rfl ?_
  refine v_iconst (v := (nI 0)) dX4_areApart_2 rfl ?_
  refine v_callVr (x := .int (nI (pt T r 0))) (M1 := M) (as := [.int (nI r), .int (nI 0)]) (st := []) dX4_areApart_3 ml_X4_71 kv_X4_of ⟨by decide, rfl, by decide⟩ ⟨(Nat.le_of_ble_eq_true rfl), (Nat.le_of_ble_eq_true rfl)⟩ rfl (Nat.le_of_ble_eq_true rfl) rfl (Nat.le_of_ble_eq_true rfl) (c_of (scT hs hM) hW (by omega) (by omega)) ?_
  refine v_istore_n (lv' := [(0, .ref 60), (1, .int (nI r)), (2, .int (nI q)), (3, .int (nI (pt T r 0)))]) dX4_areApart_6 (Nat.le_of_ble_eq_true rfl) rfl ?_
  refine v_aload_n dX4_areApart_7 rfl ?_
  refine v_iload_n dX4_areApart_8 rfl ?_
  refine v_iconst (v := (nI 0)) dX4_areApart_9 rfl ?_
  refine v_callVr (x := .int (nI (pt T q 0))) (M1 := M) (as := [.int (nI q), .int (nI 0)]) (st := []) dX4_areApart_10 ml_X4_71 kv_X4_of ⟨by decide, rfl, by decide⟩ ⟨(Nat.le_of_ble_eq_true rfl), (Nat.le_of_ble_eq_true rfl)⟩ rfl (Nat.le_of_ble_eq_true rfl) rfl (Nat.le_of_ble_eq_true rfl) (c_of (scT hs hM) hW (by omega) (by omega)) ?_
  refine v_istore (lv' := [(0, .ref 60), (1, .int (nI r)), (2, .int (nI q)), (3, .int (nI (pt T r 0))), (4, .int (nI (pt T q 0)))]) dX4_areApart_13 (Nat.le_of_ble_eq_true rfl) rfl ?_
  refine v_aload_n dX4_areApart_15 rfl ?_
  refine v_iload_n dX4_areApart_16 rfl ?_
  refine v_callVr (x := .int (nI (ck T r))) (M1 := M) (as := [.int (nI r)]) (st := []) dX4_areApart_17 ml_X4_88 kv_X4_clock ⟨by decide, rfl, by decide⟩ ⟨(Nat.le_of_ble_eq_true rfl), (Nat.le_of_ble_eq_true rfl)⟩ rfl (Nat.le_of_ble_eq_true rfl) rfl (Nat.le_of_ble_eq_true rfl) (c_clock (scT hs hM) hW (by omega)) ?_
  refine v_aload_n dX4_areApart_20 rfl ?_
  refine v_iload_n dX4_areApart_21 rfl ?_
  refine v_callVr (x := .int (nI (ck T q))) (M1 := M) (as := [.int (nI q)]) (st := [.int (nI (ck T r))]) dX4_areApart_22 ml_X4_88 kv_X4_clock ⟨by decide, rfl, by decide⟩ ⟨(Nat.le_of_ble_eq_true rfl), (Nat.le_of_ble_eq_true rfl)⟩ rfl (Nat.le_of_ble_eq_true rfl) rfl (Nat.le_of_ble_eq_true rfl) (c_clock (scT hs hM) hW (by omega)) ?_
  refine v_icmpN_ne (tgt := 78) dX4_areApart_25 (by decide) (by have := hW.ck2 hr; omega) (by have := hW.ck2 hq; omega) (fun c25 => ?_) (fun c25 => ?_)
  · refine v_iconst (v := (nI 0)) dX4_areApart_78 rfl ?_
    refine v_zret dX4_areApart_79 rfl (Or.inl rfl) ?_
    refine ⟨?_, hs⟩
    rw [bI_f (by simp [apF, *])]; rfl
  · refine v_aload_n dX4_areApart_28 rfl ?_
    refine v_iload_n dX4_areApart_29 rfl ?_
    refine v_callV (as := [.int (nI r)]) (st := []) dX4_areApart_30 ml_X4_100 kv_X4_isDirect ⟨by decide, rfl, by decide⟩ ⟨(Nat.le_of_ble_eq_true rfl), (Nat.le_of_ble_eq_true rfl)⟩ rfl (Nat.le_of_ble_eq_true rfl) rfl (Nat.le_of_ble_eq_true rfl) (c_isDirect hs hM hW (by omega) (by assumption)) (fun v M hq => ?_)
    obtain ⟨rfl, hs⟩ := hq
    refine v_ifB_eq (tgt := 78) dX4_areApart_33 (by decide) (fun c33 => ?_) (fun c33 => ?_)
    · refine v_iconst (v := (nI 0)) dX4_areApart_78 rfl ?_
      refine v_zret dX4_areApart_79 rfl (Or.inl rfl) ?_
      refine ⟨?_, hs⟩
      rw [bI_f (by simp [apF, *])]; rfl
    · refine v_aload_n dX4_areApart_36 rfl ?_
      refine v_iload_n dX4_areApart_37 rfl ?_
      refine v_callV (as := [.int (nI q)]) (st := []) dX4_areApart_38 ml_X4_100 kv_X4_isDirect ⟨by decide, rfl, by decide⟩ ⟨(Nat.le_of_ble_eq_true rfl), (Nat.le_of_ble_eq_true rfl)⟩ rfl (Nat.le_of_ble_eq_true rfl) rfl (Nat.le_of_ble_eq_true rfl) (c_isDirect hs hM hW (by omega) (by assumption)) (fun v M hq => ?_)
      obtain ⟨rfl, hs⟩ := hq
      refine v_ifB_eq (tgt := 78) dX4_areApart_41 (by decide) (fun c41 => ?_) (fun c41 => ?_)
      · refine v_iconst (v := (nI 0)) dX4_areApart_78 rfl ?_
        refine v_zret dX4_areApart_79 rfl (Or.inl rfl) ?_
        refine ⟨?_, hs⟩
        rw [bI_f (by simp [apF, *])]; rfl
      · refine v_iload_n dX4_areApart_44 rfl ?_
        refine v_iload dX4_areApart_45 rfl ?_
        refine v_icmpN_eq (tgt := 78) dX4_areApart_47 (by decide) (by omega) (by omega) (fun c47 => ?_) (fun c47 => ?_)
        · refine v_iconst (v := (nI 0)) dX4_areApart_78 rfl ?_
          refine v_zret dX4_areApart_79 rfl (Or.inl rfl) ?_
          refine ⟨?_, hs⟩
          rw [bI_f (by simp [apF, *])]; rfl
        · refine v_aload_n dX4_areApart_50 rfl ?_
          refine v_iload_n dX4_areApart_51 rfl ?_
          refine v_callVr (x := .int (nI (ck T (pt T r 0)))) (M1 := M) (as := [.int (nI (pt T r 0))]) (st := []) dX4_areApart_52 ml_X4_88 kv_X4_clock ⟨by decide, rfl, by decide⟩ ⟨(Nat.le_of_ble_eq_true rfl), (Nat.le_of_ble_eq_true rfl)⟩ rfl (Nat.le_of_ble_eq_true rfl) rfl (Nat.le_of_ble_eq_true rfl) (c_clock (scT hs hM) hW (by omega)) ?_
          refine v_aload_n dX4_areApart_55 rfl ?_
          refine v_iload dX4_areApart_56 rfl ?_
          refine v_callVr (x := .int (nI (ck T (pt T q 0)))) (M1 := M) (as := [.int (nI (pt T q 0))]) (st := [.int (nI (ck T (pt T r 0)))]) dX4_areApart_58 ml_X4_88 kv_X4_clock ⟨by decide, rfl, by decide⟩ ⟨(Nat.le_of_ble_eq_true rfl), (Nat.le_of_ble_eq_true rfl)⟩ rfl (Nat.le_of_ble_eq_true rfl) rfl (Nat.le_of_ble_eq_true rfl) (c_clock (scT hs hM) hW (by omega)) ?_
          refine v_icmpN_ne (tgt := 78) dX4_areApart_61 (by decide) (by have := hW.ck2 (n := pt T r 0) (by omega); omega) (by have := hW.ck2 (n := pt T q 0) (by omega); omega) (fun c61 => ?_) (fun c61 => ?_)
          · refine v_iconst (v := (nI 0)) dX4_areApart_78 rfl ?_
            refine v_zret dX4_areApart_79 rfl (Or.inl rfl) ?_
            refine ⟨?_, hs⟩
            rw [bI_f (by simp [apF, *])]; rfl
          · refine v_aload_n dX4_areApart_64 rfl ?_
            refine v_iload_n dX4_areApart_65 rfl ?_
            refine v_iload dX4_areApart_66 rfl ?_
            refine v_callVr (x := .int (bI (mkB T (pt T r 0) (pt T q 0) (nK T) = true))) (M1 := M) (as := [.int (nI (pt T r 0)), .int (nI (pt T q 0))]) (st := []) dX4_areApart_68 ml_X4_121 kv_X4_areMarked ⟨by decide, rfl, by decide⟩ ⟨(Nat.le_of_ble_eq_true rfl), (Nat.le_of_ble_eq_true rfl)⟩ rfl (Nat.le_of_ble_eq_true rfl) rfl (Nat.le_of_ble_eq_true rfl) (c_areMarked (scT hs hM) hW (by omega) (by omega)) ?_
            refine v_ifB_ne (tgt := 78) dX4_areApart_71 (by decide) (fun c71 => ?_) (fun c71 => ?_)
            · refine v_iconst (v := (nI 0)) dX4_areApart_78 rfl ?_
              refine v_zret dX4_areApart_79 rfl (Or.inl rfl) ?_
              refine ⟨?_, hs⟩
              rw [bI_f (by simp [apF, *])]; rfl
            · refine v_iconst (v := (nI 1)) dX4_areApart_74 rfl ?_
              refine v_goto (tgt := 79) dX4_areApart_75 (by decide) ?_
              refine v_zret dX4_areApart_79 rfl (Or.inr rfl) ?_
              refine ⟨?_, hs⟩
              rw [bI_t (by simp [apF, *])]; rfl
end R17
end
section
section R18
variable {M M0 : vM} {T : Nat → Int32}
set_option maxRecDepth 100000 in
theorem l_low {s : Int32} (hb : ∃ j, j < 32 ∧ bt s j = true) (d : Nat) : ∀ (k : Nat), k + d = 32 → (∀ j, j < k → bt s j = false) → loN s d k = loF s → V kX4_lowest (rt (.int (nI (loF s))) M) M 2 [(0, .int s), (1, .int (nI k))] [] := by
  induction d with
  | zero =>
    intro k hk hj he
    exfalso
    obtain ⟨j, h1, h2⟩ := hb
    rw [hj j (by omega)] at h2
    cases h2
  | succ d ih =>
    intro k hk hj he
    refine v_iload_n dX4_lowest_2 rfl ?_
    refine v_iload_n dX4_lowest_3 rfl ?_
    refine v_callSr (x := .int (bI (bt s k = true))) (M1 := M) (as := [.int s, .int (nI k)]) (st := []) dX4_lowest_4 ml_X4_84 ks_X4_has ⟨(Nat.le_of_ble_eq_true rfl), (Nat.le_of_ble_eq_true rfl)⟩ rfl (Nat.le_of_ble_eq_true rfl) rfl (Nat.le_of_ble_eq_true rfl) (c_has _ (by omega)) ?_
    refine v_ifB_ne (tgt := 16) dX4_lowest_7 (by decide) (fun c7 => ?_) (fun c7 => ?_)
    · refine v_iload_n dX4_lowest_16 rfl ?_
      refine v_iret dX4_lowest_17 rfl ?_
      refine ⟨?_, rfl⟩
      simp only [loN, if_pos c7] at he
      rw [← he]
    · refine v_iincN (lv' := [(0, .int s), (1, .int (nI (k + 1)))]) dX4_lowest_10 rfl (Nat.le_of_ble_eq_true rfl) rfl ?_
      refine v_goto (tgt := 2) dX4_lowest_13 (by decide) ?_
      simp only [loN, if_neg c7] at he
      exact ih (k + 1) (by omega) (fun j h9 => by
        rcases Nat.lt_or_ge j k with h8 | h8
        · exact hj j h8
        · rw [show j = k by omega]; simpa using c7) he
set_option maxRecDepth 100000 in
theorem c_lowest {s : Int32} (hb : ∃ j, j < 32 ∧ bt s j = true) : V kX4_lowest (rt (.int (nI (loF s))) M) M 0 [(0, .int s)] [] := by
  refine v_iconst (v := (nI 0)) dX4_lowest_0 rfl ?_
  refine v_istore_n (lv' := [(0, .int s), (1, .int (nI 0))]) dX4_lowest_1 (Nat.le_of_ble_eq_true rfl) rfl ?_
  exact l_low hb 32 0 (by omega) (fun j h => absurd h (by omega)) rfl
set_option maxRecDepth 100000 in
theorem l_jq (hM : M0 61 = T) (hW : WF T) {k w x : Int32} {r : Nat} (hr : r < nN T) (h1 : so T r = 1) (d : Nat) : ∀ (q : Nat) (n : Nat) (M : vM), q + d = nN T → sc M0 M → (∀ q', jQ T k r d q n = .inl q' → x = jA T k w (.inl (r, q'))) → (∀ n' M', jQ T k r d q n = .inr n' → sc M0 M' → V kX4_joinAt (rs (.int x) M0) M' 133 [(0, .ref 60), (1, .int k), (2, .int w), (3, .int (nI n')), (4, .int (nI r))] []) → V kX4_joinAt (rs (.int x) M0) M 20 [(0, .ref 60), (1, .int k), (2, .int w), (3, .int (nI n)), (4, .int (nI r)), (5, .int (nI q))] [] := by
  have h16 := hW.n16
  induction d with
  | zero =>
    intro q n M hk hs ha hb
    refine v_iload dX4_joinAt_20 rfl ?_
    refine v_aload_n dX4_joinAt_22 rfl ?_
    refine v_callVr (x := .int (nI (nN T))) (M1 := M) (as := []) (st := [.int (nI q)]) dX4_joinAt_23 ml_X4_52 kv_X4_many ⟨by decide, rfl, by decide⟩ ⟨(Nat.le_of_ble_eq_true rfl), (Nat.le_of_ble_eq_true rfl)⟩ rfl (Nat.le_of_ble_eq_true rfl) rfl (Nat.le_of_ble_eq_true rfl) (c_many (scT hs hM) hW) ?_
    refine v_icmpN_ge (tgt := 133) dX4_joinAt_26 (by decide) (by omega) (by omega) (fun c26 => ?_) (fun c26 => (by omega))
    refine v_sub (lv' := [(0, .ref 60), (1, .int k), (2, .int w), (3, .int (nI n)), (4, .int (nI r))]) (by intro q hq; simp at hq; rcases hq with rfl | rfl | rfl | rfl | rfl <;> rfl) ?_
    exact hb n M rfl hs
  | succ d ih =>
    intro q n M hk hs ha hb
    refine v_iload dX4_joinAt_20 rfl ?_
    refine v_aload_n dX4_joinAt_22 rfl ?_
    refine v_callVr (x := .int (nI (nN T))) (M1 := M) (as := []) (st := [.int (nI q)]) dX4_joinAt_23 ml_X4_52 kv_X4_many ⟨by decide, rfl, by decide⟩ ⟨(Nat.le_of_ble_eq_true rfl), (Nat.le_of_ble_eq_true rfl)⟩ rfl (Nat.le_of_ble_eq_true rfl) rfl (Nat.le_of_ble_eq_true rfl) (c_many (scT hs hM) hW) ?_
    refine v_icmpN_ge (tgt := 133) dX4_joinAt_26 (by decide) (by omega) (by omega) (fun c26 => (by omega)) (fun c26 => ?_)
    refine v_aload_n dX4_joinAt_29 rfl ?_
    refine v_iload dX4_joinAt_30 rfl ?_
    refine v_callVr (x := .int (nI (so T r))) (M1 := M) (as := [.int (nI r)]) (st := []) dX4_joinAt_32 ml_X4_64 kv_X4_sort ⟨by decide, rfl, by decide⟩ ⟨(Nat.le_of_ble_eq_true rfl), (Nat.le_of_ble_eq_true rfl)⟩ rfl (Nat.le_of_ble_eq_true rfl) rfl (Nat.le_of_ble_eq_true rfl) (c_sort (scT hs hM) hW (by omega)) ?_
    refine v_iconst (v := (nI 1)) dX4_joinAt_35 rfl ?_
    refine v_icmpN_ne (tgt := 133) dX4_joinAt_36 (by decide) (by omega) (by omega) (fun c36 => (absurd h1 c36)) (fun c36 => ?_)
    refine v_aload_n dX4_joinAt_39 rfl ?_
    refine v_iload dX4_joinAt_40 rfl ?_
    refine v_callVr (x := .int (nI (so T q))) (M1 := M) (as := [.int (nI q)]) (st := []) dX4_joinAt_42 ml_X4_64 kv_X4_sort ⟨by decide, rfl, by decide⟩ ⟨(Nat.le_of_ble_eq_true rfl), (Nat.le_of_ble_eq_true rfl)⟩ rfl (Nat.le_of_ble_eq_true rfl) rfl (Nat.le_of_ble_eq_true rfl) (c_sort (scT hs hM) hW (by omega)) ?_
    refine v_iconst (v := (nI 1)) dX4_joinAt_45 rfl ?_
    refine v_icmpN_ne (tgt := 76) dX4_joinAt_46 (by decide) (by have := hW.so5 (n := q) (by omega); omega) (by omega) (fun c46 => ?_) (fun c46 => ?_)
    · refine v_iconst (v := (nI 0)) dX4_joinAt_76 rfl ?_
      refine v_top (y := (boF T r q)) (by simp [boF, *]) ?_
      refine v_istore (lv' := [(0, .ref 60), (1, .int k), (2, .int w), (3, .int (nI n)), (4, .int (nI r)), (5, .int (nI q)), (6, .int (boF T r q))]) dX4_joinAt_77 (Nat.le_of_ble_eq_true rfl) rfl ?_
      refine v_iload dX4_joinAt_79 rfl ?_
      refine v_if_eq (tgt := 114) dX4_joinAt_81 (by decide) (fun c81 => ?_) (fun c81 => ?_)
      · refine v_iload_n dX4_joinAt_114 rfl ?_
        refine v_iload dX4_joinAt_115 rfl ?_
        refine v_if_eq (tgt := 124) dX4_joinAt_117 (by decide) (fun c117 => ?_) (fun c117 => (absurd c81 c117))
        refine v_iconst (v := (nI 0)) dX4_joinAt_124 rfl ?_
        refine v_iaddN dX4_joinAt_125 ?_
        refine v_istore_n (lv' := [(0, .ref 60), (1, .int k), (2, .int w), (3, .int (nI (n + 0))), (4, .int (nI r)), (5, .int (nI q)), (6, .int (boF T r q))]) dX4_joinAt_126 (Nat.le_of_ble_eq_true rfl) rfl ?_
        refine v_iincN (lv' := [(0, .ref 60), (1, .int k), (2, .int w), (3, .int (nI (n + 0))), (4, .int (nI r)), (5, .int (nI (q + 1))), (6, .int (boF T r q))]) dX4_joinAt_127 rfl (Nat.le_of_ble_eq_true rfl) rfl ?_
        refine v_goto (tgt := 20) dX4_joinAt_130 (by decide) ?_
        refine v_sub (lv' := [(0, .ref 60), (1, .int k), (2, .int w), (3, .int (nI (n + 0))), (4, .int (nI r)), (5, .int (nI (q + 1)))]) (by intro q hq; simp at hq; rcases hq with rfl | rfl | rfl | rfl | rfl | rfl <;> rfl) ?_
        exact ih (q + 1) (n) _ (by omega) hs (fun q2 z => ha q2 (by rw [← z]; simp [jQ, c81])) (fun n2 M2 z => hb n2 M2 (by rw [← z]; simp [jQ, c81]))
      · refine v_iload_n dX4_joinAt_84 rfl ?_
        refine v_iload_n dX4_joinAt_85 rfl ?_
        refine v_icmp_ne (tgt := 114) dX4_joinAt_86 (by decide) (fun c86 => ?_) (fun c86 => ?_)
        · refine v_iload_n dX4_joinAt_114 rfl ?_
          refine v_iload dX4_joinAt_115 rfl ?_
          refine v_if_eq (tgt := 124) dX4_joinAt_117 (by decide) (fun c117 => (absurd c117 c81)) (fun c117 => ?_)
          refine v_iconst (v := (nI 1)) dX4_joinAt_120 rfl ?_
          refine v_goto (tgt := 125) dX4_joinAt_121 (by decide) ?_
          refine v_iaddN dX4_joinAt_125 ?_
          refine v_istore_n (lv' := [(0, .ref 60), (1, .int k), (2, .int w), (3, .int (nI (n + 1))), (4, .int (nI r)), (5, .int (nI q)), (6, .int (boF T r q))]) dX4_joinAt_126 (Nat.le_of_ble_eq_true rfl) rfl ?_
          refine v_iincN (lv' := [(0, .ref 60), (1, .int k), (2, .int w), (3, .int (nI (n + 1))), (4, .int (nI r)), (5, .int (nI (q + 1))), (6, .int (boF T r q))]) dX4_joinAt_127 rfl (Nat.le_of_ble_eq_true rfl) rfl ?_
          refine v_goto (tgt := 20) dX4_joinAt_130 (by decide) ?_
          refine v_sub (lv' := [(0, .ref 60), (1, .int k), (2, .int w), (3, .int (nI (n + 1))), (4, .int (nI r)), (5, .int (nI (q + 1)))]) (by intro q hq; simp at hq; rcases hq with rfl | rfl | rfl | rfl | rfl | rfl <;> rfl) ?_
          exact ih (q + 1) (n + 1) _ (by omega) hs (fun q2 z => ha q2 (by rw [← z]; simp [jQ, c81, c86])) (fun n2 M2 z => hb n2 M2 (by rw [← z]; simp [jQ, c81, c86]))
        · refine v_iload_n dX4_joinAt_89 rfl ?_
          refine v_if_ne (tgt := 98) dX4_joinAt_90 (by decide) (fun c90 => ?_) (fun c90 => ?_)
          · refine v_iload_n dX4_joinAt_98 rfl ?_
            refine v_iconst (v := (nI 1)) dX4_joinAt_99 rfl ?_
            refine v_icmp_ne (tgt := 108) dX4_joinAt_100 (by decide) (fun c100 => ?_) (fun c100 => ?_)
            · refine v_iload dX4_joinAt_108 rfl ?_
              have hbit := b_ne0.mp c81
              refine v_callSr (x := .int (nI (loF (boF T r q)))) (M1 := M) (as := [.int (boF T r q)]) (st := []) dX4_joinAt_110 ml_X4_130 ks_X4_lowest ⟨(Nat.le_of_ble_eq_true rfl), (Nat.le_of_ble_eq_true rfl)⟩ rfl (Nat.le_of_ble_eq_true rfl) rfl (Nat.le_of_ble_eq_true rfl) (c_lowest (by assumption)) ?_
              refine v_iret dX4_joinAt_113 rfl ?_
              refine ⟨?_, hs⟩
              rw [ha q (by simp [jQ, c81, c86])]
              simp only [jA]
              rw [if_neg c90, if_neg c100]
            · refine v_iload dX4_joinAt_103 rfl ?_
              refine v_goto (tgt := 113) dX4_joinAt_105 (by decide) ?_
              refine v_iret dX4_joinAt_113 rfl ?_
              refine ⟨?_, hs⟩
              rw [ha q (by simp [jQ, c81, c86])]
              simp only [jA]
              rw [if_neg c90, if_pos c100]
          · refine v_iload dX4_joinAt_93 rfl ?_
            refine v_goto (tgt := 113) dX4_joinAt_95 (by decide) ?_
            refine v_iret dX4_joinAt_113 rfl ?_
            refine ⟨?_, hs⟩
            rw [ha q (by simp [jQ, c81, c86])]
            simp only [jA]
            rw [if_pos c90]
    · refine v_aload_n dX4_joinAt_49 rfl ?_
      refine v_iload dX4_joinAt_50 rfl ?_
      refine v_iload dX4_joinAt_52 rfl ?_
      refine v_callV (as := [.int (nI r), .int (nI q)]) (st := []) dX4_joinAt_54 ml_X4_124 kv_X4_areApart ⟨by decide, rfl, by decide⟩ ⟨(Nat.le_of_ble_eq_true rfl), (Nat.le_of_ble_eq_true rfl)⟩ rfl (Nat.le_of_ble_eq_true rfl) rfl (Nat.le_of_ble_eq_true rfl) (c_areApart hs hM hW (by omega) (by omega) (by assumption) (by assumption)) (fun v M hq => ?_)
      obtain ⟨rfl, hs⟩ := hq
      refine v_ifB_eq (tgt := 76) dX4_joinAt_57 (by decide) (fun c57 => ?_) (fun c57 => ?_)
      · refine v_iconst (v := (nI 0)) dX4_joinAt_76 rfl ?_
        refine v_top (y := (boF T r q)) (by simp [boF, *]) ?_
        refine v_istore (lv' := [(0, .ref 60), (1, .int k), (2, .int w), (3, .int (nI n)), (4, .int (nI r)), (5, .int (nI q)), (6, .int (boF T r q))]) dX4_joinAt_77 (Nat.le_of_ble_eq_true rfl) rfl ?_
        refine v_iload dX4_joinAt_79 rfl ?_
        refine v_if_eq (tgt := 114) dX4_joinAt_81 (by decide) (fun c81 => ?_) (fun c81 => ?_)
        · refine v_iload_n dX4_joinAt_114 rfl ?_
          refine v_iload dX4_joinAt_115 rfl ?_
          refine v_if_eq (tgt := 124) dX4_joinAt_117 (by decide) (fun c117 => ?_) (fun c117 => (absurd c81 c117))
          refine v_iconst (v := (nI 0)) dX4_joinAt_124 rfl ?_
          refine v_iaddN dX4_joinAt_125 ?_
          refine v_istore_n (lv' := [(0, .ref 60), (1, .int k), (2, .int w), (3, .int (nI (n + 0))), (4, .int (nI r)), (5, .int (nI q)), (6, .int (boF T r q))]) dX4_joinAt_126 (Nat.le_of_ble_eq_true rfl) rfl ?_
          refine v_iincN (lv' := [(0, .ref 60), (1, .int k), (2, .int w), (3, .int (nI (n + 0))), (4, .int (nI r)), (5, .int (nI (q + 1))), (6, .int (boF T r q))]) dX4_joinAt_127 rfl (Nat.le_of_ble_eq_true rfl) rfl ?_
          refine v_goto (tgt := 20) dX4_joinAt_130 (by decide) ?_
          refine v_sub (lv' := [(0, .ref 60), (1, .int k), (2, .int w), (3, .int (nI (n + 0))), (4, .int (nI r)), (5, .int (nI (q + 1)))]) (by intro q hq; simp at hq; rcases hq with rfl | rfl | rfl | rfl | rfl | rfl <;> rfl) ?_
          exact ih (q + 1) (n) _ (by omega) hs (fun q2 z => ha q2 (by rw [← z]; simp [jQ, c81])) (fun n2 M2 z => hb n2 M2 (by rw [← z]; simp [jQ, c81]))
        · refine v_iload_n dX4_joinAt_84 rfl ?_
          refine v_iload_n dX4_joinAt_85 rfl ?_
          refine v_icmp_ne (tgt := 114) dX4_joinAt_86 (by decide) (fun c86 => ?_) (fun c86 => ?_)
          · refine v_iload_n dX4_joinAt_114 rfl ?_
            refine v_iload dX4_joinAt_115 rfl ?_
            refine v_if_eq (tgt := 124) dX4_joinAt_117 (by decide) (fun c117 => (absurd c117 c81)) (fun c117 => ?_)
            refine v_iconst (v := (nI 1)) dX4_joinAt_120 rfl ?_
            refine v_goto (tgt := 125) dX4_joinAt_121 (by decide) ?_
            refine v_iaddN dX4_joinAt_125 ?_
            refine v_istore_n (lv' := [(0, .ref 60), (1, .int k), (2, .int w), (3, .int (nI (n + 1))), (4, .int (nI r)), (5, .int (nI q)), (6, .int (boF T r q))]) dX4_joinAt_126 (Nat.le_of_ble_eq_true rfl) rfl ?_
            refine v_iincN (lv' := [(0, .ref 60), (1, .int k), (2, .int w), (3, .int (nI (n + 1))), (4, .int (nI r)), (5, .int (nI (q + 1))), (6, .int (boF T r q))]) dX4_joinAt_127 rfl (Nat.le_of_ble_eq_true rfl) rfl ?_
            refine v_goto (tgt := 20) dX4_joinAt_130 (by decide) ?_
            refine v_sub (lv' := [(0, .ref 60), (1, .int k), (2, .int w), (3, .int (nI (n + 1))), (4, .int (nI r)), (5, .int (nI (q + 1)))]) (by intro q hq; simp at hq; rcases hq with rfl | rfl | rfl | rfl | rfl | rfl <;> rfl) ?_
            exact ih (q + 1) (n + 1) _ (by omega) hs (fun q2 z => ha q2 (by rw [← z]; simp [jQ, c81, c86])) (fun n2 M2 z => hb n2 M2 (by rw [← z]; simp [jQ, c81, c86]))
          · refine v_iload_n dX4_joinAt_89 rfl ?_
            refine v_if_ne (tgt := 98) dX4_joinAt_90 (by decide) (fun c90 => ?_) (fun c90 => ?_)
            · refine v_iload_n dX4_joinAt_98 rfl ?_
              refine v_iconst (v := (nI 1)) dX4_joinAt_99 rfl ?_
              refine v_icmp_ne (tgt := 108) dX4_joinAt_100 (by decide) (fun c100 => ?_) (fun c100 => ?_)
              · refine v_iload dX4_joinAt_108 rfl ?_
                have hbit := b_ne0.mp c81
                refine v_callSr (x := .int (nI (loF (boF T r q)))) (M1 := M) (as := [.int (boF T r q)]) (st := []) dX4_joinAt_110 ml_X4_130 ks_X4_lowest ⟨(Nat.le_of_ble_eq_true rfl), (Nat.le_of_ble_eq_true rfl)⟩ rfl (Nat.le_of_ble_eq_true rfl) rfl (Nat.le_of_ble_eq_true rfl) (c_lowest (by assumption)) ?_
                refine v_iret dX4_joinAt_113 rfl ?_
                refine ⟨?_, hs⟩
                rw [ha q (by simp [jQ, c81, c86])]
                simp only [jA]
                rw [if_neg c90, if_neg c100]
              · refine v_iload dX4_joinAt_103 rfl ?_
                refine v_goto (tgt := 113) dX4_joinAt_105 (by decide) ?_
                refine v_iret dX4_joinAt_113 rfl ?_
                refine ⟨?_, hs⟩
                rw [ha q (by simp [jQ, c81, c86])]
                simp only [jA]
                rw [if_neg c90, if_pos c100]
            · refine v_iload dX4_joinAt_93 rfl ?_
              refine v_goto (tgt := 113) dX4_joinAt_95 (by decide) ?_
              refine v_iret dX4_joinAt_113 rfl ?_
              refine ⟨?_, hs⟩
              rw [ha q (by simp [jQ, c81, c86])]
              simp only [jA]
              rw [if_pos c90]
      · refine v_aload_n dX4_joinAt_60 rfl ?_
        refine v_iload dX4_joinAt_61 rfl ?_
        refine v_callVr (x := .int (rcF T r)) (M1 := M) (as := [.int (nI r)]) (st := []) dX4_joinAt_63 ml_X4_127 kv_X4_reached ⟨by decide, rfl, by decide⟩ ⟨(Nat.le_of_ble_eq_true rfl), (Nat.le_of_ble_eq_true rfl)⟩ rfl (Nat.le_of_ble_eq_true rfl) rfl (Nat.le_of_ble_eq_true rfl) (c_reached (scT hs hM) hW (by omega)) ?_
        refine v_aload_n dX4_joinAt_66 rfl ?_
        refine v_iload dX4_joinAt_67 rfl ?_
        refine v_callVr (x := .int (rcF T q)) (M1 := M) (as := [.int (nI q)]) (st := [.int (rcF T r)]) dX4_joinAt_69 ml_X4_127 kv_X4_reached ⟨by decide, rfl, by decide⟩ ⟨(Nat.le_of_ble_eq_true rfl), (Nat.le_of_ble_eq_true rfl)⟩ rfl (Nat.le_of_ble_eq_true rfl) rfl (Nat.le_of_ble_eq_true rfl) (c_reached (scT hs hM) hW (by omega)) ?_
        refine v_iand dX4_joinAt_72 ?_
        refine v_goto (tgt := 77) dX4_joinAt_73 (by decide) ?_
        refine v_top (y := (boF T r q)) (by simp [boF, *]) ?_
        refine v_istore (lv' := [(0, .ref 60), (1, .int k), (2, .int w), (3, .int (nI n)), (4, .int (nI r)), (5, .int (nI q)), (6, .int (boF T r q))]) dX4_joinAt_77 (Nat.le_of_ble_eq_true rfl) rfl ?_
        refine v_iload dX4_joinAt_79 rfl ?_
        refine v_if_eq (tgt := 114) dX4_joinAt_81 (by decide) (fun c81 => ?_) (fun c81 => ?_)
        · refine v_iload_n dX4_joinAt_114 rfl ?_
          refine v_iload dX4_joinAt_115 rfl ?_
          refine v_if_eq (tgt := 124) dX4_joinAt_117 (by decide) (fun c117 => ?_) (fun c117 => (absurd c81 c117))
          refine v_iconst (v := (nI 0)) dX4_joinAt_124 rfl ?_
          refine v_iaddN dX4_joinAt_125 ?_
          refine v_istore_n (lv' := [(0, .ref 60), (1, .int k), (2, .int w), (3, .int (nI (n + 0))), (4, .int (nI r)), (5, .int (nI q)), (6, .int (boF T r q))]) dX4_joinAt_126 (Nat.le_of_ble_eq_true rfl) rfl ?_
          refine v_iincN (lv' := [(0, .ref 60), (1, .int k), (2, .int w), (3, .int (nI (n + 0))), (4, .int (nI r)), (5, .int (nI (q + 1))), (6, .int (boF T r q))]) dX4_joinAt_127 rfl (Nat.le_of_ble_eq_true rfl) rfl ?_
          refine v_goto (tgt := 20) dX4_joinAt_130 (by decide) ?_
          refine v_sub (lv' := [(0, .ref 60), (1, .int k), (2, .int w), (3, .int (nI (n + 0))), (4, .int (nI r)), (5, .int (nI (q + 1)))]) (by intro q hq; simp at hq; rcases hq with rfl | rfl | rfl | rfl | rfl | rfl <;> rfl) ?_
          exact ih (q + 1) (n) _ (by omega) hs (fun q2 z => ha q2 (by rw [← z]; simp [jQ, c81])) (fun n2 M2 z => hb n2 M2 (by rw [← z]; simp [jQ, c81]))
        · refine v_iload_n dX4_joinAt_84 rfl ?_
          refine v_iload_n dX4_joinAt_85 rfl ?_
          refine v_icmp_ne (tgt := 114) dX4_joinAt_86 (by decide) (fun c86 => ?_) (fun c86 => ?_)
          · refine v_iload_n dX4_joinAt_114 rfl ?_
            refine v_iload dX4_joinAt_115 rfl ?_
            refine v_if_eq (tgt := 124) dX4_joinAt_117 (by decide) (fun c117 => (absurd c117 c81)) (fun c117 => ?_)
            refine v_iconst (v := (nI 1)) dX4_joinAt_120 rfl ?_
            refine v_goto (tgt := 125) dX4_joinAt_121 (by decide) ?_
            refine v_iaddN dX4_joinAt_125 ?_
            refine v_istore_n (lv' := [(0, .ref 60), (1, .int k), (2, .int w), (3, .int (nI (n + 1))), (4, .int (nI r)), (5, .int (nI q)), (6, .int (boF T r q))]) dX4_joinAt_126 (Nat.le_of_ble_eq_true rfl) rfl ?_
            refine v_iincN (lv' := [(0, .ref 60), (1, .int k), (2, .int w), (3, .int (nI (n + 1))), (4, .int (nI r)), (5, .int (nI (q + 1))), (6, .int (boF T r q))]) dX4_joinAt_127 rfl (Nat.le_of_ble_eq_true rfl) rfl ?_
            refine v_goto (tgt := 20) dX4_joinAt_130 (by decide) ?_
            refine v_sub (lv' := [(0, .ref 60), (1, .int k), (2, .int w), (3, .int (nI (n + 1))), (4, .int (nI r)), (5, .int (nI (q + 1)))]) (by intro q hq; simp at hq; rcases hq with rfl | rfl | rfl | rfl | rfl | rfl <;> rfl) ?_
            exact ih (q + 1) (n + 1) _ (by omega) hs (fun q2 z => ha q2 (by rw [← z]; simp [jQ, c81, c86])) (fun n2 M2 z => hb n2 M2 (by rw [← z]; simp [jQ, c81, c86]))
          · refine v_iload_n dX4_joinAt_89 rfl ?_
            refine v_if_ne (tgt := 98) dX4_joinAt_90 (by decide) (fun c90 => ?_) (fun c90 => ?_)
            · refine v_iload_n dX4_joinAt_98 rfl ?_
              refine v_iconst (v := (nI 1)) dX4_joinAt_99 rfl ?_
              refine v_icmp_ne (tgt := 108) dX4_joinAt_100 (by decide) (fun c100 => ?_) (fun c100 => ?_)
              · refine v_iload dX4_joinAt_108 rfl ?_
                have hbit := b_ne0.mp c81
                refine v_callSr (x := .int (nI (loF (boF T r q)))) (M1 := M) (as := [.int (boF T r q)]) (st := []) dX4_joinAt_110 ml_X4_130 ks_X4_lowest ⟨(Nat.le_of_ble_eq_true rfl), (Nat.le_of_ble_eq_true rfl)⟩ rfl (Nat.le_of_ble_eq_true rfl) rfl (Nat.le_of_ble_eq_true rfl) (c_lowest (by assumption)) ?_
                refine v_iret dX4_joinAt_113 rfl ?_
                refine ⟨?_, hs⟩
                rw [ha q (by simp [jQ, c81, c86])]
                simp only [jA]
                rw [if_neg c90, if_neg c100]
              · refine v_iload dX4_joinAt_103 rfl ?_
                refine v_goto (tgt := 113) dX4_joinAt_105 (by decide) ?_
                refine v_iret dX4_joinAt_113 rfl ?_
                refine ⟨?_, hs⟩
                rw [ha q (by simp [jQ, c81, c86])]
                simp only [jA]
                rw [if_neg c90, if_pos c100]
            · refine v_iload dX4_joinAt_93 rfl ?_
              refine v_goto (tgt := 113) dX4_joinAt_95 (by decide) ?_
              refine v_iret dX4_joinAt_113 rfl ?_
              refine ⟨?_, hs⟩
              rw [ha q (by simp [jQ, c81, c86])]
              simp only [jA]
              rw [if_pos c90]
set_option maxRecDepth 100000 in
theorem l_jr (hM : M0 61 = T) (hW : WF T) {k w : Int32} (d : Nat) : ∀ (r : Nat) (n : Nat) (M : vM), r + d = nN T → sc M0 M → V kX4_joinAt (rs (.int (jA T k w (jR T k d r n))) M0) M 5 [(0, .ref 60), (1, .int k), (2, .int w), (3, .int (nI n)), (4, .int (nI r))] [] := by
  have h16 := hW.n16
  induction d with
  | zero =>
    intro r n M hk hs
    refine v_iload dX4_joinAt_5 rfl ?_
    refine v_aload_n dX4_joinAt_7 rfl ?_
    refine v_callVr (x := .int (nI (nN T))) (M1 := M) (as := []) (st := [.int (nI r)]) dX4_joinAt_8 ml_X4_52 kv_X4_many ⟨by decide, rfl, by decide⟩ ⟨(Nat.le_of_ble_eq_true rfl), (Nat.le_of_ble_eq_true rfl)⟩ rfl (Nat.le_of_ble_eq_true rfl) rfl (Nat.le_of_ble_eq_true rfl) (c_many (scT hs hM) hW) ?_
    refine v_icmpN_ge (tgt := 139) dX4_joinAt_11 (by decide) (by omega) (by omega) (fun c11 => ?_) (fun c11 => (by omega))
    refine v_iload_n dX4_joinAt_139 rfl ?_
    refine v_if_ge (tgt := 147) dX4_joinAt_140 (by decide) (fun c140 => ?_) (fun c140 => ?_)
    · refine v_bipush (v := (-9)) dX4_joinAt_147 (by decide) ?_
      refine v_iret dX4_joinAt_149 rfl ?_
      refine ⟨?_, hs⟩
      simp [jA, jR, Int32.not_lt.mpr c140]
    · refine v_iload_n dX4_joinAt_143 rfl ?_
      refine v_goto (tgt := 149) dX4_joinAt_144 (by decide) ?_
      refine v_iret dX4_joinAt_149 rfl ?_
      refine ⟨?_, hs⟩
      simp [jA, jR, Int32.not_le.mp c140]
  | succ d ih =>
    intro r n M hk hs
    refine v_iload dX4_joinAt_5 rfl ?_
    refine v_aload_n dX4_joinAt_7 rfl ?_
    refine v_callVr (x := .int (nI (nN T))) (M1 := M) (as := []) (st := [.int (nI r)]) dX4_joinAt_8 ml_X4_52 kv_X4_many ⟨by decide, rfl, by decide⟩ ⟨(Nat.le_of_ble_eq_true rfl), (Nat.le_of_ble_eq_true rfl)⟩ rfl (Nat.le_of_ble_eq_true rfl) rfl (Nat.le_of_ble_eq_true rfl) (c_many (scT hs hM) hW) ?_
    refine v_icmpN_ge (tgt := 139) dX4_joinAt_11 (by decide) (by omega) (by omega) (fun c11 => (by omega)) (fun c11 => ?_)
    refine v_iload dX4_joinAt_14 rfl ?_
    refine v_iconst (v := (nI 1)) dX4_joinAt_16 rfl ?_
    refine v_iaddN dX4_joinAt_17 ?_
    refine v_istore (lv' := [(0, .ref 60), (1, .int k), (2, .int w), (3, .int (nI n)), (4, .int (nI r)), (5, .int (nI (r + 1)))]) dX4_joinAt_18 (Nat.le_of_ble_eq_true rfl) rfl ?_
    by_cases h1 : so T r = 1
    · refine l_jq hM hW (by omega) h1 (nN T - (r + 1)) (r + 1) n _ (by omega) hs (fun q2 z => ?_) (fun n2 M2 z hs2 => ?_)
      · simp [jR, jS, h1, z]
      · skip
        refine v_iincN (lv' := [(0, .ref 60), (1, .int k), (2, .int w), (3, .int (nI n2)), (4, .int (nI (r + 1)))]) dX4_joinAt_133 rfl (Nat.le_of_ble_eq_true rfl) rfl ?_
        refine v_goto (tgt := 5) dX4_joinAt_136 (by decide) ?_
        rw [show jR T k (d + 1) r n = jR T k d (r + 1) n2 by simp [jR, jS, h1, z]]
        exact ih (r + 1) n2 _ (by omega) hs2
    · skip
      refine v_iload dX4_joinAt_20 rfl ?_
      refine v_aload_n dX4_joinAt_22 rfl ?_
      refine v_callVr (x := .int (nI (nN T))) (M1 := M) (as := []) (st := [.int (nI (r + 1))]) dX4_joinAt_23 ml_X4_52 kv_X4_many ⟨by decide, rfl, by decide⟩ ⟨(Nat.le_of_ble_eq_true rfl), (Nat.le_of_ble_eq_true rfl)⟩ rfl (Nat.le_of_ble_eq_true rfl) rfl (Nat.le_of_ble_eq_true rfl) (c_many (scT hs hM) hW) ?_
      refine v_icmpN_ge (tgt := 133) dX4_joinAt_26 (by decide) (by omega) (by omega) (fun c26 => ?_) (fun c26 => ?_)
      · refine v_iincN (lv' := [(0, .ref 60), (1, .int k), (2, .int w), (3, .int (nI n)), (4, .int (nI (r + 1))), (5, .int (nI (r + 1)))]) dX4_joinAt_133 rfl (Nat.le_of_ble_eq_true rfl) rfl ?_
        refine v_goto (tgt := 5) dX4_joinAt_136 (by decide) ?_
        refine v_sub (lv' := [(0, .ref 60), (1, .int k), (2, .int w), (3, .int (nI n)), (4, .int (nI (r + 1)))]) (by intro q hq; simp at hq; rcases hq with rfl | rfl | rfl | rfl | rfl <;> rfl) ?_
        rw [show jR T k (d + 1) r n = jR T k d (r + 1) n by simp [jR, jS, h1]]
        exact ih (r + 1) n _ (by omega) hs
      · refine v_aload_n dX4_joinAt_29 rfl ?_
        refine v_iload dX4_joinAt_30 rfl ?_
        refine v_callVr (x := .int (nI (so T r))) (M1 := M) (as := [.int (nI r)]) (st := []) dX4_joinAt_32 ml_X4_64 kv_X4_sort ⟨by decide, rfl, by decide⟩ ⟨(Nat.le_of_ble_eq_true rfl), (Nat.le_of_ble_eq_true rfl)⟩ rfl (Nat.le_of_ble_eq_true rfl) rfl (Nat.le_of_ble_eq_true rfl) (c_sort (scT hs hM) hW (by omega)) ?_
        refine v_iconst (v := (nI 1)) dX4_joinAt_35 rfl ?_
        refine v_icmpN_ne (tgt := 133) dX4_joinAt_36 (by decide) (by have := hW.so5 (n := r) (by omega); omega) (by omega) (fun c36 => ?_) (fun c36 => (absurd c36 h1))
        refine v_iincN (lv' := [(0, .ref 60), (1, .int k), (2, .int w), (3, .int (nI n)), (4, .int (nI (r + 1))), (5, .int (nI (r + 1)))]) dX4_joinAt_133 rfl (Nat.le_of_ble_eq_true rfl) rfl ?_
        refine v_goto (tgt := 5) dX4_joinAt_136 (by decide) ?_
        refine v_sub (lv' := [(0, .ref 60), (1, .int k), (2, .int w), (3, .int (nI n)), (4, .int (nI (r + 1)))]) (by intro q hq; simp at hq; rcases hq with rfl | rfl | rfl | rfl | rfl <;> rfl) ?_
        rw [show jR T k (d + 1) r n = jR T k d (r + 1) n by simp [jR, jS, h1]]
        exact ih (r + 1) n _ (by omega) hs
set_option maxRecDepth 100000 in
theorem c_joinAt (hs : sc M0 M) (hM : M0 61 = T) (hW : WF T) {k w : Int32} : V kX4_joinAt (rs (.int (joinF T k w)) M0) M 0 [(0, .ref 60), (1, .int k), (2, .int w)] [] := by
  have h16 := hW.n16
  refine v_iconst (v := (nI 0)) dX4_joinAt_0 rfl ?_
  refine v_istore_n (lv' := [(0, .ref 60), (1, .int k), (2, .int w), (3, .int (nI 0))]) dX4_joinAt_1 (Nat.le_of_ble_eq_true rfl) rfl ?_
  refine v_iconst (v := (nI 0)) dX4_joinAt_2 rfl ?_
  refine v_istore (lv' := [(0, .ref 60), (1, .int k), (2, .int w), (3, .int (nI 0)), (4, .int (nI 0))]) dX4_joinAt_3 (Nat.le_of_ble_eq_true rfl) rfl ?_
  exact l_jr hM hW (nN T) 0 0 M (by omega) hs
end R18
end
section
/-! values and ticks -/
def anF (a b : Int32) : Int32 := if a = 0 ∨ b = 0 then nI 0 else if a = nI 2 ∨ b = nI 2 then nI 2 else nI 1
def orF (a b : Int32) : Int32 := if a = nI 1 ∨ b = nI 1 then nI 1 else if a = nI 2 ∨ b = nI 2 then nI 2 else nI 0
def xoF (a b : Int32) : Int32 := if a = nI 2 ∨ b = nI 2 then nI 2 else a ^^^ b
def chF (s a b : Int32) : Int32 := if s = 0 then a else if s = nI 1 then b else if a = b then a else nI 2
def gtF (T f : Nat → Int32) (n : Nat) : Int32 :=
  if so T n = 2 then anF (f (pt T n 0)) (f (pt T n 1)) else if so T n = 3 then orF (f (pt T n 0)) (f (pt T n 1)) else if so T n = 4 then xoF (f (pt T n 0)) (f (pt T n 1)) else chF (f (pt T n 0)) (f (pt T n 1)) (f (pt T n 2))
def vlS (T R f : Nat → Int32) (n : Nat) : Int32 := if so T n ≤ 1 then R (4 + n) else gtF T f n
def vlT (T R : Nat → Int32) : Nat → Nat → Int32
  | 0 => fun _ => 0
  | n + 1 => upd (vlT T R n) n (vlS T R (vlT T R n) n)
def vlF (T R : Nat → Int32) (n : Nat) : Int32 := vlS T R (vlT T R n) n
theorem vlT_lt {T R : Nat → Int32} {n j : Nat} (h : j < n) : vlT T R n j = vlF T R j := by
  induction n with
  | zero => omega
  | succ n ih =>
    by_cases hj : j = n
    · subst hj; simp [vlT, upd, vlF]
    · have h1 : j < n := by omega
      simp only [vlT, upd, if_neg hj]
      exact ih h1
theorem hm_gate {s : Nat} (h : ¬ s ≤ 1) : 2 ≤ hmF s := by unfold hmF; rw [if_neg (by omega), if_neg (by omega)]; split <;> omega
theorem hm_ch {s : Nat} (h : s = 5) : hmF s = 3 := by subst h; rfl
theorem gtF_c {T f g : Nat → Int32} (hW : WF T) {n : Nat} (hn : n < nN T) (hl : ¬ so T n ≤ 1) (h : ∀ j, j < n → f j = g j) : gtF T f n = gtF T g n := by
  have h2 := hm_gate hl
  have e0 := h _ (hW.ptlt hn (show 0 < hmF (so T n) by omega))
  have e1 := h _ (hW.ptlt hn (show 1 < hmF (so T n) by omega))
  unfold gtF
  by_cases c2 : so T n = 2
  · rw [if_pos c2, if_pos c2, e0, e1]
  · rw [if_neg c2, if_neg c2]
    by_cases c3 : so T n = 3
    · rw [if_pos c3, if_pos c3, e0, e1]
    · rw [if_neg c3, if_neg c3]
      by_cases c4 : so T n = 4
      · rw [if_pos c4, if_pos c4, e0, e1]
      · rw [if_neg c4, if_neg c4]
        have h5 := hW.so5 hn
        have hm := hm_ch (show so T n = 5 by omega)
        rw [e0, e1, h _ (hW.ptlt hn (show 2 < hmF (so T n) by omega))]
theorem vlF_eq {T R : Nat → Int32} (hW : WF T) {n : Nat} (hn : n < nN T) : vlF T R n = if so T n ≤ 1 then R (4 + n) else gtF T (vlF T R) n := by
  unfold vlF vlS
  split
  · rfl
  · exact gtF_c hW hn (by assumption) (fun j hj => vlT_lt hj)
def stF (T f : Nat → Int32) (n : Nat) : Bool := decide (so T (pt T n 0) = 1) && decide (ck T (pt T n 0) = ck T n) && dirF T (pt T n 0) && decide (f (pt T n 0) = nI 2)
def tkF (T f : Nat → Int32) (n : Nat) : Int32 := if stF T f n = true then (if f (pt T (pt T n 0) 0) = nI 2 then nI 0 else f (pt T (pt T n 0) 0)) else f (pt T n 0)
def itF (T f R : Nat → Int32) (oth : Int32) (n : Nat) : Int32 := if so T n = 0 then R (20 + n) else if frF T n &&& oth = 0 then tkF T f n else nI 2
def tkW (T f R : Nat → Int32) (oth : Int32) (n : Nat) : Nat → Int32 := if so T n = 1 then (if frF T n &&& oth = 0 then (if f (pt T n 0) = nI 2 ∧ stF T f n = false then upd R 3 (R 3 + nI 1) else R) else upd R 2 (R 2 + nI 1)) else R
def rmZ (tm : Int32) (p : Nat) : Int32 := tm - tm / nI p * nI p
def tkS (T f : Nat → Int32) (tm : Int32) (n : Nat) (s : (Nat → Int32) × Int32) : (Nat → Int32) × Int32 :=
  if so T n ≤ 1 ∧ rmZ tm (pe T (ck T n)) = 0 then (upd (tkW T f s.1 s.2 n) (4 + n) (itF T f s.1 s.2 n), s.2 ||| (if itF T f s.1 s.2 n = f n then nI 0 else bx n)) else s
def tkL (T f : Nat → Int32) (tm : Int32) (s : (Nat → Int32) × Int32) : Nat → (Nat → Int32) × Int32
  | 0 => s
  | n + 1 => tkS T f tm n (tkL T f tm s n)
/-- one tick of a row of the reference -/
def tkR (T R : Nat → Int32) : Nat → Int32 := (tkL T (vlF T R) (R 1 + nI 1) (upd R 1 (R 1 + nI 1), nI 0) (nN T)).1
theorem tkW_1 {T f R : Nat → Int32} {oth : Int32} {n : Nat} : tkW T f R oth n 1 = R 1 := by
  unfold tkW; split
  · split
    · split <;> simp [upd]
    · simp [upd]
  · rfl
theorem tkL_1 {T f : Nat → Int32} {tm : Int32} {s : (Nat → Int32) × Int32} (n : Nat) : (tkL T f tm s n).1 1 = s.1 1 := by
  induction n with
  | zero => rfl
  | succ n ih =>
    simp only [tkL, tkS]
    split
    · simp only [upd]; rw [if_neg (by omega), tkW_1, ih]
    · exact ih
/-- the memory in a tick of the row q -/
def tI (M0 M : vM) (q : Nat) (R : Nat → Int32) : Prop := (∀ i, i ≠ 68 → i ≠ q → M i = M0 i) ∧ M q = R
theorem tI_sc {M0 M M1 : vM} {q : Nat} {R : Nat → Int32} (hq : q = 63 ∨ q = 64) (h : tI M0 M q R) (hs : sc M M1) : tI M0 M1 q R := ⟨fun i h1 h2 => (hs i h1).trans (h.1 i h1 h2), (hs q (by omega)).trans h.2⟩
theorem tI_T {M0 M : vM} {q : Nat} {R T : Nat → Int32} (hq : q = 63 ∨ q = 64) (h : tI M0 M q R) (hM : M0 61 = T) : M 61 = T := (h.1 61 (by decide) (by omega)).trans hM
theorem tI_f {M0 M : vM} {q N : Nat} {R f : Nat → Int32} (hq : q = 63 ∨ q = 64) (h : tI M0 M q R) (hf : ∀ j, j < N → M0 69 j = f j) : ∀ j, j < N → M 69 j = f j := fun j hj => (congrFun (h.1 69 (by decide) (by omega)) j).trans (hf j hj)
theorem tI_up {M0 M : vM} {q a : Nat} {R : Nat → Int32} {y : Int32} (h : tI M0 M q R) : tI M0 (mup M q a y) q (upd R a y) := ⟨fun i h1 h2 => (mup_ne h2).trans (h.1 i h1 h2), by rw [mup_eq, h.2]⟩
theorem ar_q {q : Nat} (hq : q = 63 ∨ q = 64) : AR 10 q 36 := by rcases hq with rfl | rfl <;> exact ⟨by decide, rfl, rfl⟩
end
section
section R20
variable {M M0 : vM} {T : Nat → Int32}
set_option maxRecDepth 100000 in
theorem c_and (a b : Int32) : V kX4_and (rt (.int (anF a b)) M) M 0 [(0, .int a), (1, .int b)] [] := by
  refine v_iload_n dX4_and_0 rfl ?_
  refine v_if_eq (tgt := 8) dX4_and_1 (by decide) (fun c1 => ?_) (fun c1 => ?_)
  · refine v_iconst (v := (nI 0)) dX4_and_8 rfl ?_
    refine v_goto (tgt := 27) dX4_and_9 (by decide) ?_
    refine v_iret dX4_and_27 rfl ?_
    refine ⟨?_, rfl⟩
    simp [anF, show ¬ nI 2 = 0 by decide, show ¬ nI 1 = 0 by decide, *]
  · refine v_iload_n dX4_and_4 rfl ?_
    refine v_if_ne (tgt := 12) dX4_and_5 (by decide) (fun c5 => ?_) (fun c5 => ?_)
    · refine v_iload_n dX4_and_12 rfl ?_
      refine v_iconst (v := (nI 2)) dX4_and_13 rfl ?_
      refine v_icmp_eq (tgt := 22) dX4_and_14 (by decide) (fun c14 => ?_) (fun c14 => ?_)
      · refine v_iconst (v := (nI 2)) dX4_and_22 rfl ?_
        refine v_goto (tgt := 27) dX4_and_23 (by decide) ?_
        refine v_iret dX4_and_27 rfl ?_
        refine ⟨?_, rfl⟩
        simp [anF, show ¬ nI 2 = 0 by decide, show ¬ nI 1 = 0 by decide, *]
      · refine v_iload_n dX4_and_17 rfl ?_
        refine v_iconst (v := (nI 2)) dX4_and_18 rfl ?_
        refine v_icmp_ne (tgt := 26) dX4_and_19 (by decide) (fun c19 => ?_) (fun c19 => ?_)
        · refine v_iconst (v := (nI 1)) dX4_and_26 rfl ?_
          refine v_iret dX4_and_27 rfl ?_
          refine ⟨?_, rfl⟩
          simp [anF, show ¬ nI 2 = 0 by decide, show ¬ nI 1 = 0 by decide, *]
        · refine v_iconst (v := (nI 2)) dX4_and_22 rfl ?_
          refine v_goto (tgt := 27) dX4_and_23 (by decide) ?_
          refine v_iret dX4_and_27 rfl ?_
          refine ⟨?_, rfl⟩
          simp [anF, show ¬ nI 2 = 0 by decide, show ¬ nI 1 = 0 by decide, *]
    · refine v_iconst (v := (nI 0)) dX4_and_8 rfl ?_
      refine v_goto (tgt := 27) dX4_and_9 (by decide) ?_
      refine v_iret dX4_and_27 rfl ?_
      refine ⟨?_, rfl⟩
      simp [anF, show ¬ nI 2 = 0 by decide, show ¬ nI 1 = 0 by decide, *]
set_option maxRecDepth 100000 in
theorem c_or (a b : Int32) : V kX4_or (rt (.int (orF a b)) M) M 0 [(0, .int a), (1, .int b)] [] := by
  refine v_iload_n dX4_or_0 rfl ?_
  refine v_iconst (v := (nI 1)) dX4_or_1 rfl ?_
  refine v_icmp_eq (tgt := 10) dX4_or_2 (by decide) (fun c2 => ?_) (fun c2 => ?_)
  · refine v_iconst (v := (nI 1)) dX4_or_10 rfl ?_
    refine v_goto (tgt := 29) dX4_or_11 (by decide) ?_
    refine v_iret dX4_or_29 rfl ?_
    refine ⟨?_, rfl⟩
    simp [orF, show ¬ nI 2 = 0 by decide, show ¬ nI 1 = 0 by decide, *]
  · refine v_iload_n dX4_or_5 rfl ?_
    refine v_iconst (v := (nI 1)) dX4_or_6 rfl ?_
    refine v_icmp_ne (tgt := 14) dX4_or_7 (by decide) (fun c7 => ?_) (fun c7 => ?_)
    · refine v_iload_n dX4_or_14 rfl ?_
      refine v_iconst (v := (nI 2)) dX4_or_15 rfl ?_
      refine v_icmp_eq (tgt := 24) dX4_or_16 (by decide) (fun c16 => ?_) (fun c16 => ?_)
      · refine v_iconst (v := (nI 2)) dX4_or_24 rfl ?_
        refine v_goto (tgt := 29) dX4_or_25 (by decide) ?_
        refine v_iret dX4_or_29 rfl ?_
        refine ⟨?_, rfl⟩
        simp [orF, show ¬ nI 2 = 0 by decide, show ¬ nI 1 = 0 by decide, *]
      · refine v_iload_n dX4_or_19 rfl ?_
        refine v_iconst (v := (nI 2)) dX4_or_20 rfl ?_
        refine v_icmp_ne (tgt := 28) dX4_or_21 (by decide) (fun c21 => ?_) (fun c21 => ?_)
        · refine v_iconst (v := (nI 0)) dX4_or_28 rfl ?_
          refine v_iret dX4_or_29 rfl ?_
          refine ⟨?_, rfl⟩
          simp [orF, show ¬ nI 2 = 0 by decide, show ¬ nI 1 = 0 by decide, *]
        · refine v_iconst (v := (nI 2)) dX4_or_24 rfl ?_
          refine v_goto (tgt := 29) dX4_or_25 (by decide) ?_
          refine v_iret dX4_or_29 rfl ?_
          refine ⟨?_, rfl⟩
          simp [orF, show ¬ nI 2 = 0 by decide, show ¬ nI 1 = 0 by decide, *]
    · refine v_iconst (v := (nI 1)) dX4_or_10 rfl ?_
      refine v_goto (tgt := 29) dX4_or_11 (by decide) ?_
      refine v_iret dX4_or_29 rfl ?_
      refine ⟨?_, rfl⟩
      simp [orF, show ¬ nI 2 = 0 by decide, show ¬ nI 1 = 0 by decide, *]
set_option maxRecDepth 100000 in
theorem c_xor (a b : Int32) : V kX4_xor (rt (.int (xoF a b)) M) M 0 [(0, .int a), (1, .int b)] [] := by
  refine v_iload_n dX4_xor_0 rfl ?_
  refine v_iconst (v := (nI 2)) dX4_xor_1 rfl ?_
  refine v_icmp_eq (tgt := 10) dX4_xor_2 (by decide) (fun c2 => ?_) (fun c2 => ?_)
  · refine v_iconst (v := (nI 2)) dX4_xor_10 rfl ?_
    refine v_goto (tgt := 17) dX4_xor_11 (by decide) ?_
    refine v_iret dX4_xor_17 rfl ?_
    refine ⟨?_, rfl⟩
    simp [xoF, show ¬ nI 2 = 0 by decide, show ¬ nI 1 = 0 by decide, *]
  · refine v_iload_n dX4_xor_5 rfl ?_
    refine v_iconst (v := (nI 2)) dX4_xor_6 rfl ?_
    refine v_icmp_ne (tgt := 14) dX4_xor_7 (by decide) (fun c7 => ?_) (fun c7 => ?_)
    · refine v_iload_n dX4_xor_14 rfl ?_
      refine v_iload_n dX4_xor_15 rfl ?_
      refine v_ixor dX4_xor_16 ?_
      refine v_iret dX4_xor_17 rfl ?_
      refine ⟨?_, rfl⟩
      simp [xoF, show ¬ nI 2 = 0 by decide, show ¬ nI 1 = 0 by decide, *]
    · refine v_iconst (v := (nI 2)) dX4_xor_10 rfl ?_
      refine v_goto (tgt := 17) dX4_xor_11 (by decide) ?_
      refine v_iret dX4_xor_17 rfl ?_
      refine ⟨?_, rfl⟩
      simp [xoF, show ¬ nI 2 = 0 by decide, show ¬ nI 1 = 0 by decide, *]
set_option maxRecDepth 100000 in
theorem c_choose (s a b : Int32) : V kX4_choose (rt (.int (chF s a b)) M) M 0 [(0, .int s), (1, .int a), (2, .int b)] [] := by
  refine v_iload_n dX4_choose_0 rfl ?_
  refine v_if_ne (tgt := 8) dX4_choose_1 (by decide) (fun c1 => ?_) (fun c1 => ?_)
  · refine v_iload_n dX4_choose_8 rfl ?_
    refine v_iconst (v := (nI 1)) dX4_choose_9 rfl ?_
    refine v_icmp_ne (tgt := 17) dX4_choose_10 (by decide) (fun c10 => ?_) (fun c10 => ?_)
    · refine v_iload_n dX4_choose_17 rfl ?_
      refine v_iload_n dX4_choose_18 rfl ?_
      refine v_icmp_ne (tgt := 26) dX4_choose_19 (by decide) (fun c19 => ?_) (fun c19 => ?_)
      · refine v_iconst (v := (nI 2)) dX4_choose_26 rfl ?_
        refine v_iret dX4_choose_27 rfl ?_
        refine ⟨?_, rfl⟩
        simp [chF, show ¬ nI 1 = 0 by decide, *]
      · refine v_iload_n dX4_choose_22 rfl ?_
        refine v_goto (tgt := 27) dX4_choose_23 (by decide) ?_
        refine v_iret dX4_choose_27 rfl ?_
        refine ⟨?_, rfl⟩
        simp [chF, show ¬ nI 1 = 0 by decide, *]
    · refine v_iload_n dX4_choose_13 rfl ?_
      refine v_goto (tgt := 27) dX4_choose_14 (by decide) ?_
      refine v_iret dX4_choose_27 rfl ?_
      refine ⟨?_, rfl⟩
      simp [chF, show ¬ nI 1 = 0 by decide, *]
  · refine v_iload_n dX4_choose_4 rfl ?_
    refine v_goto (tgt := 27) dX4_choose_5 (by decide) ?_
    refine v_iret dX4_choose_27 rfl ?_
    refine ⟨?_, rfl⟩
    simp [chF, show ¬ nI 1 = 0 by decide, *]
set_option maxRecDepth 100000 in
theorem c_gate (hM : M 61 = T) (hW : WF T) {f : Nat → Int32} {n : Nat} (hn : n < nN T) (hl : ¬ so T n ≤ 1) (hf : ∀ j, j < n → M 69 j = f j) : V kX4_gate (rt (.int (gtF T f n)) M) M 0 [(0, .ref 60), (1, .int (nI n))] [] := by
  have h16 := hW.n16
  have hm2 := hm_gate hl
  have p0 := hW.ptlt hn (show 0 < hmF (so T n) by omega)
  have p1 := hW.ptlt hn (show 1 < hmF (so T n) by omega)
  have h5 := hW.so5 hn
  refine v_aload_n dX4_gate_0 rfl ?_
  refine v_getR (t := 69) dX4_gate_1 fl_X4_35 ⟨by decide, rfl, by decide⟩ rfl rfl ?_
  refine v_aload_n dX4_gate_4 rfl ?_
  refine v_iload_n dX4_gate_5 rfl ?_
  refine v_iconst (v := (nI 0)) dX4_gate_6 rfl ?_
  refine v_callVr (x := .int (nI (pt T n 0))) (M1 := M) (as := [.int (nI n), .int (nI 0)]) (st := [.ref 69]) dX4_gate_7 ml_X4_71 kv_X4_of ⟨by decide, rfl, by decide⟩ ⟨(Nat.le_of_ble_eq_true rfl), (Nat.le_of_ble_eq_true rfl)⟩ rfl (Nat.le_of_ble_eq_true rfl) rfl (Nat.le_of_ble_eq_true rfl) (c_of hM hW (by omega) (by omega)) ?_
  refine v_iald2 (n := 16) (a := pt T n 0) (y := (f (pt T n 0))) dX4_gate_10 ⟨by decide, rfl, rfl⟩ (rfl) (by omega) (hf _ p0) ?_
  refine v_istore_n (lv' := [(0, .ref 60), (1, .int (nI n)), (2, .int (f (pt T n 0)))]) dX4_gate_11 (Nat.le_of_ble_eq_true rfl) rfl ?_
  refine v_aload_n dX4_gate_12 rfl ?_
  refine v_getR (t := 69) dX4_gate_13 fl_X4_35 ⟨by decide, rfl, by decide⟩ rfl rfl ?_
  refine v_aload_n dX4_gate_16 rfl ?_
  refine v_iload_n dX4_gate_17 rfl ?_
  refine v_iconst (v := (nI 1)) dX4_gate_18 rfl ?_
  refine v_callVr (x := .int (nI (pt T n 1))) (M1 := M) (as := [.int (nI n), .int (nI 1)]) (st := [.ref 69]) dX4_gate_19 ml_X4_71 kv_X4_of ⟨by decide, rfl, by decide⟩ ⟨(Nat.le_of_ble_eq_true rfl), (Nat.le_of_ble_eq_true rfl)⟩ rfl (Nat.le_of_ble_eq_true rfl) rfl (Nat.le_of_ble_eq_true rfl) (c_of hM hW (by omega) (by omega)) ?_
  refine v_iald2 (n := 16) (a := pt T n 1) (y := (f (pt T n 1))) dX4_gate_22 ⟨by decide, rfl, rfl⟩ (rfl) (by omega) (hf _ p1) ?_
  refine v_istore_n (lv' := [(0, .ref 60), (1, .int (nI n)), (2, .int (f (pt T n 0))), (3, .int (f (pt T n 1)))]) dX4_gate_23 (Nat.le_of_ble_eq_true rfl) rfl ?_
  refine v_aload_n dX4_gate_24 rfl ?_
  refine v_iload_n dX4_gate_25 rfl ?_
  refine v_callVr (x := .int (nI (so T n))) (M1 := M) (as := [.int (nI n)]) (st := []) dX4_gate_26 ml_X4_64 kv_X4_sort ⟨by decide, rfl, by decide⟩ ⟨(Nat.le_of_ble_eq_true rfl), (Nat.le_of_ble_eq_true rfl)⟩ rfl (Nat.le_of_ble_eq_true rfl) rfl (Nat.le_of_ble_eq_true rfl) (c_sort hM hW (by omega)) ?_
  rcases (show so T n = 2 ∨ so T n = 3 ∨ so T n = 4 ∨ so T n = 5 by omega) with c9 | c9 | c9 | c9
  · refine v_tabIn (tgt := 56) (off := 27) dX4_gate_29 (by rw [c9]; decide) (by rw [c9]; decide) (by rw [c9]; decide) (by decide) ?_
    refine v_iload_n dX4_gate_56 rfl ?_
    refine v_iload_n dX4_gate_57 rfl ?_
    refine v_callSr (x := .int (anF ((f (pt T n 0))) ((f (pt T n 1))))) (M1 := M) (as := [.int (f (pt T n 0)), .int (f (pt T n 1))]) (st := []) dX4_gate_58 ml_X4_133 ks_X4_and ⟨(Nat.le_of_ble_eq_true rfl), (Nat.le_of_ble_eq_true rfl)⟩ rfl (Nat.le_of_ble_eq_true rfl) rfl (Nat.le_of_ble_eq_true rfl) (c_and _ _) ?_
    refine v_iret dX4_gate_61 rfl ?_
    refine ⟨?_, rfl⟩
    simp [gtF, c9]
  · refine v_tabIn (tgt := 62) (off := 33) dX4_gate_29 (by rw [c9]; decide) (by rw [c9]; decide) (by rw [c9]; decide) (by decide) ?_
    refine v_iload_n dX4_gate_62 rfl ?_
    refine v_iload_n dX4_gate_63 rfl ?_
    refine v_callSr (x := .int (orF ((f (pt T n 0))) ((f (pt T n 1))))) (M1 := M) (as := [.int (f (pt T n 0)), .int (f (pt T n 1))]) (st := []) dX4_gate_64 ml_X4_136 ks_X4_or ⟨(Nat.le_of_ble_eq_true rfl), (Nat.le_of_ble_eq_true rfl)⟩ rfl (Nat.le_of_ble_eq_true rfl) rfl (Nat.le_of_ble_eq_true rfl) (c_or _ _) ?_
    refine v_iret dX4_gate_67 rfl ?_
    refine ⟨?_, rfl⟩
    simp [gtF, c9]
  · refine v_tabIn (tgt := 68) (off := 39) dX4_gate_29 (by rw [c9]; decide) (by rw [c9]; decide) (by rw [c9]; decide) (by decide) ?_
    refine v_iload_n dX4_gate_68 rfl ?_
    refine v_iload_n dX4_gate_69 rfl ?_
    refine v_callSr (x := .int (xoF ((f (pt T n 0))) ((f (pt T n 1))))) (M1 := M) (as := [.int (f (pt T n 0)), .int (f (pt T n 1))]) (st := []) dX4_gate_70 ml_X4_139 ks_X4_xor ⟨(Nat.le_of_ble_eq_true rfl), (Nat.le_of_ble_eq_true rfl)⟩ rfl (Nat.le_of_ble_eq_true rfl) rfl (Nat.le_of_ble_eq_true rfl) (c_xor _ _) ?_
    refine v_iret dX4_gate_73 rfl ?_
    refine ⟨?_, rfl⟩
    simp [gtF, c9]
  · refine v_tabOut (tgt := 74) dX4_gate_29 (by rw [c9]; decide) (by decide) ?_
    refine v_iload_n dX4_gate_74 rfl ?_
    refine v_iload_n dX4_gate_75 rfl ?_
    refine v_aload_n dX4_gate_76 rfl ?_
    refine v_getR (t := 69) dX4_gate_77 fl_X4_35 ⟨by decide, rfl, by decide⟩ rfl rfl ?_
    refine v_aload_n dX4_gate_80 rfl ?_
    refine v_iload_n dX4_gate_81 rfl ?_
    refine v_iconst (v := (nI 2)) dX4_gate_82 rfl ?_
    have hm3 := hm_ch (show so T n = 5 by omega)
    have p2 := hW.ptlt hn (show 2 < hmF (so T n) by omega)
    refine v_callVr (x := .int (nI (pt T n 2))) (M1 := M) (as := [.int (nI n), .int (nI 2)]) (st := [.ref 69, .int (f (pt T n 1)), .int (f (pt T n 0))]) dX4_gate_83 ml_X4_71 kv_X4_of ⟨by decide, rfl, by decide⟩ ⟨(Nat.le_of_ble_eq_true rfl), (Nat.le_of_ble_eq_true rfl)⟩ rfl (Nat.le_of_ble_eq_true rfl) rfl (Nat.le_of_ble_eq_true rfl) (c_of hM hW (by omega) (by omega)) ?_
    refine v_iald2 (n := 16) (a := pt T n 2) (y := (f (pt T n 2))) dX4_gate_86 ⟨by decide, rfl, rfl⟩ (rfl) (by omega) (hf _ p2) ?_
    refine v_callSr (x := .int (chF ((f (pt T n 0))) ((f (pt T n 1))) ((f (pt T n 2))))) (M1 := M) (as := [.int (f (pt T n 0)), .int (f (pt T n 1)), .int (f (pt T n 2))]) (st := []) dX4_gate_87 ml_X4_142 ks_X4_choose ⟨(Nat.le_of_ble_eq_true rfl), (Nat.le_of_ble_eq_true rfl)⟩ rfl (Nat.le_of_ble_eq_true rfl) rfl (Nat.le_of_ble_eq_true rfl) (c_choose _ _ _) ?_
    refine v_iret dX4_gate_90 rfl ?_
    refine ⟨?_, rfl⟩
    simp [gtF, c9]
set_option maxRecDepth 100000 in
theorem l_findV (hM : M0 61 = T) (hW : WF T) {q : Nat} {R : Nat → Int32} (hq : q = 63 ∨ q = 64) (hR : M0 q = R) (d : Nat) : ∀ (n : Nat) (M : vM), n + d = nN T → (∀ i, i ≠ 69 → M i = M0 i) → (∀ j, j < n → M 69 j = vlF T R j) → V kX4_findValues (fun v M1 => v = none ∧ (∀ i, i ≠ 69 → M1 i = M0 i) ∧ ∀ j, j < nN T → M1 69 j = vlF T R j) M 2 [(0, .ref 60), (1, .ref q), (2, .int (nI n))] [] := by
  have h16 := hW.n16
  induction d with
  | zero =>
    intro n M hk hs hj
    refine v_iload_n dX4_findValues_2 rfl ?_
    refine v_aload_n dX4_findValues_3 rfl ?_
    refine v_callVr (x := .int (nI (nN T))) (M1 := M) (as := []) (st := [.int (nI n)]) dX4_findValues_4 ml_X4_52 kv_X4_many ⟨by decide, rfl, by decide⟩ ⟨(Nat.le_of_ble_eq_true rfl), (Nat.le_of_ble_eq_true rfl)⟩ rfl (Nat.le_of_ble_eq_true rfl) rfl (Nat.le_of_ble_eq_true rfl) (c_many ((hs 61 (by decide)).trans hM) hW) ?_
    refine v_icmpN_ge (tgt := 43) dX4_findValues_7 (by decide) (by omega) (by omega) (fun c7 => ?_) (fun c7 => (by omega))
    refine v_vret dX4_findValues_43 rfl ?_
    exact ⟨rfl, hs, fun j h9 => hj j (by omega)⟩
  | succ d ih =>
    intro n M hk hs hj
    refine v_iload_n dX4_findValues_2 rfl ?_
    refine v_aload_n dX4_findValues_3 rfl ?_
    refine v_callVr (x := .int (nI (nN T))) (M1 := M) (as := []) (st := [.int (nI n)]) dX4_findValues_4 ml_X4_52 kv_X4_many ⟨by decide, rfl, by decide⟩ ⟨(Nat.le_of_ble_eq_true rfl), (Nat.le_of_ble_eq_true rfl)⟩ rfl (Nat.le_of_ble_eq_true rfl) rfl (Nat.le_of_ble_eq_true rfl) (c_many ((hs 61 (by decide)).trans hM) hW) ?_
    refine v_icmpN_ge (tgt := 43) dX4_findValues_7 (by decide) (by omega) (by omega) (fun c7 => (by omega)) (fun c7 => ?_)
    refine v_aload_n dX4_findValues_10 rfl ?_
    refine v_getR (t := 69) dX4_findValues_11 fl_X4_35 ⟨by decide, rfl, by decide⟩ rfl rfl ?_
    refine v_iload_n dX4_findValues_14 rfl ?_
    refine v_aload_n dX4_findValues_15 rfl ?_
    refine v_iload_n dX4_findValues_16 rfl ?_
    refine v_callVr (x := .int (bI (so T n ≤ 1))) (M1 := M) (as := [.int (nI n)]) (st := [.int (nI n), .ref 69]) dX4_findValues_17 ml_X4_75 kv_X4_isLeaf ⟨by decide, rfl, by decide⟩ ⟨(Nat.le_of_ble_eq_true rfl), (Nat.le_of_ble_eq_true rfl)⟩ rfl (Nat.le_of_ble_eq_true rfl) rfl (Nat.le_of_ble_eq_true rfl) (c_isLeaf ((hs 61 (by decide)).trans hM) hW (by omega)) ?_
    refine v_ifB_eq (tgt := 31) dX4_findValues_20 (by decide) (fun c20 => ?_) (fun c20 => ?_)
    · refine v_aload_n dX4_findValues_31 rfl ?_
      refine v_iload_n dX4_findValues_32 rfl ?_
      refine v_callVr (x := .int (gtF T (vlF T R) n)) (M1 := M) (as := [.int (nI n)]) (st := [.int (nI n), .ref 69]) dX4_findValues_33 ml_X4_146 kv_X4_gate ⟨by decide, rfl, by decide⟩ ⟨(Nat.le_of_ble_eq_true rfl), (Nat.le_of_ble_eq_true rfl)⟩ rfl (Nat.le_of_ble_eq_true rfl) rfl (Nat.le_of_ble_eq_true rfl) (c_gate ((hs 61 (by decide)).trans hM) hW (by omega) c20 hj) ?_
      refine v_iast (n := 16) (a := n) dX4_findValues_36 ⟨by decide, rfl, rfl⟩ (rfl) (by omega) ?_
      refine v_iincN (lv' := [(0, .ref 60), (1, .ref q), (2, .int (nI (n + 1)))]) dX4_findValues_37 rfl (Nat.le_of_ble_eq_true rfl) rfl ?_
      refine v_goto (tgt := 2) dX4_findValues_40 (by decide) ?_
      refine ih (n + 1) _ (by omega) (fun i h9 => (mup_ne h9).trans (hs i h9)) (fun j h9 => ?_)
      rw [mup_eq]; simp only [upd]
      by_cases h8 : j = n
      · rw [if_pos h8, h8, vlF_eq hW (by omega)]; simp [c20]
      · rw [if_neg h8]; exact hj j (by omega)
    · refine v_aload_n dX4_findValues_23 rfl ?_
      refine v_iconst (v := (nI 4)) dX4_findValues_24 rfl ?_
      refine v_iload_n dX4_findValues_25 rfl ?_
      refine v_iaddN dX4_findValues_26 ?_
      refine v_iald2 (n := 36) (a := 4 + n) (y := (R (4 + n))) dX4_findValues_27 (ar_q hq) (rfl) (by omega) ((congrFun (hs q (by omega)) _).trans (congrFun hR _)) ?_
      refine v_goto (tgt := 36) dX4_findValues_28 (by decide) ?_
      refine v_iast (n := 16) (a := n) dX4_findValues_36 ⟨by decide, rfl, rfl⟩ (rfl) (by omega) ?_
      refine v_iincN (lv' := [(0, .ref 60), (1, .ref q), (2, .int (nI (n + 1)))]) dX4_findValues_37 rfl (Nat.le_of_ble_eq_true rfl) rfl ?_
      refine v_goto (tgt := 2) dX4_findValues_40 (by decide) ?_
      refine ih (n + 1) _ (by omega) (fun i h9 => (mup_ne h9).trans (hs i h9)) (fun j h9 => ?_)
      rw [mup_eq]; simp only [upd]
      by_cases h8 : j = n
      · rw [if_pos h8, h8, vlF_eq hW (by omega)]; simp [c20]
      · rw [if_neg h8]; exact hj j (by omega)
set_option maxRecDepth 100000 in
theorem c_findValues (hM : M0 61 = T) (hW : WF T) {q : Nat} {R : Nat → Int32} (hq : q = 63 ∨ q = 64) (hR : M0 q = R) : V kX4_findValues (fun v M1 => v = none ∧ (∀ i, i ≠ 69 → M1 i = M0 i) ∧ ∀ j, j < nN T → M1 69 j = vlF T R j) M0 0 [(0, .ref 60), (1, .ref q)] [] := by
  have h16 := hW.n16
  refine v_iconst (v := (nI 0)) dX4_findValues_0 rfl ?_
  refine v_istore_n (lv' := [(0, .ref 60), (1, .ref q), (2, .int (nI 0))]) dX4_findValues_1 (Nat.le_of_ble_eq_true rfl) rfl ?_
  exact l_findV hM hW hq hR (nN T) 0 M0 (by omega) (fun _ _ => rfl) (fun j h9 => absurd h9 (by omega))
set_option maxRecDepth 100000 in
theorem c_isSettled {f : Nat → Int32} (hs : sc M0 M) (hM : M0 61 = T) (hW : WF T) (hf : ∀ j, j < nN T → M0 69 j = f j) {n : Nat} (hn : n < nN T) (h1 : so T n = 1) : V kX4_isSettled (rs (.int (bI (stF T f n = true))) M0) M 0 [(0, .ref 60), (1, .int (nI n))] [] := by
  have h16 := hW.n16
  have hm1 := hm_reg h1
  have p0 := hW.ptlt hn (show 0 < hmF (so T n) by omega)
  refine v_aload_n dX4_isSettled_0 rfl ?_
  refine v_iload_n dX4_isSettled_1 rfl ?_
  refine v_iconst (v := (nI 0)) dX4_isSettled_2 rfl ?_
  refine v_callVr (x := .int (nI (pt T n 0))) (M1 := M) (as := [.int (nI n), .int (nI 0)]) (st := []) dX4_isSettled_3 ml_X4_71 kv_X4_of ⟨by decide, rfl, by decide⟩ ⟨(Nat.le_of_ble_eq_true rfl), (Nat.le_of_ble_eq_true rfl)⟩ rfl (Nat.le_of_ble_eq_true rfl) rfl (Nat.le_of_ble_eq_true rfl) (c_of (scT hs hM) hW (by omega) (by omega)) ?_
  refine v_istore_n (lv' := [(0, .ref 60), (1, .int (nI n)), (2, .int (nI (pt T n 0)))]) dX4_isSettled_6 (Nat.le_of_ble_eq_true rfl) rfl ?_
  refine v_aload_n dX4_isSettled_7 rfl ?_
  refine v_iload_n dX4_isSettled_8 rfl ?_
  refine v_callVr (x := .int (nI (so T (pt T n 0)))) (M1 := M) (as := [.int (nI (pt T n 0))]) (st := []) dX4_isSettled_9 ml_X4_64 kv_X4_sort ⟨by decide, rfl, by decide⟩ ⟨(Nat.le_of_ble_eq_true rfl), (Nat.le_of_ble_eq_true rfl)⟩ rfl (Nat.le_of_ble_eq_true rfl) rfl (Nat.le_of_ble_eq_true rfl) (c_sort (scT hs hM) hW (by omega)) ?_
  refine v_iconst (v := (nI 1)) dX4_isSettled_12 rfl ?_
  refine v_icmpN_ne (tgt := 51) dX4_isSettled_13 (by decide) (by have := hW.so5 (n := pt T n 0) (by omega); omega) (by omega) (fun c13 => ?_) (fun c13 => ?_)
  · refine v_iconst (v := (nI 0)) dX4_isSettled_51 rfl ?_
    refine v_zret dX4_isSettled_52 rfl (Or.inl rfl) ?_
    refine ⟨?_, hs⟩
    rw [bI_f (by simp [stF, *])]; rfl
  · refine v_aload_n dX4_isSettled_16 rfl ?_
    refine v_iload_n dX4_isSettled_17 rfl ?_
    refine v_callVr (x := .int (nI (ck T (pt T n 0)))) (M1 := M) (as := [.int (nI (pt T n 0))]) (st := []) dX4_isSettled_18 ml_X4_88 kv_X4_clock ⟨by decide, rfl, by decide⟩ ⟨(Nat.le_of_ble_eq_true rfl), (Nat.le_of_ble_eq_true rfl)⟩ rfl (Nat.le_of_ble_eq_true rfl) rfl (Nat.le_of_ble_eq_true rfl) (c_clock (scT hs hM) hW (by omega)) ?_
    refine v_aload_n dX4_isSettled_21 rfl ?_
    refine v_iload_n dX4_isSettled_22 rfl ?_
    refine v_callVr (x := .int (nI (ck T n))) (M1 := M) (as := [.int (nI n)]) (st := [.int (nI (ck T (pt T n 0)))]) dX4_isSettled_23 ml_X4_88 kv_X4_clock ⟨by decide, rfl, by decide⟩ ⟨(Nat.le_of_ble_eq_true rfl), (Nat.le_of_ble_eq_true rfl)⟩ rfl (Nat.le_of_ble_eq_true rfl) rfl (Nat.le_of_ble_eq_true rfl) (c_clock (scT hs hM) hW (by omega)) ?_
    refine v_icmpN_ne (tgt := 51) dX4_isSettled_26 (by decide) (by have := hW.ck2 (n := pt T n 0) (by omega); omega) (by have := hW.ck2 hn; omega) (fun c26 => ?_) (fun c26 => ?_)
    · refine v_iconst (v := (nI 0)) dX4_isSettled_51 rfl ?_
      refine v_zret dX4_isSettled_52 rfl (Or.inl rfl) ?_
      refine ⟨?_, hs⟩
      rw [bI_f (by simp [stF, *])]; rfl
    · refine v_aload_n dX4_isSettled_29 rfl ?_
      refine v_iload_n dX4_isSettled_30 rfl ?_
      refine v_callV (as := [.int (nI (pt T n 0))]) (st := []) dX4_isSettled_31 ml_X4_100 kv_X4_isDirect ⟨by decide, rfl, by decide⟩ ⟨(Nat.le_of_ble_eq_true rfl), (Nat.le_of_ble_eq_true rfl)⟩ rfl (Nat.le_of_ble_eq_true rfl) rfl (Nat.le_of_ble_eq_true rfl) (c_isDirect hs hM hW (by omega) (by assumption)) (fun v M hq => ?_)
      obtain ⟨rfl, hs⟩ := hq
      refine v_ifB_eq (tgt := 51) dX4_isSettled_34 (by decide) (fun c34 => ?_) (fun c34 => ?_)
      · refine v_iconst (v := (nI 0)) dX4_isSettled_51 rfl ?_
        refine v_zret dX4_isSettled_52 rfl (Or.inl rfl) ?_
        refine ⟨?_, hs⟩
        rw [bI_f (by simp [stF, *])]; rfl
      · refine v_aload_n dX4_isSettled_37 rfl ?_
        refine v_getR (t := 69) dX4_isSettled_38 fl_X4_35 ⟨by decide, rfl, by decide⟩ rfl rfl ?_
        refine v_iload_n dX4_isSettled_41 rfl ?_
        refine v_iald2 (n := 16) (a := pt T n 0) (y := (f (pt T n 0))) dX4_isSettled_42 ⟨by decide, rfl, rfl⟩ (rfl) (by omega) ((congrFun (hs 69 (by decide)) _).trans (hf _ (by omega))) ?_
        refine v_iconst (v := (nI 2)) dX4_isSettled_43 rfl ?_
        refine v_icmp_ne (tgt := 51) dX4_isSettled_44 (by decide) (fun c44 => ?_) (fun c44 => ?_)
        · refine v_iconst (v := (nI 0)) dX4_isSettled_51 rfl ?_
          refine v_zret dX4_isSettled_52 rfl (Or.inl rfl) ?_
          refine ⟨?_, hs⟩
          rw [bI_f (by simp [stF, *])]; rfl
        · refine v_iconst (v := (nI 1)) dX4_isSettled_47 rfl ?_
          refine v_goto (tgt := 52) dX4_isSettled_48 (by decide) ?_
          refine v_zret dX4_isSettled_52 rfl (Or.inr rfl) ?_
          refine ⟨?_, hs⟩
          rw [bI_t (by simp [stF, *])]; rfl
set_option maxRecDepth 100000 in
theorem c_taken {f : Nat → Int32} (hs : sc M0 M) (hM : M0 61 = T) (hW : WF T) (hf : ∀ j, j < nN T → M0 69 j = f j) {n : Nat} (hn : n < nN T) (h1 : so T n = 1) : V kX4_taken (rs (.int (tkF T f n)) M0) M 0 [(0, .ref 60), (1, .int (nI n))] [] := by
  have h16 := hW.n16
  have hm1 := hm_reg h1
  have p0 := hW.ptlt hn (show 0 < hmF (so T n) by omega)
  refine v_aload_n dX4_taken_0 rfl ?_
  refine v_iload_n dX4_taken_1 rfl ?_
  refine v_iconst (v := (nI 0)) dX4_taken_2 rfl ?_
  refine v_callVr (x := .int (nI (pt T n 0))) (M1 := M) (as := [.int (nI n), .int (nI 0)]) (st := []) dX4_taken_3 ml_X4_71 kv_X4_of ⟨by decide, rfl, by decide⟩ ⟨(Nat.le_of_ble_eq_true rfl), (Nat.le_of_ble_eq_true rfl)⟩ rfl (Nat.le_of_ble_eq_true rfl) rfl (Nat.le_of_ble_eq_true rfl) (c_of (scT hs hM) hW (by omega) (by omega)) ?_
  refine v_istore_n (lv' := [(0, .ref 60), (1, .int (nI n)), (2, .int (nI (pt T n 0)))]) dX4_taken_6 (Nat.le_of_ble_eq_true rfl) rfl ?_
  refine v_aload_n dX4_taken_7 rfl ?_
  refine v_iload_n dX4_taken_8 rfl ?_
  refine v_callV (as := [.int (nI n)]) (st := []) dX4_taken_9 ml_X4_155 kv_X4_isSettled ⟨by decide, rfl, by decide⟩ ⟨(Nat.le_of_ble_eq_true rfl), (Nat.le_of_ble_eq_true rfl)⟩ rfl (Nat.le_of_ble_eq_true rfl) rfl (Nat.le_of_ble_eq_true rfl) (c_isSettled hs hM hW hf hn h1) (fun v M hq => ?_)
  obtain ⟨rfl, hs⟩ := hq
  refine v_ifB_ne (tgt := 22) dX4_taken_12 (by decide) (fun c12 => ?_) (fun c12 => ?_)
  · refine v_aload_n dX4_taken_22 rfl ?_
    refine v_getR (t := 69) dX4_taken_23 fl_X4_35 ⟨by decide, rfl, by decide⟩ rfl rfl ?_
    refine v_aload_n dX4_taken_26 rfl ?_
    refine v_iload_n dX4_taken_27 rfl ?_
    refine v_iconst (v := (nI 0)) dX4_taken_28 rfl ?_
    have h2 : so T (pt T n 0) = 1 := by simp [stF] at c12; exact c12.1.1.1
    have hm3 := hm_reg h2
    have p2 := hW.ptlt (n := pt T n 0) (by omega) (show 0 < hmF (so T (pt T n 0)) by omega)
    refine v_callVr (x := .int (nI (pt T (pt T n 0) 0))) (M1 := M) (as := [.int (nI (pt T n 0)), .int (nI 0)]) (st := [.ref 69]) dX4_taken_29 ml_X4_71 kv_X4_of ⟨by decide, rfl, by decide⟩ ⟨(Nat.le_of_ble_eq_true rfl), (Nat.le_of_ble_eq_true rfl)⟩ rfl (Nat.le_of_ble_eq_true rfl) rfl (Nat.le_of_ble_eq_true rfl) (c_of (scT hs hM) hW (by omega) (by omega)) ?_
    refine v_iald2 (n := 16) (a := pt T (pt T n 0) 0) (y := (f (pt T (pt T n 0) 0))) dX4_taken_32 ⟨by decide, rfl, rfl⟩ (rfl) (by omega) ((congrFun (hs 69 (by decide)) _).trans (hf _ (by omega))) ?_
    refine v_istore_n (lv' := [(0, .ref 60), (1, .int (nI n)), (2, .int (nI (pt T n 0))), (3, .int (f (pt T (pt T n 0) 0)))]) dX4_taken_33 (Nat.le_of_ble_eq_true rfl) rfl ?_
    refine v_iload_n dX4_taken_34 rfl ?_
    refine v_iconst (v := (nI 2)) dX4_taken_35 rfl ?_
    refine v_icmp_ne (tgt := 43) dX4_taken_36 (by decide) (fun c36 => ?_) (fun c36 => ?_)
    · refine v_iload_n dX4_taken_43 rfl ?_
      refine v_iret dX4_taken_44 rfl ?_
      refine ⟨?_, hs⟩
      simp [tkF, *]
    · refine v_iconst (v := (nI 0)) dX4_taken_39 rfl ?_
      refine v_goto (tgt := 44) dX4_taken_40 (by decide) ?_
      refine v_iret dX4_taken_44 rfl ?_
      refine ⟨?_, hs⟩
      simp [tkF, *]
  · refine v_aload_n dX4_taken_15 rfl ?_
    refine v_getR (t := 69) dX4_taken_16 fl_X4_35 ⟨by decide, rfl, by decide⟩ rfl rfl ?_
    refine v_iload_n dX4_taken_19 rfl ?_
    refine v_iald2 (n := 16) (a := pt T n 0) (y := (f (pt T n 0))) dX4_taken_20 ⟨by decide, rfl, rfl⟩ (rfl) (by omega) ((congrFun (hs 69 (by decide)) _).trans (hf _ (by omega))) ?_
    refine v_iret dX4_taken_21 rfl ?_
    refine ⟨?_, hs⟩
    simp [tkF, *]
set_option maxRecDepth 100000 in
theorem l_tick3 {Q : Option Value → vM → Prop} (hM : M0 61 = T) (hW : WF T) {q : Nat} (hq : q = 63 ∨ q = 64) {f : Nat → Int32} (hf : ∀ j, j < nN T → M0 69 j = f j) {R : Nat → Int32} {oth y : Int32} {n : Nat} (hn : n < nN T) (ht : tI M0 M q R) (post : ∀ M1, tI M0 M1 q (upd R (4 + n) y) → V kX4_tick Q M1 16 [(0, .ref 60), (1, .ref q), (2, .int (oth ||| (if y = f n then nI 0 else bx n))), (3, .int (nI (n + 1)))] []) : V kX4_tick (Q) M 158 [(0, .ref 60), (1, .ref q), (2, .int oth), (3, .int (nI n)), (4, .int y)] [] := by
  have h16 := hW.n16
  refine v_iload_n dX4_tick_158 rfl ?_
  refine v_iload dX4_tick_159 rfl ?_
  refine v_aload_n dX4_tick_161 rfl ?_
  refine v_getR (t := 69) dX4_tick_162 fl_X4_35 ⟨by decide, rfl, by decide⟩ rfl rfl ?_
  refine v_iload_n dX4_tick_165 rfl ?_
  refine v_iald2 (n := 16) (a := n) (y := (f n)) dX4_tick_166 ⟨by decide, rfl, rfl⟩ (rfl) (by omega) (tI_f hq ht hf n hn) ?_
  refine v_icmp_ne (tgt := 174) dX4_tick_167 (by decide) (fun c167 => ?_) (fun c167 => ?_)
  · refine v_iconst (v := (nI 1)) dX4_tick_174 rfl ?_
    refine v_iload_n dX4_tick_175 rfl ?_
    refine v_ishl dX4_tick_176 ?_
    refine v_ior dX4_tick_177 ?_
    refine v_top (y := (oth ||| (if y = f n then nI 0 else bx n))) (by simp only [c167, if_true, if_false]; try rfl) ?_
    refine v_istore_n (lv' := [(0, .ref 60), (1, .ref q), (2, .int (oth ||| (if y = f n then nI 0 else bx n))), (3, .int (nI n)), (4, .int y)]) dX4_tick_178 (Nat.le_of_ble_eq_true rfl) rfl ?_
    refine v_aload_n dX4_tick_179 rfl ?_
    refine v_iconst (v := (nI 4)) dX4_tick_180 rfl ?_
    refine v_iload_n dX4_tick_181 rfl ?_
    refine v_iaddN dX4_tick_182 ?_
    refine v_iload dX4_tick_183 rfl ?_
    refine v_iast (n := 36) (a := 4 + n) dX4_tick_185 (ar_q hq) (rfl) (by omega) ?_
    refine v_iincN (lv' := [(0, .ref 60), (1, .ref q), (2, .int (oth ||| (if y = f n then nI 0 else bx n))), (3, .int (nI (n + 1))), (4, .int y)]) dX4_tick_186 rfl (Nat.le_of_ble_eq_true rfl) rfl ?_
    refine v_goto (tgt := 16) dX4_tick_189 (by decide) ?_
    refine v_sub (lv' := [(0, .ref 60), (1, .ref q), (2, .int (oth ||| (if y = f n then nI 0 else bx n))), (3, .int (nI (n + 1)))]) (by intro q hq; simp at hq; rcases hq with rfl | rfl | rfl | rfl <;> rfl) ?_
    exact post _ (tI_up ht)
  · refine v_iconst (v := (nI 0)) dX4_tick_170 rfl ?_
    refine v_goto (tgt := 177) dX4_tick_171 (by decide) ?_
    refine v_ior dX4_tick_177 ?_
    refine v_top (y := (oth ||| (if y = f n then nI 0 else bx n))) (by simp only [c167, if_true, if_false]; try rfl) ?_
    refine v_istore_n (lv' := [(0, .ref 60), (1, .ref q), (2, .int (oth ||| (if y = f n then nI 0 else bx n))), (3, .int (nI n)), (4, .int y)]) dX4_tick_178 (Nat.le_of_ble_eq_true rfl) rfl ?_
    refine v_aload_n dX4_tick_179 rfl ?_
    refine v_iconst (v := (nI 4)) dX4_tick_180 rfl ?_
    refine v_iload_n dX4_tick_181 rfl ?_
    refine v_iaddN dX4_tick_182 ?_
    refine v_iload dX4_tick_183 rfl ?_
    refine v_iast (n := 36) (a := 4 + n) dX4_tick_185 (ar_q hq) (rfl) (by omega) ?_
    refine v_iincN (lv' := [(0, .ref 60), (1, .ref q), (2, .int (oth ||| (if y = f n then nI 0 else bx n))), (3, .int (nI (n + 1))), (4, .int y)]) dX4_tick_186 rfl (Nat.le_of_ble_eq_true rfl) rfl ?_
    refine v_goto (tgt := 16) dX4_tick_189 (by decide) ?_
    refine v_sub (lv' := [(0, .ref 60), (1, .ref q), (2, .int (oth ||| (if y = f n then nI 0 else bx n))), (3, .int (nI (n + 1)))]) (by intro q hq; simp at hq; rcases hq with rfl | rfl | rfl | rfl <;> rfl) ?_
    exact post _ (tI_up ht)
set_option maxRecDepth 100000 in
theorem l_tick2 {Q : Option Value → vM → Prop} (hM : M0 61 = T) (hW : WF T) {q : Nat} (hq : q = 63 ∨ q = 64) {f : Nat → Int32} (hf : ∀ j, j < nN T → M0 69 j = f j) {R : Nat → Int32} {oth y : Int32} {n : Nat} (hn : n < nN T) (hl : so T n ≤ 1) (ht : tI M0 M q R) (post : ∀ M1, tI M0 M1 q (upd (tkW T f R oth n) (4 + n) y) → V kX4_tick Q M1 16 [(0, .ref 60), (1, .ref q), (2, .int (oth ||| (if y = f n then nI 0 else bx n))), (3, .int (nI (n + 1)))] []) : V kX4_tick (Q) M 90 [(0, .ref 60), (1, .ref q), (2, .int oth), (3, .int (nI n)), (4, .int y)] [] := by
  have h16 := hW.n16
  refine v_aload_n dX4_tick_90 rfl ?_
  refine v_iload_n dX4_tick_91 rfl ?_
  refine v_callVr (x := .int (nI (so T n))) (M1 := M) (as := [.int (nI n)]) (st := []) dX4_tick_92 ml_X4_64 kv_X4_sort ⟨by decide, rfl, by decide⟩ ⟨(Nat.le_of_ble_eq_true rfl), (Nat.le_of_ble_eq_true rfl)⟩ rfl (Nat.le_of_ble_eq_true rfl) rfl (Nat.le_of_ble_eq_true rfl) (c_sort (tI_T hq ht hM) hW (by omega)) ?_
  refine v_iconst (v := (nI 1)) dX4_tick_95 rfl ?_
  refine v_icmpN_ne (tgt := 119) dX4_tick_96 (by decide) (by omega) (by omega) (fun c96 => ?_) (fun c96 => ?_)
  · refine v_aload_n dX4_tick_119 rfl ?_
    refine v_iload_n dX4_tick_120 rfl ?_
    refine v_callVr (x := .int (nI (so T n))) (M1 := M) (as := [.int (nI n)]) (st := []) dX4_tick_121 ml_X4_64 kv_X4_sort ⟨by decide, rfl, by decide⟩ ⟨(Nat.le_of_ble_eq_true rfl), (Nat.le_of_ble_eq_true rfl)⟩ rfl (Nat.le_of_ble_eq_true rfl) rfl (Nat.le_of_ble_eq_true rfl) (c_sort (tI_T hq ht hM) hW (by omega)) ?_
    refine v_iconst (v := (nI 1)) dX4_tick_124 rfl ?_
    refine v_icmpN_ne (tgt := 158) dX4_tick_125 (by decide) (by omega) (by omega) (fun c125 => ?_) (fun c125 => (absurd c125 c96))
    have e : tkW T f R oth n = R := by simp [tkW, *]
    rw [e] at post
    exact l_tick3 hM hW hq hf hn ht post
  · refine v_aload_n dX4_tick_99 rfl ?_
    refine v_iload_n dX4_tick_100 rfl ?_
    refine v_callV (as := [.int (nI n)]) (st := []) dX4_tick_101 ml_X4_91 kv_X4_foreign ⟨by decide, rfl, by decide⟩ ⟨(Nat.le_of_ble_eq_true rfl), (Nat.le_of_ble_eq_true rfl)⟩ rfl (Nat.le_of_ble_eq_true rfl) rfl (Nat.le_of_ble_eq_true rfl) (c_foreign (sc_rf _) (tI_T hq ht hM) hW hn c96) (fun v M hq9 => ?_)
    obtain ⟨rfl, h9⟩ := hq9
    have ht := tI_sc hq ht h9
    refine v_iload_n dX4_tick_104 rfl ?_
    refine v_iand dX4_tick_105 ?_
    refine v_if_eq (tgt := 119) dX4_tick_106 (by decide) (fun c106 => ?_) (fun c106 => ?_)
    · refine v_aload_n dX4_tick_119 rfl ?_
      refine v_iload_n dX4_tick_120 rfl ?_
      refine v_callVr (x := .int (nI (so T n))) (M1 := M) (as := [.int (nI n)]) (st := []) dX4_tick_121 ml_X4_64 kv_X4_sort ⟨by decide, rfl, by decide⟩ ⟨(Nat.le_of_ble_eq_true rfl), (Nat.le_of_ble_eq_true rfl)⟩ rfl (Nat.le_of_ble_eq_true rfl) rfl (Nat.le_of_ble_eq_true rfl) (c_sort (tI_T hq ht hM) hW (by omega)) ?_
      refine v_iconst (v := (nI 1)) dX4_tick_124 rfl ?_
      refine v_icmpN_ne (tgt := 158) dX4_tick_125 (by decide) (by omega) (by omega) (fun c125 => (absurd c96 c125)) (fun c125 => ?_)
      refine v_aload_n dX4_tick_128 rfl ?_
      refine v_getR (t := 69) dX4_tick_129 fl_X4_35 ⟨by decide, rfl, by decide⟩ rfl rfl ?_
      refine v_aload_n dX4_tick_132 rfl ?_
      refine v_iload_n dX4_tick_133 rfl ?_
      refine v_iconst (v := (nI 0)) dX4_tick_134 rfl ?_
      have hm1 := hm_reg c125
      have p0 := hW.ptlt hn (show 0 < hmF (so T n) by omega)
      refine v_callVr (x := .int (nI (pt T n 0))) (M1 := M) (as := [.int (nI n), .int (nI 0)]) (st := [.ref 69]) dX4_tick_135 ml_X4_71 kv_X4_of ⟨by decide, rfl, by decide⟩ ⟨(Nat.le_of_ble_eq_true rfl), (Nat.le_of_ble_eq_true rfl)⟩ rfl (Nat.le_of_ble_eq_true rfl) rfl (Nat.le_of_ble_eq_true rfl) (c_of (tI_T hq ht hM) hW (by omega) (by omega)) ?_
      refine v_iald2 (n := 16) (a := pt T n 0) (y := (f (pt T n 0))) dX4_tick_138 ⟨by decide, rfl, rfl⟩ (rfl) (by omega) (tI_f hq ht hf _ (by omega)) ?_
      refine v_iconst (v := (nI 2)) dX4_tick_139 rfl ?_
      refine v_icmp_ne (tgt := 158) dX4_tick_140 (by decide) (fun c140 => ?_) (fun c140 => ?_)
      · have e : tkW T f R oth n = R := by simp [tkW, *]
        rw [e] at post
        exact l_tick3 hM hW hq hf hn ht post
      · refine v_aload_n dX4_tick_143 rfl ?_
        refine v_iload_n dX4_tick_144 rfl ?_
        refine v_callV (as := [.int (nI n)]) (st := []) dX4_tick_145 ml_X4_155 kv_X4_isSettled ⟨by decide, rfl, by decide⟩ ⟨(Nat.le_of_ble_eq_true rfl), (Nat.le_of_ble_eq_true rfl)⟩ rfl (Nat.le_of_ble_eq_true rfl) rfl (Nat.le_of_ble_eq_true rfl) (c_isSettled (sc_rf _) (tI_T hq ht hM) hW (tI_f hq ht hf) hn c125) (fun v M hq9 => ?_)
        obtain ⟨rfl, h9⟩ := hq9
        have ht := tI_sc hq ht h9
        refine v_ifB_ne (tgt := 158) dX4_tick_148 (by decide) (fun c148 => ?_) (fun c148 => ?_)
        · have e : tkW T f R oth n = R := by simp [tkW, *]
          rw [e] at post
          exact l_tick3 hM hW hq hf hn ht post
        · refine v_aload_n dX4_tick_151 rfl ?_
          refine v_iconst (v := (nI 3)) dX4_tick_152 rfl ?_
          refine v_dup2 dX4_tick_153 rfl rfl ?_
          refine v_iald2 (n := 36) (a := 3) (y := (R 3)) dX4_tick_154 (ar_q hq) (rfl) (by omega) (congrFun ht.2 3) ?_
          refine v_iconst (v := (nI 1)) dX4_tick_155 rfl ?_
          refine v_iadd dX4_tick_156 ?_
          refine v_iast (n := 36) (a := 3) dX4_tick_157 (ar_q hq) (rfl) (by omega) ?_
          have e : tkW T f R oth n = upd R 3 (R 3 + nI 1) := by simp [tkW, c125, c106, c140, c148]
          rw [e] at post
          exact l_tick3 hM hW hq hf hn (tI_up ht) post
    · refine v_aload_n dX4_tick_109 rfl ?_
      refine v_iconst (v := (nI 2)) dX4_tick_110 rfl ?_
      refine v_dup2 dX4_tick_111 rfl rfl ?_
      refine v_iald2 (n := 36) (a := 2) (y := (R 2)) dX4_tick_112 (ar_q hq) (rfl) (by omega) (congrFun ht.2 2) ?_
      refine v_iconst (v := (nI 1)) dX4_tick_113 rfl ?_
      refine v_iadd dX4_tick_114 ?_
      refine v_iast (n := 36) (a := 2) dX4_tick_115 (ar_q hq) (rfl) (by omega) ?_
      refine v_goto (tgt := 158) dX4_tick_116 (by decide) ?_
      have e : tkW T f R oth n = upd R 2 (R 2 + nI 1) := by simp [tkW, c96, c106]
      rw [e] at post
      exact l_tick3 hM hW hq hf hn (tI_up ht) post
set_option maxRecDepth 100000 in
theorem l_tick (hM : M0 61 = T) (hW : WF T) {q : Nat} (hq : q = 63 ∨ q = 64) {f : Nat → Int32} (hf : ∀ j, j < nN T → M0 69 j = f j) {tm : Int32} {s0 : (Nat → Int32) × Int32} (htm : s0.1 1 = tm) (d : Nat) : ∀ (n : Nat) (M : vM), n + d = nN T → tI M0 M q (tkL T f tm s0 n).1 → V kX4_tick (fun v M1 => v = none ∧ tI M0 M1 q (tkL T f tm s0 (nN T)).1) M 16 [(0, .ref 60), (1, .ref q), (2, .int ((tkL T f tm s0 n).2)), (3, .int (nI n))] [] := by
  have h16 := hW.n16
  induction d with
  | zero =>
    intro n M hk ht
    refine v_iload_n dX4_tick_16 rfl ?_
    refine v_aload_n dX4_tick_17 rfl ?_
    refine v_callVr (x := .int (nI (nN T))) (M1 := M) (as := []) (st := [.int (nI n)]) dX4_tick_18 ml_X4_52 kv_X4_many ⟨by decide, rfl, by decide⟩ ⟨(Nat.le_of_ble_eq_true rfl), (Nat.le_of_ble_eq_true rfl)⟩ rfl (Nat.le_of_ble_eq_true rfl) rfl (Nat.le_of_ble_eq_true rfl) (c_many (tI_T hq ht hM) hW) ?_
    refine v_icmpN_ge (tgt := 192) dX4_tick_21 (by decide) (by omega) (by omega) (fun c21 => ?_) (fun c21 => (by omega))
    refine v_vret dX4_tick_192 rfl ?_
    exact ⟨rfl, by rw [show nN T = n by omega]; exact ht⟩
  | succ d ih =>
    intro n M hk ht
    refine v_iload_n dX4_tick_16 rfl ?_
    refine v_aload_n dX4_tick_17 rfl ?_
    refine v_callVr (x := .int (nI (nN T))) (M1 := M) (as := []) (st := [.int (nI n)]) dX4_tick_18 ml_X4_52 kv_X4_many ⟨by decide, rfl, by decide⟩ ⟨(Nat.le_of_ble_eq_true rfl), (Nat.le_of_ble_eq_true rfl)⟩ rfl (Nat.le_of_ble_eq_true rfl) rfl (Nat.le_of_ble_eq_true rfl) (c_many (tI_T hq ht hM) hW) ?_
    refine v_icmpN_ge (tgt := 192) dX4_tick_21 (by decide) (by omega) (by omega) (fun c21 => (by omega)) (fun c21 => ?_)
    have hn : n < nN T := c21
    refine v_aload_n dX4_tick_24 rfl ?_
    refine v_iload_n dX4_tick_25 rfl ?_
    refine v_callVr (x := .int (bI (so T n ≤ 1))) (M1 := M) (as := [.int (nI n)]) (st := []) dX4_tick_26 ml_X4_75 kv_X4_isLeaf ⟨by decide, rfl, by decide⟩ ⟨(Nat.le_of_ble_eq_true rfl), (Nat.le_of_ble_eq_true rfl)⟩ rfl (Nat.le_of_ble_eq_true rfl) rfl (Nat.le_of_ble_eq_true rfl) (c_isLeaf (tI_T hq ht hM) hW (by omega)) ?_
    refine v_ifB_eq (tgt := 186) dX4_tick_29 (by decide) (fun c29 => ?_) (fun c29 => ?_)
    · refine v_iincN (lv' := [(0, .ref 60), (1, .ref q), (2, .int ((tkL T f tm s0 n).2)), (3, .int (nI (n + 1)))]) dX4_tick_186 rfl (Nat.le_of_ble_eq_true rfl) rfl ?_
      refine v_goto (tgt := 16) dX4_tick_189 (by decide) ?_
      have e : tkL T f tm s0 (n + 1) = tkL T f tm s0 n := by
        show tkS T f tm n (tkL T f tm s0 n) = _
        first | exact if_neg (fun z => c29 z.1) | exact if_neg (fun z => c49 z.2)
      have h2 := ih (n + 1) M (by omega) (by rw [e]; exact ht)
      rw [e] at h2
      exact h2
    · refine v_aload_n dX4_tick_32 rfl ?_
      refine v_iconst (v := (nI 1)) dX4_tick_33 rfl ?_
      refine v_iald2 (n := 36) (a := 1) (y := tm) dX4_tick_34 (ar_q hq) (rfl) (by omega) ((congrFun ht.2 1).trans ((tkL_1 n).trans htm)) ?_
      refine v_aload_n dX4_tick_35 rfl ?_
      refine v_getR (t := 61) dX4_tick_36 fl_X4_7 ⟨by decide, rfl, by decide⟩ rfl rfl ?_
      refine v_bipush (v := (nI 92)) dX4_tick_39 rfl ?_
      refine v_aload_n dX4_tick_41 rfl ?_
      refine v_iload_n dX4_tick_42 rfl ?_
      refine v_callVr (x := .int (nI (ck T n))) (M1 := M) (as := [.int (nI n)]) (st := [.int (nI 92), .ref 61, .int tm]) dX4_tick_43 ml_X4_88 kv_X4_clock ⟨by decide, rfl, by decide⟩ ⟨(Nat.le_of_ble_eq_true rfl), (Nat.le_of_ble_eq_true rfl)⟩ rfl (Nat.le_of_ble_eq_true rfl) rfl (Nat.le_of_ble_eq_true rfl) (c_clock (tI_T hq ht hM) hW (by omega)) ?_
      have hck := hW.ck2 hn
      have hpe := hW.2.2.2.2.2.2.2 (ck T n) (by omega)
      refine v_iaddN dX4_tick_46 ?_
      refine v_iald2 (n := 97) (a := 92 + (ck T n)) (y := (nI (pe T (ck T n)))) dX4_tick_47 ⟨by decide, rfl, rfl⟩ (rfl) (by omega) (by rw [tI_T hq ht hM]; exact hpe.1) ?_
      refine v_irem dX4_tick_48 (nI_ne0 (by omega) (by omega)) ?_
      refine v_top (y := (rmZ tm (pe T (ck T n)))) (rfl) ?_
      refine v_if_ne (tgt := 186) dX4_tick_49 (by decide) (fun c49 => ?_) (fun c49 => ?_)
      · refine v_iincN (lv' := [(0, .ref 60), (1, .ref q), (2, .int ((tkL T f tm s0 n).2)), (3, .int (nI (n + 1)))]) dX4_tick_186 rfl (Nat.le_of_ble_eq_true rfl) rfl ?_
        refine v_goto (tgt := 16) dX4_tick_189 (by decide) ?_
        have e : tkL T f tm s0 (n + 1) = tkL T f tm s0 n := by
          show tkS T f tm n (tkL T f tm s0 n) = _
          first | exact if_neg (fun z => c29 z.1) | exact if_neg (fun z => c49 z.2)
        have h2 := ih (n + 1) M (by omega) (by rw [e]; exact ht)
        rw [e] at h2
        exact h2
      · refine v_aload_n dX4_tick_52 rfl ?_
        refine v_iload_n dX4_tick_53 rfl ?_
        refine v_callVr (x := .int (nI (so T n))) (M1 := M) (as := [.int (nI n)]) (st := []) dX4_tick_54 ml_X4_64 kv_X4_sort ⟨by decide, rfl, by decide⟩ ⟨(Nat.le_of_ble_eq_true rfl), (Nat.le_of_ble_eq_true rfl)⟩ rfl (Nat.le_of_ble_eq_true rfl) rfl (Nat.le_of_ble_eq_true rfl) (c_sort (tI_T hq ht hM) hW (by omega)) ?_
        refine v_ifN_ne (tgt := 69) dX4_tick_57 (by decide) (by omega) (fun c57 => ?_) (fun c57 => ?_)
        · have h1 : so T n = 1 := by omega
          refine v_aload_n dX4_tick_69 rfl ?_
          refine v_iload_n dX4_tick_70 rfl ?_
          refine v_callV (as := [.int (nI n)]) (st := []) dX4_tick_71 ml_X4_91 kv_X4_foreign ⟨by decide, rfl, by decide⟩ ⟨(Nat.le_of_ble_eq_true rfl), (Nat.le_of_ble_eq_true rfl)⟩ rfl (Nat.le_of_ble_eq_true rfl) rfl (Nat.le_of_ble_eq_true rfl) (c_foreign (sc_rf _) (tI_T hq ht hM) hW hn h1) (fun v M hq9 => ?_)
          obtain ⟨rfl, h9⟩ := hq9
          have ht := tI_sc hq ht h9
          refine v_iload_n dX4_tick_74 rfl ?_
          refine v_iand dX4_tick_75 ?_
          refine v_if_eq (tgt := 83) dX4_tick_76 (by decide) (fun c76 => ?_) (fun c76 => ?_)
          · refine v_aload_n dX4_tick_83 rfl ?_
            refine v_iload_n dX4_tick_84 rfl ?_
            refine v_callV (as := [.int (nI n)]) (st := []) dX4_tick_85 ml_X4_152 kv_X4_taken ⟨by decide, rfl, by decide⟩ ⟨(Nat.le_of_ble_eq_true rfl), (Nat.le_of_ble_eq_true rfl)⟩ rfl (Nat.le_of_ble_eq_true rfl) rfl (Nat.le_of_ble_eq_true rfl) (c_taken (sc_rf _) (tI_T hq ht hM) hW (tI_f hq ht hf) hn h1) (fun v M hq9 => ?_)
            obtain ⟨rfl, h9⟩ := hq9
            have ht := tI_sc hq ht h9
            refine v_istore (lv' := [(0, .ref 60), (1, .ref q), (2, .int ((tkL T f tm s0 n).2)), (3, .int (nI n)), (4, .int (tkF T f n))]) dX4_tick_88 (Nat.le_of_ble_eq_true rfl) rfl ?_
            have hit : (tkF T f n) = itF T f (tkL T f tm s0 n).1 (tkL T f tm s0 n).2 n := by simp [itF, *]
            rw [hit]
            refine l_tick2 hM hW hq hf hn c29 ht (fun M1 h1 => ?_)
            have e : tkL T f tm s0 (n + 1) = (upd (tkW T f (tkL T f tm s0 n).1 (tkL T f tm s0 n).2 n) (4 + n) (itF T f (tkL T f tm s0 n).1 (tkL T f tm s0 n).2 n), (tkL T f tm s0 n).2 ||| (if itF T f (tkL T f tm s0 n).1 (tkL T f tm s0 n).2 n = f n then nI 0 else bx n)) := by
              show tkS T f tm n (tkL T f tm s0 n) = _
              exact if_pos ⟨c29, c49⟩
            have h2 := ih (n + 1) M1 (by omega) (by rw [e]; exact h1)
            rw [e] at h2
            exact h2
          · refine v_iconst (v := (nI 2)) dX4_tick_79 rfl ?_
            refine v_goto (tgt := 88) dX4_tick_80 (by decide) ?_
            refine v_istore (lv' := [(0, .ref 60), (1, .ref q), (2, .int ((tkL T f tm s0 n).2)), (3, .int (nI n)), (4, .int (nI 2))]) dX4_tick_88 (Nat.le_of_ble_eq_true rfl) rfl ?_
            have hit : (nI 2) = itF T f (tkL T f tm s0 n).1 (tkL T f tm s0 n).2 n := by simp [itF, *]
            rw [hit]
            refine l_tick2 hM hW hq hf hn c29 ht (fun M1 h1 => ?_)
            have e : tkL T f tm s0 (n + 1) = (upd (tkW T f (tkL T f tm s0 n).1 (tkL T f tm s0 n).2 n) (4 + n) (itF T f (tkL T f tm s0 n).1 (tkL T f tm s0 n).2 n), (tkL T f tm s0 n).2 ||| (if itF T f (tkL T f tm s0 n).1 (tkL T f tm s0 n).2 n = f n then nI 0 else bx n)) := by
              show tkS T f tm n (tkL T f tm s0 n) = _
              exact if_pos ⟨c29, c49⟩
            have h2 := ih (n + 1) M1 (by omega) (by rw [e]; exact h1)
            rw [e] at h2
            exact h2
        · refine v_aload_n dX4_tick_60 rfl ?_
          refine v_bipush (v := (nI 20)) dX4_tick_61 rfl ?_
          refine v_iload_n dX4_tick_63 rfl ?_
          refine v_iaddN dX4_tick_64 ?_
          refine v_iald2 (n := 36) (a := 20 + n) (y := ((tkL T f tm s0 n).1 (20 + n))) dX4_tick_65 (ar_q hq) (rfl) (by omega) (congrFun ht.2 _) ?_
          refine v_goto (tgt := 88) dX4_tick_66 (by decide) ?_
          refine v_istore (lv' := [(0, .ref 60), (1, .ref q), (2, .int ((tkL T f tm s0 n).2)), (3, .int (nI n)), (4, .int ((tkL T f tm s0 n).1 (20 + n)))]) dX4_tick_88 (Nat.le_of_ble_eq_true rfl) rfl ?_
          have hit : ((tkL T f tm s0 n).1 (20 + n)) = itF T f (tkL T f tm s0 n).1 (tkL T f tm s0 n).2 n := by simp [itF, *]
          rw [hit]
          refine l_tick2 hM hW hq hf hn c29 ht (fun M1 h1 => ?_)
          have e : tkL T f tm s0 (n + 1) = (upd (tkW T f (tkL T f tm s0 n).1 (tkL T f tm s0 n).2 n) (4 + n) (itF T f (tkL T f tm s0 n).1 (tkL T f tm s0 n).2 n), (tkL T f tm s0 n).2 ||| (if itF T f (tkL T f tm s0 n).1 (tkL T f tm s0 n).2 n = f n then nI 0 else bx n)) := by
            show tkS T f tm n (tkL T f tm s0 n) = _
            exact if_pos ⟨c29, c49⟩
          have h2 := ih (n + 1) M1 (by omega) (by rw [e]; exact h1)
          rw [e] at h2
          exact h2
set_option maxRecDepth 100000 in
theorem c_tick (hM : M0 61 = T) (hW : WF T) {q : Nat} (hq : q = 63 ∨ q = 64) {R : Nat → Int32} (hR : M0 q = R) : V kX4_tick (fun v M1 => v = none ∧ (∀ i, i ≠ 68 → i ≠ 69 → i ≠ q → M1 i = M0 i) ∧ M1 q = tkR T R) M0 0 [(0, .ref 60), (1, .ref q)] [] := by
  have h16 := hW.n16
  refine v_aload_n dX4_tick_0 rfl ?_
  refine v_aload_n dX4_tick_1 rfl ?_
  refine v_callV (as := [.ref q]) (st := []) dX4_tick_2 ml_X4_149 kv_X4_findValues ⟨by decide, rfl, by decide⟩ ⟨(Nat.le_of_ble_eq_true rfl), (Nat.le_of_ble_eq_true rfl)⟩ rfl (Nat.le_of_ble_eq_true rfl) rfl (Nat.le_of_ble_eq_true rfl) (c_findValues hM hW hq hR) (fun v M hq9 => ?_)
  obtain ⟨rfl, hz, hf⟩ := hq9
  refine v_aload_n dX4_tick_5 rfl ?_
  refine v_iconst (v := (nI 1)) dX4_tick_6 rfl ?_
  refine v_dup2 dX4_tick_7 rfl rfl ?_
  refine v_iald2 (n := 36) (a := 1) (y := (R 1)) dX4_tick_8 (ar_q hq) (rfl) (by omega) ((congrFun (hz q (by omega)) 1).trans (congrFun hR 1)) ?_
  refine v_iconst (v := (nI 1)) dX4_tick_9 rfl ?_
  refine v_iadd dX4_tick_10 ?_
  refine v_iast (n := 36) (a := 1) dX4_tick_11 (ar_q hq) (rfl) (by omega) ?_
  refine v_iconst (v := (nI 0)) dX4_tick_12 rfl ?_
  refine v_istore_n (lv' := [(0, .ref 60), (1, .ref q), (2, .int (nI 0))]) dX4_tick_13 (Nat.le_of_ble_eq_true rfl) rfl ?_
  refine v_iconst (v := (nI 0)) dX4_tick_14 rfl ?_
  refine v_istore_n (lv' := [(0, .ref 60), (1, .ref q), (2, .int (nI 0)), (3, .int (nI 0))]) dX4_tick_15 (Nat.le_of_ble_eq_true rfl) rfl ?_
  refine v_post ?_ (l_tick (M0 := mup M q 1 (R 1 + nI 1)) (f := vlF T R) (tm := R 1 + nI 1) (s0 := (upd R 1 (R 1 + nI 1), nI 0)) ?_ hW hq ?_ (by simp [upd]) (nN T) 0 _ (by omega) ⟨fun _ _ _ => rfl, ?_⟩)
  · rintro v M1 ⟨rfl, h1, h2⟩
    exact ⟨rfl, fun i g1 g2 g3 => (h1 i g1 g3).trans ((mup_ne g3).trans (hz i g2)), h2⟩
  · rw [mup_ne (by omega)]; exact (hz 61 (by decide)).trans hM
  · intro j hj; rw [mup_ne (by omega)]; exact hf j hj
  · rw [mup_eq]; show upd (M q) 1 _ = upd R 1 _; rw [hz q (by omega), hR]
end R20
end
section
/-! rows of arrays may be renamed where they agree; the reference's memory as a state -/
theorem arrV_c {c : ClassId} {n : Nat} {f g : Nat → Value} (h : ∀ j, j < n → f j = g j) : arrV c n f = arrV c n g := by
  unfold arrV
  congr 2
  funext j
  exact h j.val j.isLt
theorem v_row {k : vK} {Q : Option Value → vM → Prop} {M : vM} {pc : Nat} {lv : List (Nat × Value)} {st : List Value} {t i n : Nat} (ar : AR t i n) (ht : 10 ≤ t) (ht2 : t ≠ 13) (f : Nat → Int32) (hf : ∀ j, j < n → M i j = f j) (h : V k Q (mrow M i f) pc lv st) : V k Q M pc lv st := by
  intro Z A p l e R s m args below meth c cells slots Qw C Rt H locs ls hP hS hl
  refine h Z A p l e R s m args below meth c cells slots Qw C Rt H locs ls (fun q x hq => ?_) hS hl
  have h7 : q < 71 := by
    have := (List.getElem?_eq_some_iff.mp hq).1
    simpa [wl] using this
  have hq0 := hP q _ (wl_get Z M h7)
  rw [wl_get Z (mrow M i f) h7] at hq
  cases hq
  by_cases hqi : q = i
  · subst hqi
    rw [cell_ar ar ht ht2] at hq0 ⊢
    show H[Z.1 q]? = some (vp_cell _ _)
    rw [show H[Z.1 q]? = some (vp_cell (Z.2.2 t) (n, .inl (M q))) from hq0, vp_cell_i, vp_cell_i, mrow_eq]
    exact congrArg some (arrV_c (fun j hj => by rw [hf j hj]))
  · rw [cellE_congr Z (M := M) (mrow_ne hqi)]
    exact hq0
def z0 : Nat → Int32 := fun _ => 0
/-- the class's rows are kept -/
def kp (M M' : vM) : Prop := ∀ i, i < 60 → M' i = M i
theorem kp_rf (M : vM) : kp M M := fun _ _ => rfl
theorem kp_tr {A B C : vM} (h : kp A B) (g : kp B C) : kp A C := fun i hi => (g i hi).trans (h i hi)
theorem kp_up {A B : vM} (h : kp A B) {a b : Nat} {x : Int32} (ha : 60 ≤ a) : kp A (mup B a b x) := fun i hi => (mup_ne (by omega)).trans (h i hi)
theorem kp_row {A B : vM} (h : kp A B) {a : Nat} {f : Nat → Int32} (ha : 60 ≤ a) : kp A (mrow B a f) := fun i hi => (mrow_ne (by omega)).trans (h i hi)
def pR (M : vM) (P : List (Nat → Int32)) : Prop := M 60 5 = nI P.length ∧ ∀ i, i < P.length → ∀ j, j < 36 → M 65 (36 * (P.length - 1 - i) + j) = (P.getD i z0) j
def iR (M : vM) (Im : Nat → Option (Nat → Int32)) : Prop := ∀ i, i < 2 → (Im i = none → M 67 i = nI 0) ∧ (∀ r, Im i = some r → M 67 i = nI 1 ∧ ∀ j, j < 36 → M 66 (36 * i + j) = r j)
def xR (M : vM) (tx : Nat → Int32) (t : Nat) : Prop := M 60 11 = nI t ∧ ∀ j, j < t → M 70 j = tx j
def REF (M : vM) (T R : Nat → Int32) (P : List (Nat → Int32)) (Im : Nat → Option (Nat → Int32)) (tx : Nat → Int32) (t : Nat) : Prop := M 61 = T ∧ M 63 = R ∧ pR M P ∧ iR M Im ∧ xR M tx t
theorem pR_c {M M' : vM} {P : List (Nat → Int32)} (h : pR M P) (h1 : M' 60 5 = M 60 5) (h2 : M' 65 = M 65) : pR M' P := ⟨h1.trans h.1, fun i hi j hj => by rw [h2]; exact h.2 i hi j hj⟩
theorem iR_c {M M' : vM} {Im : Nat → Option (Nat → Int32)} (h : iR M Im) (h1 : M' 67 = M 67) (h2 : M' 66 = M 66) : iR M' Im := fun i hi => ⟨fun e => by rw [h1]; exact (h i hi).1 e, fun r e => ⟨by rw [h1]; exact ((h i hi).2 r e).1, fun j hj => by rw [h2]; exact ((h i hi).2 r e).2 j hj⟩⟩
theorem xR_c {M M' : vM} {tx : Nat → Int32} {t : Nat} (h : xR M tx t) (h1 : M' 60 11 = M 60 11) (h2 : M' 70 = M 70) : xR M' tx t := ⟨h1.trans h.1, fun j hj => by rw [h2]; exact h.2 j hj⟩
/-- reading changes nothing of the state -/
theorem REF_sc {M M' : vM} {T R tx : Nat → Int32} {P : List (Nat → Int32)} {Im : Nat → Option (Nat → Int32)} {t : Nat} (h : REF M T R P Im tx t) (hs : ∀ i, i ≠ 68 → i ≠ 69 → i ≠ 64 → i ≠ 62 → M' i = M i) : REF M' T R P Im tx t := by
  obtain ⟨h1, h2, h3, h4, h5⟩ := h
  exact ⟨(hs 61 (by decide) (by decide) (by decide) (by decide)).trans h1, (hs 63 (by decide) (by decide) (by decide) (by decide)).trans h2, pR_c h3 (congrFun (hs 60 (by decide) (by decide) (by decide) (by decide)) _) (hs 65 (by decide) (by decide) (by decide) (by decide)), iR_c h4 (hs 67 (by decide) (by decide) (by decide) (by decide)) (hs 66 (by decide) (by decide) (by decide) (by decide)), xR_c h5 (congrFun (hs 60 (by decide) (by decide) (by decide) (by decide)) _) (hs 70 (by decide) (by decide) (by decide) (by decide))⟩
/-- an answer, and the state behind it -/
def rA (M : vM) (a : Int32) (T R : Nat → Int32) (P : List (Nat → Int32)) (Im : Nat → Option (Nat → Int32)) (tx : Nat → Int32) (t : Nat) : Option Value → vM → Prop := fun v M' => v = some (.int a) ∧ REF M' T R P Im tx t ∧ kp M M'
def v3 (x : Int32) : Prop := x = nI 0 ∨ x = nI 1 ∨ x = nI 2
def rOK (T R : Nat → Int32) : Prop := (∃ nd, R 0 = nI nd ∧ nd < 2 ^ 31) ∧ ∀ n, n < nN T → so T n ≤ 1 → v3 (R (4 + n)) ∧ (so T n = 0 → v3 (R (20 + n)))
end
section
section R22
variable {M M0 : vM} {T R tx : Nat → Int32} {P : List (Nat → Int32)} {Im : Nat → Option (Nat → Int32)} {t : Nat}
set_option maxRecDepth 100000 in
theorem l_note1 {Q : Option Value → vM → Prop} (post : ∀ M1 : vM, (∀ i, i ≠ 65 → M1 i = M0 i) → (∀ j, j < 180 → M1 65 j = M0 65 (j + 36)) → V kX4_note Q M1 39 [(0, .ref 60)] []) (d : Nat) : ∀ (k : Nat) (M : vM), k + d = 180 → (∀ i, i ≠ 65 → M i = M0 i) → (∀ j, j < k → M 65 j = M0 65 (j + 36)) → (∀ j, k ≤ j → M 65 j = M0 65 j) → V kX4_note (Q) M 11 [(0, .ref 60), (1, .int (nI k))] [] := by
  induction d with
  | zero =>
    intro k M hk hz h1 h2
    refine v_iload_n dX4_note_11 rfl ?_
    refine v_sipush (v := (nI 180)) dX4_note_12 rfl ?_
    refine v_icmpN_ge (tgt := 39) dX4_note_15 (by decide) (by omega) (by omega) (fun c15 => ?_) (fun c15 => (by omega))
    refine v_sub (lv' := [(0, .ref 60)]) (by intro q hq; simp at hq; rcases hq with rfl <;> rfl) ?_
    exact post M hz (fun j hj => h1 j (by omega))
  | succ d ih =>
    intro k M hk hz h1 h2
    refine v_iload_n dX4_note_11 rfl ?_
    refine v_sipush (v := (nI 180)) dX4_note_12 rfl ?_
    refine v_icmpN_ge (tgt := 39) dX4_note_15 (by decide) (by omega) (by omega) (fun c15 => (by omega)) (fun c15 => ?_)
    refine v_aload_n dX4_note_18 rfl ?_
    refine v_getR (t := 65) dX4_note_19 fl_X4_22 ⟨by decide, rfl, by decide⟩ rfl rfl ?_
    refine v_iload_n dX4_note_22 rfl ?_
    refine v_aload_n dX4_note_23 rfl ?_
    refine v_getR (t := 65) dX4_note_24 fl_X4_22 ⟨by decide, rfl, by decide⟩ rfl rfl ?_
    refine v_iload_n dX4_note_27 rfl ?_
    refine v_bipush (v := (nI 36)) dX4_note_28 rfl ?_
    refine v_iaddN dX4_note_30 ?_
    refine v_iald2 (n := 216) (a := k + 36) (y := (M0 65 (k + 36))) dX4_note_31 ⟨by decide, rfl, rfl⟩ (rfl) (by omega) (h2 _ (by omega)) ?_
    refine v_iast (n := 216) (a := k) dX4_note_32 ⟨by decide, rfl, rfl⟩ (rfl) (by omega) ?_
    refine v_iincN (lv' := [(0, .ref 60), (1, .int (nI (k + 1)))]) dX4_note_33 rfl (Nat.le_of_ble_eq_true rfl) rfl ?_
    refine v_goto (tgt := 11) dX4_note_36 (by decide) ?_
    refine ih (k + 1) _ (by omega) (fun i h9 => (mup_ne h9).trans (hz i h9)) (fun j h9 => ?_) (fun j h9 => ?_)
    · rw [mup_eq]; simp only [upd]
      by_cases h8 : j = k
      · rw [if_pos h8, h8]
      · rw [if_neg h8]; exact h1 j (by omega)
    · rw [mup_eq]; simp only [upd]; rw [if_neg (by omega)]; exact h2 j (by omega)
set_option maxRecDepth 100000 in
theorem l_note2 {p : Nat} (hp : p < 6) (h5 : M0 60 5 = nI p) (d : Nat) : ∀ (k : Nat) (M : vM), k + d = 36 → (∀ i, i ≠ 65 → M i = M0 i) → (∀ j, j < k → M 65 (36 * p + j) = M0 63 j) → (∀ j, j < 36 * p → M 65 j = M0 65 j) → V kX4_note (fun v M1 => v = none ∧ M1 60 5 = nI (p + 1) ∧ (∀ i, i ≠ 65 → i ≠ 60 → M1 i = M0 i) ∧ (∀ j, j ≠ 5 → M1 60 j = M0 60 j) ∧ (∀ j, j < 36 → M1 65 (36 * p + j) = M0 63 j) ∧ ∀ j, j < 36 * p → M1 65 j = M0 65 j) M 51 [(0, .ref 60), (1, .int (nI k))] [] := by
  induction d with
  | zero =>
    intro k M hk hz h1 h2
    refine v_iload_n dX4_note_51 rfl ?_
    refine v_bipush (v := (nI 36)) dX4_note_52 rfl ?_
    refine v_icmpN_ge (tgt := 83) dX4_note_54 (by decide) (by omega) (by omega) (fun c54 => ?_) (fun c54 => (by omega))
    refine v_aload_n dX4_note_83 rfl ?_
    refine v_dup dX4_note_84 rfl ?_
    refine v_getI2 (y := (nI p)) dX4_note_85 fl_X4_48 ⟨by decide, rfl, by decide⟩ rfl ((congrFun (hz 60 (by decide)) 5).trans h5) ?_
    refine v_iconst (v := (nI 1)) dX4_note_88 rfl ?_
    refine v_iaddN dX4_note_89 ?_
    refine v_putI dX4_note_90 fl_X4_48 ⟨by decide, rfl, by decide⟩ rfl rfl rfl ?_
    refine v_vret dX4_note_93 rfl ?_
    refine ⟨rfl, ?_, fun i h8 h9 => ?_, fun j h9 => ?_, fun j h9 => ?_, fun j h9 => ?_⟩
    · rw [mup_eq]; simp [upd]
    · rw [mup_ne h9]; exact hz i h8
    · rw [mup_eq]; simp only [upd, if_neg h9]; exact congrFun (hz 60 (by decide)) j
    · rw [mup_ne (by decide)]; exact h1 j (by omega)
    · rw [mup_ne (by decide)]; exact h2 j h9
  | succ d ih =>
    intro k M hk hz h1 h2
    refine v_iload_n dX4_note_51 rfl ?_
    refine v_bipush (v := (nI 36)) dX4_note_52 rfl ?_
    refine v_icmpN_ge (tgt := 83) dX4_note_54 (by decide) (by omega) (by omega) (fun c54 => (by omega)) (fun c54 => ?_)
    refine v_aload_n dX4_note_57 rfl ?_
    refine v_getR (t := 65) dX4_note_58 fl_X4_22 ⟨by decide, rfl, by decide⟩ rfl rfl ?_
    refine v_bipush (v := (nI 36)) dX4_note_61 rfl ?_
    refine v_aload_n dX4_note_63 rfl ?_
    refine v_getI2 (y := (nI p)) dX4_note_64 fl_X4_48 ⟨by decide, rfl, by decide⟩ rfl ((congrFun (hz 60 (by decide)) 5).trans h5) ?_
    refine v_imulN dX4_note_67 ?_
    refine v_iload_n dX4_note_68 rfl ?_
    refine v_iaddN dX4_note_69 ?_
    refine v_aload_n dX4_note_70 rfl ?_
    refine v_getR (t := 63) dX4_note_71 fl_X4_16 ⟨by decide, rfl, by decide⟩ rfl rfl ?_
    refine v_iload_n dX4_note_74 rfl ?_
    refine v_iald2 (n := 36) (a := k) (y := (M0 63 k)) dX4_note_75 ⟨by decide, rfl, rfl⟩ (rfl) (by omega) (congrFun (hz 63 (by decide)) k) ?_
    refine v_iast (n := 216) (a := 36 * p + k) dX4_note_76 ⟨by decide, rfl, rfl⟩ (rfl) (by omega) ?_
    refine v_iincN (lv' := [(0, .ref 60), (1, .int (nI (k + 1)))]) dX4_note_77 rfl (Nat.le_of_ble_eq_true rfl) rfl ?_
    refine v_goto (tgt := 51) dX4_note_80 (by decide) ?_
    refine ih (k + 1) _ (by omega) (fun i h9 => (mup_ne h9).trans (hz i h9)) (fun j h9 => ?_) (fun j h9 => ?_)
    · rw [mup_eq]; simp only [upd]
      by_cases h8 : j = k
      · rw [if_pos (by omega), h8]
      · rw [if_neg (by omega)]; exact h1 j (by omega)
    · rw [mup_eq]; simp only [upd]; rw [if_neg (by omega)]; exact h2 j h9
theorem REF_note6 {M M1 : vM} (hr : REF M T R P Im tx t) (h6 : P.length = 6) (g1 : M1 60 5 = nI (5 + 1)) (g2 : ∀ i, i ≠ 65 → i ≠ 60 → M1 i = M i) (g3 : ∀ j, j ≠ 5 → M1 60 j = M 60 j) (g4 : ∀ j, j < 36 → M1 65 (36 * 5 + j) = M 63 j) (g5 : ∀ j, j < 180 → M1 65 j = M 65 (j + 36)) : REF M1 T R ((R :: P).take 6) Im tx t := by
  obtain ⟨r1, r2, r3, r4, r5⟩ := hr
  refine ⟨(g2 61 (by decide) (by decide)).trans r1, (g2 63 (by decide) (by decide)).trans r2, ⟨?_, fun i hi j hj => ?_⟩, iR_c r4 (g2 67 (by decide) (by decide)) (g2 66 (by decide) (by decide)), xR_c r5 (g3 11 (by decide)) (g2 70 (by decide) (by decide))⟩
  · rw [g1]; congr 1; simp; omega
  · have hl : ((R :: P).take 6).length = 6 := by simp; omega
    rw [hl] at hi ⊢
    cases i with
    | zero =>
      have := g4 j hj
      rw [r2] at this
      simpa using this
    | succ i =>
      have h1 := r3.2 i (by omega) j hj
      rw [h6] at h1
      have h2 := g5 (36 * (6 - 1 - (i + 1)) + j) (by omega)
      rw [h2, show 36 * (6 - 1 - (i + 1)) + j + 36 = 36 * (6 - 1 - i) + j by omega, h1]
      have : ((R :: P).take 6).getD (i + 1) z0 = P.getD i z0 := by
        simp only [List.getD_eq_getElem?_getD, List.getElem?_take]
        rw [if_pos (by omega)]; simp
      rw [this]
theorem REF_note5 {M M1 : vM} (hr : REF M T R P Im tx t) (h6 : P.length < 6) (g1 : M1 60 5 = nI (P.length + 1)) (g2 : ∀ i, i ≠ 65 → i ≠ 60 → M1 i = M i) (g3 : ∀ j, j ≠ 5 → M1 60 j = M 60 j) (g4 : ∀ j, j < 36 → M1 65 (36 * P.length + j) = M 63 j) (g5 : ∀ j, j < 36 * P.length → M1 65 j = M 65 j) : REF M1 T R ((R :: P).take 6) Im tx t := by
  obtain ⟨r1, r2, r3, r4, r5⟩ := hr
  have e6 : (R :: P).take 6 = R :: P := List.take_of_length_le (by simp; omega)
  rw [e6]
  refine ⟨(g2 61 (by decide) (by decide)).trans r1, (g2 63 (by decide) (by decide)).trans r2, ⟨?_, fun i hi j hj => ?_⟩, iR_c r4 (g2 67 (by decide) (by decide)) (g2 66 (by decide) (by decide)), xR_c r5 (g3 11 (by decide)) (g2 70 (by decide) (by decide))⟩
  · rw [g1]; rfl
  · have hl : (R :: P).length = P.length + 1 := rfl
    rw [hl] at hi ⊢
    cases i with
    | zero =>
      have := g4 j hj
      rw [r2] at this
      simpa using this
    | succ i =>
      have h1 := r3.2 i (by omega) j hj
      have h2 := g5 (36 * (P.length + 1 - 1 - (i + 1)) + j) (by omega)
      rw [h2, show P.length + 1 - 1 - (i + 1) = P.length - 1 - i by omega, h1]
      simp
set_option maxRecDepth 100000 in
theorem c_note (hr : REF M T R P Im tx t) (hW : WF T) (hp6 : P.length ≤ 6) : V kX4_note (fun v M1 => v = none ∧ REF M1 T R ((R :: P).take 6) Im tx t ∧ kp M M1) M 0 [(0, .ref 60)] [] := by
  have h16 := hW.n16
  refine v_aload_n dX4_note_0 rfl ?_
  refine v_getI2 (y := (nI P.length)) dX4_note_1 fl_X4_48 ⟨by decide, rfl, by decide⟩ rfl (hr.2.2.1.1) ?_
  refine v_bipush (v := (nI 6)) dX4_note_4 rfl ?_
  refine v_icmpN_ne (tgt := 49) dX4_note_6 (by decide) (by omega) (by omega) (fun c6 => ?_) (fun c6 => ?_)
  · refine v_iconst (v := (nI 0)) dX4_note_49 rfl ?_
    refine v_istore_n (lv' := [(0, .ref 60), (1, .int (nI 0))]) dX4_note_50 (Nat.le_of_ble_eq_true rfl) rfl ?_
    refine v_post ?_ (l_note2 (M0 := M) (p := P.length) (by omega) hr.2.2.1.1 36 0 _ (by omega) (fun _ _ => rfl) (fun j h => absurd h (by omega)) (fun _ _ => rfl))
    rintro v M1 ⟨rfl, g1, g2, g3, g4, g5⟩
    exact ⟨rfl, REF_note5 hr (by omega) g1 g2 g3 g4 g5, fun i a => g2 i (by omega) (by omega)⟩
  · refine v_iconst (v := (nI 0)) dX4_note_9 rfl ?_
    refine v_istore_n (lv' := [(0, .ref 60), (1, .int (nI 0))]) dX4_note_10 (Nat.le_of_ble_eq_true rfl) rfl ?_
    have h6 : P.length = 6 := c6
    refine l_note1 (M0 := M) (fun M2 hz hs => ?_) 180 0 M (by omega) (fun _ _ => rfl) (fun j h => absurd h (by omega)) (fun _ _ => rfl)
    refine v_aload_n dX4_note_39 rfl ?_
    refine v_dup dX4_note_40 rfl ?_
    refine v_getI2 (y := (nI 6)) dX4_note_41 fl_X4_48 ⟨by decide, rfl, by decide⟩ rfl ((congrFun (hz 60 (by decide)) 5).trans (by rw [hr.2.2.1.1, h6])) ?_
    refine v_iconst (v := (nI 1)) dX4_note_44 rfl ?_
    refine v_isubN dX4_note_45 (by decide) ?_
    refine v_putI dX4_note_46 fl_X4_48 ⟨by decide, rfl, by decide⟩ rfl rfl rfl ?_
    refine v_iconst (v := (nI 0)) dX4_note_49 rfl ?_
    refine v_istore_n (lv' := [(0, .ref 60), (1, .int (nI 0))]) dX4_note_50 (Nat.le_of_ble_eq_true rfl) rfl ?_
    refine v_post ?_ (l_note2 (M0 := mup M2 60 5 (nI (6 - 1))) (p := 5) (by decide) (by rw [mup_eq]; simp [upd]) 36 0 _ (by omega) (fun _ _ => rfl) (fun j h => absurd h (by omega)) (fun _ _ => rfl))
    rintro v M1 ⟨rfl, g1, g2, g3, g4, g5⟩
    refine ⟨rfl, REF_note6 hr h6 g1 (fun i a b => (g2 i a b).trans ((mup_ne b).trans (hz i a))) (fun j a => (g3 j a).trans (by rw [mup_eq]; simp only [upd, if_neg a]; exact congrFun (hz 60 (by decide)) j)) (fun j a => (g4 j a).trans (by rw [mup_ne (by decide)]; exact congrFun (hz 63 (by decide)) j)) (fun j a => (g5 j (by omega)).trans (by rw [mup_ne (by decide)]; exact hs j (by omega))), fun i a => (g2 i (by omega) (by omega)).trans ((mup_ne (by omega)).trans (hz i (by omega)))⟩
end R22
end
section
/-! what the calls answer, of the state -/
def needK (R : Nat → Int32) (x : Int32) : Prop := (nI 2 ≤ x ∧ x ≤ nI 4) ∧ ¬ R 0 = x
def needA (R : Nat → Int32) (x : Int32) : Int32 := if nI 2 ≤ x ∧ x ≤ nI 4 then (if R 0 = x then (-2) else R 0) else (-1)
def needR (R : Nat → Int32) (x : Int32) : Nat → Int32 := if (nI 2 ≤ x ∧ x ≤ nI 4) ∧ ¬ R 0 = x then upd R 0 x else R
def needP (R : Nat → Int32) (P : List (Nat → Int32)) (x : Int32) : List (Nat → Int32) := if (nI 2 ≤ x ∧ x ≤ nI 4) ∧ ¬ R 0 = x then (R :: P).take 6 else P
def wisA (T R : Nat → Int32) (n : Nat) (v : Int32) : Int32 := if so T n = 0 ∧ (nI 0 ≤ v ∧ v ≤ nI 1) then (if R (20 + n) = v then (-2) else R (20 + n)) else (-1)
def wisR (T R : Nat → Int32) (n : Nat) (v : Int32) : Nat → Int32 := if (so T n = 0 ∧ (nI 0 ≤ v ∧ v ≤ nI 1)) ∧ ¬ R (20 + n) = v then upd R (20 + n) v else R
def wisP (T R : Nat → Int32) (P : List (Nat → Int32)) (n : Nat) (v : Int32) : List (Nat → Int32) := if (so T n = 0 ∧ (nI 0 ≤ v ∧ v ≤ nI 1)) ∧ ¬ R (20 + n) = v then (R :: P).take 6 else P
def tkI (T R : Nat → Int32) : Nat → Nat → Int32
  | 0 => R
  | n + 1 => tkR T (tkI T R n)
def ticA (T R : Nat → Int32) (n : Nat) : Int32 := if R 1 + nI n ≤ nI 999 then tkI T R n 2 - R 2 else (-2)
def ticR (T R : Nat → Int32) (n : Nat) : Nat → Int32 := if R 1 + nI n ≤ nI 999 then tkI T R n else R
def ticP (R : Nat → Int32) (P : List (Nat → Int32)) (n : Nat) : List (Nat → Int32) := if R 1 + nI n ≤ nI 999 then (R :: P).take 6 else P
def nodN (T R : Nat → Int32) (n j : Nat) : Int32 := match j with
  | 0 => nI (so T n)
  | 1 => if so T n ≤ 1 then nI (ck T n) else (-9)
  | 2 => if 0 < hmF (so T n) then nI (pt T n 0) else (-9)
  | 3 => if 1 < hmF (so T n) then nI (pt T n 1) else (-9)
  | 4 => if 2 < hmF (so T n) then nI (pt T n 2) else (-9)
  | 5 => srcF T (lvF T n)
  | 6 => lvF T n
  | 7 => vlF T R n
  | _ => (-1)
def regN (T : Nat → Int32) (nd n j : Nat) : Int32 := if so T n = 1 then (match j with
  | 0 => frF T n
  | 1 => nI (dpF T n)
  | _ => oI (kdO T nd n)) else (-1)
def cxB (T : Nat → Int32) (n : Nat) : Bool := decide (so T n = 1) && !(decide (frF T n = 0))
def crN (T : Nat → Int32) (k : Int32) : Nat → Nat → Nat → Int32
  | 0, _, m => if k < 0 then nI m else (-9)
  | d + 1, n, m => if cxB T n = true then (if nI m = k then nI n else crN T k d (n + 1) (m + 1)) else crN T k d (n + 1) m
def crF (T : Nat → Int32) (k : Int32) : Int32 := if (-1) ≤ k then crN T k (nN T) 0 0 else (-1)
def knN (T : Nat → Int32) (nd j : Nat) : Nat → Nat
  | 0 => 0
  | n + 1 => knN T nd j n + (if kaO T nd n = some j then 1 else 0)
def jnA (T : Nat → Int32) (k w : Int32) : Int32 := if k < (-1) then (-1) else if nI 0 ≤ w ∧ w ≤ (if (0 : Int32) ≤ k then nI 2 else nI 0) then joinF T k w else (-1)
def hvN : Nat → UInt32
  | 0 => FP.fconst1
  | d + 1 => FP.fmul (hvN d) 1056964608
def wtF (T : Nat → Int32) (n kd : Nat) : UInt32 := match kd with
  | 0 => hvN (dpF T n)
  | 1 => 1061158912
  | 2 => 1040187392
  | _ => 1069547520
def rkN (T : Nat → Int32) (nd : Nat) : Nat → UInt32
  | 0 => FP.fconst0
  | n + 1 => match kaO T nd n with
    | none => rkN T nd n
    | some kd => FP.fadd (rkN T nd n) (FP.fdiv (wtF T n kd) (FP.i2f (nI (pe T (ck T n)))))
def rkF (T : Nat → Int32) (nd : Nat) : Int32 := FP.f2i (FP.fmul 1176256512 (rkN T nd (nN T)))
def whN (T : Nat → Int32) (n : Nat) (v : Int32) : Nat → Nat → (Nat → Int32) → Int32
  | 0, _, _ => (-9)
  | d + 1, k, R => if vlF T R n = v then nI k else whN T n v d (k + 1) (tkR T R)
def cntN (T R : Nat → Int32) (pl t j : Nat) : Int32 := match j with
  | 0 => nI (nN T)
  | 1 => nI (nK T)
  | 2 => R 0
  | 3 => R 1
  | 4 => R 2
  | 5 => R 3
  | 6 => nI t
  | 7 => nI pl
  | _ => (-1)
theorem kdO_none {T : Nat → Int32} {nd n : Nat} : kdO T nd n = none ↔ frF T n = 0 := by
  unfold kdO
  constructor
  · intro h
    by_cases c : frF T n = 0
    · exact c
    · rw [if_neg c] at h
      split at h <;> split at h <;> cases h
  · intro h; rw [if_pos h]
theorem kaO_cx {T : Nat → Int32} {nd n : Nat} : kaO T nd n = none ↔ ¬ cxB T n = true := by
  unfold kaO cxB
  by_cases h : so T n = 1
  · rw [if_pos h, kdO_none]; simp [h]
  · rw [if_neg h]; simp [h]
theorem le8 {j : Nat} (h : j < 8) : j = 0 ∨ j = 1 ∨ j = 2 ∨ j = 3 ∨ j = 4 ∨ j = 5 ∨ j = 6 ∨ j = 7 := by omega
end
section
section R24
variable {M M0 : vM} {T R tx : Nat → Int32} {P : List (Nat → Int32)} {Im : Nat → Option (Nat → Int32)} {t : Nat}
theorem REF_R0 {M1 : vM} {R' : Nat → Int32} (hr : REF M1 T R P Im tx t) {a : Nat} {x : Int32} (e : R' = upd R a x) : REF (mup M1 63 a x) T R' P Im tx t := by
  obtain ⟨r1, r2, r3, r4, r5⟩ := hr
  refine ⟨(mup_ne (by decide)).trans r1, by rw [mup_eq, r2, e], pR_c r3 (by rw [mup_ne (by decide)]) (mup_ne (by decide)), iR_c r4 (mup_ne (by decide)) (mup_ne (by decide)), xR_c r5 (by rw [mup_ne (by decide)]) (mup_ne (by decide))⟩
set_option maxRecDepth 100000 in
theorem c_needs (hr : REF M T R P Im tx t) (hW : WF T) (hp6 : P.length ≤ 6) (x : Int32) : V kX4_needs (rA M (needA R x) T (needR R x) (needP R P x) Im tx t) M 0 [(0, .ref 60), (1, .int x)] [] := by
  have h16 := hW.n16
  refine v_iload_n dX4_needs_0 rfl ?_
  refine v_iconst (v := (nI 2)) dX4_needs_1 rfl ?_
  refine v_iconst (v := (nI 4)) dX4_needs_2 rfl ?_
  refine v_callSr (x := .int (bI ((nI 2) ≤ x ∧ x ≤ (nI 4)))) (M1 := M) (as := [.int x, .int (nI 2), .int (nI 4)]) (st := []) dX4_needs_3 ml_X4_56 ks_X4_in ⟨(Nat.le_of_ble_eq_true rfl), (Nat.le_of_ble_eq_true rfl)⟩ rfl (Nat.le_of_ble_eq_true rfl) rfl (Nat.le_of_ble_eq_true rfl) (c_in _ _ _) ?_
  refine v_ifB_ne (tgt := 11) dX4_needs_6 (by decide) (fun c6 => ?_) (fun c6 => ?_)
  · refine v_aload_n dX4_needs_11 rfl ?_
    refine v_getR (t := 63) dX4_needs_12 fl_X4_16 ⟨by decide, rfl, by decide⟩ rfl rfl ?_
    refine v_iconst (v := (nI 0)) dX4_needs_15 rfl ?_
    refine v_iald2 (n := 36) (a := 0) (y := (R 0)) dX4_needs_16 ⟨by decide, rfl, rfl⟩ (rfl) (by omega) (congrFun hr.2.1 0) ?_
    refine v_istore_n (lv' := [(0, .ref 60), (1, .int x), (2, .int (R 0))]) dX4_needs_17 (Nat.le_of_ble_eq_true rfl) rfl ?_
    refine v_iload_n dX4_needs_18 rfl ?_
    refine v_iload_n dX4_needs_19 rfl ?_
    refine v_icmp_ne (tgt := 26) dX4_needs_20 (by decide) (fun c20 => ?_) (fun c20 => ?_)
    · refine v_aload_n dX4_needs_26 rfl ?_
      refine v_callV (as := []) (st := []) dX4_needs_27 ml_X4_158 kv_X4_note ⟨by decide, rfl, by decide⟩ ⟨(Nat.le_of_ble_eq_true rfl), (Nat.le_of_ble_eq_true rfl)⟩ rfl (Nat.le_of_ble_eq_true rfl) rfl (Nat.le_of_ble_eq_true rfl) (c_note hr hW hp6) (fun v M1 hq => ?_)
      obtain ⟨rfl, hr, hkp⟩ := hq
      refine v_aload_n dX4_needs_30 rfl ?_
      refine v_getR (t := 63) dX4_needs_31 fl_X4_16 ⟨by decide, rfl, by decide⟩ rfl rfl ?_
      refine v_iconst (v := (nI 0)) dX4_needs_34 rfl ?_
      refine v_iload_n dX4_needs_35 rfl ?_
      refine v_iast (n := 36) (a := 0) dX4_needs_36 ⟨by decide, rfl, rfl⟩ (rfl) (by omega) ?_
      refine v_iload_n dX4_needs_37 rfl ?_
      refine v_iret dX4_needs_38 rfl ?_
      have e1 : needR R x = upd R 0 x := if_pos ⟨c6, c20⟩
      have e2 : needP R P x = (R :: P).take 6 := if_pos ⟨c6, c20⟩
      rw [e2]
      refine ⟨?_, REF_R0 hr e1, kp_up hkp (by decide)⟩
      simp [needA, c6, c20]
    · refine v_bipush (v := (-2)) dX4_needs_23 (by decide) ?_
      refine v_iret dX4_needs_25 rfl ?_
      have e1 : needR R x = R := if_neg (by simp [*])
      have e2 : needP R P x = P := if_neg (by simp [*])
      rw [e1, e2]
      refine ⟨?_, hr, kp_rf M⟩
      simp [needA, *]
  · refine v_iconst (v := (-1)) dX4_needs_9 (by decide) ?_
    refine v_iret dX4_needs_10 rfl ?_
    have e1 : needR R x = R := if_neg (by simp [*])
    have e2 : needP R P x = P := if_neg (by simp [*])
    rw [e1, e2]
    refine ⟨?_, hr, kp_rf M⟩
    simp [needA, *]
set_option maxRecDepth 100000 in
theorem c_wishes0 (hr : REF M T R P Im tx t) (hW : WF T) (hp6 : P.length ≤ 6) {x v : Int32} (hx : ¬ isN T x) : V kX4_wishes (rA M ((-1)) T R P Im tx t) M 0 [(0, .ref 60), (1, .int x), (2, .int v)] [] := by
  have h16 := hW.n16
  refine v_aload_n dX4_wishes_0 rfl ?_
  refine v_iload_n dX4_wishes_1 rfl ?_
  refine v_callVr (x := .int (nI 0)) (M1 := M) (as := [.int x]) (st := []) dX4_wishes_2 ml_X4_161 kv_X4_isInput ⟨by decide, rfl, by decide⟩ ⟨(Nat.le_of_ble_eq_true rfl), (Nat.le_of_ble_eq_true rfl)⟩ rfl (Nat.le_of_ble_eq_true rfl) rfl (Nat.le_of_ble_eq_true rfl) (c_isInput0 hr.1 hW hx) ?_
  refine v_ifN_eq (tgt := 17) dX4_wishes_5 (by decide) (by omega) (fun c5 => ?_) (fun c5 => (absurd rfl c5))
  refine v_iconst (v := (-1)) dX4_wishes_17 (by decide) ?_
  refine v_iret dX4_wishes_18 rfl ?_
  exact ⟨rfl, hr, kp_rf M⟩
set_option maxRecDepth 100000 in
theorem c_wishes (hr : REF M T R P Im tx t) (hW : WF T) (hp6 : P.length ≤ 6) {n : Nat} {v : Int32} (hn : n < nN T) : V kX4_wishes (rA M (wisA T R n v) T (wisR T R n v) (wisP T R P n v) Im tx t) M 0 [(0, .ref 60), (1, .int (nI n)), (2, .int v)] [] := by
  have h16 := hW.n16
  refine v_aload_n dX4_wishes_0 rfl ?_
  refine v_iload_n dX4_wishes_1 rfl ?_
  refine v_callVr (x := .int (bI (so T n = 0))) (M1 := M) (as := [.int (nI n)]) (st := []) dX4_wishes_2 ml_X4_161 kv_X4_isInput ⟨by decide, rfl, by decide⟩ ⟨(Nat.le_of_ble_eq_true rfl), (Nat.le_of_ble_eq_true rfl)⟩ rfl (Nat.le_of_ble_eq_true rfl) rfl (Nat.le_of_ble_eq_true rfl) (c_isInput hr.1 hW hn) ?_
  refine v_ifB_eq (tgt := 17) dX4_wishes_5 (by decide) (fun c5 => ?_) (fun c5 => ?_)
  · refine v_iconst (v := (-1)) dX4_wishes_17 (by decide) ?_
    refine v_iret dX4_wishes_18 rfl ?_
    have e1 : wisR T R n v = R := if_neg (by simp [*])
    have e2 : wisP T R P n v = P := if_neg (by simp [*])
    rw [e1, e2]
    refine ⟨?_, hr, kp_rf M⟩
    simp [wisA, *]
  · refine v_iload_n dX4_wishes_8 rfl ?_
    refine v_iconst (v := (nI 0)) dX4_wishes_9 rfl ?_
    refine v_iconst (v := (nI 1)) dX4_wishes_10 rfl ?_
    refine v_callSr (x := .int (bI ((nI 0) ≤ v ∧ v ≤ (nI 1)))) (M1 := M) (as := [.int v, .int (nI 0), .int (nI 1)]) (st := []) dX4_wishes_11 ml_X4_56 ks_X4_in ⟨(Nat.le_of_ble_eq_true rfl), (Nat.le_of_ble_eq_true rfl)⟩ rfl (Nat.le_of_ble_eq_true rfl) rfl (Nat.le_of_ble_eq_true rfl) (c_in _ _ _) ?_
    refine v_ifB_ne (tgt := 19) dX4_wishes_14 (by decide) (fun c14 => ?_) (fun c14 => ?_)
    · refine v_aload_n dX4_wishes_19 rfl ?_
      refine v_getR (t := 63) dX4_wishes_20 fl_X4_16 ⟨by decide, rfl, by decide⟩ rfl rfl ?_
      refine v_bipush (v := (nI 20)) dX4_wishes_23 rfl ?_
      refine v_iload_n dX4_wishes_25 rfl ?_
      refine v_iaddN dX4_wishes_26 ?_
      refine v_iald2 (n := 36) (a := 20 + n) (y := (R (20 + n))) dX4_wishes_27 ⟨by decide, rfl, rfl⟩ (rfl) (by omega) (congrFun hr.2.1 _) ?_
      refine v_istore_n (lv' := [(0, .ref 60), (1, .int (nI n)), (2, .int v), (3, .int (R (20 + n)))]) dX4_wishes_28 (Nat.le_of_ble_eq_true rfl) rfl ?_
      refine v_iload_n dX4_wishes_29 rfl ?_
      refine v_iload_n dX4_wishes_30 rfl ?_
      refine v_icmp_ne (tgt := 37) dX4_wishes_31 (by decide) (fun c31 => ?_) (fun c31 => ?_)
      · refine v_aload_n dX4_wishes_37 rfl ?_
        refine v_callV (as := []) (st := []) dX4_wishes_38 ml_X4_158 kv_X4_note ⟨by decide, rfl, by decide⟩ ⟨(Nat.le_of_ble_eq_true rfl), (Nat.le_of_ble_eq_true rfl)⟩ rfl (Nat.le_of_ble_eq_true rfl) rfl (Nat.le_of_ble_eq_true rfl) (c_note hr hW hp6) (fun v M1 hq => ?_)
        obtain ⟨rfl, hr, hkp⟩ := hq
        refine v_aload_n dX4_wishes_41 rfl ?_
        refine v_getR (t := 63) dX4_wishes_42 fl_X4_16 ⟨by decide, rfl, by decide⟩ rfl rfl ?_
        refine v_bipush (v := (nI 20)) dX4_wishes_45 rfl ?_
        refine v_iload_n dX4_wishes_47 rfl ?_
        refine v_iaddN dX4_wishes_48 ?_
        refine v_iload_n dX4_wishes_49 rfl ?_
        refine v_iast (n := 36) (a := 20 + n) dX4_wishes_50 ⟨by decide, rfl, rfl⟩ (rfl) (by omega) ?_
        refine v_iload_n dX4_wishes_51 rfl ?_
        refine v_iret dX4_wishes_52 rfl ?_
        have e1 : wisR T R n v = upd R (20 + n) v := if_pos ⟨⟨c5, c14⟩, c31⟩
        have e2 : wisP T R P n v = (R :: P).take 6 := if_pos ⟨⟨c5, c14⟩, c31⟩
        rw [e2]
        refine ⟨?_, REF_R0 hr e1, kp_up hkp (by decide)⟩
        simp [wisA, c5, c14, c31]
      · refine v_bipush (v := (-2)) dX4_wishes_34 (by decide) ?_
        refine v_iret dX4_wishes_36 rfl ?_
        have e1 : wisR T R n v = R := if_neg (by simp [*])
        have e2 : wisP T R P n v = P := if_neg (by simp [*])
        rw [e1, e2]
        refine ⟨?_, hr, kp_rf M⟩
        simp [wisA, *]
    · refine v_iconst (v := (-1)) dX4_wishes_17 (by decide) ?_
      refine v_iret dX4_wishes_18 rfl ?_
      have e1 : wisR T R n v = R := if_neg (by simp [*])
      have e2 : wisP T R P n v = P := if_neg (by simp [*])
      rw [e1, e2]
      refine ⟨?_, hr, kp_rf M⟩
      simp [wisA, *]
set_option maxRecDepth 100000 in
theorem c_ticks0 (hr : REF M T R P Im tx t) (hW : WF T) (hp6 : P.length ≤ 6) {x : Int32} (hx : ¬ (nI 1 ≤ x ∧ x ≤ nI 99)) : V kX4_ticks (rA M ((-1)) T R P Im tx t) M 0 [(0, .ref 60), (1, .int x)] [] := by
  have h16 := hW.n16
  refine v_iload_n dX4_ticks_0 rfl ?_
  refine v_iconst (v := (nI 1)) dX4_ticks_1 rfl ?_
  refine v_bipush (v := (nI 99)) dX4_ticks_2 rfl ?_
  refine v_callSr (x := .int (bI ((nI 1) ≤ x ∧ x ≤ (nI 99)))) (M1 := M) (as := [.int x, .int (nI 1), .int (nI 99)]) (st := []) dX4_ticks_4 ml_X4_56 ks_X4_in ⟨(Nat.le_of_ble_eq_true rfl), (Nat.le_of_ble_eq_true rfl)⟩ rfl (Nat.le_of_ble_eq_true rfl) rfl (Nat.le_of_ble_eq_true rfl) (c_in _ _ _) ?_
  refine v_ifB_ne (tgt := 12) dX4_ticks_7 (by decide) (fun c7 => (absurd c7 hx)) (fun c7 => ?_)
  refine v_iconst (v := (-1)) dX4_ticks_10 (by decide) ?_
  refine v_iret dX4_ticks_11 rfl ?_
  exact ⟨rfl, hr, kp_rf M⟩
set_option maxRecDepth 100000 in
theorem l_ticks {n : Nat} {h : Int32} (hn : n ≤ 99) (hW : WF T) (d : Nat) : ∀ (k : Nat) (M : vM), k + d = n → REF M T (tkI T R k) P Im tx t → kp M0 M → V kX4_ticks (fun v M' => v = some (.int (tkI T R n 2 - h)) ∧ REF M' T (tkI T R n) P Im tx t ∧ kp M0 M') M 42 [(0, .ref 60), (1, .int (nI n)), (2, .int h), (3, .int (nI k))] [] := by
  induction d with
  | zero =>
    intro k M hk hr hk2
    refine v_iload_n dX4_ticks_42 rfl ?_
    refine v_iload_n dX4_ticks_43 rfl ?_
    refine v_icmpN_ge (tgt := 61) dX4_ticks_44 (by decide) (by omega) (by omega) (fun c44 => ?_) (fun c44 => (by omega))
    refine v_aload_n dX4_ticks_61 rfl ?_
    refine v_getR (t := 63) dX4_ticks_62 fl_X4_16 ⟨by decide, rfl, by decide⟩ rfl rfl ?_
    refine v_iconst (v := (nI 2)) dX4_ticks_65 rfl ?_
    refine v_iald2 (n := 36) (a := 2) (y := (tkI T R k 2)) dX4_ticks_66 ⟨by decide, rfl, rfl⟩ (rfl) (by omega) (congrFun hr.2.1 2) ?_
    refine v_iload_n dX4_ticks_67 rfl ?_
    refine v_isub dX4_ticks_68 ?_
    refine v_iret dX4_ticks_69 rfl ?_
    have e : k = n := by omega
    subst e
    exact ⟨rfl, hr, hk2⟩
  | succ d ih =>
    intro k M hk hr hk2
    refine v_iload_n dX4_ticks_42 rfl ?_
    refine v_iload_n dX4_ticks_43 rfl ?_
    refine v_icmpN_ge (tgt := 61) dX4_ticks_44 (by decide) (by omega) (by omega) (fun c44 => (by omega)) (fun c44 => ?_)
    refine v_aload_n dX4_ticks_47 rfl ?_
    refine v_aload_n dX4_ticks_48 rfl ?_
    refine v_getR (t := 63) dX4_ticks_49 fl_X4_16 ⟨by decide, rfl, by decide⟩ rfl rfl ?_
    refine v_callV (as := [.ref 63]) (st := []) dX4_ticks_52 ml_X4_164 kv_X4_tick ⟨by decide, rfl, by decide⟩ ⟨(Nat.le_of_ble_eq_true rfl), (Nat.le_of_ble_eq_true rfl)⟩ rfl (Nat.le_of_ble_eq_true rfl) rfl (Nat.le_of_ble_eq_true rfl) (c_tick hr.1 hW (Or.inl rfl) hr.2.1) (fun v M1 hq => ?_)
    obtain ⟨rfl, hz, hR⟩ := hq
    refine v_iincN (lv' := [(0, .ref 60), (1, .int (nI n)), (2, .int h), (3, .int (nI (k + 1)))]) dX4_ticks_55 rfl (Nat.le_of_ble_eq_true rfl) rfl ?_
    refine v_goto (tgt := 42) dX4_ticks_58 (by decide) ?_
    refine ih (k + 1) M1 (by omega) ?_ (fun i hi => (hz i (by omega) (by omega) (by omega)).trans (hk2 i hi))
    obtain ⟨r1, r2, r3, r4, r5⟩ := hr
    exact ⟨(hz 61 (by decide) (by decide) (by decide)).trans r1, hR, pR_c r3 (congrFun (hz 60 (by decide) (by decide) (by decide)) _) (hz 65 (by decide) (by decide) (by decide)), iR_c r4 (hz 67 (by decide) (by decide) (by decide)) (hz 66 (by decide) (by decide) (by decide)), xR_c r5 (congrFun (hz 60 (by decide) (by decide) (by decide)) _) (hz 70 (by decide) (by decide) (by decide))⟩
set_option maxRecDepth 100000 in
theorem c_ticks (hr : REF M T R P Im tx t) (hW : WF T) (hp6 : P.length ≤ 6) {n : Nat} (h1 : 1 ≤ n) (hn : n ≤ 99) : V kX4_ticks (rA M (ticA T R n) T (ticR T R n) (ticP R P n) Im tx t) M 0 [(0, .ref 60), (1, .int (nI n))] [] := by
  have h16 := hW.n16
  refine v_iload_n dX4_ticks_0 rfl ?_
  refine v_iconst (v := (nI 1)) dX4_ticks_1 rfl ?_
  refine v_bipush (v := (nI 99)) dX4_ticks_2 rfl ?_
  refine v_callSr (x := .int (bI (1 ≤ n ∧ n ≤ 99))) (M1 := M) (as := [.int (nI n), .int (nI 1), .int (nI 99)]) (st := []) dX4_ticks_4 ml_X4_56 ks_X4_in ⟨(Nat.le_of_ble_eq_true rfl), (Nat.le_of_ble_eq_true rfl)⟩ rfl (Nat.le_of_ble_eq_true rfl) rfl (Nat.le_of_ble_eq_true rfl) (c_inN (by omega) (by omega) (by omega)) ?_
  refine v_ifB_ne (tgt := 12) dX4_ticks_7 (by decide) (fun c7 => ?_) (fun c7 => (absurd ⟨h1, hn⟩ c7))
  refine v_aload_n dX4_ticks_12 rfl ?_
  refine v_getR (t := 63) dX4_ticks_13 fl_X4_16 ⟨by decide, rfl, by decide⟩ rfl rfl ?_
  refine v_iconst (v := (nI 1)) dX4_ticks_16 rfl ?_
  refine v_iald2 (n := 36) (a := 1) (y := (R 1)) dX4_ticks_17 ⟨by decide, rfl, rfl⟩ (rfl) (by omega) (congrFun hr.2.1 1) ?_
  refine v_iload_n dX4_ticks_18 rfl ?_
  refine v_iadd dX4_ticks_19 ?_
  refine v_sipush (v := (nI 999)) dX4_ticks_20 rfl ?_
  refine v_icmp_le (tgt := 29) dX4_ticks_23 (by decide) (fun c23 => ?_) (fun c23 => ?_)
  · refine v_aload_n dX4_ticks_29 rfl ?_
    refine v_callV (as := []) (st := []) dX4_ticks_30 ml_X4_158 kv_X4_note ⟨by decide, rfl, by decide⟩ ⟨(Nat.le_of_ble_eq_true rfl), (Nat.le_of_ble_eq_true rfl)⟩ rfl (Nat.le_of_ble_eq_true rfl) rfl (Nat.le_of_ble_eq_true rfl) (c_note hr hW hp6) (fun v M1 hq => ?_)
    obtain ⟨rfl, hr, hkp⟩ := hq
    refine v_aload_n dX4_ticks_33 rfl ?_
    refine v_getR (t := 63) dX4_ticks_34 fl_X4_16 ⟨by decide, rfl, by decide⟩ rfl rfl ?_
    refine v_iconst (v := (nI 2)) dX4_ticks_37 rfl ?_
    refine v_iald2 (n := 36) (a := 2) (y := (R 2)) dX4_ticks_38 ⟨by decide, rfl, rfl⟩ (rfl) (by omega) (congrFun hr.2.1 2) ?_
    refine v_istore_n (lv' := [(0, .ref 60), (1, .int (nI n)), (2, .int (R 2))]) dX4_ticks_39 (Nat.le_of_ble_eq_true rfl) rfl ?_
    refine v_iconst (v := (nI 0)) dX4_ticks_40 rfl ?_
    refine v_istore_n (lv' := [(0, .ref 60), (1, .int (nI n)), (2, .int (R 2)), (3, .int (nI 0))]) dX4_ticks_41 (Nat.le_of_ble_eq_true rfl) rfl ?_
    have e1 : ticR T R n = tkI T R n := if_pos c23
    have e2 : ticP R P n = (R :: P).take 6 := if_pos c23
    have e3 : ticA T R n = tkI T R n 2 - R 2 := if_pos c23
    rw [e1, e2, e3]
    exact l_ticks (M0 := M) hn hW n 0 M1 (by omega) hr hkp
  · refine v_bipush (v := (-2)) dX4_ticks_26 (by decide) ?_
    refine v_iret dX4_ticks_28 rfl ?_
    have e1 : ticR T R n = R := if_neg c23
    have e2 : ticP R P n = P := if_neg c23
    rw [e1, e2]
    refine ⟨?_, hr, kp_rf M⟩
    simp [ticA, c23]
set_option maxRecDepth 100000 in
theorem l_undo {p : Nat} (hp : p < 6) (h5 : M0 60 5 = nI p) (d : Nat) : ∀ (k : Nat) (M : vM), k + d = 36 → (∀ i, i ≠ 63 → M i = M0 i) → (∀ j, j < k → M 63 j = M0 65 (36 * p + j)) → (∀ j, k ≤ j → M 63 j = M0 63 j) → V kX4_undo (fun v M' => v = some (.int (nI p)) ∧ (∀ i, i ≠ 63 → M' i = M0 i) ∧ M' 63 = fun j => if j < 36 then M0 65 (36 * p + j) else M0 63 j) M 22 [(0, .ref 60), (1, .int (nI k))] [] := by
  induction d with
  | zero =>
    intro k M hk hz h1 h2
    refine v_iload_n dX4_undo_22 rfl ?_
    refine v_bipush (v := (nI 36)) dX4_undo_23 rfl ?_
    refine v_icmpN_ge (tgt := 54) dX4_undo_25 (by decide) (by omega) (by omega) (fun c25 => ?_) (fun c25 => (by omega))
    refine v_aload_n dX4_undo_54 rfl ?_
    refine v_getI2 (y := (nI p)) dX4_undo_55 fl_X4_48 ⟨by decide, rfl, by decide⟩ rfl ((congrFun (hz 60 (by decide)) 5).trans h5) ?_
    refine v_iret dX4_undo_58 rfl ?_
    refine ⟨rfl, hz, ?_⟩
    funext j
    by_cases h9 : j < 36
    · rw [if_pos h9]; exact h1 j (by omega)
    · rw [if_neg h9]; exact h2 j (by omega)
  | succ d ih =>
    intro k M hk hz h1 h2
    refine v_iload_n dX4_undo_22 rfl ?_
    refine v_bipush (v := (nI 36)) dX4_undo_23 rfl ?_
    refine v_icmpN_ge (tgt := 54) dX4_undo_25 (by decide) (by omega) (by omega) (fun c25 => (by omega)) (fun c25 => ?_)
    refine v_aload_n dX4_undo_28 rfl ?_
    refine v_getR (t := 63) dX4_undo_29 fl_X4_16 ⟨by decide, rfl, by decide⟩ rfl rfl ?_
    refine v_iload_n dX4_undo_32 rfl ?_
    refine v_aload_n dX4_undo_33 rfl ?_
    refine v_getR (t := 65) dX4_undo_34 fl_X4_22 ⟨by decide, rfl, by decide⟩ rfl rfl ?_
    refine v_bipush (v := (nI 36)) dX4_undo_37 rfl ?_
    refine v_aload_n dX4_undo_39 rfl ?_
    refine v_getI2 (y := (nI p)) dX4_undo_40 fl_X4_48 ⟨by decide, rfl, by decide⟩ rfl ((congrFun (hz 60 (by decide)) 5).trans h5) ?_
    refine v_imulN dX4_undo_43 ?_
    refine v_iload_n dX4_undo_44 rfl ?_
    refine v_iaddN dX4_undo_45 ?_
    refine v_iald2 (n := 216) (a := 36 * p + k) (y := (M0 65 (36 * p + k))) dX4_undo_46 ⟨by decide, rfl, rfl⟩ (rfl) (by omega) (congrFun (hz 65 (by decide)) _) ?_
    refine v_iast (n := 36) (a := k) dX4_undo_47 ⟨by decide, rfl, rfl⟩ (rfl) (by omega) ?_
    refine v_iincN (lv' := [(0, .ref 60), (1, .int (nI (k + 1)))]) dX4_undo_48 rfl (Nat.le_of_ble_eq_true rfl) rfl ?_
    refine v_goto (tgt := 22) dX4_undo_51 (by decide) ?_
    refine ih (k + 1) _ (by omega) (fun i h9 => (mup_ne h9).trans (hz i h9)) (fun j h9 => ?_) (fun j h9 => ?_)
    · rw [mup_eq]; simp only [upd]
      by_cases h8 : j = k
      · rw [if_pos h8, h8]
      · rw [if_neg h8]; exact h1 j (by omega)
    · rw [mup_eq]; simp only [upd]; rw [if_neg (by omega)]; exact h2 j (by omega)
set_option maxRecDepth 100000 in
theorem c_undo0 (hr : REF M T R [] Im tx t) : V kX4_undo (rA M (-2) T R [] Im tx t) M 0 [(0, .ref 60)] [] := by
  refine v_aload_n dX4_undo_0 rfl ?_
  refine v_getI2 (y := (nI 0)) dX4_undo_1 fl_X4_48 ⟨by decide, rfl, by decide⟩ rfl (hr.2.2.1.1) ?_
  refine v_ifN_ne (tgt := 10) dX4_undo_4 (by decide) (by omega) (fun c4 => (absurd rfl c4)) (fun c4 => ?_)
  refine v_bipush (v := (-2)) dX4_undo_7 (by decide) ?_
  refine v_iret dX4_undo_9 rfl ?_
  exact ⟨rfl, hr, kp_rf M⟩
end R24
end
section
theorem zz_test : 1 = 1 := rfl
end
