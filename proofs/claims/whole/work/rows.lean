section
-- ===== PART A: goes FIRST, ahead of the names: the tables' words, and 'selects' of the private methods out of them =====
/-- a private method of a class that the tables say can be made, by its rows of tables_1 -/
def lw_okq (q : MethodName × Nat) : Prop := (q.1.cls ≠ "java/lang/invoke/MethodHandle" ∧ q.1.cls ≠ "java/lang/invoke/VarHandle") ∧ Cond.instantiable q.1.cls q.2 ∈ tables_1 ∧ Cond.privateMethod q.1 ∈ tables_1 ∧ Cond.instanceMethod q.1 ∈ tables_1
theorem lw_p0 : lw_okq (⟨"PulpitRoads", "found", "(I)I"⟩, 10) := ⟨⟨by decide +kernel, by decide +kernel⟩, List.mem_of_getElem? (i := 12) (by decide +kernel), List.mem_of_getElem? (i := 209) (by decide +kernel), List.mem_of_getElem? (i := 210) (by decide +kernel)⟩
theorem lw_p1 : lw_okq (⟨"PulpitRoads$Row", "begin", "(II)V"⟩, 4) := ⟨⟨by decide +kernel, by decide +kernel⟩, List.mem_of_getElem? (i := 147) (by decide +kernel), List.mem_of_getElem? (i := 214) (by decide +kernel), List.mem_of_getElem? (i := 215) (by decide +kernel)⟩
theorem lw_p2 : lw_okq (⟨"PulpitRoads", "foundNothing", "(I)I"⟩, 10) := ⟨⟨by decide +kernel, by decide +kernel⟩, List.mem_of_getElem? (i := 12) (by decide +kernel), List.mem_of_getElem? (i := 218) (by decide +kernel), List.mem_of_getElem? (i := 219) (by decide +kernel)⟩
theorem lw_p3 : lw_okq (⟨"PulpitRoads$Row", "hasPlaces", "(II)Z"⟩, 4) := ⟨⟨by decide +kernel, by decide +kernel⟩, List.mem_of_getElem? (i := 147) (by decide +kernel), List.mem_of_getElem? (i := 226) (by decide +kernel), List.mem_of_getElem? (i := 227) (by decide +kernel)⟩
theorem lw_p4 : lw_okq (⟨"PulpitRoads$Row", "cut", "(I)I"⟩, 4) := ⟨⟨by decide +kernel, by decide +kernel⟩, List.mem_of_getElem? (i := 147) (by decide +kernel), List.mem_of_getElem? (i := 230) (by decide +kernel), List.mem_of_getElem? (i := 231) (by decide +kernel)⟩
theorem lw_p5 : lw_okq (⟨"PulpitRoads$Tape", "add", "(I)V"⟩, 4) := ⟨⟨by decide +kernel, by decide +kernel⟩, List.mem_of_getElem? (i := 22) (by decide +kernel), List.mem_of_getElem? (i := 250) (by decide +kernel), List.mem_of_getElem? (i := 251) (by decide +kernel)⟩
theorem lw_p6 : lw_okq (⟨"PulpitRoads$Tape", "readInto", "(LPulpitRoads$Road;)Z"⟩, 4) := ⟨⟨by decide +kernel, by decide +kernel⟩, List.mem_of_getElem? (i := 22) (by decide +kernel), List.mem_of_getElem? (i := 258) (by decide +kernel), List.mem_of_getElem? (i := 259) (by decide +kernel)⟩
theorem lw_p7 : lw_okq (⟨"PulpitRoads$Road", "begin", "()V"⟩, 12) := ⟨⟨by decide +kernel, by decide +kernel⟩, List.mem_of_getElem? (i := 45) (by decide +kernel), List.mem_of_getElem? (i := 262) (by decide +kernel), List.mem_of_getElem? (i := 263) (by decide +kernel)⟩
theorem lw_p8 : lw_okq (⟨"PulpitRoads$Tape", "readLaw", "(LPulpitRoads$Road;)Z"⟩, 4) := ⟨⟨by decide +kernel, by decide +kernel⟩, List.mem_of_getElem? (i := 22) (by decide +kernel), List.mem_of_getElem? (i := 266) (by decide +kernel), List.mem_of_getElem? (i := 267) (by decide +kernel)⟩
theorem lw_p9 : lw_okq (⟨"PulpitRoads$Tape", "takeSign", "(I)Z"⟩, 4) := ⟨⟨by decide +kernel, by decide +kernel⟩, List.mem_of_getElem? (i := 22) (by decide +kernel), List.mem_of_getElem? (i := 270) (by decide +kernel), List.mem_of_getElem? (i := 271) (by decide +kernel)⟩
theorem lw_p10 : lw_okq (⟨"PulpitRoads$Tape", "letterHere", "()I"⟩, 4) := ⟨⟨by decide +kernel, by decide +kernel⟩, List.mem_of_getElem? (i := 22) (by decide +kernel), List.mem_of_getElem? (i := 274) (by decide +kernel), List.mem_of_getElem? (i := 275) (by decide +kernel)⟩
theorem lw_p11 : lw_okq (⟨"PulpitRoads$Tape", "letterAt", "(I)I"⟩, 4) := ⟨⟨by decide +kernel, by decide +kernel⟩, List.mem_of_getElem? (i := 22) (by decide +kernel), List.mem_of_getElem? (i := 278) (by decide +kernel), List.mem_of_getElem? (i := 279) (by decide +kernel)⟩
theorem lw_p12 : lw_okq (⟨"PulpitRoads$Tape", "blame", "(I)Z"⟩, 4) := ⟨⟨by decide +kernel, by decide +kernel⟩, List.mem_of_getElem? (i := 22) (by decide +kernel), List.mem_of_getElem? (i := 282) (by decide +kernel), List.mem_of_getElem? (i := 283) (by decide +kernel)⟩
theorem lw_p13 : lw_okq (⟨"PulpitRoads$Tape", "takeNumber", "(II)I"⟩, 4) := ⟨⟨by decide +kernel, by decide +kernel⟩, List.mem_of_getElem? (i := 22) (by decide +kernel), List.mem_of_getElem? (i := 286) (by decide +kernel), List.mem_of_getElem? (i := 287) (by decide +kernel)⟩
theorem lw_p14 : lw_okq (⟨"PulpitRoads$Tape", "isFigure", "(I)Z"⟩, 4) := ⟨⟨by decide +kernel, by decide +kernel⟩, List.mem_of_getElem? (i := 22) (by decide +kernel), List.mem_of_getElem? (i := 290) (by decide +kernel), List.mem_of_getElem? (i := 291) (by decide +kernel)⟩
theorem lw_p15 : lw_okq (⟨"PulpitRoads$Tape", "readStretches", "(LPulpitRoads$Road;)Z"⟩, 4) := ⟨⟨by decide +kernel, by decide +kernel⟩, List.mem_of_getElem? (i := 22) (by decide +kernel), List.mem_of_getElem? (i := 294) (by decide +kernel), List.mem_of_getElem? (i := 295) (by decide +kernel)⟩
def lw_privs_1 : List (MethodName × Nat) := [(⟨"PulpitRoads", "found", "(I)I"⟩, 10), (⟨"PulpitRoads$Row", "begin", "(II)V"⟩, 4), (⟨"PulpitRoads", "foundNothing", "(I)I"⟩, 10), (⟨"PulpitRoads$Row", "hasPlaces", "(II)Z"⟩, 4), (⟨"PulpitRoads$Row", "cut", "(I)I"⟩, 4), (⟨"PulpitRoads$Tape", "add", "(I)V"⟩, 4), (⟨"PulpitRoads$Tape", "readInto", "(LPulpitRoads$Road;)Z"⟩, 4), (⟨"PulpitRoads$Road", "begin", "()V"⟩, 12), (⟨"PulpitRoads$Tape", "readLaw", "(LPulpitRoads$Road;)Z"⟩, 4), (⟨"PulpitRoads$Tape", "takeSign", "(I)Z"⟩, 4), (⟨"PulpitRoads$Tape", "letterHere", "()I"⟩, 4), (⟨"PulpitRoads$Tape", "letterAt", "(I)I"⟩, 4), (⟨"PulpitRoads$Tape", "blame", "(I)Z"⟩, 4), (⟨"PulpitRoads$Tape", "takeNumber", "(II)I"⟩, 4), (⟨"PulpitRoads$Tape", "isFigure", "(I)Z"⟩, 4), (⟨"PulpitRoads$Tape", "readStretches", "(LPulpitRoads$Road;)Z"⟩, 4)]
theorem lw_r1 : ∀ q ∈ lw_privs_1, lw_okq q := List.forall_mem_cons.mpr ⟨lw_p0, List.forall_mem_cons.mpr ⟨lw_p1, List.forall_mem_cons.mpr ⟨lw_p2, List.forall_mem_cons.mpr ⟨lw_p3, List.forall_mem_cons.mpr ⟨lw_p4, List.forall_mem_cons.mpr ⟨lw_p5, List.forall_mem_cons.mpr ⟨lw_p6, List.forall_mem_cons.mpr ⟨lw_p7, List.forall_mem_cons.mpr ⟨lw_p8, List.forall_mem_cons.mpr ⟨lw_p9, List.forall_mem_cons.mpr ⟨lw_p10, List.forall_mem_cons.mpr ⟨lw_p11, List.forall_mem_cons.mpr ⟨lw_p12, List.forall_mem_cons.mpr ⟨lw_p13, List.forall_mem_cons.mpr ⟨lw_p14, List.forall_mem_cons.mpr ⟨lw_p15, fun _ h => absurd h List.not_mem_nil⟩⟩⟩⟩⟩⟩⟩⟩⟩⟩⟩⟩⟩⟩⟩⟩
theorem lw_p16 : lw_okq (⟨"PulpitRoads$Tape", "readPulpits", "(LPulpitRoads$Road;)Z"⟩, 4) := ⟨⟨by decide +kernel, by decide +kernel⟩, List.mem_of_getElem? (i := 22) (by decide +kernel), List.mem_of_getElem? (i := 298) (by decide +kernel), List.mem_of_getElem? (i := 299) (by decide +kernel)⟩
theorem lw_p17 : lw_okq (⟨"PulpitRoads$Tape", "kindHere", "()I"⟩, 4) := ⟨⟨by decide +kernel, by decide +kernel⟩, List.mem_of_getElem? (i := 22) (by decide +kernel), List.mem_of_getElem? (i := 302) (by decide +kernel), List.mem_of_getElem? (i := 303) (by decide +kernel)⟩
theorem lw_p18 : lw_okq (⟨"PulpitRoads$Tape", "readPulpit", "(LPulpitRoads$Road;I)Z"⟩, 4) := ⟨⟨by decide +kernel, by decide +kernel⟩, List.mem_of_getElem? (i := 22) (by decide +kernel), List.mem_of_getElem? (i := 306) (by decide +kernel), List.mem_of_getElem? (i := 307) (by decide +kernel)⟩
theorem lw_p19 : lw_okq (⟨"PulpitRoads$Road", "take", "(LPulpitRoads$Road;)V"⟩, 12) := ⟨⟨by decide +kernel, by decide +kernel⟩, List.mem_of_getElem? (i := 45) (by decide +kernel), List.mem_of_getElem? (i := 311) (by decide +kernel), List.mem_of_getElem? (i := 312) (by decide +kernel)⟩
theorem lw_p20 : lw_okq (⟨"PulpitRoads$Acts", "keep", "(LPulpitRoads$Road;)V"⟩, 3) := ⟨⟨by decide +kernel, by decide +kernel⟩, List.mem_of_getElem? (i := 116) (by decide +kernel), List.mem_of_getElem? (i := 324) (by decide +kernel), List.mem_of_getElem? (i := 325) (by decide +kernel)⟩
theorem lw_p21 : lw_okq (⟨"PulpitRoads$Road", "goHour", "()V"⟩, 12) := ⟨⟨by decide +kernel, by decide +kernel⟩, List.mem_of_getElem? (i := 45) (by decide +kernel), List.mem_of_getElem? (i := 331) (by decide +kernel), List.mem_of_getElem? (i := 332) (by decide +kernel)⟩
theorem lw_p22 : lw_okq (⟨"PulpitRoads$Road", "councils", "()I"⟩, 12) := ⟨⟨by decide +kernel, by decide +kernel⟩, List.mem_of_getElem? (i := 45) (by decide +kernel), List.mem_of_getElem? (i := 335) (by decide +kernel), List.mem_of_getElem? (i := 336) (by decide +kernel)⟩
theorem lw_p23 : lw_okq (⟨"PulpitRoads$Road", "pass", "(I)V"⟩, 12) := ⟨⟨by decide +kernel, by decide +kernel⟩, List.mem_of_getElem? (i := 45) (by decide +kernel), List.mem_of_getElem? (i := 339) (by decide +kernel), List.mem_of_getElem? (i := 340) (by decide +kernel)⟩
theorem lw_p24 : lw_okq (⟨"PulpitRoads$Road", "sayings", "(I)I"⟩, 12) := ⟨⟨by decide +kernel, by decide +kernel⟩, List.mem_of_getElem? (i := 45) (by decide +kernel), List.mem_of_getElem? (i := 343) (by decide +kernel), List.mem_of_getElem? (i := 344) (by decide +kernel)⟩
theorem lw_p25 : lw_okq (⟨"PulpitRoads$Road", "wordAfter", "(II)I"⟩, 12) := ⟨⟨by decide +kernel, by decide +kernel⟩, List.mem_of_getElem? (i := 45) (by decide +kernel), List.mem_of_getElem? (i := 349) (by decide +kernel), List.mem_of_getElem? (i := 350) (by decide +kernel)⟩
theorem lw_p26 : lw_okq (⟨"PulpitRoads$Road", "wordBehind", "(I)I"⟩, 12) := ⟨⟨by decide +kernel, by decide +kernel⟩, List.mem_of_getElem? (i := 45) (by decide +kernel), List.mem_of_getElem? (i := 353) (by decide +kernel), List.mem_of_getElem? (i := 354) (by decide +kernel)⟩
theorem lw_p27 : lw_okq (⟨"PulpitRoads$Road", "stretchBehind", "(II)I"⟩, 12) := ⟨⟨by decide +kernel, by decide +kernel⟩, List.mem_of_getElem? (i := 45) (by decide +kernel), List.mem_of_getElem? (i := 357) (by decide +kernel), List.mem_of_getElem? (i := 358) (by decide +kernel)⟩
theorem lw_p28 : lw_okq (⟨"PulpitRoads$Road", "beforeOf", "(I)I"⟩, 12) := ⟨⟨by decide +kernel, by decide +kernel⟩, List.mem_of_getElem? (i := 45) (by decide +kernel), List.mem_of_getElem? (i := 361) (by decide +kernel), List.mem_of_getElem? (i := 362) (by decide +kernel)⟩
theorem lw_p29 : lw_okq (⟨"PulpitRoads$Road", "nextOf", "(I)I"⟩, 12) := ⟨⟨by decide +kernel, by decide +kernel⟩, List.mem_of_getElem? (i := 45) (by decide +kernel), List.mem_of_getElem? (i := 365) (by decide +kernel), List.mem_of_getElem? (i := 366) (by decide +kernel)⟩
theorem lw_p30 : lw_okq (⟨"PulpitRoads$Road", "wholeGates", "()I"⟩, 12) := ⟨⟨by decide +kernel, by decide +kernel⟩, List.mem_of_getElem? (i := 45) (by decide +kernel), List.mem_of_getElem? (i := 369) (by decide +kernel), List.mem_of_getElem? (i := 370) (by decide +kernel)⟩
theorem lw_p31 : lw_okq (⟨"PulpitRoads$Road", "allWords", "()I"⟩, 12) := ⟨⟨by decide +kernel, by decide +kernel⟩, List.mem_of_getElem? (i := 45) (by decide +kernel), List.mem_of_getElem? (i := 373) (by decide +kernel), List.mem_of_getElem? (i := 374) (by decide +kernel)⟩
def lw_privs_2 : List (MethodName × Nat) := [(⟨"PulpitRoads$Tape", "readPulpits", "(LPulpitRoads$Road;)Z"⟩, 4), (⟨"PulpitRoads$Tape", "kindHere", "()I"⟩, 4), (⟨"PulpitRoads$Tape", "readPulpit", "(LPulpitRoads$Road;I)Z"⟩, 4), (⟨"PulpitRoads$Road", "take", "(LPulpitRoads$Road;)V"⟩, 12), (⟨"PulpitRoads$Acts", "keep", "(LPulpitRoads$Road;)V"⟩, 3), (⟨"PulpitRoads$Road", "goHour", "()V"⟩, 12), (⟨"PulpitRoads$Road", "councils", "()I"⟩, 12), (⟨"PulpitRoads$Road", "pass", "(I)V"⟩, 12), (⟨"PulpitRoads$Road", "sayings", "(I)I"⟩, 12), (⟨"PulpitRoads$Road", "wordAfter", "(II)I"⟩, 12), (⟨"PulpitRoads$Road", "wordBehind", "(I)I"⟩, 12), (⟨"PulpitRoads$Road", "stretchBehind", "(II)I"⟩, 12), (⟨"PulpitRoads$Road", "beforeOf", "(I)I"⟩, 12), (⟨"PulpitRoads$Road", "nextOf", "(I)I"⟩, 12), (⟨"PulpitRoads$Road", "wholeGates", "()I"⟩, 12), (⟨"PulpitRoads$Road", "allWords", "()I"⟩, 12)]
theorem lw_r2 : ∀ q ∈ lw_privs_2, lw_okq q := List.forall_mem_cons.mpr ⟨lw_p16, List.forall_mem_cons.mpr ⟨lw_p17, List.forall_mem_cons.mpr ⟨lw_p18, List.forall_mem_cons.mpr ⟨lw_p19, List.forall_mem_cons.mpr ⟨lw_p20, List.forall_mem_cons.mpr ⟨lw_p21, List.forall_mem_cons.mpr ⟨lw_p22, List.forall_mem_cons.mpr ⟨lw_p23, List.forall_mem_cons.mpr ⟨lw_p24, List.forall_mem_cons.mpr ⟨lw_p25, List.forall_mem_cons.mpr ⟨lw_p26, List.forall_mem_cons.mpr ⟨lw_p27, List.forall_mem_cons.mpr ⟨lw_p28, List.forall_mem_cons.mpr ⟨lw_p29, List.forall_mem_cons.mpr ⟨lw_p30, List.forall_mem_cons.mpr ⟨lw_p31, fun _ h => absurd h List.not_mem_nil⟩⟩⟩⟩⟩⟩⟩⟩⟩⟩⟩⟩⟩⟩⟩⟩
theorem lw_p32 : lw_okq (⟨"PulpitRoads", "isPulpit", "(I)Z"⟩, 10) := ⟨⟨by decide +kernel, by decide +kernel⟩, List.mem_of_getElem? (i := 12) (by decide +kernel), List.mem_of_getElem? (i := 381) (by decide +kernel), List.mem_of_getElem? (i := 382) (by decide +kernel)⟩
theorem lw_p33 : lw_okq (⟨"PulpitRoads", "isStretch", "(I)Z"⟩, 10) := ⟨⟨by decide +kernel, by decide +kernel⟩, List.mem_of_getElem? (i := 12) (by decide +kernel), List.mem_of_getElem? (i := 385) (by decide +kernel), List.mem_of_getElem? (i := 386) (by decide +kernel)⟩
theorem lw_p34 : lw_okq (⟨"PulpitRoads", "isWord", "(I)Z"⟩, 10) := ⟨⟨by decide +kernel, by decide +kernel⟩, List.mem_of_getElem? (i := 12) (by decide +kernel), List.mem_of_getElem? (i := 393) (by decide +kernel), List.mem_of_getElem? (i := 394) (by decide +kernel)⟩
theorem lw_p35 : lw_okq (⟨"PulpitRoads$Acts", "giveBack", "(LPulpitRoads$Road;)V"⟩, 3) := ⟨⟨by decide +kernel, by decide +kernel⟩, List.mem_of_getElem? (i := 116) (by decide +kernel), List.mem_of_getElem? (i := 411) (by decide +kernel), List.mem_of_getElem? (i := 412) (by decide +kernel)⟩
theorem lw_p36 : lw_okq (⟨"PulpitRoads$Road", "pulpitsOn", "(I)I"⟩, 12) := ⟨⟨by decide +kernel, by decide +kernel⟩, List.mem_of_getElem? (i := 45) (by decide +kernel), List.mem_of_getElem? (i := 425) (by decide +kernel), List.mem_of_getElem? (i := 426) (by decide +kernel)⟩
theorem lw_p37 : lw_okq (⟨"PulpitRoads", "foretell", "(I)V"⟩, 10) := ⟨⟨by decide +kernel, by decide +kernel⟩, List.mem_of_getElem? (i := 12) (by decide +kernel), List.mem_of_getElem? (i := 436) (by decide +kernel), List.mem_of_getElem? (i := 437) (by decide +kernel)⟩
theorem lw_p38 : lw_okq (⟨"PulpitRoads$Road", "goHours", "(I)V"⟩, 12) := ⟨⟨by decide +kernel, by decide +kernel⟩, List.mem_of_getElem? (i := 45) (by decide +kernel), List.mem_of_getElem? (i := 440) (by decide +kernel), List.mem_of_getElem? (i := 441) (by decide +kernel)⟩
theorem lw_p39 : lw_okq (⟨"PulpitRoads", "hoursToWhole", "(I)I"⟩, 10) := ⟨⟨by decide +kernel, by decide +kernel⟩, List.mem_of_getElem? (i := 12) (by decide +kernel), List.mem_of_getElem? (i := 453) (by decide +kernel), List.mem_of_getElem? (i := 454) (by decide +kernel)⟩
theorem lw_p40 : lw_okq (⟨"PulpitRoads$Road", "heardAtAny", "(I)I"⟩, 12) := ⟨⟨by decide +kernel, by decide +kernel⟩, List.mem_of_getElem? (i := 45) (by decide +kernel), List.mem_of_getElem? (i := 470) (by decide +kernel), List.mem_of_getElem? (i := 471) (by decide +kernel)⟩
theorem lw_p41 : lw_okq (⟨"PulpitRoads$Road", "hasPulpitsAs", "(LPulpitRoads$Road;)Z"⟩, 12) := ⟨⟨by decide +kernel, by decide +kernel⟩, List.mem_of_getElem? (i := 45) (by decide +kernel), List.mem_of_getElem? (i := 482) (by decide +kernel), List.mem_of_getElem? (i := 483) (by decide +kernel)⟩
theorem lw_p42 : lw_okq (⟨"PulpitRoads", "foretellSayings", "(I)V"⟩, 10) := ⟨⟨by decide +kernel, by decide +kernel⟩, List.mem_of_getElem? (i := 12) (by decide +kernel), List.mem_of_getElem? (i := 498) (by decide +kernel), List.mem_of_getElem? (i := 499) (by decide +kernel)⟩
theorem lw_p43 : lw_okq (⟨"PulpitRoads", "heardOnWay", "(III)I"⟩, 10) := ⟨⟨by decide +kernel, by decide +kernel⟩, List.mem_of_getElem? (i := 12) (by decide +kernel), List.mem_of_getElem? (i := 502) (by decide +kernel), List.mem_of_getElem? (i := 503) (by decide +kernel)⟩
theorem lw_p44 : lw_okq (⟨"PulpitRoads", "guessEnd", "(I)I"⟩, 10) := ⟨⟨by decide +kernel, by decide +kernel⟩, List.mem_of_getElem? (i := 12) (by decide +kernel), List.mem_of_getElem? (i := 511) (by decide +kernel), List.mem_of_getElem? (i := 512) (by decide +kernel)⟩
theorem lw_p45 : lw_okq (⟨"PulpitRoads", "suppose", "(III)V"⟩, 10) := ⟨⟨by decide +kernel, by decide +kernel⟩, List.mem_of_getElem? (i := 12) (by decide +kernel), List.mem_of_getElem? (i := 515) (by decide +kernel), List.mem_of_getElem? (i := 516) (by decide +kernel)⟩
theorem lw_p46 : lw_okq (⟨"PulpitRoads", "goesAsTold", "(ILPulpitRoads$Row;II)Z"⟩, 10) := ⟨⟨by decide +kernel, by decide +kernel⟩, List.mem_of_getElem? (i := 12) (by decide +kernel), List.mem_of_getElem? (i := 519) (by decide +kernel), List.mem_of_getElem? (i := 520) (by decide +kernel)⟩
theorem lw_p47 : lw_okq (⟨"PulpitRoads", "tenthsOfHearing", "(III)I"⟩, 10) := ⟨⟨by decide +kernel, by decide +kernel⟩, List.mem_of_getElem? (i := 12) (by decide +kernel), List.mem_of_getElem? (i := 527) (by decide +kernel), List.mem_of_getElem? (i := 528) (by decide +kernel)⟩
def lw_privs_3 : List (MethodName × Nat) := [(⟨"PulpitRoads", "isPulpit", "(I)Z"⟩, 10), (⟨"PulpitRoads", "isStretch", "(I)Z"⟩, 10), (⟨"PulpitRoads", "isWord", "(I)Z"⟩, 10), (⟨"PulpitRoads$Acts", "giveBack", "(LPulpitRoads$Road;)V"⟩, 3), (⟨"PulpitRoads$Road", "pulpitsOn", "(I)I"⟩, 12), (⟨"PulpitRoads", "foretell", "(I)V"⟩, 10), (⟨"PulpitRoads$Road", "goHours", "(I)V"⟩, 12), (⟨"PulpitRoads", "hoursToWhole", "(I)I"⟩, 10), (⟨"PulpitRoads$Road", "heardAtAny", "(I)I"⟩, 12), (⟨"PulpitRoads$Road", "hasPulpitsAs", "(LPulpitRoads$Road;)Z"⟩, 12), (⟨"PulpitRoads", "foretellSayings", "(I)V"⟩, 10), (⟨"PulpitRoads", "heardOnWay", "(III)I"⟩, 10), (⟨"PulpitRoads", "guessEnd", "(I)I"⟩, 10), (⟨"PulpitRoads", "suppose", "(III)V"⟩, 10), (⟨"PulpitRoads", "goesAsTold", "(ILPulpitRoads$Row;II)Z"⟩, 10), (⟨"PulpitRoads", "tenthsOfHearing", "(III)I"⟩, 10)]
theorem lw_r3 : ∀ q ∈ lw_privs_3, lw_okq q := List.forall_mem_cons.mpr ⟨lw_p32, List.forall_mem_cons.mpr ⟨lw_p33, List.forall_mem_cons.mpr ⟨lw_p34, List.forall_mem_cons.mpr ⟨lw_p35, List.forall_mem_cons.mpr ⟨lw_p36, List.forall_mem_cons.mpr ⟨lw_p37, List.forall_mem_cons.mpr ⟨lw_p38, List.forall_mem_cons.mpr ⟨lw_p39, List.forall_mem_cons.mpr ⟨lw_p40, List.forall_mem_cons.mpr ⟨lw_p41, List.forall_mem_cons.mpr ⟨lw_p42, List.forall_mem_cons.mpr ⟨lw_p43, List.forall_mem_cons.mpr ⟨lw_p44, List.forall_mem_cons.mpr ⟨lw_p45, List.forall_mem_cons.mpr ⟨lw_p46, List.forall_mem_cons.mpr ⟨lw_p47, fun _ h => absurd h List.not_mem_nil⟩⟩⟩⟩⟩⟩⟩⟩⟩⟩⟩⟩⟩⟩⟩⟩
theorem lw_p48 : lw_okq (⟨"PulpitRoads", "putByDraw", "(J)V"⟩, 10) := ⟨⟨by decide +kernel, by decide +kernel⟩, List.mem_of_getElem? (i := 12) (by decide +kernel), List.mem_of_getElem? (i := 541) (by decide +kernel), List.mem_of_getElem? (i := 542) (by decide +kernel)⟩
theorem lw_p49 : lw_okq (⟨"PulpitRoads$Road", "wordsHeard", "()I"⟩, 12) := ⟨⟨by decide +kernel, by decide +kernel⟩, List.mem_of_getElem? (i := 45) (by decide +kernel), List.mem_of_getElem? (i := 546) (by decide +kernel), List.mem_of_getElem? (i := 547) (by decide +kernel)⟩
theorem lw_p50 : lw_okq (⟨"PulpitRoads$Bodies", "begin", "(LPulpitRoads$Road;III)I"⟩, 2) := ⟨⟨by decide +kernel, by decide +kernel⟩, List.mem_of_getElem? (i := 133) (by decide +kernel), List.mem_of_getElem? (i := 576) (by decide +kernel), List.mem_of_getElem? (i := 577) (by decide +kernel)⟩
theorem lw_p51 : lw_okq (⟨"PulpitRoads$Bodies", "give", "(ILPulpitRoads$Road;II)I"⟩, 2) := ⟨⟨by decide +kernel, by decide +kernel⟩, List.mem_of_getElem? (i := 133) (by decide +kernel), List.mem_of_getElem? (i := 588) (by decide +kernel), List.mem_of_getElem? (i := 589) (by decide +kernel)⟩
theorem lw_p52 : lw_okq (⟨"PulpitRoads$Bodies", "leave", "(I)V"⟩, 2) := ⟨⟨by decide +kernel, by decide +kernel⟩, List.mem_of_getElem? (i := 133) (by decide +kernel), List.mem_of_getElem? (i := 592) (by decide +kernel), List.mem_of_getElem? (i := 593) (by decide +kernel)⟩
theorem lw_p53 : lw_okq (⟨"PulpitRoads", "rowsThere", "()I"⟩, 10) := ⟨⟨by decide +kernel, by decide +kernel⟩, List.mem_of_getElem? (i := 12) (by decide +kernel), List.mem_of_getElem? (i := 605) (by decide +kernel), List.mem_of_getElem? (i := 606) (by decide +kernel)⟩
theorem lw_p54 : lw_okq (⟨"PulpitRoadsModel", "finds", "(I)I"⟩, 16) := ⟨⟨by decide +kernel, by decide +kernel⟩, List.mem_of_getElem? (i := 613) (by decide +kernel), List.mem_of_getElem? (i := 681) (by decide +kernel), List.mem_of_getElem? (i := 682) (by decide +kernel)⟩
theorem lw_p55 : lw_okq (⟨"PulpitRoadsModel", "against", "(III)I"⟩, 16) := ⟨⟨by decide +kernel, by decide +kernel⟩, List.mem_of_getElem? (i := 613) (by decide +kernel), List.mem_of_getElem? (i := 690) (by decide +kernel), List.mem_of_getElem? (i := 691) (by decide +kernel)⟩
theorem lw_p56 : lw_okq (⟨"PulpitRoadsModel", "takesAll", "()Z"⟩, 16) := ⟨⟨by decide +kernel, by decide +kernel⟩, List.mem_of_getElem? (i := 613) (by decide +kernel), List.mem_of_getElem? (i := 712) (by decide +kernel), List.mem_of_getElem? (i := 713) (by decide +kernel)⟩
theorem lw_p57 : lw_okq (⟨"PulpitRoadsModel", "takesLaw", "()Z"⟩, 16) := ⟨⟨by decide +kernel, by decide +kernel⟩, List.mem_of_getElem? (i := 613) (by decide +kernel), List.mem_of_getElem? (i := 716) (by decide +kernel), List.mem_of_getElem? (i := 717) (by decide +kernel)⟩
theorem lw_p58 : lw_okq (⟨"PulpitRoadsModel", "takes", "(I)Z"⟩, 16) := ⟨⟨by decide +kernel, by decide +kernel⟩, List.mem_of_getElem? (i := 613) (by decide +kernel), List.mem_of_getElem? (i := 720) (by decide +kernel), List.mem_of_getElem? (i := 721) (by decide +kernel)⟩
theorem lw_p59 : lw_okq (⟨"PulpitRoadsModel", "here", "()I"⟩, 16) := ⟨⟨by decide +kernel, by decide +kernel⟩, List.mem_of_getElem? (i := 613) (by decide +kernel), List.mem_of_getElem? (i := 724) (by decide +kernel), List.mem_of_getElem? (i := 725) (by decide +kernel)⟩
theorem lw_p60 : lw_okq (⟨"PulpitRoadsModel", "fails", "(II)Z"⟩, 16) := ⟨⟨by decide +kernel, by decide +kernel⟩, List.mem_of_getElem? (i := 613) (by decide +kernel), List.mem_of_getElem? (i := 728) (by decide +kernel), List.mem_of_getElem? (i := 729) (by decide +kernel)⟩
theorem lw_p61 : lw_okq (⟨"PulpitRoadsModel", "takesNumber", "(II)Z"⟩, 16) := ⟨⟨by decide +kernel, by decide +kernel⟩, List.mem_of_getElem? (i := 613) (by decide +kernel), List.mem_of_getElem? (i := 732) (by decide +kernel), List.mem_of_getElem? (i := 733) (by decide +kernel)⟩
theorem lw_p62 : lw_okq (⟨"PulpitRoadsModel", "takesStretch", "()Z"⟩, 16) := ⟨⟨by decide +kernel, by decide +kernel⟩, List.mem_of_getElem? (i := 613) (by decide +kernel), List.mem_of_getElem? (i := 738) (by decide +kernel), List.mem_of_getElem? (i := 739) (by decide +kernel)⟩
theorem lw_p63 : lw_okq (⟨"PulpitRoadsModel", "takesPulpit", "()Z"⟩, 16) := ⟨⟨by decide +kernel, by decide +kernel⟩, List.mem_of_getElem? (i := 613) (by decide +kernel), List.mem_of_getElem? (i := 742) (by decide +kernel), List.mem_of_getElem? (i := 743) (by decide +kernel)⟩
def lw_privs_4 : List (MethodName × Nat) := [(⟨"PulpitRoads", "putByDraw", "(J)V"⟩, 10), (⟨"PulpitRoads$Road", "wordsHeard", "()I"⟩, 12), (⟨"PulpitRoads$Bodies", "begin", "(LPulpitRoads$Road;III)I"⟩, 2), (⟨"PulpitRoads$Bodies", "give", "(ILPulpitRoads$Road;II)I"⟩, 2), (⟨"PulpitRoads$Bodies", "leave", "(I)V"⟩, 2), (⟨"PulpitRoads", "rowsThere", "()I"⟩, 10), (⟨"PulpitRoadsModel", "finds", "(I)I"⟩, 16), (⟨"PulpitRoadsModel", "against", "(III)I"⟩, 16), (⟨"PulpitRoadsModel", "takesAll", "()Z"⟩, 16), (⟨"PulpitRoadsModel", "takesLaw", "()Z"⟩, 16), (⟨"PulpitRoadsModel", "takes", "(I)Z"⟩, 16), (⟨"PulpitRoadsModel", "here", "()I"⟩, 16), (⟨"PulpitRoadsModel", "fails", "(II)Z"⟩, 16), (⟨"PulpitRoadsModel", "takesNumber", "(II)Z"⟩, 16), (⟨"PulpitRoadsModel", "takesStretch", "()Z"⟩, 16), (⟨"PulpitRoadsModel", "takesPulpit", "()Z"⟩, 16)]
theorem lw_r4 : ∀ q ∈ lw_privs_4, lw_okq q := List.forall_mem_cons.mpr ⟨lw_p48, List.forall_mem_cons.mpr ⟨lw_p49, List.forall_mem_cons.mpr ⟨lw_p50, List.forall_mem_cons.mpr ⟨lw_p51, List.forall_mem_cons.mpr ⟨lw_p52, List.forall_mem_cons.mpr ⟨lw_p53, List.forall_mem_cons.mpr ⟨lw_p54, List.forall_mem_cons.mpr ⟨lw_p55, List.forall_mem_cons.mpr ⟨lw_p56, List.forall_mem_cons.mpr ⟨lw_p57, List.forall_mem_cons.mpr ⟨lw_p58, List.forall_mem_cons.mpr ⟨lw_p59, List.forall_mem_cons.mpr ⟨lw_p60, List.forall_mem_cons.mpr ⟨lw_p61, List.forall_mem_cons.mpr ⟨lw_p62, List.forall_mem_cons.mpr ⟨lw_p63, fun _ h => absurd h List.not_mem_nil⟩⟩⟩⟩⟩⟩⟩⟩⟩⟩⟩⟩⟩⟩⟩⟩
theorem lw_p64 : lw_okq (⟨"PulpitRoadsModel", "copyOf", "(III)V"⟩, 16) := ⟨⟨by decide +kernel, by decide +kernel⟩, List.mem_of_getElem? (i := 613) (by decide +kernel), List.mem_of_getElem? (i := 750) (by decide +kernel), List.mem_of_getElem? (i := 751) (by decide +kernel)⟩
theorem lw_p65 : lw_okq (⟨"PulpitRoadsModel", "isRoad", "()Z"⟩, 16) := ⟨⟨by decide +kernel, by decide +kernel⟩, List.mem_of_getElem? (i := 613) (by decide +kernel), List.mem_of_getElem? (i := 762) (by decide +kernel), List.mem_of_getElem? (i := 763) (by decide +kernel)⟩
theorem lw_p66 : lw_okq (⟨"PulpitRoadsModel", "minds", "()V"⟩, 16) := ⟨⟨by decide +kernel, by decide +kernel⟩, List.mem_of_getElem? (i := 613) (by decide +kernel), List.mem_of_getElem? (i := 768) (by decide +kernel), List.mem_of_getElem? (i := 769) (by decide +kernel)⟩
theorem lw_p67 : lw_okq (⟨"PulpitRoadsModel", "hourBy", "(II)V"⟩, 16) := ⟨⟨by decide +kernel, by decide +kernel⟩, List.mem_of_getElem? (i := 613) (by decide +kernel), List.mem_of_getElem? (i := 772) (by decide +kernel), List.mem_of_getElem? (i := 773) (by decide +kernel)⟩
theorem lw_p68 : lw_okq (⟨"PulpitRoadsModel", "councilsIn", "(I)I"⟩, 16) := ⟨⟨by decide +kernel, by decide +kernel⟩, List.mem_of_getElem? (i := 613) (by decide +kernel), List.mem_of_getElem? (i := 776) (by decide +kernel), List.mem_of_getElem? (i := 777) (by decide +kernel)⟩
theorem lw_p69 : lw_okq (⟨"PulpitRoadsModel", "passes", "(II)V"⟩, 16) := ⟨⟨by decide +kernel, by decide +kernel⟩, List.mem_of_getElem? (i := 613) (by decide +kernel), List.mem_of_getElem? (i := 783) (by decide +kernel), List.mem_of_getElem? (i := 784) (by decide +kernel)⟩
theorem lw_p70 : lw_okq (⟨"PulpitRoadsModel", "saysIn", "(II)I"⟩, 16) := ⟨⟨by decide +kernel, by decide +kernel⟩, List.mem_of_getElem? (i := 613) (by decide +kernel), List.mem_of_getElem? (i := 787) (by decide +kernel), List.mem_of_getElem? (i := 788) (by decide +kernel)⟩
theorem lw_p71 : lw_okq (⟨"PulpitRoadsModel", "saysMany", "(II)I"⟩, 16) := ⟨⟨by decide +kernel, by decide +kernel⟩, List.mem_of_getElem? (i := 613) (by decide +kernel), List.mem_of_getElem? (i := 791) (by decide +kernel), List.mem_of_getElem? (i := 792) (by decide +kernel)⟩
theorem lw_p72 : lw_okq (⟨"PulpitRoadsModel", "wholeOnes", "(I)I"⟩, 16) := ⟨⟨by decide +kernel, by decide +kernel⟩, List.mem_of_getElem? (i := 613) (by decide +kernel), List.mem_of_getElem? (i := 795) (by decide +kernel), List.mem_of_getElem? (i := 796) (by decide +kernel)⟩
theorem lw_p73 : lw_okq (⟨"PulpitRoadsModel", "all", "(I)I"⟩, 16) := ⟨⟨by decide +kernel, by decide +kernel⟩, List.mem_of_getElem? (i := 613) (by decide +kernel), List.mem_of_getElem? (i := 799) (by decide +kernel), List.mem_of_getElem? (i := 800) (by decide +kernel)⟩
theorem lw_p74 : lw_okq (⟨"PulpitRoadsModel", "isPulpit", "(I)Z"⟩, 16) := ⟨⟨by decide +kernel, by decide +kernel⟩, List.mem_of_getElem? (i := 613) (by decide +kernel), List.mem_of_getElem? (i := 807) (by decide +kernel), List.mem_of_getElem? (i := 808) (by decide +kernel)⟩
theorem lw_p75 : lw_okq (⟨"PulpitRoadsModel", "isStretch", "(I)Z"⟩, 16) := ⟨⟨by decide +kernel, by decide +kernel⟩, List.mem_of_getElem? (i := 613) (by decide +kernel), List.mem_of_getElem? (i := 811) (by decide +kernel), List.mem_of_getElem? (i := 812) (by decide +kernel)⟩
theorem lw_p76 : lw_okq (⟨"PulpitRoadsModel", "pulpitsAt", "(I)I"⟩, 16) := ⟨⟨by decide +kernel, by decide +kernel⟩, List.mem_of_getElem? (i := 613) (by decide +kernel), List.mem_of_getElem? (i := 838) (by decide +kernel), List.mem_of_getElem? (i := 839) (by decide +kernel)⟩
theorem lw_p77 : lw_okq (⟨"PulpitRoadsModel", "tries", "()V"⟩, 16) := ⟨⟨by decide +kernel, by decide +kernel⟩, List.mem_of_getElem? (i := 613) (by decide +kernel), List.mem_of_getElem? (i := 847) (by decide +kernel), List.mem_of_getElem? (i := 848) (by decide +kernel)⟩
theorem lw_p78 : lw_okq (⟨"PulpitRoadsModel", "goesOn", "(I)V"⟩, 16) := ⟨⟨by decide +kernel, by decide +kernel⟩, List.mem_of_getElem? (i := 613) (by decide +kernel), List.mem_of_getElem? (i := 851) (by decide +kernel), List.mem_of_getElem? (i := 852) (by decide +kernel)⟩
theorem lw_p79 : lw_okq (⟨"PulpitRoadsModel", "leastOf", "(I)I"⟩, 16) := ⟨⟨by decide +kernel, by decide +kernel⟩, List.mem_of_getElem? (i := 613) (by decide +kernel), List.mem_of_getElem? (i := 868) (by decide +kernel), List.mem_of_getElem? (i := 869) (by decide +kernel)⟩
def lw_privs_5 : List (MethodName × Nat) := [(⟨"PulpitRoadsModel", "copyOf", "(III)V"⟩, 16), (⟨"PulpitRoadsModel", "isRoad", "()Z"⟩, 16), (⟨"PulpitRoadsModel", "minds", "()V"⟩, 16), (⟨"PulpitRoadsModel", "hourBy", "(II)V"⟩, 16), (⟨"PulpitRoadsModel", "councilsIn", "(I)I"⟩, 16), (⟨"PulpitRoadsModel", "passes", "(II)V"⟩, 16), (⟨"PulpitRoadsModel", "saysIn", "(II)I"⟩, 16), (⟨"PulpitRoadsModel", "saysMany", "(II)I"⟩, 16), (⟨"PulpitRoadsModel", "wholeOnes", "(I)I"⟩, 16), (⟨"PulpitRoadsModel", "all", "(I)I"⟩, 16), (⟨"PulpitRoadsModel", "isPulpit", "(I)Z"⟩, 16), (⟨"PulpitRoadsModel", "isStretch", "(I)Z"⟩, 16), (⟨"PulpitRoadsModel", "pulpitsAt", "(I)I"⟩, 16), (⟨"PulpitRoadsModel", "tries", "()V"⟩, 16), (⟨"PulpitRoadsModel", "goesOn", "(I)V"⟩, 16), (⟨"PulpitRoadsModel", "leastOf", "(I)I"⟩, 16)]
theorem lw_r5 : ∀ q ∈ lw_privs_5, lw_okq q := List.forall_mem_cons.mpr ⟨lw_p64, List.forall_mem_cons.mpr ⟨lw_p65, List.forall_mem_cons.mpr ⟨lw_p66, List.forall_mem_cons.mpr ⟨lw_p67, List.forall_mem_cons.mpr ⟨lw_p68, List.forall_mem_cons.mpr ⟨lw_p69, List.forall_mem_cons.mpr ⟨lw_p70, List.forall_mem_cons.mpr ⟨lw_p71, List.forall_mem_cons.mpr ⟨lw_p72, List.forall_mem_cons.mpr ⟨lw_p73, List.forall_mem_cons.mpr ⟨lw_p74, List.forall_mem_cons.mpr ⟨lw_p75, List.forall_mem_cons.mpr ⟨lw_p76, List.forall_mem_cons.mpr ⟨lw_p77, List.forall_mem_cons.mpr ⟨lw_p78, List.forall_mem_cons.mpr ⟨lw_p79, fun _ h => absurd h List.not_mem_nil⟩⟩⟩⟩⟩⟩⟩⟩⟩⟩⟩⟩⟩⟩⟩⟩
theorem lw_p80 : lw_okq (⟨"PulpitRoadsModel", "laysSaid", "(I)V"⟩, 16) := ⟨⟨by decide +kernel, by decide +kernel⟩, List.mem_of_getElem? (i := 613) (by decide +kernel), List.mem_of_getElem? (i := 898) (by decide +kernel), List.mem_of_getElem? (i := 899) (by decide +kernel)⟩
theorem lw_p81 : lw_okq (⟨"PulpitRoadsModel", "isSo", "(III)Z"⟩, 16) := ⟨⟨by decide +kernel, by decide +kernel⟩, List.mem_of_getElem? (i := 613) (by decide +kernel), List.mem_of_getElem? (i := 908) (by decide +kernel), List.mem_of_getElem? (i := 909) (by decide +kernel)⟩
theorem lw_p82 : lw_okq (⟨"PulpitRoadsModel", "heardWords", "(I)I"⟩, 16) := ⟨⟨by decide +kernel, by decide +kernel⟩, List.mem_of_getElem? (i := 613) (by decide +kernel), List.mem_of_getElem? (i := 924) (by decide +kernel), List.mem_of_getElem? (i := 925) (by decide +kernel)⟩
theorem lw_p83 : lw_okq (⟨"PulpitRoadsModel", "sizeOf", "(I)I"⟩, 16) := ⟨⟨by decide +kernel, by decide +kernel⟩, List.mem_of_getElem? (i := 613) (by decide +kernel), List.mem_of_getElem? (i := 952) (by decide +kernel), List.mem_of_getElem? (i := 953) (by decide +kernel)⟩
theorem lw_p84 : lw_okq (⟨"PulpitRoadsModel", "traces", "(I)V"⟩, 16) := ⟨⟨by decide +kernel, by decide +kernel⟩, List.mem_of_getElem? (i := 613) (by decide +kernel), List.mem_of_getElem? (i := 956) (by decide +kernel), List.mem_of_getElem? (i := 957) (by decide +kernel)⟩
theorem lw_p85 : lw_okq (⟨"PulpitRoadsModel", "size11", "(I)I"⟩, 16) := ⟨⟨by decide +kernel, by decide +kernel⟩, List.mem_of_getElem? (i := 613) (by decide +kernel), List.mem_of_getElem? (i := 960) (by decide +kernel), List.mem_of_getElem? (i := 961) (by decide +kernel)⟩
theorem lw_p86 : lw_okq (⟨"PulpitRoadsModel", "size10", "(I)I"⟩, 16) := ⟨⟨by decide +kernel, by decide +kernel⟩, List.mem_of_getElem? (i := 613) (by decide +kernel), List.mem_of_getElem? (i := 964) (by decide +kernel), List.mem_of_getElem? (i := 965) (by decide +kernel)⟩
theorem lw_p87 : lw_okq (⟨"PulpitRoadsModel", "markOf", "(I)I"⟩, 16) := ⟨⟨by decide +kernel, by decide +kernel⟩, List.mem_of_getElem? (i := 613) (by decide +kernel), List.mem_of_getElem? (i := 968) (by decide +kernel), List.mem_of_getElem? (i := 969) (by decide +kernel)⟩
theorem lw_p88 : lw_okq (⟨"PulpitRoadsModel", "mark21", "(I)I"⟩, 16) := ⟨⟨by decide +kernel, by decide +kernel⟩, List.mem_of_getElem? (i := 613) (by decide +kernel), List.mem_of_getElem? (i := 972) (by decide +kernel), List.mem_of_getElem? (i := 973) (by decide +kernel)⟩
theorem lw_p89 : lw_okq (⟨"PulpitRoadsModel", "mark20", "(I)I"⟩, 16) := ⟨⟨by decide +kernel, by decide +kernel⟩, List.mem_of_getElem? (i := 613) (by decide +kernel), List.mem_of_getElem? (i := 976) (by decide +kernel), List.mem_of_getElem? (i := 977) (by decide +kernel)⟩
theorem lw_p90 : lw_okq (⟨"PulpitRoadsModel", "size13", "(I)I"⟩, 16) := ⟨⟨by decide +kernel, by decide +kernel⟩, List.mem_of_getElem? (i := 613) (by decide +kernel), List.mem_of_getElem? (i := 980) (by decide +kernel), List.mem_of_getElem? (i := 981) (by decide +kernel)⟩
theorem lw_p91 : lw_okq (⟨"PulpitRoadsModel", "mark23", "(I)I"⟩, 16) := ⟨⟨by decide +kernel, by decide +kernel⟩, List.mem_of_getElem? (i := 613) (by decide +kernel), List.mem_of_getElem? (i := 984) (by decide +kernel), List.mem_of_getElem? (i := 985) (by decide +kernel)⟩
theorem lw_p92 : lw_okq (⟨"PulpitRoadsModel", "rowsThere", "()I"⟩, 16) := ⟨⟨by decide +kernel, by decide +kernel⟩, List.mem_of_getElem? (i := 613) (by decide +kernel), List.mem_of_getElem? (i := 996) (by decide +kernel), List.mem_of_getElem? (i := 997) (by decide +kernel)⟩
def lw_privs_6 : List (MethodName × Nat) := [(⟨"PulpitRoadsModel", "laysSaid", "(I)V"⟩, 16), (⟨"PulpitRoadsModel", "isSo", "(III)Z"⟩, 16), (⟨"PulpitRoadsModel", "heardWords", "(I)I"⟩, 16), (⟨"PulpitRoadsModel", "sizeOf", "(I)I"⟩, 16), (⟨"PulpitRoadsModel", "traces", "(I)V"⟩, 16), (⟨"PulpitRoadsModel", "size11", "(I)I"⟩, 16), (⟨"PulpitRoadsModel", "size10", "(I)I"⟩, 16), (⟨"PulpitRoadsModel", "markOf", "(I)I"⟩, 16), (⟨"PulpitRoadsModel", "mark21", "(I)I"⟩, 16), (⟨"PulpitRoadsModel", "mark20", "(I)I"⟩, 16), (⟨"PulpitRoadsModel", "size13", "(I)I"⟩, 16), (⟨"PulpitRoadsModel", "mark23", "(I)I"⟩, 16), (⟨"PulpitRoadsModel", "rowsThere", "()I"⟩, 16)]
theorem lw_r6 : ∀ q ∈ lw_privs_6, lw_okq q := List.forall_mem_cons.mpr ⟨lw_p80, List.forall_mem_cons.mpr ⟨lw_p81, List.forall_mem_cons.mpr ⟨lw_p82, List.forall_mem_cons.mpr ⟨lw_p83, List.forall_mem_cons.mpr ⟨lw_p84, List.forall_mem_cons.mpr ⟨lw_p85, List.forall_mem_cons.mpr ⟨lw_p86, List.forall_mem_cons.mpr ⟨lw_p87, List.forall_mem_cons.mpr ⟨lw_p88, List.forall_mem_cons.mpr ⟨lw_p89, List.forall_mem_cons.mpr ⟨lw_p90, List.forall_mem_cons.mpr ⟨lw_p91, List.forall_mem_cons.mpr ⟨lw_p92, fun _ h => absurd h List.not_mem_nil⟩⟩⟩⟩⟩⟩⟩⟩⟩⟩⟩⟩⟩
def lw_privs : List (MethodName × Nat) := lw_privs_1 ++ (lw_privs_2 ++ (lw_privs_3 ++ (lw_privs_4 ++ (lw_privs_5 ++ (lw_privs_6)))))
def lw_tbl : List Cond := k2_sels lw_privs ++ tables_1
theorem lw_privs_ok : ∀ q ∈ lw_privs, lw_okq q := by
  show ∀ q ∈ lw_privs_1 ++ (lw_privs_2 ++ (lw_privs_3 ++ (lw_privs_4 ++ (lw_privs_5 ++ (lw_privs_6))))), lw_okq q
  exact List.forall_mem_append.mpr ⟨lw_r1, List.forall_mem_append.mpr ⟨lw_r2, List.forall_mem_append.mpr ⟨lw_r3, List.forall_mem_append.mpr ⟨lw_r4, List.forall_mem_append.mpr ⟨lw_r5, lw_r6⟩⟩⟩⟩⟩
end
section
/-! ===== BEGIN words of one list among another's, by their places ===== -/
theorem goodIn_r {big : List Cond} (ws : List Cond) (ps : List Nat) (hp : ws = ps.filterMap (fun i => big[i]?)) (h : ws.all goodWord = true) : GoodIn big ws := by
  intro w hw
  have h1 := List.all_eq_true.mp h w hw
  rw [hp] at hw
  obtain ⟨i, -, hi⟩ := List.mem_filterMap.mp hw
  have hm : w ∈ big := by first | exact List.mem_of_getElem? hi | exact List.getElem?_mem hi
  exact ⟨hm, good_of_word h1⟩
theorem goodIn_app {big a b : List Cond} (ha : GoodIn big a) (hb : GoodIn big b) : GoodIn big (a ++ b) := fun w h => (List.mem_append.mp h).elim (ha w) (hb w)
theorem goodIn_ca {big a b : List Cond} {c : Cond} (ha : GoodIn big (c :: a)) (hb : GoodIn big b) : GoodIn big (c :: (a ++ b)) := fun w h => (List.mem_cons.mp h).elim (fun e => ha w (List.mem_cons.mpr (Or.inl e))) (fun h => (List.mem_append.mp h).elim (fun h => ha w (List.mem_cons.mpr (Or.inr h))) (hb w))
theorem goodIn_sub {big ws : List Cond} (hm : ∀ w ∈ ws, w ∈ big) (h : ws.all goodWord = true) : GoodIn big ws := fun w hw => ⟨hm w hw, good_of_word (List.all_eq_true.mp h w hw)⟩
/-! ===== END ===== -/

/-! ===== BEGIN printed: names, fields, word lists, decode rows ===== -/
def RX0 : String := "PulpitRoads$Acts"
def TX0 : u_T := fun k => match k with
  | 0 => ("PulpitRoads$Acts", "ring", "[I", true)
  | 1 => ("PulpitRoads$Acts", "kept", "I", false)
  | _ => ("PulpitRoads$Acts", "end", "I", false)
def tyX0 : Nat → FieldType := fun k => match k with
  | 0 => .array .int
  | 1 => .int
  | _ => .int
abbrev wsX00 : List Cond := u_ws RX0 TX0 3
theorem nmX0 : ∀ a, a < 3 → ∀ b, b < 3 → a ≠ b → (TX0 a).2.1 ≠ (TX0 b).2.1 := by decide +kernel
theorem tyX0_ok : ∀ k, k < 3 → parseFieldDescriptor (TX0 k).2.2.1 = some (tyX0 k) := by decide +kernel
abbrev cX0_init : ByteArray := prog_2_method_1_code
def yX0_init : MethodName := ⟨RX0, "<init>", "()V"⟩
abbrev cX0_keep : ByteArray := prog_2_method_2_code
def yX0_keep : MethodName := ⟨RX0, "keep", "(LPulpitRoads$Road;)V"⟩
abbrev cX0_giveBack : ByteArray := prog_2_method_3_code
def yX0_giveBack : MethodName := ⟨RX0, "giveBack", "(LPulpitRoads$Road;)V"⟩
def RX1 : String := "PulpitRoads$Bodies"
def TX1 : u_T := fun k => match k with
  | 0 => ("PulpitRoads$Bodies", "numbers", "[I", true)
  | _ => ("PulpitRoads$Bodies", "traced", "I", false)
def tyX1 : Nat → FieldType := fun k => match k with
  | 0 => .array .int
  | _ => .int
abbrev wsX10 : List Cond := u_ws RX1 TX1 2
theorem nmX1 : ∀ a, a < 2 → ∀ b, b < 2 → a ≠ b → (TX1 a).2.1 ≠ (TX1 b).2.1 := by decide +kernel
theorem tyX1_ok : ∀ k, k < 2 → parseFieldDescriptor (TX1 k).2.2.1 = some (tyX1 k) := by decide +kernel
abbrev cX1_init : ByteArray := prog_3_method_1_code
def yX1_init : MethodName := ⟨RX1, "<init>", "()V"⟩
abbrev cX1_begin : ByteArray := prog_3_method_2_code
def yX1_begin : MethodName := ⟨RX1, "begin", "(LPulpitRoads$Road;III)I"⟩
abbrev cX1_bodyOf : ByteArray := prog_3_method_3_code
def yX1_bodyOf : MethodName := ⟨RX1, "bodyOf", "(II)I"⟩
abbrev cX1_give : ByteArray := prog_3_method_4_code
def yX1_give : MethodName := ⟨RX1, "give", "(ILPulpitRoads$Road;II)I"⟩
abbrev cX1_leave : ByteArray := prog_3_method_5_code
def yX1_leave : MethodName := ⟨RX1, "leave", "(I)V"⟩
def RX2 : String := "PulpitRoads$Road"
def TX2 : u_T := fun k => match k with
  | 0 => ("PulpitRoads$Road", "stands", "Z", false)
  | 1 => ("PulpitRoads$Road", "words", "I", false)
  | 2 => ("PulpitRoads$Road", "hard", "I", false)
  | 3 => ("PulpitRoads$Road", "hour", "I", false)
  | 4 => ("PulpitRoads$Road", "stretches", "I", false)
  | 5 => ("PulpitRoads$Road", "pulpits", "I", false)
  | 6 => ("PulpitRoads$Road", "grade", "[I", true)
  | 7 => ("PulpitRoads$Road", "heardAt", "[I", true)
  | 8 => ("PulpitRoads$Road", "kindOf", "[I", true)
  | 9 => ("PulpitRoads$Road", "at", "[I", true)
  | 10 => ("PulpitRoads$Road", "word", "[I", true)
  | _ => ("PulpitRoads$Road", "saidNow", "[I", true)
def tyX2 : Nat → FieldType := fun k => match k with
  | 0 => .boolean
  | 1 => .int
  | 2 => .int
  | 3 => .int
  | 4 => .int
  | 5 => .int
  | 6 => .array .int
  | 7 => .array .int
  | 8 => .array .int
  | 9 => .array .int
  | 10 => .array .int
  | _ => .array .int
abbrev wsX20 : List Cond := u_ws RX2 TX2 12
theorem nmX2 : ∀ a, a < 12 → ∀ b, b < 12 → a ≠ b → (TX2 a).2.1 ≠ (TX2 b).2.1 := by decide +kernel
theorem tyX2_ok : ∀ k, k < 12 → parseFieldDescriptor (TX2 k).2.2.1 = some (tyX2 k) := by decide +kernel
abbrev cX2_init : ByteArray := prog_4_method_1_code
def yX2_init : MethodName := ⟨RX2, "<init>", "()V"⟩
abbrev cX2_begin : ByteArray := prog_4_method_2_code
def yX2_begin : MethodName := ⟨RX2, "begin", "()V"⟩
abbrev cX2_take : ByteArray := prog_4_method_3_code
def yX2_take : MethodName := ⟨RX2, "take", "(LPulpitRoads$Road;)V"⟩
abbrev cX2_nextOf : ByteArray := prog_4_method_4_code
def yX2_nextOf : MethodName := ⟨RX2, "nextOf", "(I)I"⟩
abbrev cX2_beforeOf : ByteArray := prog_4_method_5_code
def yX2_beforeOf : MethodName := ⟨RX2, "beforeOf", "(I)I"⟩
abbrev cX2_allWords : ByteArray := prog_4_method_6_code
def yX2_allWords : MethodName := ⟨RX2, "allWords", "()I"⟩
abbrev cX2_goHours : ByteArray := prog_4_method_7_code
def yX2_goHours : MethodName := ⟨RX2, "goHours", "(I)V"⟩
abbrev cX2_goHour : ByteArray := prog_4_method_8_code
def yX2_goHour : MethodName := ⟨RX2, "goHour", "()V"⟩
abbrev cX2_councils : ByteArray := prog_4_method_9_code
def yX2_councils : MethodName := ⟨RX2, "councils", "()I"⟩
abbrev cX2_pass : ByteArray := prog_4_method_10_code
def yX2_pass : MethodName := ⟨RX2, "pass", "(I)V"⟩
abbrev cX2_sayings : ByteArray := prog_4_method_11_code
def yX2_sayings : MethodName := ⟨RX2, "sayings", "(I)I"⟩
abbrev cX2_wordBehind : ByteArray := prog_4_method_12_code
def yX2_wordBehind : MethodName := ⟨RX2, "wordBehind", "(I)I"⟩
abbrev cX2_wordAfter : ByteArray := prog_4_method_13_code
def yX2_wordAfter : MethodName := ⟨RX2, "wordAfter", "(II)I"⟩
abbrev cX2_stretchBehind : ByteArray := prog_4_method_14_code
def yX2_stretchBehind : MethodName := ⟨RX2, "stretchBehind", "(II)I"⟩
abbrev cX2_pulpitsOn : ByteArray := prog_4_method_15_code
def yX2_pulpitsOn : MethodName := ⟨RX2, "pulpitsOn", "(I)I"⟩
abbrev cX2_hasPulpitsAs : ByteArray := prog_4_method_16_code
def yX2_hasPulpitsAs : MethodName := ⟨RX2, "hasPulpitsAs", "(LPulpitRoads$Road;)Z"⟩
abbrev cX2_wholeGates : ByteArray := prog_4_method_17_code
def yX2_wholeGates : MethodName := ⟨RX2, "wholeGates", "()I"⟩
abbrev cX2_heardAtAny : ByteArray := prog_4_method_18_code
def yX2_heardAtAny : MethodName := ⟨RX2, "heardAtAny", "(I)I"⟩
abbrev cX2_wordsHeard : ByteArray := prog_4_method_19_code
def yX2_wordsHeard : MethodName := ⟨RX2, "wordsHeard", "()I"⟩
def RX3 : String := "PulpitRoads$Row"
def TX3 : u_T := fun k => match k with
  | 0 => ("PulpitRoads$Row", "items", "[I", true)
  | 1 => ("PulpitRoads$Row", "missing", "Z", false)
  | 2 => ("PulpitRoads$Row", "lane", "I", false)
  | _ => ("PulpitRoads$Row", "length", "I", false)
def tyX3 : Nat → FieldType := fun k => match k with
  | 0 => .array .int
  | 1 => .boolean
  | 2 => .int
  | _ => .int
abbrev wsX30 : List Cond := u_ws RX3 TX3 4
theorem nmX3 : ∀ a, a < 4 → ∀ b, b < 4 → a ≠ b → (TX3 a).2.1 ≠ (TX3 b).2.1 := by decide +kernel
theorem tyX3_ok : ∀ k, k < 4 → parseFieldDescriptor (TX3 k).2.2.1 = some (tyX3 k) := by decide +kernel
abbrev cX3_init : ByteArray := prog_5_method_1_code
def yX3_init : MethodName := ⟨RX3, "<init>", "()V"⟩
abbrev cX3_begin : ByteArray := prog_5_method_2_code
def yX3_begin : MethodName := ⟨RX3, "begin", "(II)V"⟩
abbrev cX3_hasPlaces : ByteArray := prog_5_method_3_code
def yX3_hasPlaces : MethodName := ⟨RX3, "hasPlaces", "(II)Z"⟩
abbrev cX3_cut : ByteArray := prog_5_method_4_code
def yX3_cut : MethodName := ⟨RX3, "cut", "(I)I"⟩
def RX4 : String := "PulpitRoads$Tape"
def TX4 : u_T := fun k => match k with
  | 0 => ("PulpitRoads$Tape", "bytes", "[I", true)
  | 1 => ("PulpitRoads$Tape", "length", "I", false)
  | 2 => ("PulpitRoads$Tape", "place", "I", false)
  | _ => ("PulpitRoads$Tape", "faultNumber", "I", false)
def tyX4 : Nat → FieldType := fun k => match k with
  | 0 => .array .int
  | 1 => .int
  | 2 => .int
  | _ => .int
abbrev wsX40 : List Cond := u_ws RX4 TX4 4
theorem nmX4 : ∀ a, a < 4 → ∀ b, b < 4 → a ≠ b → (TX4 a).2.1 ≠ (TX4 b).2.1 := by decide +kernel
theorem tyX4_ok : ∀ k, k < 4 → parseFieldDescriptor (TX4 k).2.2.1 = some (tyX4 k) := by decide +kernel
abbrev cX4_init : ByteArray := prog_6_method_1_code
def yX4_init : MethodName := ⟨RX4, "<init>", "()V"⟩
abbrev cX4_add : ByteArray := prog_6_method_2_code
def yX4_add : MethodName := ⟨RX4, "add", "(I)V"⟩
abbrev cX4_readInto : ByteArray := prog_6_method_3_code
def yX4_readInto : MethodName := ⟨RX4, "readInto", "(LPulpitRoads$Road;)Z"⟩
abbrev cX4_readLaw : ByteArray := prog_6_method_4_code
def yX4_readLaw : MethodName := ⟨RX4, "readLaw", "(LPulpitRoads$Road;)Z"⟩
abbrev cX4_readStretches : ByteArray := prog_6_method_5_code
def yX4_readStretches : MethodName := ⟨RX4, "readStretches", "(LPulpitRoads$Road;)Z"⟩
abbrev cX4_readPulpits : ByteArray := prog_6_method_6_code
def yX4_readPulpits : MethodName := ⟨RX4, "readPulpits", "(LPulpitRoads$Road;)Z"⟩
abbrev cX4_readPulpit : ByteArray := prog_6_method_7_code
def yX4_readPulpit : MethodName := ⟨RX4, "readPulpit", "(LPulpitRoads$Road;I)Z"⟩
abbrev cX4_letterHere : ByteArray := prog_6_method_8_code
def yX4_letterHere : MethodName := ⟨RX4, "letterHere", "()I"⟩
abbrev cX4_letterAt : ByteArray := prog_6_method_9_code
def yX4_letterAt : MethodName := ⟨RX4, "letterAt", "(I)I"⟩
abbrev cX4_isFigure : ByteArray := prog_6_method_10_code
def yX4_isFigure : MethodName := ⟨RX4, "isFigure", "(I)Z"⟩
abbrev cX4_kindHere : ByteArray := prog_6_method_11_code
def yX4_kindHere : MethodName := ⟨RX4, "kindHere", "()I"⟩
abbrev cX4_takeSign : ByteArray := prog_6_method_12_code
def yX4_takeSign : MethodName := ⟨RX4, "takeSign", "(I)Z"⟩
abbrev cX4_takeNumber : ByteArray := prog_6_method_13_code
def yX4_takeNumber : MethodName := ⟨RX4, "takeNumber", "(II)I"⟩
abbrev cX4_blame : ByteArray := prog_6_method_14_code
def yX4_blame : MethodName := ⟨RX4, "blame", "(I)Z"⟩
def RX5 : String := "PulpitRoads"
def TX5 : u_T := fun k => match k with
  | 0 => ("PulpitRoads", "rows", "[LPulpitRoads$Row;", true)
  | 1 => ("PulpitRoads", "tape", "LPulpitRoads$Tape;", true)
  | 2 => ("PulpitRoads", "now", "LPulpitRoads$Road;", true)
  | 3 => ("PulpitRoads", "foretold", "LPulpitRoads$Road;", true)
  | 4 => ("PulpitRoads", "saidAhead", "[I", true)
  | 5 => ("PulpitRoads", "images", "[LPulpitRoads$Road;", true)
  | 6 => ("PulpitRoads", "acts", "LPulpitRoads$Acts;", true)
  | 7 => ("PulpitRoads", "bodies", "LPulpitRoads$Bodies;", true)
  | 8 => ("PulpitRoads", "latestFault", "I", false)
  | _ => ("PulpitRoads", "latestFinding", "I", false)
def tyX5 : Nat → FieldType := fun k => match k with
  | 0 => .array (.object "PulpitRoads$Row")
  | 1 => .object "PulpitRoads$Tape"
  | 2 => .object "PulpitRoads$Road"
  | 3 => .object "PulpitRoads$Road"
  | 4 => .array .int
  | 5 => .array (.object "PulpitRoads$Road")
  | 6 => .object "PulpitRoads$Acts"
  | 7 => .object "PulpitRoads$Bodies"
  | 8 => .int
  | _ => .int
abbrev wsX50 : List Cond := u_ws RX5 TX5 10
theorem nmX5 : ∀ a, a < 10 → ∀ b, b < 10 → a ≠ b → (TX5 a).2.1 ≠ (TX5 b).2.1 := by decide +kernel
theorem tyX5_ok : ∀ k, k < 10 → parseFieldDescriptor (TX5 k).2.2.1 = some (tyX5 k) := by decide +kernel
abbrev cX5_init : ByteArray := prog_1_method_1_code
def yX5_init : MethodName := ⟨RX5, "<init>", "()V"⟩
abbrev cX5_row : ByteArray := prog_1_method_2_code
def yX5_row : MethodName := ⟨RX5, "row", "(III)I"⟩
abbrev cX5_set : ByteArray := prog_1_method_3_code
def yX5_set : MethodName := ⟨RX5, "set", "(III)I"⟩
abbrev cX5_copy : ByteArray := prog_1_method_4_code
def yX5_copy : MethodName := ⟨RX5, "copy", "(IIIII)I"⟩
abbrev cX5_drop : ByteArray := prog_1_method_5_code
def yX5_drop : MethodName := ⟨RX5, "drop", "(I)I"⟩
abbrev cX5_feed : ByteArray := prog_1_method_6_code
def yX5_feed : MethodName := ⟨RX5, "feed", "(I)I"⟩
abbrev cX5_road : ByteArray := prog_1_method_7_code
def yX5_road : MethodName := ⟨RX5, "road", "()I"⟩
abbrev cX5_fault : ByteArray := prog_1_method_8_code
def yX5_fault : MethodName := ⟨RX5, "fault", "()I"⟩
abbrev cX5_hours : ByteArray := prog_1_method_9_code
def yX5_hours : MethodName := ⟨RX5, "hours", "(I)I"⟩
abbrev cX5_put : ByteArray := prog_1_method_10_code
def yX5_put : MethodName := ⟨RX5, "put", "(II)I"⟩
abbrev cX5_skip : ByteArray := prog_1_method_11_code
def yX5_skip : MethodName := ⟨RX5, "skip", "(II)I"⟩
abbrev cX5_forget : ByteArray := prog_1_method_12_code
def yX5_forget : MethodName := ⟨RX5, "forget", "(I)I"⟩
abbrev cX5_undo : ByteArray := prog_1_method_13_code
def yX5_undo : MethodName := ⟨RX5, "undo", "()I"⟩
abbrev cX5_pulpit : ByteArray := prog_1_method_14_code
def yX5_pulpit : MethodName := ⟨RX5, "pulpit", "(II)I"⟩
abbrev cX5_stretch : ByteArray := prog_1_method_15_code
def yX5_stretch : MethodName := ⟨RX5, "stretch", "(II)I"⟩
abbrev cX5_ahead : ByteArray := prog_1_method_16_code
def yX5_ahead : MethodName := ⟨RX5, "ahead", "(III)I"⟩
abbrev cX5_heard : ByteArray := prog_1_method_17_code
def yX5_heard : MethodName := ⟨RX5, "heard", "(II)I"⟩
abbrev cX5_whole : ByteArray := prog_1_method_18_code
def yX5_whole : MethodName := ⟨RX5, "whole", "(I)I"⟩
abbrev cX5_first : ByteArray := prog_1_method_19_code
def yX5_first : MethodName := ⟨RX5, "first", "(I)I"⟩
abbrev cX5_left : ByteArray := prog_1_method_20_code
def yX5_left : MethodName := ⟨RX5, "left", "(I)I"⟩
abbrev cX5_meet : ByteArray := prog_1_method_21_code
def yX5_meet : MethodName := ⟨RX5, "meet", "(II)I"⟩
abbrev cX5_round : ByteArray := prog_1_method_22_code
def yX5_round : MethodName := ⟨RX5, "round", "()I"⟩
abbrev cX5_best : ByteArray := prog_1_method_23_code
def yX5_best : MethodName := ⟨RX5, "best", "(IIII)I"⟩
abbrev cX5_piece : ByteArray := prog_1_method_24_code
def yX5_piece : MethodName := ⟨RX5, "piece", "(I)I"⟩
abbrev cX5_walk : ByteArray := prog_1_method_25_code
def yX5_walk : MethodName := ⟨RX5, "walk", "(III)I"⟩
abbrev cX5_fits : ByteArray := prog_1_method_26_code
def yX5_fits : MethodName := ⟨RX5, "fits", "(IIIII)I"⟩
abbrev cX5_axles : ByteArray := prog_1_method_27_code
def yX5_axles : MethodName := ⟨RX5, "axles", "(IIII)I"⟩
abbrev cX5_drawn : ByteArray := prog_1_method_28_code
def yX5_drawn : MethodName := ⟨RX5, "drawn", "(III)I"⟩
abbrev cX5_image : ByteArray := prog_1_method_29_code
def yX5_image : MethodName := ⟨RX5, "image", "(I)I"⟩
abbrev cX5_restore : ByteArray := prog_1_method_30_code
def yX5_restore : MethodName := ⟨RX5, "restore", "(I)I"⟩
abbrev cX5_kind : ByteArray := prog_1_method_31_code
def yX5_kind : MethodName := ⟨RX5, "kind", "(I)I"⟩
abbrev cX5_as : ByteArray := prog_1_method_32_code
def yX5_as : MethodName := ⟨RX5, "as", "(II)I"⟩
abbrev cX5_ask : ByteArray := prog_1_method_33_code
def yX5_ask : MethodName := ⟨RX5, "ask", "(II)I"⟩
abbrev cX5_trace : ByteArray := prog_1_method_34_code
def yX5_trace : MethodName := ⟨RX5, "trace", "(I)I"⟩
abbrev cX5_count : ByteArray := prog_1_method_35_code
def yX5_count : MethodName := ⟨RX5, "count", "(I)I"⟩
abbrev cX5_status : ByteArray := prog_1_method_36_code
def yX5_status : MethodName := ⟨RX5, "status", "()I"⟩
abbrev cX5_isWithin : ByteArray := prog_1_method_37_code
def yX5_isWithin : MethodName := ⟨RX5, "isWithin", "(III)Z"⟩
abbrev cX5_isRow : ByteArray := prog_1_method_38_code
def yX5_isRow : MethodName := ⟨RX5, "isRow", "(I)Z"⟩
abbrev cX5_isPulpit : ByteArray := prog_1_method_39_code
def yX5_isPulpit : MethodName := ⟨RX5, "isPulpit", "(I)Z"⟩
abbrev cX5_isStretch : ByteArray := prog_1_method_40_code
def yX5_isStretch : MethodName := ⟨RX5, "isStretch", "(I)Z"⟩
abbrev cX5_isWord : ByteArray := prog_1_method_41_code
def yX5_isWord : MethodName := ⟨RX5, "isWord", "(I)Z"⟩
abbrev cX5_found : ByteArray := prog_1_method_42_code
def yX5_found : MethodName := ⟨RX5, "found", "(I)I"⟩
abbrev cX5_foundNothing : ByteArray := prog_1_method_43_code
def yX5_foundNothing : MethodName := ⟨RX5, "foundNothing", "(I)I"⟩
abbrev cX5_rowsThere : ByteArray := prog_1_method_44_code
def yX5_rowsThere : MethodName := ⟨RX5, "rowsThere", "()I"⟩
abbrev cX5_foretell : ByteArray := prog_1_method_45_code
def yX5_foretell : MethodName := ⟨RX5, "foretell", "(I)V"⟩
abbrev cX5_hoursToWhole : ByteArray := prog_1_method_46_code
def yX5_hoursToWhole : MethodName := ⟨RX5, "hoursToWhole", "(I)I"⟩
abbrev cX5_leastOf : ByteArray := prog_1_method_47_code
def yX5_leastOf : MethodName := ⟨RX5, "leastOf", "(I)I"⟩
abbrev cX5_foretellSayings : ByteArray := prog_1_method_48_code
def yX5_foretellSayings : MethodName := ⟨RX5, "foretellSayings", "(I)V"⟩
abbrev cX5_heardOnWay : ByteArray := prog_1_method_49_code
def yX5_heardOnWay : MethodName := ⟨RX5, "heardOnWay", "(III)I"⟩
abbrev cX5_guessEnd : ByteArray := prog_1_method_50_code
def yX5_guessEnd : MethodName := ⟨RX5, "guessEnd", "(I)I"⟩
abbrev cX5_suppose : ByteArray := prog_1_method_51_code
def yX5_suppose : MethodName := ⟨RX5, "suppose", "(III)V"⟩
abbrev cX5_goesAsTold : ByteArray := prog_1_method_52_code
def yX5_goesAsTold : MethodName := ⟨RX5, "goesAsTold", "(ILPulpitRoads$Row;II)Z"⟩
abbrev cX5_tenthsOfHearing : ByteArray := prog_1_method_53_code
def yX5_tenthsOfHearing : MethodName := ⟨RX5, "tenthsOfHearing", "(III)I"⟩
abbrev cX5_commonDivisor : ByteArray := prog_1_method_54_code
def yX5_commonDivisor : MethodName := ⟨RX5, "commonDivisor", "(II)I"⟩
abbrev cX5_putByDraw : ByteArray := prog_1_method_55_code
def yX5_putByDraw : MethodName := ⟨RX5, "putByDraw", "(J)V"⟩
abbrev cX5_isSuch : ByteArray := prog_1_method_56_code
def yX5_isSuch : MethodName := ⟨RX5, "isSuch", "(II)Z"⟩
def RX6 : String := "PulpitRoadsModel"
def TX6 : u_T := fun k => match k with
  | 0 => ("PulpitRoadsModel", "w", "[I", true)
  | 1 => ("PulpitRoadsModel", "undoes", "I", false)
  | 2 => ("PulpitRoadsModel", "tape", "[I", true)
  | 3 => ("PulpitRoadsModel", "taped", "I", false)
  | 4 => ("PulpitRoadsModel", "faulty", "I", false)
  | 5 => ("PulpitRoadsModel", "status", "I", false)
  | 6 => ("PulpitRoadsModel", "many", "[I", true)
  | 7 => ("PulpitRoadsModel", "lane", "[I", true)
  | 8 => ("PulpitRoadsModel", "items", "[I", true)
  | 9 => ("PulpitRoadsModel", "held", "[I", true)
  | 10 => ("PulpitRoadsModel", "at", "I", false)
  | 11 => ("PulpitRoadsModel", "start", "I", false)
  | 12 => ("PulpitRoadsModel", "number", "I", false)
  | 13 => ("PulpitRoadsModel", "said", "[I", true)
  | 14 => ("PulpitRoadsModel", "trace", "[I", true)
  | _ => ("PulpitRoadsModel", "traced", "I", false)
def tyX6 : Nat → FieldType := fun k => match k with
  | 0 => .array .int
  | 1 => .int
  | 2 => .array .int
  | 3 => .int
  | 4 => .int
  | 5 => .int
  | 6 => .array .int
  | 7 => .array .int
  | 8 => .array .int
  | 9 => .array .int
  | 10 => .int
  | 11 => .int
  | 12 => .int
  | 13 => .array .int
  | 14 => .array .int
  | _ => .int
abbrev wsX60 : List Cond := u_ws RX6 TX6 16
theorem nmX6 : ∀ a, a < 16 → ∀ b, b < 16 → a ≠ b → (TX6 a).2.1 ≠ (TX6 b).2.1 := by decide +kernel
theorem tyX6_ok : ∀ k, k < 16 → parseFieldDescriptor (TX6 k).2.2.1 = some (tyX6 k) := by decide +kernel
abbrev cX6_init : ByteArray := prog_8_method_1_code
def yX6_init : MethodName := ⟨RX6, "<init>", "()V"⟩
abbrev cX6_in : ByteArray := prog_8_method_3_code
def yX6_in : MethodName := ⟨RX6, "in", "(JJJ)Z"⟩
abbrev cX6_has : ByteArray := prog_8_method_4_code
def yX6_has : MethodName := ⟨RX6, "has", "(II)Z"⟩
abbrev cX6_ones : ByteArray := prog_8_method_5_code
def yX6_ones : MethodName := ⟨RX6, "ones", "(I)I"⟩
abbrev cX6_copyOf : ByteArray := prog_8_method_6_code
def yX6_copyOf : MethodName := ⟨RX6, "copyOf", "(III)V"⟩
abbrev cX6_isPulpit : ByteArray := prog_8_method_7_code
def yX6_isPulpit : MethodName := ⟨RX6, "isPulpit", "(I)Z"⟩
abbrev cX6_isStretch : ByteArray := prog_8_method_8_code
def yX6_isStretch : MethodName := ⟨RX6, "isStretch", "(I)Z"⟩
abbrev cX6_isRoad : ByteArray := prog_8_method_9_code
def yX6_isRoad : MethodName := ⟨RX6, "isRoad", "()Z"⟩
abbrev cX6_isRow : ByteArray := prog_8_method_10_code
def yX6_isRow : MethodName := ⟨RX6, "isRow", "(I)Z"⟩
abbrev cX6_finds : ByteArray := prog_8_method_11_code
def yX6_finds : MethodName := ⟨RX6, "finds", "(I)I"⟩
abbrev cX6_against : ByteArray := prog_8_method_12_code
def yX6_against : MethodName := ⟨RX6, "against", "(III)I"⟩
abbrev cX6_row : ByteArray := prog_8_method_13_code
def yX6_row : MethodName := ⟨RX6, "row", "(III)I"⟩
abbrev cX6_set : ByteArray := prog_8_method_14_code
def yX6_set : MethodName := ⟨RX6, "set", "(III)I"⟩
abbrev cX6_copy : ByteArray := prog_8_method_15_code
def yX6_copy : MethodName := ⟨RX6, "copy", "(IIIII)I"⟩
abbrev cX6_drop : ByteArray := prog_8_method_16_code
def yX6_drop : MethodName := ⟨RX6, "drop", "(I)I"⟩
abbrev cX6_feed : ByteArray := prog_8_method_17_code
def yX6_feed : MethodName := ⟨RX6, "feed", "(I)I"⟩
abbrev cX6_here : ByteArray := prog_8_method_18_code
def yX6_here : MethodName := ⟨RX6, "here", "()I"⟩
abbrev cX6_fails : ByteArray := prog_8_method_19_code
def yX6_fails : MethodName := ⟨RX6, "fails", "(II)Z"⟩
abbrev cX6_takes : ByteArray := prog_8_method_20_code
def yX6_takes : MethodName := ⟨RX6, "takes", "(I)Z"⟩
abbrev cX6_takesNumber : ByteArray := prog_8_method_21_code
def yX6_takesNumber : MethodName := ⟨RX6, "takesNumber", "(II)Z"⟩
abbrev cX6_kindOf : ByteArray := prog_8_method_22_code
def yX6_kindOf : MethodName := ⟨RX6, "kindOf", "(I)I"⟩
abbrev cX6_takesLaw : ByteArray := prog_8_method_23_code
def yX6_takesLaw : MethodName := ⟨RX6, "takesLaw", "()Z"⟩
abbrev cX6_takesStretch : ByteArray := prog_8_method_24_code
def yX6_takesStretch : MethodName := ⟨RX6, "takesStretch", "()Z"⟩
abbrev cX6_takesPulpit : ByteArray := prog_8_method_25_code
def yX6_takesPulpit : MethodName := ⟨RX6, "takesPulpit", "()Z"⟩
abbrev cX6_takesAll : ByteArray := prog_8_method_26_code
def yX6_takesAll : MethodName := ⟨RX6, "takesAll", "()Z"⟩
abbrev cX6_road : ByteArray := prog_8_method_27_code
def yX6_road : MethodName := ⟨RX6, "road", "()I"⟩
abbrev cX6_fault : ByteArray := prog_8_method_28_code
def yX6_fault : MethodName := ⟨RX6, "fault", "()I"⟩
abbrev cX6_saysMany : ByteArray := prog_8_method_29_code
def yX6_saysMany : MethodName := ⟨RX6, "saysMany", "(II)I"⟩
abbrev cX6_saysIn : ByteArray := prog_8_method_30_code
def yX6_saysIn : MethodName := ⟨RX6, "saysIn", "(II)I"⟩
abbrev cX6_passes : ByteArray := prog_8_method_31_code
def yX6_passes : MethodName := ⟨RX6, "passes", "(II)V"⟩
abbrev cX6_councilsIn : ByteArray := prog_8_method_32_code
def yX6_councilsIn : MethodName := ⟨RX6, "councilsIn", "(I)I"⟩
abbrev cX6_hourBy : ByteArray := prog_8_method_33_code
def yX6_hourBy : MethodName := ⟨RX6, "hourBy", "(II)V"⟩
abbrev cX6_all : ByteArray := prog_8_method_34_code
def yX6_all : MethodName := ⟨RX6, "all", "(I)I"⟩
abbrev cX6_wholeOnes : ByteArray := prog_8_method_35_code
def yX6_wholeOnes : MethodName := ⟨RX6, "wholeOnes", "(I)I"⟩
abbrev cX6_heardWords : ByteArray := prog_8_method_36_code
def yX6_heardWords : MethodName := ⟨RX6, "heardWords", "(I)I"⟩
abbrev cX6_minds : ByteArray := prog_8_method_37_code
def yX6_minds : MethodName := ⟨RX6, "minds", "()V"⟩
abbrev cX6_hours : ByteArray := prog_8_method_38_code
def yX6_hours : MethodName := ⟨RX6, "hours", "(I)I"⟩
abbrev cX6_put : ByteArray := prog_8_method_39_code
def yX6_put : MethodName := ⟨RX6, "put", "(II)I"⟩
abbrev cX6_skip : ByteArray := prog_8_method_40_code
def yX6_skip : MethodName := ⟨RX6, "skip", "(II)I"⟩
abbrev cX6_forget : ByteArray := prog_8_method_41_code
def yX6_forget : MethodName := ⟨RX6, "forget", "(I)I"⟩
abbrev cX6_undo : ByteArray := prog_8_method_42_code
def yX6_undo : MethodName := ⟨RX6, "undo", "()I"⟩
abbrev cX6_pulpit : ByteArray := prog_8_method_43_code
def yX6_pulpit : MethodName := ⟨RX6, "pulpit", "(II)I"⟩
abbrev cX6_pulpitsAt : ByteArray := prog_8_method_44_code
def yX6_pulpitsAt : MethodName := ⟨RX6, "pulpitsAt", "(I)I"⟩
abbrev cX6_stretch : ByteArray := prog_8_method_45_code
def yX6_stretch : MethodName := ⟨RX6, "stretch", "(II)I"⟩
abbrev cX6_tries : ByteArray := prog_8_method_46_code
def yX6_tries : MethodName := ⟨RX6, "tries", "()V"⟩
abbrev cX6_goesOn : ByteArray := prog_8_method_47_code
def yX6_goesOn : MethodName := ⟨RX6, "goesOn", "(I)V"⟩
abbrev cX6_ahead : ByteArray := prog_8_method_48_code
def yX6_ahead : MethodName := ⟨RX6, "ahead", "(III)I"⟩
abbrev cX6_heard : ByteArray := prog_8_method_49_code
def yX6_heard : MethodName := ⟨RX6, "heard", "(II)I"⟩
abbrev cX6_whole : ByteArray := prog_8_method_50_code
def yX6_whole : MethodName := ⟨RX6, "whole", "(I)I"⟩
abbrev cX6_leastOf : ByteArray := prog_8_method_51_code
def yX6_leastOf : MethodName := ⟨RX6, "leastOf", "(I)I"⟩
abbrev cX6_first : ByteArray := prog_8_method_52_code
def yX6_first : MethodName := ⟨RX6, "first", "(I)I"⟩
abbrev cX6_left : ByteArray := prog_8_method_53_code
def yX6_left : MethodName := ⟨RX6, "left", "(I)I"⟩
abbrev cX6_meet : ByteArray := prog_8_method_54_code
def yX6_meet : MethodName := ⟨RX6, "meet", "(II)I"⟩
abbrev cX6_round : ByteArray := prog_8_method_55_code
def yX6_round : MethodName := ⟨RX6, "round", "()I"⟩
abbrev cX6_best : ByteArray := prog_8_method_56_code
def yX6_best : MethodName := ⟨RX6, "best", "(IIII)I"⟩
abbrev cX6_piece : ByteArray := prog_8_method_57_code
def yX6_piece : MethodName := ⟨RX6, "piece", "(I)I"⟩
abbrev cX6_laysSaid : ByteArray := prog_8_method_58_code
def yX6_laysSaid : MethodName := ⟨RX6, "laysSaid", "(I)V"⟩
abbrev cX6_walk : ByteArray := prog_8_method_59_code
def yX6_walk : MethodName := ⟨RX6, "walk", "(III)I"⟩
abbrev cX6_isSo : ByteArray := prog_8_method_60_code
def yX6_isSo : MethodName := ⟨RX6, "isSo", "(III)Z"⟩
abbrev cX6_fits : ByteArray := prog_8_method_61_code
def yX6_fits : MethodName := ⟨RX6, "fits", "(IIIII)I"⟩
abbrev cX6_axles : ByteArray := prog_8_method_62_code
def yX6_axles : MethodName := ⟨RX6, "axles", "(IIII)I"⟩
abbrev cX6_drawn : ByteArray := prog_8_method_63_code
def yX6_drawn : MethodName := ⟨RX6, "drawn", "(III)I"⟩
abbrev cX6_image : ByteArray := prog_8_method_64_code
def yX6_image : MethodName := ⟨RX6, "image", "(I)I"⟩
abbrev cX6_restore : ByteArray := prog_8_method_65_code
def yX6_restore : MethodName := ⟨RX6, "restore", "(I)I"⟩
abbrev cX6_kind : ByteArray := prog_8_method_66_code
def yX6_kind : MethodName := ⟨RX6, "kind", "(I)I"⟩
abbrev cX6_isA : ByteArray := prog_8_method_67_code
def yX6_isA : MethodName := ⟨RX6, "isA", "(II)Z"⟩
abbrev cX6_as : ByteArray := prog_8_method_68_code
def yX6_as : MethodName := ⟨RX6, "as", "(II)I"⟩
abbrev cX6_traces : ByteArray := prog_8_method_69_code
def yX6_traces : MethodName := ⟨RX6, "traces", "(I)V"⟩
abbrev cX6_size10 : ByteArray := prog_8_method_70_code
def yX6_size10 : MethodName := ⟨RX6, "size10", "(I)I"⟩
abbrev cX6_size11 : ByteArray := prog_8_method_71_code
def yX6_size11 : MethodName := ⟨RX6, "size11", "(I)I"⟩
abbrev cX6_size13 : ByteArray := prog_8_method_72_code
def yX6_size13 : MethodName := ⟨RX6, "size13", "(I)I"⟩
abbrev cX6_sizeOf : ByteArray := prog_8_method_73_code
def yX6_sizeOf : MethodName := ⟨RX6, "sizeOf", "(I)I"⟩
abbrev cX6_mark20 : ByteArray := prog_8_method_74_code
def yX6_mark20 : MethodName := ⟨RX6, "mark20", "(I)I"⟩
abbrev cX6_mark21 : ByteArray := prog_8_method_75_code
def yX6_mark21 : MethodName := ⟨RX6, "mark21", "(I)I"⟩
abbrev cX6_markOf : ByteArray := prog_8_method_76_code
def yX6_markOf : MethodName := ⟨RX6, "markOf", "(I)I"⟩
abbrev cX6_mark23 : ByteArray := prog_8_method_77_code
def yX6_mark23 : MethodName := ⟨RX6, "mark23", "(I)I"⟩
abbrev cX6_ask : ByteArray := prog_8_method_78_code
def yX6_ask : MethodName := ⟨RX6, "ask", "(II)I"⟩
abbrev cX6_trace : ByteArray := prog_8_method_79_code
def yX6_trace : MethodName := ⟨RX6, "trace", "(I)I"⟩
abbrev cX6_rowsThere : ByteArray := prog_8_method_80_code
def yX6_rowsThere : MethodName := ⟨RX6, "rowsThere", "()I"⟩
abbrev cX6_count : ByteArray := prog_8_method_81_code
def yX6_count : MethodName := ⟨RX6, "count", "(I)I"⟩
abbrev cX6_status : ByteArray := prog_8_method_82_code
def yX6_status : MethodName := ⟨RX6, "status", "()I"⟩
def RJ6 : String := "java/lang/Integer"
def TJ6 : u_T := fun k => match k with
  | _ => ("", "", "", false)
def tyJ6 : Nat → FieldType := fun k => match k with
  | _ => .int
abbrev wsJ60 : List Cond := u_ws RJ6 TJ6 0
theorem nmJ6 : ∀ a, a < 0 → ∀ b, b < 0 → a ≠ b → (TJ6 a).2.1 ≠ (TJ6 b).2.1 := by decide +kernel
theorem tyJ6_ok : ∀ k, k < 0 → parseFieldDescriptor (TJ6 k).2.2.1 = some (tyJ6 k) := by decide +kernel
abbrev cJ6_bitCount_0f7a4 : ByteArray := prog_9_method_49_code
def yJ6_bitCount_0f7a4 : MethodName := ⟨RJ6, "bitCount", "(I)I"⟩
def RJ9 : String := "java/lang/Math"
def TJ9 : u_T := fun k => match k with
  | _ => ("", "", "", false)
def tyJ9 : Nat → FieldType := fun k => match k with
  | _ => .int
abbrev wsJ90 : List Cond := u_ws RJ9 TJ9 0
theorem nmJ9 : ∀ a, a < 0 → ∀ b, b < 0 → a ≠ b → (TJ9 a).2.1 ≠ (TJ9 b).2.1 := by decide +kernel
theorem tyJ9_ok : ∀ k, k < 0 → parseFieldDescriptor (TJ9 k).2.2.1 = some (tyJ9 k) := by decide +kernel
abbrev cJ9_min_7cf53 : ByteArray := prog_10_method_69_code
def yJ9_min_7cf53 : MethodName := ⟨RJ9, "min", "(II)I"⟩
def RJ10 : String := "java/lang/System"
def TJ10 : u_T := fun k => match k with
  | _ => ("", "", "", false)
def tyJ10 : Nat → FieldType := fun k => match k with
  | _ => .int
abbrev wsJ100 : List Cond := u_ws RJ10 TJ10 0
theorem nmJ10 : ∀ a, a < 0 → ∀ b, b < 0 → a ≠ b → (TJ10 a).2.1 ≠ (TJ10 b).2.1 := by decide +kernel
theorem tyJ10_ok : ∀ k, k < 0 → parseFieldDescriptor (TJ10 k).2.2.1 = some (tyJ10 k) := by decide +kernel
def RL : String := "PulpitRoadsLaw"
abbrev cL_law : ByteArray := code
def yL_law : MethodName := ⟨RL, "law", "([I)Z"⟩
def wsX0_init : List Cond := .code yX0_init cX0_init 1 none :: ([.methodLink RX0 3 objectInit, .instanceMethod objectInit, .code objectInit ⟨#[0xb1]⟩ 1 none, .arrayClass .int, .fieldLink RX0 11 "PulpitRoads$Acts" "ring" "[I"] ++ wsX00)
def wsX0_keep : List Cond := .code yX0_keep cX0_keep 4 none :: ([.fieldLink RX0 15 "PulpitRoads$Acts" "end" "I", .fieldLink RX0 11 "PulpitRoads$Acts" "ring" "[I", .fieldLink RX0 33 "PulpitRoads$Acts" "kept" "I", .methodLink RX0 36 Lib.Math.min.name, .static Lib.Math.min.name, .initialized "java/lang/Math", .code Lib.Math.min.name Lib.Math.min.code 2 (some .int)] ++ wsX00 ++ wsX20)
def wsX0_giveBack : List Cond := .code yX0_giveBack cX0_giveBack 4 none :: ([.fieldLink RX0 15 "PulpitRoads$Acts" "end" "I", .fieldLink RX0 33 "PulpitRoads$Acts" "kept" "I", .fieldLink RX0 11 "PulpitRoads$Acts" "ring" "[I"] ++ wsX00 ++ wsX20)
def wsX1_init : List Cond := .code yX1_init cX1_init 1 none :: ([.methodLink RX1 3 objectInit, .instanceMethod objectInit, .code objectInit ⟨#[0xb1]⟩ 1 none, .arrayClass .int, .fieldLink RX1 11 "PulpitRoads$Bodies" "numbers" "[I"] ++ wsX10)
def wsX1_bodyOf : List Cond := .code yX1_bodyOf cX1_bodyOf 5 (some .int) :: ([])
def wsX1_leave : List Cond := .code yX1_leave cX1_leave 2 none :: ([.fieldLink RX1 51 "PulpitRoads$Bodies" "traced" "I", .fieldLink RX1 11 "PulpitRoads$Bodies" "numbers" "[I"] ++ wsX10)
def wsX1_begin : List Cond := .code yX1_begin cX1_begin 5 (some .int) :: ([.methodLink RX1 20 yX1_bodyOf, .static yX1_bodyOf, .initialized RX1, .code yX1_bodyOf cX1_bodyOf 5 (some .int), .methodLink RX1 24 yX1_give, .instanceMethod yX1_give, .selects RX1 yX1_give yX1_give, .code yX1_give cX1_give 6 (some .int), .methodLink RX1 37 yX1_leave, .instanceMethod yX1_leave, .selects RX1 yX1_leave yX1_leave, .code yX1_leave cX1_leave 2 none, .fieldLink RX1 51 "PulpitRoads$Bodies" "traced" "I", .fieldLink RX1 11 "PulpitRoads$Bodies" "numbers" "[I", .methodLink RX1 44 yX1_begin, .instanceMethod yX1_begin, .selects RX1 yX1_begin yX1_begin] ++ wsX20 ++ wsX10)
def wsX1_give : List Cond := .code yX1_give cX1_give 6 (some .int) :: ([.methodLink RX1 37 yX1_leave, .instanceMethod yX1_leave, .selects RX1 yX1_leave yX1_leave, .initialized RX1, .code yX1_leave cX1_leave 2 none, .fieldLink RX1 51 "PulpitRoads$Bodies" "traced" "I", .fieldLink RX1 11 "PulpitRoads$Bodies" "numbers" "[I", .methodLink RX1 24 yX1_give, .instanceMethod yX1_give, .selects RX1 yX1_give yX1_give, .methodLink RX1 44 yX1_begin, .instanceMethod yX1_begin, .selects RX1 yX1_begin yX1_begin, .code yX1_begin cX1_begin 5 (some .int), .methodLink RX1 20 yX1_bodyOf, .static yX1_bodyOf, .code yX1_bodyOf cX1_bodyOf 5 (some .int)] ++ wsX20 ++ wsX10)
def wsX2_init : List Cond := .code yX2_init cX2_init 1 none :: ([.methodLink RX2 3 objectInit, .instanceMethod objectInit, .code objectInit ⟨#[0xb1]⟩ 1 none, .arrayClass .int, .fieldLink RX2 9 "PulpitRoads$Road" "grade" "[I", .fieldLink RX2 15 "PulpitRoads$Road" "heardAt" "[I", .fieldLink RX2 18 "PulpitRoads$Road" "kindOf" "[I", .fieldLink RX2 21 "PulpitRoads$Road" "at" "[I", .fieldLink RX2 24 "PulpitRoads$Road" "word" "[I", .fieldLink RX2 27 "PulpitRoads$Road" "saidNow" "[I"] ++ wsX20)
def wsX2_begin : List Cond := .code yX2_begin cX2_begin 2 none :: ([.fieldLink RX2 30 "PulpitRoads$Road" "stands" "Z", .fieldLink RX2 34 "PulpitRoads$Road" "hour" "I", .fieldLink RX2 38 "PulpitRoads$Road" "stretches" "I", .fieldLink RX2 41 "PulpitRoads$Road" "pulpits" "I", .fieldLink RX2 15 "PulpitRoads$Road" "heardAt" "[I"] ++ wsX20)
def wsX2_take : List Cond := .code yX2_take cX2_take 3 none :: ([.fieldLink RX2 30 "PulpitRoads$Road" "stands" "Z", .fieldLink RX2 44 "PulpitRoads$Road" "words" "I", .fieldLink RX2 47 "PulpitRoads$Road" "hard" "I", .fieldLink RX2 34 "PulpitRoads$Road" "hour" "I", .fieldLink RX2 38 "PulpitRoads$Road" "stretches" "I", .fieldLink RX2 41 "PulpitRoads$Road" "pulpits" "I", .fieldLink RX2 9 "PulpitRoads$Road" "grade" "[I", .fieldLink RX2 15 "PulpitRoads$Road" "heardAt" "[I", .fieldLink RX2 18 "PulpitRoads$Road" "kindOf" "[I", .fieldLink RX2 21 "PulpitRoads$Road" "at" "[I", .fieldLink RX2 24 "PulpitRoads$Road" "word" "[I"] ++ wsX20)
def wsX2_nextOf : List Cond := .code yX2_nextOf cX2_nextOf 2 (some .int) :: ([.fieldLink RX2 38 "PulpitRoads$Road" "stretches" "I"] ++ wsX20)
def wsX2_beforeOf : List Cond := .code yX2_beforeOf cX2_beforeOf 2 (some .int) :: ([.fieldLink RX2 38 "PulpitRoads$Road" "stretches" "I"] ++ wsX20)
def wsX2_allWords : List Cond := .code yX2_allWords cX2_allWords 1 (some .int) :: ([.fieldLink RX2 44 "PulpitRoads$Road" "words" "I"] ++ wsX20)
def wsX2_councils : List Cond := .code yX2_councils cX2_councils 4 (some .int) :: ([.fieldLink RX2 41 "PulpitRoads$Road" "pulpits" "I", .fieldLink RX2 21 "PulpitRoads$Road" "at" "[I"] ++ wsX20)
def wsX2_wordAfter : List Cond := .code yX2_wordAfter cX2_wordAfter 3 (some .int) :: ([.fieldLink RX2 18 "PulpitRoads$Road" "kindOf" "[I", .fieldLink RX2 44 "PulpitRoads$Road" "words" "I"] ++ wsX20)
def wsX2_sayings : List Cond := .code yX2_sayings cX2_sayings 5 (some .int) :: ([.fieldLink RX2 18 "PulpitRoads$Road" "kindOf" "[I", .fieldLink RX2 24 "PulpitRoads$Road" "word" "[I", .fieldLink RX2 9 "PulpitRoads$Road" "grade" "[I", .fieldLink RX2 21 "PulpitRoads$Road" "at" "[I", .methodLink RX2 75 yX2_wordAfter, .instanceMethod yX2_wordAfter, .selects RX2 yX2_wordAfter yX2_wordAfter, .initialized RX2, .code yX2_wordAfter cX2_wordAfter 3 (some .int), .fieldLink RX2 44 "PulpitRoads$Road" "words" "I"] ++ wsX20)
def wsX2_wordBehind : List Cond := .code yX2_wordBehind cX2_wordBehind 4 (some .int) :: ([.fieldLink RX2 24 "PulpitRoads$Road" "word" "[I", .fieldLink RX2 18 "PulpitRoads$Road" "kindOf" "[I", .fieldLink RX2 9 "PulpitRoads$Road" "grade" "[I", .fieldLink RX2 21 "PulpitRoads$Road" "at" "[I", .methodLink RX2 75 yX2_wordAfter, .instanceMethod yX2_wordAfter, .selects RX2 yX2_wordAfter yX2_wordAfter, .initialized RX2, .code yX2_wordAfter cX2_wordAfter 3 (some .int), .fieldLink RX2 44 "PulpitRoads$Road" "words" "I"] ++ wsX20)
def wsX2_stretchBehind : List Cond := .code yX2_stretchBehind cX2_stretchBehind 4 (some .int) :: ([.fieldLink RX2 18 "PulpitRoads$Road" "kindOf" "[I", .fieldLink RX2 21 "PulpitRoads$Road" "at" "[I", .fieldLink RX2 47 "PulpitRoads$Road" "hard" "I", .methodLink RX2 78 yX2_beforeOf, .instanceMethod yX2_beforeOf, .selects RX2 yX2_beforeOf yX2_beforeOf, .initialized RX2, .code yX2_beforeOf cX2_beforeOf 2 (some .int), .fieldLink RX2 38 "PulpitRoads$Road" "stretches" "I", .methodLink RX2 81 yX2_nextOf, .instanceMethod yX2_nextOf, .selects RX2 yX2_nextOf yX2_nextOf, .code yX2_nextOf cX2_nextOf 2 (some .int)] ++ wsX20)
def wsX2_pass_r1 : List Cond := [Cond.fieldLink RX2 21 "PulpitRoads$Road" "at" "[I", Cond.fieldLink RX2 27 "PulpitRoads$Road" "saidNow" "[I", Cond.fieldLink RX2 15 "PulpitRoads$Road" "heardAt" "[I", Cond.fieldLink RX2 24 "PulpitRoads$Road" "word" "[I", Cond.methodLink RX2 61 yX2_sayings, Cond.instanceMethod yX2_sayings, Cond.selects RX2 yX2_sayings yX2_sayings, Cond.initialized RX2, Cond.code yX2_sayings cX2_sayings 5 (some .int), Cond.fieldLink RX2 18 "PulpitRoads$Road" "kindOf" "[I", Cond.fieldLink RX2 9 "PulpitRoads$Road" "grade" "[I", Cond.methodLink RX2 75 yX2_wordAfter, Cond.instanceMethod yX2_wordAfter, Cond.selects RX2 yX2_wordAfter yX2_wordAfter, Cond.code yX2_wordAfter cX2_wordAfter 3 (some .int), Cond.fieldLink RX2 44 "PulpitRoads$Road" "words" "I", Cond.methodLink RX2 65 yX2_wordBehind, Cond.instanceMethod yX2_wordBehind, Cond.selects RX2 yX2_wordBehind yX2_wordBehind, Cond.code yX2_wordBehind cX2_wordBehind 4 (some .int), Cond.methodLink RX2 68 yX2_stretchBehind, Cond.instanceMethod yX2_stretchBehind, Cond.selects RX2 yX2_stretchBehind yX2_stretchBehind, Cond.code yX2_stretchBehind cX2_stretchBehind 4 (some .int)]
def wsX2_pass_r2 : List Cond := [Cond.fieldLink RX2 47 "PulpitRoads$Road" "hard" "I", Cond.methodLink RX2 78 yX2_beforeOf, Cond.instanceMethod yX2_beforeOf, Cond.selects RX2 yX2_beforeOf yX2_beforeOf, Cond.code yX2_beforeOf cX2_beforeOf 2 (some .int), Cond.fieldLink RX2 38 "PulpitRoads$Road" "stretches" "I", Cond.methodLink RX2 81 yX2_nextOf, Cond.instanceMethod yX2_nextOf, Cond.selects RX2 yX2_nextOf yX2_nextOf, Cond.code yX2_nextOf cX2_nextOf 2 (some .int)]
def wsX2_pass : List Cond := .code yX2_pass cX2_pass 4 none :: ((wsX2_pass_r1 ++ wsX2_pass_r2) ++ wsX20)
def wsX2_goHour_r1 : List Cond := [Cond.fieldLink RX2 38 "PulpitRoads$Road" "stretches" "I", Cond.fieldLink RX2 27 "PulpitRoads$Road" "saidNow" "[I", Cond.fieldLink RX2 41 "PulpitRoads$Road" "pulpits" "I", Cond.fieldLink RX2 34 "PulpitRoads$Road" "hour" "I", Cond.methodLink RX2 53 yX2_councils, Cond.instanceMethod yX2_councils, Cond.selects RX2 yX2_councils yX2_councils, Cond.initialized RX2, Cond.code yX2_councils cX2_councils 4 (some .int), Cond.fieldLink RX2 21 "PulpitRoads$Road" "at" "[I", Cond.methodLink RX2 57 yX2_pass, Cond.instanceMethod yX2_pass, Cond.selects RX2 yX2_pass yX2_pass, Cond.code yX2_pass cX2_pass 4 none, Cond.fieldLink RX2 15 "PulpitRoads$Road" "heardAt" "[I", Cond.fieldLink RX2 24 "PulpitRoads$Road" "word" "[I", Cond.methodLink RX2 61 yX2_sayings, Cond.instanceMethod yX2_sayings, Cond.selects RX2 yX2_sayings yX2_sayings, Cond.code yX2_sayings cX2_sayings 5 (some .int), Cond.fieldLink RX2 18 "PulpitRoads$Road" "kindOf" "[I", Cond.fieldLink RX2 9 "PulpitRoads$Road" "grade" "[I", Cond.methodLink RX2 75 yX2_wordAfter, Cond.instanceMethod yX2_wordAfter]
def wsX2_goHour_r2 : List Cond := [Cond.selects RX2 yX2_wordAfter yX2_wordAfter, Cond.code yX2_wordAfter cX2_wordAfter 3 (some .int), Cond.fieldLink RX2 44 "PulpitRoads$Road" "words" "I", Cond.methodLink RX2 65 yX2_wordBehind, Cond.instanceMethod yX2_wordBehind, Cond.selects RX2 yX2_wordBehind yX2_wordBehind, Cond.code yX2_wordBehind cX2_wordBehind 4 (some .int), Cond.methodLink RX2 68 yX2_stretchBehind, Cond.instanceMethod yX2_stretchBehind, Cond.selects RX2 yX2_stretchBehind yX2_stretchBehind, Cond.code yX2_stretchBehind cX2_stretchBehind 4 (some .int), Cond.fieldLink RX2 47 "PulpitRoads$Road" "hard" "I", Cond.methodLink RX2 78 yX2_beforeOf, Cond.instanceMethod yX2_beforeOf, Cond.selects RX2 yX2_beforeOf yX2_beforeOf, Cond.code yX2_beforeOf cX2_beforeOf 2 (some .int), Cond.methodLink RX2 81 yX2_nextOf, Cond.instanceMethod yX2_nextOf, Cond.selects RX2 yX2_nextOf yX2_nextOf, Cond.code yX2_nextOf cX2_nextOf 2 (some .int)]
def wsX2_goHour : List Cond := .code yX2_goHour cX2_goHour 3 none :: ((wsX2_goHour_r1 ++ wsX2_goHour_r2) ++ wsX20)
def wsX2_goHours_r1 : List Cond := [Cond.methodLink RX2 50 yX2_goHour, Cond.instanceMethod yX2_goHour, Cond.selects RX2 yX2_goHour yX2_goHour, Cond.initialized RX2, Cond.code yX2_goHour cX2_goHour 3 none, Cond.fieldLink RX2 38 "PulpitRoads$Road" "stretches" "I", Cond.fieldLink RX2 27 "PulpitRoads$Road" "saidNow" "[I", Cond.fieldLink RX2 41 "PulpitRoads$Road" "pulpits" "I", Cond.fieldLink RX2 34 "PulpitRoads$Road" "hour" "I", Cond.methodLink RX2 53 yX2_councils, Cond.instanceMethod yX2_councils, Cond.selects RX2 yX2_councils yX2_councils, Cond.code yX2_councils cX2_councils 4 (some .int), Cond.fieldLink RX2 21 "PulpitRoads$Road" "at" "[I", Cond.methodLink RX2 57 yX2_pass, Cond.instanceMethod yX2_pass, Cond.selects RX2 yX2_pass yX2_pass, Cond.code yX2_pass cX2_pass 4 none, Cond.fieldLink RX2 15 "PulpitRoads$Road" "heardAt" "[I", Cond.fieldLink RX2 24 "PulpitRoads$Road" "word" "[I", Cond.methodLink RX2 61 yX2_sayings, Cond.instanceMethod yX2_sayings, Cond.selects RX2 yX2_sayings yX2_sayings, Cond.code yX2_sayings cX2_sayings 5 (some .int)]
def wsX2_goHours_r2 : List Cond := [Cond.fieldLink RX2 18 "PulpitRoads$Road" "kindOf" "[I", Cond.fieldLink RX2 9 "PulpitRoads$Road" "grade" "[I", Cond.methodLink RX2 75 yX2_wordAfter, Cond.instanceMethod yX2_wordAfter, Cond.selects RX2 yX2_wordAfter yX2_wordAfter, Cond.code yX2_wordAfter cX2_wordAfter 3 (some .int), Cond.fieldLink RX2 44 "PulpitRoads$Road" "words" "I", Cond.methodLink RX2 65 yX2_wordBehind, Cond.instanceMethod yX2_wordBehind, Cond.selects RX2 yX2_wordBehind yX2_wordBehind, Cond.code yX2_wordBehind cX2_wordBehind 4 (some .int), Cond.methodLink RX2 68 yX2_stretchBehind, Cond.instanceMethod yX2_stretchBehind, Cond.selects RX2 yX2_stretchBehind yX2_stretchBehind, Cond.code yX2_stretchBehind cX2_stretchBehind 4 (some .int), Cond.fieldLink RX2 47 "PulpitRoads$Road" "hard" "I", Cond.methodLink RX2 78 yX2_beforeOf, Cond.instanceMethod yX2_beforeOf, Cond.selects RX2 yX2_beforeOf yX2_beforeOf, Cond.code yX2_beforeOf cX2_beforeOf 2 (some .int), Cond.methodLink RX2 81 yX2_nextOf, Cond.instanceMethod yX2_nextOf, Cond.selects RX2 yX2_nextOf yX2_nextOf, Cond.code yX2_nextOf cX2_nextOf 2 (some .int)]
def wsX2_goHours : List Cond := .code yX2_goHours cX2_goHours 3 none :: ((wsX2_goHours_r1 ++ wsX2_goHours_r2) ++ wsX20)
def wsX2_pulpitsOn : List Cond := .code yX2_pulpitsOn cX2_pulpitsOn 4 (some .int) :: ([.fieldLink RX2 41 "PulpitRoads$Road" "pulpits" "I", .fieldLink RX2 21 "PulpitRoads$Road" "at" "[I"] ++ wsX20)
def wsX2_hasPulpitsAs : List Cond := .code yX2_hasPulpitsAs cX2_hasPulpitsAs 3 (some .boolean) :: ([.fieldLink RX2 41 "PulpitRoads$Road" "pulpits" "I", .fieldLink RX2 21 "PulpitRoads$Road" "at" "[I", .fieldLink RX2 24 "PulpitRoads$Road" "word" "[I"] ++ wsX20)
def wsX2_wholeGates : List Cond := .code yX2_wholeGates cX2_wholeGates 3 (some .int) :: ([.fieldLink RX2 38 "PulpitRoads$Road" "stretches" "I", .fieldLink RX2 15 "PulpitRoads$Road" "heardAt" "[I", .methodLink RX2 84 yX2_allWords, .instanceMethod yX2_allWords, .selects RX2 yX2_allWords yX2_allWords, .initialized RX2, .code yX2_allWords cX2_allWords 1 (some .int), .fieldLink RX2 44 "PulpitRoads$Road" "words" "I"] ++ wsX20)
def wsX2_heardAtAny : List Cond := .code yX2_heardAtAny cX2_heardAtAny 4 (some .int) :: ([.fieldLink RX2 38 "PulpitRoads$Road" "stretches" "I", .fieldLink RX2 15 "PulpitRoads$Road" "heardAt" "[I"] ++ wsX20)
def wsJ6_bitCount_0f7a4 : List Cond := .code yJ6_bitCount_0f7a4 cJ6_bitCount_0f7a4 1 (some .int) :: ([.constant RJ6 265 (1431655765), .constant RJ6 266 (858993459), .constant RJ6 267 (252645135)])
def wsX2_wordsHeard : List Cond := .code yX2_wordsHeard cX2_wordsHeard 3 (some .int) :: ([.fieldLink RX2 38 "PulpitRoads$Road" "stretches" "I", .fieldLink RX2 15 "PulpitRoads$Road" "heardAt" "[I", .methodLink RX2 87 yJ6_bitCount_0f7a4, .static yJ6_bitCount_0f7a4, .initialized RJ6, .code yJ6_bitCount_0f7a4 cJ6_bitCount_0f7a4 1 (some .int), .constant RJ6 265 (1431655765), .constant RJ6 266 (858993459), .constant RJ6 267 (252645135)] ++ wsX20)
def wsX3_init : List Cond := .code yX3_init cX3_init 1 none :: ([.methodLink RX3 3 objectInit, .instanceMethod objectInit, .code objectInit ⟨#[0xb1]⟩ 1 none, .arrayClass .int, .fieldLink RX3 9 "PulpitRoads$Row" "items" "[I", .fieldLink RX3 15 "PulpitRoads$Row" "missing" "Z"] ++ wsX30)
def wsX3_begin : List Cond := .code yX3_begin cX3_begin 4 none :: ([.fieldLink RX3 15 "PulpitRoads$Row" "missing" "Z", .fieldLink RX3 19 "PulpitRoads$Row" "lane" "I", .fieldLink RX3 23 "PulpitRoads$Row" "length" "I", .fieldLink RX3 9 "PulpitRoads$Row" "items" "[I"] ++ wsX30)
def wsX3_hasPlaces : List Cond := .code yX3_hasPlaces cX3_hasPlaces 3 (some .boolean) :: ([.fieldLink RX3 23 "PulpitRoads$Row" "length" "I"] ++ wsX30)
def wsX3_cut : List Cond := .code yX3_cut cX3_cut 2 (some .int) :: ([.fieldLink RX3 19 "PulpitRoads$Row" "lane" "I"] ++ wsX30)
def wsX4_init : List Cond := .code yX4_init cX4_init 1 none :: ([.methodLink RX4 3 objectInit, .instanceMethod objectInit, .code objectInit ⟨#[0xb1]⟩ 1 none, .arrayClass .int, .fieldLink RX4 9 "PulpitRoads$Tape" "bytes" "[I"] ++ wsX40)
def wsX4_add : List Cond := .code yX4_add cX4_add 2 none :: ([.fieldLink RX4 15 "PulpitRoads$Tape" "length" "I", .fieldLink RX4 9 "PulpitRoads$Tape" "bytes" "[I"] ++ wsX40)
def wsX4_letterAt : List Cond := .code yX4_letterAt cX4_letterAt 2 (some .int) :: ([.fieldLink RX4 15 "PulpitRoads$Tape" "length" "I", .fieldLink RX4 9 "PulpitRoads$Tape" "bytes" "[I"] ++ wsX40)
def wsX4_letterHere : List Cond := .code yX4_letterHere cX4_letterHere 1 (some .int) :: ([.fieldLink RX4 24 "PulpitRoads$Tape" "place" "I", .methodLink RX4 86 yX4_letterAt, .instanceMethod yX4_letterAt, .selects RX4 yX4_letterAt yX4_letterAt, .initialized RX4, .code yX4_letterAt cX4_letterAt 2 (some .int), .fieldLink RX4 15 "PulpitRoads$Tape" "length" "I", .fieldLink RX4 9 "PulpitRoads$Tape" "bytes" "[I"] ++ wsX40)
def wsX4_blame : List Cond := .code yX4_blame cX4_blame 2 (some .boolean) :: ([.fieldLink RX4 27 "PulpitRoads$Tape" "faultNumber" "I"] ++ wsX40)
def wsX4_takeSign : List Cond := .code yX4_takeSign cX4_takeSign 2 (some .boolean) :: ([.fieldLink RX4 24 "PulpitRoads$Tape" "place" "I", .methodLink RX4 54 yX4_letterHere, .instanceMethod yX4_letterHere, .selects RX4 yX4_letterHere yX4_letterHere, .initialized RX4, .code yX4_letterHere cX4_letterHere 1 (some .int), .methodLink RX4 86 yX4_letterAt, .instanceMethod yX4_letterAt, .selects RX4 yX4_letterAt yX4_letterAt, .code yX4_letterAt cX4_letterAt 2 (some .int), .fieldLink RX4 15 "PulpitRoads$Tape" "length" "I", .fieldLink RX4 9 "PulpitRoads$Tape" "bytes" "[I", .methodLink RX4 64 yX4_blame, .instanceMethod yX4_blame, .selects RX4 yX4_blame yX4_blame, .code yX4_blame cX4_blame 2 (some .boolean), .fieldLink RX4 27 "PulpitRoads$Tape" "faultNumber" "I"] ++ wsX40)
def wsX4_isFigure : List Cond := .code yX4_isFigure cX4_isFigure 3 (some .boolean) :: ([.methodLink RX4 86 yX4_letterAt, .instanceMethod yX4_letterAt, .selects RX4 yX4_letterAt yX4_letterAt, .initialized RX4, .code yX4_letterAt cX4_letterAt 2 (some .int), .fieldLink RX4 15 "PulpitRoads$Tape" "length" "I", .fieldLink RX4 9 "PulpitRoads$Tape" "bytes" "[I"] ++ wsX40)
def wsX4_takeNumber : List Cond := .code yX4_takeNumber cX4_takeNumber 5 (some .int) :: ([.fieldLink RX4 24 "PulpitRoads$Tape" "place" "I", .fieldLink RX4 9 "PulpitRoads$Tape" "bytes" "[I", .methodLink RX4 90 yX4_isFigure, .instanceMethod yX4_isFigure, .selects RX4 yX4_isFigure yX4_isFigure, .initialized RX4, .code yX4_isFigure cX4_isFigure 3 (some .boolean), .methodLink RX4 86 yX4_letterAt, .instanceMethod yX4_letterAt, .selects RX4 yX4_letterAt yX4_letterAt, .code yX4_letterAt cX4_letterAt 2 (some .int), .fieldLink RX4 15 "PulpitRoads$Tape" "length" "I", .methodLink RX4 64 yX4_blame, .instanceMethod yX4_blame, .selects RX4 yX4_blame yX4_blame, .code yX4_blame cX4_blame 2 (some .boolean), .fieldLink RX4 27 "PulpitRoads$Tape" "faultNumber" "I"] ++ wsX40)
def wsX4_readLaw_r1 : List Cond := [Cond.fieldLink RX4 27 "PulpitRoads$Tape" "faultNumber" "I", Cond.methodLink RX4 40 yX4_takeSign, Cond.instanceMethod yX4_takeSign, Cond.selects RX4 yX4_takeSign yX4_takeSign, Cond.initialized RX4, Cond.code yX4_takeSign cX4_takeSign 2 (some .boolean), Cond.fieldLink RX4 24 "PulpitRoads$Tape" "place" "I", Cond.methodLink RX4 54 yX4_letterHere, Cond.instanceMethod yX4_letterHere, Cond.selects RX4 yX4_letterHere yX4_letterHere, Cond.code yX4_letterHere cX4_letterHere 1 (some .int), Cond.methodLink RX4 86 yX4_letterAt, Cond.instanceMethod yX4_letterAt, Cond.selects RX4 yX4_letterAt yX4_letterAt, Cond.code yX4_letterAt cX4_letterAt 2 (some .int), Cond.fieldLink RX4 15 "PulpitRoads$Tape" "length" "I", Cond.fieldLink RX4 9 "PulpitRoads$Tape" "bytes" "[I", Cond.methodLink RX4 64 yX4_blame, Cond.instanceMethod yX4_blame, Cond.selects RX4 yX4_blame yX4_blame, Cond.code yX4_blame cX4_blame 2 (some .boolean), Cond.methodLink RX4 44 yX4_takeNumber, Cond.instanceMethod yX4_takeNumber, Cond.selects RX4 yX4_takeNumber yX4_takeNumber]
def wsX4_readLaw_r2 : List Cond := [Cond.code yX4_takeNumber cX4_takeNumber 5 (some .int), Cond.methodLink RX4 90 yX4_isFigure, Cond.instanceMethod yX4_isFigure, Cond.selects RX4 yX4_isFigure yX4_isFigure, Cond.code yX4_isFigure cX4_isFigure 3 (some .boolean)]
def wsX4_readLaw : List Cond := .code yX4_readLaw cX4_readLaw 2 (some .boolean) :: ((wsX4_readLaw_r1 ++ wsX4_readLaw_r2) ++ wsX20 ++ wsX40)
def wsX4_readStretches_r1 : List Cond := [Cond.fieldLink RX4 27 "PulpitRoads$Tape" "faultNumber" "I", Cond.methodLink RX4 54 yX4_letterHere, Cond.instanceMethod yX4_letterHere, Cond.selects RX4 yX4_letterHere yX4_letterHere, Cond.initialized RX4, Cond.code yX4_letterHere cX4_letterHere 1 (some .int), Cond.fieldLink RX4 24 "PulpitRoads$Tape" "place" "I", Cond.methodLink RX4 86 yX4_letterAt, Cond.instanceMethod yX4_letterAt, Cond.selects RX4 yX4_letterAt yX4_letterAt, Cond.code yX4_letterAt cX4_letterAt 2 (some .int), Cond.fieldLink RX4 15 "PulpitRoads$Tape" "length" "I", Cond.fieldLink RX4 9 "PulpitRoads$Tape" "bytes" "[I", Cond.methodLink RX4 40 yX4_takeSign, Cond.instanceMethod yX4_takeSign, Cond.selects RX4 yX4_takeSign yX4_takeSign, Cond.code yX4_takeSign cX4_takeSign 2 (some .boolean), Cond.methodLink RX4 64 yX4_blame, Cond.instanceMethod yX4_blame, Cond.selects RX4 yX4_blame yX4_blame, Cond.code yX4_blame cX4_blame 2 (some .boolean), Cond.methodLink RX4 44 yX4_takeNumber, Cond.instanceMethod yX4_takeNumber, Cond.selects RX4 yX4_takeNumber yX4_takeNumber]
def wsX4_readStretches_r2 : List Cond := [Cond.code yX4_takeNumber cX4_takeNumber 5 (some .int), Cond.methodLink RX4 90 yX4_isFigure, Cond.instanceMethod yX4_isFigure, Cond.selects RX4 yX4_isFigure yX4_isFigure, Cond.code yX4_isFigure cX4_isFigure 3 (some .boolean)]
def wsX4_readStretches : List Cond := .code yX4_readStretches cX4_readStretches 3 (some .boolean) :: ((wsX4_readStretches_r1 ++ wsX4_readStretches_r2) ++ wsX20 ++ wsX40)
def wsX4_kindHere : List Cond := .code yX4_kindHere cX4_kindHere 1 (some .int) :: ([.methodLink RX4 54 yX4_letterHere, .instanceMethod yX4_letterHere, .selects RX4 yX4_letterHere yX4_letterHere, .initialized RX4, .code yX4_letterHere cX4_letterHere 1 (some .int), .fieldLink RX4 24 "PulpitRoads$Tape" "place" "I", .methodLink RX4 86 yX4_letterAt, .instanceMethod yX4_letterAt, .selects RX4 yX4_letterAt yX4_letterAt, .code yX4_letterAt cX4_letterAt 2 (some .int), .fieldLink RX4 15 "PulpitRoads$Tape" "length" "I", .fieldLink RX4 9 "PulpitRoads$Tape" "bytes" "[I"] ++ wsX40)
def wsX4_readPulpit_r1 : List Cond := [Cond.fieldLink RX4 27 "PulpitRoads$Tape" "faultNumber" "I", Cond.methodLink RX4 44 yX4_takeNumber, Cond.instanceMethod yX4_takeNumber, Cond.selects RX4 yX4_takeNumber yX4_takeNumber, Cond.initialized RX4, Cond.code yX4_takeNumber cX4_takeNumber 5 (some .int), Cond.fieldLink RX4 24 "PulpitRoads$Tape" "place" "I", Cond.fieldLink RX4 9 "PulpitRoads$Tape" "bytes" "[I", Cond.methodLink RX4 90 yX4_isFigure, Cond.instanceMethod yX4_isFigure, Cond.selects RX4 yX4_isFigure yX4_isFigure, Cond.code yX4_isFigure cX4_isFigure 3 (some .boolean), Cond.methodLink RX4 86 yX4_letterAt, Cond.instanceMethod yX4_letterAt, Cond.selects RX4 yX4_letterAt yX4_letterAt, Cond.code yX4_letterAt cX4_letterAt 2 (some .int), Cond.fieldLink RX4 15 "PulpitRoads$Tape" "length" "I", Cond.methodLink RX4 64 yX4_blame, Cond.instanceMethod yX4_blame, Cond.selects RX4 yX4_blame yX4_blame, Cond.code yX4_blame cX4_blame 2 (some .boolean), Cond.methodLink RX4 40 yX4_takeSign, Cond.instanceMethod yX4_takeSign, Cond.selects RX4 yX4_takeSign yX4_takeSign]
def wsX4_readPulpit_r2 : List Cond := [Cond.code yX4_takeSign cX4_takeSign 2 (some .boolean), Cond.methodLink RX4 54 yX4_letterHere, Cond.instanceMethod yX4_letterHere, Cond.selects RX4 yX4_letterHere yX4_letterHere, Cond.code yX4_letterHere cX4_letterHere 1 (some .int)]
def wsX4_readPulpit : List Cond := .code yX4_readPulpit cX4_readPulpit 3 (some .boolean) :: ((wsX4_readPulpit_r1 ++ wsX4_readPulpit_r2) ++ wsX20 ++ wsX40)
def wsX4_readPulpits_r1 : List Cond := [Cond.fieldLink RX4 24 "PulpitRoads$Tape" "place" "I", Cond.fieldLink RX4 15 "PulpitRoads$Tape" "length" "I", Cond.methodLink RX4 67 yX4_kindHere, Cond.instanceMethod yX4_kindHere, Cond.selects RX4 yX4_kindHere yX4_kindHere, Cond.initialized RX4, Cond.code yX4_kindHere cX4_kindHere 1 (some .int), Cond.methodLink RX4 54 yX4_letterHere, Cond.instanceMethod yX4_letterHere, Cond.selects RX4 yX4_letterHere yX4_letterHere, Cond.code yX4_letterHere cX4_letterHere 1 (some .int), Cond.methodLink RX4 86 yX4_letterAt, Cond.instanceMethod yX4_letterAt, Cond.selects RX4 yX4_letterAt yX4_letterAt, Cond.code yX4_letterAt cX4_letterAt 2 (some .int), Cond.fieldLink RX4 9 "PulpitRoads$Tape" "bytes" "[I", Cond.methodLink RX4 64 yX4_blame, Cond.instanceMethod yX4_blame, Cond.selects RX4 yX4_blame yX4_blame, Cond.code yX4_blame cX4_blame 2 (some .boolean), Cond.fieldLink RX4 27 "PulpitRoads$Tape" "faultNumber" "I", Cond.methodLink RX4 70 yX4_readPulpit, Cond.instanceMethod yX4_readPulpit, Cond.selects RX4 yX4_readPulpit yX4_readPulpit]
def wsX4_readPulpits_r2 : List Cond := [Cond.code yX4_readPulpit cX4_readPulpit 3 (some .boolean), Cond.methodLink RX4 44 yX4_takeNumber, Cond.instanceMethod yX4_takeNumber, Cond.selects RX4 yX4_takeNumber yX4_takeNumber, Cond.code yX4_takeNumber cX4_takeNumber 5 (some .int), Cond.methodLink RX4 90 yX4_isFigure, Cond.instanceMethod yX4_isFigure, Cond.selects RX4 yX4_isFigure yX4_isFigure, Cond.code yX4_isFigure cX4_isFigure 3 (some .boolean), Cond.methodLink RX4 40 yX4_takeSign, Cond.instanceMethod yX4_takeSign, Cond.selects RX4 yX4_takeSign yX4_takeSign, Cond.code yX4_takeSign cX4_takeSign 2 (some .boolean)]
def wsX4_readPulpits : List Cond := .code yX4_readPulpits cX4_readPulpits 4 (some .boolean) :: ((wsX4_readPulpits_r1 ++ wsX4_readPulpits_r2) ++ wsX40 ++ wsX20)
def wsX4_readInto_r1 : List Cond := [Cond.fieldLink RX4 24 "PulpitRoads$Tape" "place" "I", Cond.fieldLink RX4 27 "PulpitRoads$Tape" "faultNumber" "I", Cond.instanceMethod yX2_begin, Cond.initialized RX2, Cond.selects RX2 yX2_begin yX2_begin, Cond.code yX2_begin cX2_begin 2 none, Cond.fieldLink RX2 30 "PulpitRoads$Road" "stands" "Z", Cond.fieldLink RX2 34 "PulpitRoads$Road" "hour" "I", Cond.fieldLink RX2 38 "PulpitRoads$Road" "stretches" "I", Cond.fieldLink RX2 41 "PulpitRoads$Road" "pulpits" "I", Cond.fieldLink RX2 15 "PulpitRoads$Road" "heardAt" "[I", Cond.methodLink RX4 30 yX4_readLaw, Cond.instanceMethod yX4_readLaw, Cond.selects RX4 yX4_readLaw yX4_readLaw, Cond.initialized RX4, Cond.code yX4_readLaw cX4_readLaw 2 (some .boolean), Cond.methodLink RX4 40 yX4_takeSign, Cond.instanceMethod yX4_takeSign, Cond.selects RX4 yX4_takeSign yX4_takeSign, Cond.code yX4_takeSign cX4_takeSign 2 (some .boolean), Cond.methodLink RX4 54 yX4_letterHere, Cond.instanceMethod yX4_letterHere, Cond.selects RX4 yX4_letterHere yX4_letterHere, Cond.code yX4_letterHere cX4_letterHere 1 (some .int)]
def wsX4_readInto_r2 : List Cond := [Cond.methodLink RX4 86 yX4_letterAt, Cond.instanceMethod yX4_letterAt, Cond.selects RX4 yX4_letterAt yX4_letterAt, Cond.code yX4_letterAt cX4_letterAt 2 (some .int), Cond.fieldLink RX4 15 "PulpitRoads$Tape" "length" "I", Cond.fieldLink RX4 9 "PulpitRoads$Tape" "bytes" "[I", Cond.methodLink RX4 64 yX4_blame, Cond.instanceMethod yX4_blame, Cond.selects RX4 yX4_blame yX4_blame, Cond.code yX4_blame cX4_blame 2 (some .boolean), Cond.methodLink RX4 44 yX4_takeNumber, Cond.instanceMethod yX4_takeNumber, Cond.selects RX4 yX4_takeNumber yX4_takeNumber, Cond.code yX4_takeNumber cX4_takeNumber 5 (some .int), Cond.methodLink RX4 90 yX4_isFigure, Cond.instanceMethod yX4_isFigure, Cond.selects RX4 yX4_isFigure yX4_isFigure, Cond.code yX4_isFigure cX4_isFigure 3 (some .boolean), Cond.methodLink RX4 34 yX4_readStretches, Cond.instanceMethod yX4_readStretches, Cond.selects RX4 yX4_readStretches yX4_readStretches, Cond.code yX4_readStretches cX4_readStretches 3 (some .boolean), Cond.methodLink RX4 37 yX4_readPulpits, Cond.instanceMethod yX4_readPulpits]
def wsX4_readInto_r3 : List Cond := [Cond.selects RX4 yX4_readPulpits yX4_readPulpits, Cond.code yX4_readPulpits cX4_readPulpits 4 (some .boolean), Cond.methodLink RX4 67 yX4_kindHere, Cond.instanceMethod yX4_kindHere, Cond.selects RX4 yX4_kindHere yX4_kindHere, Cond.code yX4_kindHere cX4_kindHere 1 (some .int), Cond.methodLink RX4 70 yX4_readPulpit, Cond.instanceMethod yX4_readPulpit, Cond.selects RX4 yX4_readPulpit yX4_readPulpit, Cond.code yX4_readPulpit cX4_readPulpit 3 (some .boolean)]
def wsX4_readInto : List Cond := .code yX4_readInto cX4_readInto 2 (some .boolean) :: ((wsX4_readInto_r1 ++ (wsX4_readInto_r2 ++ wsX4_readInto_r3)) ++ wsX40 ++ wsX20)
def wsX5_init_r1 : List Cond := [Cond.methodLink RX5 1 objectInit, Cond.instanceMethod objectInit, Cond.code objectInit ⟨#[0xb1]⟩ 1 none, Cond.classLink RX5 9 RX3, Cond.fieldLink RX5 11 "PulpitRoads" "rows" "[LPulpitRoads$Row;", Cond.classLink RX5 15 RX4, Cond.instantiable RX4 4, Cond.initialized RX4, Cond.fieldLink RX5 18 "PulpitRoads" "tape" "LPulpitRoads$Tape;", Cond.classLink RX5 22 RX2, Cond.instantiable RX2 12, Cond.initialized RX2, Cond.fieldLink RX5 25 "PulpitRoads" "now" "LPulpitRoads$Road;", Cond.fieldLink RX5 29 "PulpitRoads" "foretold" "LPulpitRoads$Road;", Cond.arrayClass .int, Cond.fieldLink RX5 32 "PulpitRoads" "saidAhead" "[I", Cond.fieldLink RX5 36 "PulpitRoads" "images" "[LPulpitRoads$Road;", Cond.classLink RX5 40 RX0, Cond.instantiable RX0 3, Cond.initialized RX0, Cond.fieldLink RX5 43 "PulpitRoads" "acts" "LPulpitRoads$Acts;", Cond.classLink RX5 47 RX1, Cond.instantiable RX1 2, Cond.initialized RX1]
def wsX5_init_r2 : List Cond := [Cond.fieldLink RX5 50 "PulpitRoads" "bodies" "LPulpitRoads$Bodies;", Cond.instantiable RX3 4, Cond.initialized RX3, Cond.instanceMethod yX4_init, Cond.code yX4_init cX4_init 1 none, Cond.methodLink RX4 3 objectInit, Cond.fieldLink RX4 9 "PulpitRoads$Tape" "bytes" "[I", Cond.instanceMethod yX2_init, Cond.code yX2_init cX2_init 1 none, Cond.methodLink RX2 3 objectInit, Cond.fieldLink RX2 9 "PulpitRoads$Road" "grade" "[I", Cond.fieldLink RX2 15 "PulpitRoads$Road" "heardAt" "[I", Cond.fieldLink RX2 18 "PulpitRoads$Road" "kindOf" "[I", Cond.fieldLink RX2 21 "PulpitRoads$Road" "at" "[I", Cond.fieldLink RX2 24 "PulpitRoads$Road" "word" "[I", Cond.fieldLink RX2 27 "PulpitRoads$Road" "saidNow" "[I", Cond.instanceMethod yX0_init, Cond.code yX0_init cX0_init 1 none, Cond.methodLink RX0 3 objectInit, Cond.fieldLink RX0 11 "PulpitRoads$Acts" "ring" "[I", Cond.instanceMethod yX1_init, Cond.code yX1_init cX1_init 1 none, Cond.methodLink RX1 3 objectInit, Cond.fieldLink RX1 11 "PulpitRoads$Bodies" "numbers" "[I"]
def wsX5_init_r3 : List Cond := [Cond.instanceMethod yX3_init, Cond.code yX3_init cX3_init 1 none, Cond.methodLink RX3 3 objectInit, Cond.fieldLink RX3 9 "PulpitRoads$Row" "items" "[I", Cond.fieldLink RX3 15 "PulpitRoads$Row" "missing" "Z"]
def wsX5_init : List Cond := .code yX5_init cX5_init 2 none :: ((wsX5_init_r1 ++ (wsX5_init_r2 ++ wsX5_init_r3)) ++ wsX50 ++ wsX40 ++ wsX20 ++ wsX00 ++ wsX10 ++ wsX30)
def wsX5_isRow : List Cond := .code yX5_isRow cX5_isRow 1 (some .boolean) :: ([])
def wsX5_found : List Cond := .code yX5_found cX5_found 2 (some .int) :: ([.fieldLink RX5 273 "PulpitRoads" "latestFinding" "I", .constant RX5 276 (-1000010)] ++ wsX50)
def wsX5_foundNothing : List Cond := .code yX5_foundNothing cX5_foundNothing 2 (some .int) :: ([.fieldLink RX5 273 "PulpitRoads" "latestFinding" "I"] ++ wsX50)
def wsX5_row : List Cond := .code yX5_row cX5_row 4 (some .int) :: ([.constant RX5 59 (-1000001), .fieldLink RX5 11 "PulpitRoads" "rows" "[LPulpitRoads$Row;", .methodLink RX5 55 yX5_isRow, .static yX5_isRow, .initialized RX5, .code yX5_isRow cX5_isRow 1 (some .boolean), .methodLink RX5 60 yX5_found, .instanceMethod yX5_found, .selects RX5 yX5_found yX5_found, .code yX5_found cX5_found 2 (some .int), .fieldLink RX5 273 "PulpitRoads" "latestFinding" "I", .constant RX5 276 (-1000010), .instanceMethod yX3_begin, .initialized RX3, .selects RX3 yX3_begin yX3_begin, .code yX3_begin cX3_begin 4 none, .fieldLink RX3 15 "PulpitRoads$Row" "missing" "Z", .fieldLink RX3 19 "PulpitRoads$Row" "lane" "I", .fieldLink RX3 23 "PulpitRoads$Row" "length" "I", .fieldLink RX3 9 "PulpitRoads$Row" "items" "[I", .methodLink RX5 68 yX5_foundNothing, .instanceMethod yX5_foundNothing, .selects RX5 yX5_foundNothing yX5_foundNothing, .code yX5_foundNothing cX5_foundNothing 2 (some .int)] ++ wsX50 ++ wsX30)
def wsX5_set_r1 : List Cond := [Cond.constant RX5 59 (-1000001), Cond.fieldLink RX5 11 "PulpitRoads" "rows" "[LPulpitRoads$Row;", Cond.methodLink RX5 55 yX5_isRow, Cond.static yX5_isRow, Cond.initialized RX5, Cond.code yX5_isRow cX5_isRow 1 (some .boolean), Cond.methodLink RX5 60 yX5_found, Cond.instanceMethod yX5_found, Cond.selects RX5 yX5_found yX5_found, Cond.code yX5_found cX5_found 2 (some .int), Cond.fieldLink RX5 273 "PulpitRoads" "latestFinding" "I", Cond.constant RX5 276 (-1000010), Cond.instanceMethod yX3_hasPlaces, Cond.initialized RX3, Cond.selects RX3 yX3_hasPlaces yX3_hasPlaces, Cond.code yX3_hasPlaces cX3_hasPlaces 3 (some .boolean), Cond.fieldLink RX3 23 "PulpitRoads$Row" "length" "I", Cond.instanceMethod yX3_cut, Cond.selects RX3 yX3_cut yX3_cut, Cond.code yX3_cut cX3_cut 2 (some .int), Cond.fieldLink RX3 19 "PulpitRoads$Row" "lane" "I", Cond.methodLink RX5 68 yX5_foundNothing, Cond.instanceMethod yX5_foundNothing, Cond.selects RX5 yX5_foundNothing yX5_foundNothing]
def wsX5_set_r2 : List Cond := [Cond.code yX5_foundNothing cX5_foundNothing 2 (some .int)]
def wsX5_set : List Cond := .code yX5_set cX5_set 5 (some .int) :: ((wsX5_set_r1 ++ wsX5_set_r2) ++ wsX50 ++ wsX30)
def wsX5_copy_r1 : List Cond := [Cond.constant RX5 59 (-1000001), Cond.fieldLink RX5 11 "PulpitRoads" "rows" "[LPulpitRoads$Row;", Cond.methodLink RX5 89 arraycopyName, Cond.native arraycopyName, Cond.static arraycopyName, Cond.initialized "java/lang/System", Cond.methodLink RX5 55 yX5_isRow, Cond.static yX5_isRow, Cond.initialized RX5, Cond.code yX5_isRow cX5_isRow 1 (some .boolean), Cond.methodLink RX5 60 yX5_found, Cond.instanceMethod yX5_found, Cond.selects RX5 yX5_found yX5_found, Cond.code yX5_found cX5_found 2 (some .int), Cond.fieldLink RX5 273 "PulpitRoads" "latestFinding" "I", Cond.constant RX5 276 (-1000010), Cond.instanceMethod yX3_hasPlaces, Cond.initialized RX3, Cond.selects RX3 yX3_hasPlaces yX3_hasPlaces, Cond.code yX3_hasPlaces cX3_hasPlaces 3 (some .boolean), Cond.fieldLink RX3 23 "PulpitRoads$Row" "length" "I", Cond.methodLink RX5 68 yX5_foundNothing, Cond.instanceMethod yX5_foundNothing, Cond.selects RX5 yX5_foundNothing yX5_foundNothing]
def wsX5_copy_r2 : List Cond := [Cond.code yX5_foundNothing cX5_foundNothing 2 (some .int)]
def wsX5_copy : List Cond := .code yX5_copy cX5_copy 8 (some .int) :: ((wsX5_copy_r1 ++ wsX5_copy_r2) ++ wsX50 ++ wsX30)
def wsX5_drop : List Cond := .code yX5_drop cX5_drop 3 (some .int) :: ([.constant RX5 59 (-1000001), .fieldLink RX5 11 "PulpitRoads" "rows" "[LPulpitRoads$Row;", .methodLink RX5 55 yX5_isRow, .static yX5_isRow, .initialized RX5, .code yX5_isRow cX5_isRow 1 (some .boolean), .methodLink RX5 60 yX5_found, .instanceMethod yX5_found, .selects RX5 yX5_found yX5_found, .code yX5_found cX5_found 2 (some .int), .fieldLink RX5 273 "PulpitRoads" "latestFinding" "I", .constant RX5 276 (-1000010), .methodLink RX5 68 yX5_foundNothing, .instanceMethod yX5_foundNothing, .selects RX5 yX5_foundNothing yX5_foundNothing, .code yX5_foundNothing cX5_foundNothing 2 (some .int)] ++ wsX50 ++ wsX30)
def wsX5_feed : List Cond := .code yX5_feed cX5_feed 2 (some .int) :: ([.constant RX5 59 (-1000001), .fieldLink RX5 18 "PulpitRoads" "tape" "LPulpitRoads$Tape;", .constant RX5 99 (-1000003), .instanceMethod yX4_add, .initialized RX4, .selects RX4 yX4_add yX4_add, .code yX4_add cX4_add 2 none, .fieldLink RX4 15 "PulpitRoads$Tape" "length" "I", .fieldLink RX4 9 "PulpitRoads$Tape" "bytes" "[I"] ++ wsX50 ++ wsX40)
def wsX5_road_r1 : List Cond := [Cond.fieldLink RX5 18 "PulpitRoads" "tape" "LPulpitRoads$Tape;", Cond.fieldLink RX5 29 "PulpitRoads" "foretold" "LPulpitRoads$Road;", Cond.fieldLink RX5 111 "PulpitRoads" "latestFault" "I", Cond.constant RX5 114 (-1000100), Cond.fieldLink RX5 25 "PulpitRoads" "now" "LPulpitRoads$Road;", Cond.fieldLink RX5 43 "PulpitRoads" "acts" "LPulpitRoads$Acts;", Cond.instanceMethod yX4_readInto, Cond.initialized RX4, Cond.selects RX4 yX4_readInto yX4_readInto, Cond.code yX4_readInto cX4_readInto 2 (some .boolean), Cond.fieldLink RX4 24 "PulpitRoads$Tape" "place" "I", Cond.fieldLink RX4 27 "PulpitRoads$Tape" "faultNumber" "I", Cond.instanceMethod yX2_begin, Cond.initialized RX2, Cond.selects RX2 yX2_begin yX2_begin, Cond.code yX2_begin cX2_begin 2 none, Cond.fieldLink RX2 30 "PulpitRoads$Road" "stands" "Z", Cond.fieldLink RX2 34 "PulpitRoads$Road" "hour" "I", Cond.fieldLink RX2 38 "PulpitRoads$Road" "stretches" "I", Cond.fieldLink RX2 41 "PulpitRoads$Road" "pulpits" "I", Cond.fieldLink RX2 15 "PulpitRoads$Road" "heardAt" "[I", Cond.methodLink RX4 30 yX4_readLaw, Cond.instanceMethod yX4_readLaw, Cond.selects RX4 yX4_readLaw yX4_readLaw]
def wsX5_road_r2 : List Cond := [Cond.code yX4_readLaw cX4_readLaw 2 (some .boolean), Cond.methodLink RX4 40 yX4_takeSign, Cond.instanceMethod yX4_takeSign, Cond.selects RX4 yX4_takeSign yX4_takeSign, Cond.code yX4_takeSign cX4_takeSign 2 (some .boolean), Cond.methodLink RX4 54 yX4_letterHere, Cond.instanceMethod yX4_letterHere, Cond.selects RX4 yX4_letterHere yX4_letterHere, Cond.code yX4_letterHere cX4_letterHere 1 (some .int), Cond.methodLink RX4 86 yX4_letterAt, Cond.instanceMethod yX4_letterAt, Cond.selects RX4 yX4_letterAt yX4_letterAt, Cond.code yX4_letterAt cX4_letterAt 2 (some .int), Cond.fieldLink RX4 15 "PulpitRoads$Tape" "length" "I", Cond.fieldLink RX4 9 "PulpitRoads$Tape" "bytes" "[I", Cond.methodLink RX4 64 yX4_blame, Cond.instanceMethod yX4_blame, Cond.selects RX4 yX4_blame yX4_blame, Cond.code yX4_blame cX4_blame 2 (some .boolean), Cond.methodLink RX4 44 yX4_takeNumber, Cond.instanceMethod yX4_takeNumber, Cond.selects RX4 yX4_takeNumber yX4_takeNumber, Cond.code yX4_takeNumber cX4_takeNumber 5 (some .int), Cond.methodLink RX4 90 yX4_isFigure]
def wsX5_road_r3 : List Cond := [Cond.instanceMethod yX4_isFigure, Cond.selects RX4 yX4_isFigure yX4_isFigure, Cond.code yX4_isFigure cX4_isFigure 3 (some .boolean), Cond.methodLink RX4 34 yX4_readStretches, Cond.instanceMethod yX4_readStretches, Cond.selects RX4 yX4_readStretches yX4_readStretches, Cond.code yX4_readStretches cX4_readStretches 3 (some .boolean), Cond.methodLink RX4 37 yX4_readPulpits, Cond.instanceMethod yX4_readPulpits, Cond.selects RX4 yX4_readPulpits yX4_readPulpits, Cond.code yX4_readPulpits cX4_readPulpits 4 (some .boolean), Cond.methodLink RX4 67 yX4_kindHere, Cond.instanceMethod yX4_kindHere, Cond.selects RX4 yX4_kindHere yX4_kindHere, Cond.code yX4_kindHere cX4_kindHere 1 (some .int), Cond.methodLink RX4 70 yX4_readPulpit, Cond.instanceMethod yX4_readPulpit, Cond.selects RX4 yX4_readPulpit yX4_readPulpit, Cond.code yX4_readPulpit cX4_readPulpit 3 (some .boolean), Cond.instanceMethod yX2_take, Cond.selects RX2 yX2_take yX2_take, Cond.code yX2_take cX2_take 3 none, Cond.fieldLink RX2 44 "PulpitRoads$Road" "words" "I", Cond.fieldLink RX2 47 "PulpitRoads$Road" "hard" "I"]
def wsX5_road_r4 : List Cond := [Cond.fieldLink RX2 9 "PulpitRoads$Road" "grade" "[I", Cond.fieldLink RX2 18 "PulpitRoads$Road" "kindOf" "[I", Cond.fieldLink RX2 21 "PulpitRoads$Road" "at" "[I", Cond.fieldLink RX2 24 "PulpitRoads$Road" "word" "[I"]
def wsX5_road : List Cond := .code yX5_road cX5_road 2 (some .int) :: ((wsX5_road_r1 ++ (wsX5_road_r2 ++ (wsX5_road_r3 ++ wsX5_road_r4))) ++ wsX50 ++ wsX40 ++ wsX00 ++ wsX20)
def wsX5_fault : List Cond := .code yX5_fault cX5_fault 1 (some .int) :: ([.fieldLink RX5 111 "PulpitRoads" "latestFault" "I"] ++ wsX50)
def wsX5_hours_r1 : List Cond := [Cond.fieldLink RX5 25 "PulpitRoads" "now" "LPulpitRoads$Road;", Cond.constant RX5 131 (-1000002), Cond.constant RX5 59 (-1000001), Cond.constant RX5 99 (-1000003), Cond.fieldLink RX5 43 "PulpitRoads" "acts" "LPulpitRoads$Acts;", Cond.instanceMethod yX0_keep, Cond.initialized RX0, Cond.selects RX0 yX0_keep yX0_keep, Cond.code yX0_keep cX0_keep 4 none, Cond.fieldLink RX0 15 "PulpitRoads$Acts" "end" "I", Cond.fieldLink RX0 11 "PulpitRoads$Acts" "ring" "[I", Cond.fieldLink RX0 33 "PulpitRoads$Acts" "kept" "I", Cond.methodLink RX0 36 Lib.Math.min.name, Cond.static Lib.Math.min.name, Cond.initialized "java/lang/Math", Cond.code Lib.Math.min.name Lib.Math.min.code 2 (some .int), Cond.instanceMethod yX2_goHour, Cond.initialized RX2, Cond.selects RX2 yX2_goHour yX2_goHour, Cond.code yX2_goHour cX2_goHour 3 none, Cond.fieldLink RX2 38 "PulpitRoads$Road" "stretches" "I", Cond.fieldLink RX2 27 "PulpitRoads$Road" "saidNow" "[I", Cond.fieldLink RX2 41 "PulpitRoads$Road" "pulpits" "I", Cond.fieldLink RX2 34 "PulpitRoads$Road" "hour" "I"]
def wsX5_hours_r2 : List Cond := [Cond.methodLink RX2 53 yX2_councils, Cond.instanceMethod yX2_councils, Cond.selects RX2 yX2_councils yX2_councils, Cond.code yX2_councils cX2_councils 4 (some .int), Cond.fieldLink RX2 21 "PulpitRoads$Road" "at" "[I", Cond.methodLink RX2 57 yX2_pass, Cond.instanceMethod yX2_pass, Cond.selects RX2 yX2_pass yX2_pass, Cond.code yX2_pass cX2_pass 4 none, Cond.fieldLink RX2 15 "PulpitRoads$Road" "heardAt" "[I", Cond.fieldLink RX2 24 "PulpitRoads$Road" "word" "[I", Cond.methodLink RX2 61 yX2_sayings, Cond.instanceMethod yX2_sayings, Cond.selects RX2 yX2_sayings yX2_sayings, Cond.code yX2_sayings cX2_sayings 5 (some .int), Cond.fieldLink RX2 18 "PulpitRoads$Road" "kindOf" "[I", Cond.fieldLink RX2 9 "PulpitRoads$Road" "grade" "[I", Cond.methodLink RX2 75 yX2_wordAfter, Cond.instanceMethod yX2_wordAfter, Cond.selects RX2 yX2_wordAfter yX2_wordAfter, Cond.code yX2_wordAfter cX2_wordAfter 3 (some .int), Cond.fieldLink RX2 44 "PulpitRoads$Road" "words" "I", Cond.methodLink RX2 65 yX2_wordBehind, Cond.instanceMethod yX2_wordBehind]
def wsX5_hours_r3 : List Cond := [Cond.selects RX2 yX2_wordBehind yX2_wordBehind, Cond.code yX2_wordBehind cX2_wordBehind 4 (some .int), Cond.methodLink RX2 68 yX2_stretchBehind, Cond.instanceMethod yX2_stretchBehind, Cond.selects RX2 yX2_stretchBehind yX2_stretchBehind, Cond.code yX2_stretchBehind cX2_stretchBehind 4 (some .int), Cond.fieldLink RX2 47 "PulpitRoads$Road" "hard" "I", Cond.methodLink RX2 78 yX2_beforeOf, Cond.instanceMethod yX2_beforeOf, Cond.selects RX2 yX2_beforeOf yX2_beforeOf, Cond.code yX2_beforeOf cX2_beforeOf 2 (some .int), Cond.methodLink RX2 81 yX2_nextOf, Cond.instanceMethod yX2_nextOf, Cond.selects RX2 yX2_nextOf yX2_nextOf, Cond.code yX2_nextOf cX2_nextOf 2 (some .int), Cond.instanceMethod yX2_wholeGates, Cond.selects RX2 yX2_wholeGates yX2_wholeGates, Cond.code yX2_wholeGates cX2_wholeGates 3 (some .int), Cond.methodLink RX2 84 yX2_allWords, Cond.instanceMethod yX2_allWords, Cond.selects RX2 yX2_allWords yX2_allWords, Cond.code yX2_allWords cX2_allWords 1 (some .int)]
def wsX5_hours : List Cond := .code yX5_hours cX5_hours 3 (some .int) :: ((wsX5_hours_r1 ++ (wsX5_hours_r2 ++ wsX5_hours_r3)) ++ wsX50 ++ wsX20 ++ wsX00)
def wsX5_isPulpit : List Cond := .code yX5_isPulpit cX5_isPulpit 2 (some .boolean) :: ([.fieldLink RX5 25 "PulpitRoads" "now" "LPulpitRoads$Road;"] ++ wsX50 ++ wsX20)
def wsX5_isStretch : List Cond := .code yX5_isStretch cX5_isStretch 2 (some .boolean) :: ([.fieldLink RX5 25 "PulpitRoads" "now" "LPulpitRoads$Road;"] ++ wsX50 ++ wsX20)
def wsX5_put : List Cond := .code yX5_put cX5_put 4 (some .int) :: ([.constant RX5 59 (-1000001), .fieldLink RX5 25 "PulpitRoads" "now" "LPulpitRoads$Road;", .constant RX5 131 (-1000002), .fieldLink RX5 43 "PulpitRoads" "acts" "LPulpitRoads$Acts;", .methodLink RX5 145 yX5_isPulpit, .instanceMethod yX5_isPulpit, .selects RX5 yX5_isPulpit yX5_isPulpit, .initialized RX5, .code yX5_isPulpit cX5_isPulpit 2 (some .boolean), .methodLink RX5 148 yX5_isStretch, .instanceMethod yX5_isStretch, .selects RX5 yX5_isStretch yX5_isStretch, .code yX5_isStretch cX5_isStretch 2 (some .boolean), .instanceMethod yX0_keep, .initialized RX0, .selects RX0 yX0_keep yX0_keep, .code yX0_keep cX0_keep 4 none, .fieldLink RX0 15 "PulpitRoads$Acts" "end" "I", .fieldLink RX0 11 "PulpitRoads$Acts" "ring" "[I", .fieldLink RX0 33 "PulpitRoads$Acts" "kept" "I", .methodLink RX0 36 Lib.Math.min.name, .static Lib.Math.min.name, .initialized "java/lang/Math", .code Lib.Math.min.name Lib.Math.min.code 2 (some .int)] ++ wsX50 ++ wsX20 ++ wsX00)
def wsX5_isWord : List Cond := .code yX5_isWord cX5_isWord 2 (some .boolean) :: ([.fieldLink RX5 25 "PulpitRoads" "now" "LPulpitRoads$Road;"] ++ wsX50 ++ wsX20)
def wsX5_skip : List Cond := .code yX5_skip cX5_skip 4 (some .int) :: ([.constant RX5 59 (-1000001), .fieldLink RX5 25 "PulpitRoads" "now" "LPulpitRoads$Road;", .fieldLink RX5 43 "PulpitRoads" "acts" "LPulpitRoads$Acts;", .methodLink RX5 145 yX5_isPulpit, .instanceMethod yX5_isPulpit, .selects RX5 yX5_isPulpit yX5_isPulpit, .initialized RX5, .code yX5_isPulpit cX5_isPulpit 2 (some .boolean), .methodLink RX5 154 yX5_isWord, .instanceMethod yX5_isWord, .selects RX5 yX5_isWord yX5_isWord, .code yX5_isWord cX5_isWord 2 (some .boolean), .instanceMethod yX0_keep, .initialized RX0, .selects RX0 yX0_keep yX0_keep, .code yX0_keep cX0_keep 4 none, .fieldLink RX0 15 "PulpitRoads$Acts" "end" "I", .fieldLink RX0 11 "PulpitRoads$Acts" "ring" "[I", .fieldLink RX0 33 "PulpitRoads$Acts" "kept" "I", .methodLink RX0 36 Lib.Math.min.name, .static Lib.Math.min.name, .initialized "java/lang/Math", .code Lib.Math.min.name Lib.Math.min.code 2 (some .int)] ++ wsX50 ++ wsX20 ++ wsX00)
def wsX5_forget_r1 : List Cond := [Cond.constant RX5 59 (-1000001), Cond.fieldLink RX5 25 "PulpitRoads" "now" "LPulpitRoads$Road;", Cond.constant RX5 131 (-1000002), Cond.fieldLink RX5 43 "PulpitRoads" "acts" "LPulpitRoads$Acts;", Cond.methodLink RX5 148 yX5_isStretch, Cond.instanceMethod yX5_isStretch, Cond.selects RX5 yX5_isStretch yX5_isStretch, Cond.initialized RX5, Cond.code yX5_isStretch cX5_isStretch 2 (some .boolean), Cond.methodLink RX5 163 yJ6_bitCount_0f7a4, Cond.static yJ6_bitCount_0f7a4, Cond.initialized RJ6, Cond.code yJ6_bitCount_0f7a4 cJ6_bitCount_0f7a4 1 (some .int), Cond.constant RJ6 265 (1431655765), Cond.constant RJ6 266 (858993459), Cond.constant RJ6 267 (252645135), Cond.instanceMethod yX0_keep, Cond.initialized RX0, Cond.selects RX0 yX0_keep yX0_keep, Cond.code yX0_keep cX0_keep 4 none, Cond.fieldLink RX0 15 "PulpitRoads$Acts" "end" "I", Cond.fieldLink RX0 11 "PulpitRoads$Acts" "ring" "[I", Cond.fieldLink RX0 33 "PulpitRoads$Acts" "kept" "I", Cond.methodLink RX0 36 Lib.Math.min.name]
def wsX5_forget_r2 : List Cond := [Cond.static Lib.Math.min.name, Cond.initialized "java/lang/Math", Cond.code Lib.Math.min.name Lib.Math.min.code 2 (some .int)]
def wsX5_forget : List Cond := .code yX5_forget cX5_forget 3 (some .int) :: ((wsX5_forget_r1 ++ wsX5_forget_r2) ++ wsX50 ++ wsX20 ++ wsX00)
def wsX5_undo : List Cond := .code yX5_undo cX5_undo 1 (some .int) :: ([.fieldLink RX5 43 "PulpitRoads" "acts" "LPulpitRoads$Acts;", .constant RX5 131 (-1000002), .fieldLink RX5 25 "PulpitRoads" "now" "LPulpitRoads$Road;", .instanceMethod yX0_giveBack, .initialized RX0, .selects RX0 yX0_giveBack yX0_giveBack, .code yX0_giveBack cX0_giveBack 4 none, .fieldLink RX0 15 "PulpitRoads$Acts" "end" "I", .fieldLink RX0 33 "PulpitRoads$Acts" "kept" "I", .fieldLink RX0 11 "PulpitRoads$Acts" "ring" "[I"] ++ wsX50 ++ wsX00 ++ wsX20)
def wsX5_pulpit : List Cond := .code yX5_pulpit cX5_pulpit 3 (some .int) :: ([.constant RX5 59 (-1000001), .fieldLink RX5 25 "PulpitRoads" "now" "LPulpitRoads$Road;", .methodLink RX5 145 yX5_isPulpit, .instanceMethod yX5_isPulpit, .selects RX5 yX5_isPulpit yX5_isPulpit, .initialized RX5, .code yX5_isPulpit cX5_isPulpit 2 (some .boolean), .instanceMethod yX2_councils, .initialized RX2, .selects RX2 yX2_councils yX2_councils, .code yX2_councils cX2_councils 4 (some .int), .fieldLink RX2 41 "PulpitRoads$Road" "pulpits" "I", .fieldLink RX2 21 "PulpitRoads$Road" "at" "[I", .instanceMethod yX2_sayings, .selects RX2 yX2_sayings yX2_sayings, .code yX2_sayings cX2_sayings 5 (some .int), .fieldLink RX2 18 "PulpitRoads$Road" "kindOf" "[I", .fieldLink RX2 24 "PulpitRoads$Road" "word" "[I", .fieldLink RX2 9 "PulpitRoads$Road" "grade" "[I", .methodLink RX2 75 yX2_wordAfter, .instanceMethod yX2_wordAfter, .selects RX2 yX2_wordAfter yX2_wordAfter, .code yX2_wordAfter cX2_wordAfter 3 (some .int), .fieldLink RX2 44 "PulpitRoads$Road" "words" "I"] ++ wsX50 ++ wsX20)
def wsX5_stretch : List Cond := .code yX5_stretch cX5_stretch 3 (some .int) :: ([.constant RX5 59 (-1000001), .fieldLink RX5 25 "PulpitRoads" "now" "LPulpitRoads$Road;", .methodLink RX5 148 yX5_isStretch, .instanceMethod yX5_isStretch, .selects RX5 yX5_isStretch yX5_isStretch, .initialized RX5, .code yX5_isStretch cX5_isStretch 2 (some .boolean), .instanceMethod yX2_pulpitsOn, .initialized RX2, .selects RX2 yX2_pulpitsOn yX2_pulpitsOn, .code yX2_pulpitsOn cX2_pulpitsOn 4 (some .int), .fieldLink RX2 41 "PulpitRoads$Road" "pulpits" "I", .fieldLink RX2 21 "PulpitRoads$Road" "at" "[I"] ++ wsX50 ++ wsX20)
def wsX5_isWithin : List Cond := .code yX5_isWithin cX5_isWithin 3 (some .boolean) :: ([])
def wsX5_foretell_r1 : List Cond := [Cond.fieldLink RX5 29 "PulpitRoads" "foretold" "LPulpitRoads$Road;", Cond.fieldLink RX5 25 "PulpitRoads" "now" "LPulpitRoads$Road;", Cond.instanceMethod yX2_take, Cond.initialized RX2, Cond.selects RX2 yX2_take yX2_take, Cond.code yX2_take cX2_take 3 none, Cond.fieldLink RX2 30 "PulpitRoads$Road" "stands" "Z", Cond.fieldLink RX2 44 "PulpitRoads$Road" "words" "I", Cond.fieldLink RX2 47 "PulpitRoads$Road" "hard" "I", Cond.fieldLink RX2 34 "PulpitRoads$Road" "hour" "I", Cond.fieldLink RX2 38 "PulpitRoads$Road" "stretches" "I", Cond.fieldLink RX2 41 "PulpitRoads$Road" "pulpits" "I", Cond.fieldLink RX2 9 "PulpitRoads$Road" "grade" "[I", Cond.fieldLink RX2 15 "PulpitRoads$Road" "heardAt" "[I", Cond.fieldLink RX2 18 "PulpitRoads$Road" "kindOf" "[I", Cond.fieldLink RX2 21 "PulpitRoads$Road" "at" "[I", Cond.fieldLink RX2 24 "PulpitRoads$Road" "word" "[I", Cond.instanceMethod yX2_goHours, Cond.selects RX2 yX2_goHours yX2_goHours, Cond.code yX2_goHours cX2_goHours 3 none, Cond.methodLink RX2 50 yX2_goHour, Cond.instanceMethod yX2_goHour, Cond.selects RX2 yX2_goHour yX2_goHour, Cond.code yX2_goHour cX2_goHour 3 none]
def wsX5_foretell_r2 : List Cond := [Cond.fieldLink RX2 27 "PulpitRoads$Road" "saidNow" "[I", Cond.methodLink RX2 53 yX2_councils, Cond.instanceMethod yX2_councils, Cond.selects RX2 yX2_councils yX2_councils, Cond.code yX2_councils cX2_councils 4 (some .int), Cond.methodLink RX2 57 yX2_pass, Cond.instanceMethod yX2_pass, Cond.selects RX2 yX2_pass yX2_pass, Cond.code yX2_pass cX2_pass 4 none, Cond.methodLink RX2 61 yX2_sayings, Cond.instanceMethod yX2_sayings, Cond.selects RX2 yX2_sayings yX2_sayings, Cond.code yX2_sayings cX2_sayings 5 (some .int), Cond.methodLink RX2 75 yX2_wordAfter, Cond.instanceMethod yX2_wordAfter, Cond.selects RX2 yX2_wordAfter yX2_wordAfter, Cond.code yX2_wordAfter cX2_wordAfter 3 (some .int), Cond.methodLink RX2 65 yX2_wordBehind, Cond.instanceMethod yX2_wordBehind, Cond.selects RX2 yX2_wordBehind yX2_wordBehind, Cond.code yX2_wordBehind cX2_wordBehind 4 (some .int), Cond.methodLink RX2 68 yX2_stretchBehind, Cond.instanceMethod yX2_stretchBehind, Cond.selects RX2 yX2_stretchBehind yX2_stretchBehind]
def wsX5_foretell_r3 : List Cond := [Cond.code yX2_stretchBehind cX2_stretchBehind 4 (some .int), Cond.methodLink RX2 78 yX2_beforeOf, Cond.instanceMethod yX2_beforeOf, Cond.selects RX2 yX2_beforeOf yX2_beforeOf, Cond.code yX2_beforeOf cX2_beforeOf 2 (some .int), Cond.methodLink RX2 81 yX2_nextOf, Cond.instanceMethod yX2_nextOf, Cond.selects RX2 yX2_nextOf yX2_nextOf, Cond.code yX2_nextOf cX2_nextOf 2 (some .int)]
def wsX5_foretell : List Cond := .code yX5_foretell cX5_foretell 2 none :: ((wsX5_foretell_r1 ++ (wsX5_foretell_r2 ++ wsX5_foretell_r3)) ++ wsX50 ++ wsX20)
def wsX5_ahead_r1 : List Cond := [Cond.constant RX5 59 (-1000001), Cond.fieldLink RX5 29 "PulpitRoads" "foretold" "LPulpitRoads$Road;", Cond.methodLink RX5 145 yX5_isPulpit, Cond.instanceMethod yX5_isPulpit, Cond.selects RX5 yX5_isPulpit yX5_isPulpit, Cond.initialized RX5, Cond.code yX5_isPulpit cX5_isPulpit 2 (some .boolean), Cond.fieldLink RX5 25 "PulpitRoads" "now" "LPulpitRoads$Road;", Cond.methodLink RX5 183 yX5_isWithin, Cond.static yX5_isWithin, Cond.code yX5_isWithin cX5_isWithin 3 (some .boolean), Cond.methodLink RX5 187 yX5_foretell, Cond.instanceMethod yX5_foretell, Cond.selects RX5 yX5_foretell yX5_foretell, Cond.code yX5_foretell cX5_foretell 2 none, Cond.instanceMethod yX2_take, Cond.initialized RX2, Cond.selects RX2 yX2_take yX2_take, Cond.code yX2_take cX2_take 3 none, Cond.fieldLink RX2 30 "PulpitRoads$Road" "stands" "Z", Cond.fieldLink RX2 44 "PulpitRoads$Road" "words" "I", Cond.fieldLink RX2 47 "PulpitRoads$Road" "hard" "I", Cond.fieldLink RX2 34 "PulpitRoads$Road" "hour" "I", Cond.fieldLink RX2 38 "PulpitRoads$Road" "stretches" "I"]
def wsX5_ahead_r2 : List Cond := [Cond.fieldLink RX2 41 "PulpitRoads$Road" "pulpits" "I", Cond.fieldLink RX2 9 "PulpitRoads$Road" "grade" "[I", Cond.fieldLink RX2 15 "PulpitRoads$Road" "heardAt" "[I", Cond.fieldLink RX2 18 "PulpitRoads$Road" "kindOf" "[I", Cond.fieldLink RX2 21 "PulpitRoads$Road" "at" "[I", Cond.fieldLink RX2 24 "PulpitRoads$Road" "word" "[I", Cond.instanceMethod yX2_goHours, Cond.selects RX2 yX2_goHours yX2_goHours, Cond.code yX2_goHours cX2_goHours 3 none, Cond.methodLink RX2 50 yX2_goHour, Cond.instanceMethod yX2_goHour, Cond.selects RX2 yX2_goHour yX2_goHour, Cond.code yX2_goHour cX2_goHour 3 none, Cond.fieldLink RX2 27 "PulpitRoads$Road" "saidNow" "[I", Cond.methodLink RX2 53 yX2_councils, Cond.instanceMethod yX2_councils, Cond.selects RX2 yX2_councils yX2_councils, Cond.code yX2_councils cX2_councils 4 (some .int), Cond.methodLink RX2 57 yX2_pass, Cond.instanceMethod yX2_pass, Cond.selects RX2 yX2_pass yX2_pass, Cond.code yX2_pass cX2_pass 4 none, Cond.methodLink RX2 61 yX2_sayings, Cond.instanceMethod yX2_sayings]
def wsX5_ahead_r3 : List Cond := [Cond.selects RX2 yX2_sayings yX2_sayings, Cond.code yX2_sayings cX2_sayings 5 (some .int), Cond.methodLink RX2 75 yX2_wordAfter, Cond.instanceMethod yX2_wordAfter, Cond.selects RX2 yX2_wordAfter yX2_wordAfter, Cond.code yX2_wordAfter cX2_wordAfter 3 (some .int), Cond.methodLink RX2 65 yX2_wordBehind, Cond.instanceMethod yX2_wordBehind, Cond.selects RX2 yX2_wordBehind yX2_wordBehind, Cond.code yX2_wordBehind cX2_wordBehind 4 (some .int), Cond.methodLink RX2 68 yX2_stretchBehind, Cond.instanceMethod yX2_stretchBehind, Cond.selects RX2 yX2_stretchBehind yX2_stretchBehind, Cond.code yX2_stretchBehind cX2_stretchBehind 4 (some .int), Cond.methodLink RX2 78 yX2_beforeOf, Cond.instanceMethod yX2_beforeOf, Cond.selects RX2 yX2_beforeOf yX2_beforeOf, Cond.code yX2_beforeOf cX2_beforeOf 2 (some .int), Cond.methodLink RX2 81 yX2_nextOf, Cond.instanceMethod yX2_nextOf, Cond.selects RX2 yX2_nextOf yX2_nextOf, Cond.code yX2_nextOf cX2_nextOf 2 (some .int)]
def wsX5_ahead : List Cond := .code yX5_ahead cX5_ahead 4 (some .int) :: ((wsX5_ahead_r1 ++ (wsX5_ahead_r2 ++ wsX5_ahead_r3)) ++ wsX50 ++ wsX20)
def wsX5_heard_r1 : List Cond := [Cond.constant RX5 59 (-1000001), Cond.fieldLink RX5 29 "PulpitRoads" "foretold" "LPulpitRoads$Road;", Cond.methodLink RX5 148 yX5_isStretch, Cond.instanceMethod yX5_isStretch, Cond.selects RX5 yX5_isStretch yX5_isStretch, Cond.initialized RX5, Cond.code yX5_isStretch cX5_isStretch 2 (some .boolean), Cond.fieldLink RX5 25 "PulpitRoads" "now" "LPulpitRoads$Road;", Cond.methodLink RX5 183 yX5_isWithin, Cond.static yX5_isWithin, Cond.code yX5_isWithin cX5_isWithin 3 (some .boolean), Cond.methodLink RX5 187 yX5_foretell, Cond.instanceMethod yX5_foretell, Cond.selects RX5 yX5_foretell yX5_foretell, Cond.code yX5_foretell cX5_foretell 2 none, Cond.instanceMethod yX2_take, Cond.initialized RX2, Cond.selects RX2 yX2_take yX2_take, Cond.code yX2_take cX2_take 3 none, Cond.fieldLink RX2 30 "PulpitRoads$Road" "stands" "Z", Cond.fieldLink RX2 44 "PulpitRoads$Road" "words" "I", Cond.fieldLink RX2 47 "PulpitRoads$Road" "hard" "I", Cond.fieldLink RX2 34 "PulpitRoads$Road" "hour" "I", Cond.fieldLink RX2 38 "PulpitRoads$Road" "stretches" "I"]
def wsX5_heard_r2 : List Cond := [Cond.fieldLink RX2 41 "PulpitRoads$Road" "pulpits" "I", Cond.fieldLink RX2 9 "PulpitRoads$Road" "grade" "[I", Cond.fieldLink RX2 15 "PulpitRoads$Road" "heardAt" "[I", Cond.fieldLink RX2 18 "PulpitRoads$Road" "kindOf" "[I", Cond.fieldLink RX2 21 "PulpitRoads$Road" "at" "[I", Cond.fieldLink RX2 24 "PulpitRoads$Road" "word" "[I", Cond.instanceMethod yX2_goHours, Cond.selects RX2 yX2_goHours yX2_goHours, Cond.code yX2_goHours cX2_goHours 3 none, Cond.methodLink RX2 50 yX2_goHour, Cond.instanceMethod yX2_goHour, Cond.selects RX2 yX2_goHour yX2_goHour, Cond.code yX2_goHour cX2_goHour 3 none, Cond.fieldLink RX2 27 "PulpitRoads$Road" "saidNow" "[I", Cond.methodLink RX2 53 yX2_councils, Cond.instanceMethod yX2_councils, Cond.selects RX2 yX2_councils yX2_councils, Cond.code yX2_councils cX2_councils 4 (some .int), Cond.methodLink RX2 57 yX2_pass, Cond.instanceMethod yX2_pass, Cond.selects RX2 yX2_pass yX2_pass, Cond.code yX2_pass cX2_pass 4 none, Cond.methodLink RX2 61 yX2_sayings, Cond.instanceMethod yX2_sayings]
def wsX5_heard_r3 : List Cond := [Cond.selects RX2 yX2_sayings yX2_sayings, Cond.code yX2_sayings cX2_sayings 5 (some .int), Cond.methodLink RX2 75 yX2_wordAfter, Cond.instanceMethod yX2_wordAfter, Cond.selects RX2 yX2_wordAfter yX2_wordAfter, Cond.code yX2_wordAfter cX2_wordAfter 3 (some .int), Cond.methodLink RX2 65 yX2_wordBehind, Cond.instanceMethod yX2_wordBehind, Cond.selects RX2 yX2_wordBehind yX2_wordBehind, Cond.code yX2_wordBehind cX2_wordBehind 4 (some .int), Cond.methodLink RX2 68 yX2_stretchBehind, Cond.instanceMethod yX2_stretchBehind, Cond.selects RX2 yX2_stretchBehind yX2_stretchBehind, Cond.code yX2_stretchBehind cX2_stretchBehind 4 (some .int), Cond.methodLink RX2 78 yX2_beforeOf, Cond.instanceMethod yX2_beforeOf, Cond.selects RX2 yX2_beforeOf yX2_beforeOf, Cond.code yX2_beforeOf cX2_beforeOf 2 (some .int), Cond.methodLink RX2 81 yX2_nextOf, Cond.instanceMethod yX2_nextOf, Cond.selects RX2 yX2_nextOf yX2_nextOf, Cond.code yX2_nextOf cX2_nextOf 2 (some .int)]
def wsX5_heard : List Cond := .code yX5_heard cX5_heard 3 (some .int) :: ((wsX5_heard_r1 ++ (wsX5_heard_r2 ++ wsX5_heard_r3)) ++ wsX50 ++ wsX20)
def wsX5_hoursToWhole_r1 : List Cond := [Cond.fieldLink RX5 29 "PulpitRoads" "foretold" "LPulpitRoads$Road;", Cond.constant RX5 196 (-1000000), Cond.methodLink RX5 187 yX5_foretell, Cond.instanceMethod yX5_foretell, Cond.selects RX5 yX5_foretell yX5_foretell, Cond.initialized RX5, Cond.code yX5_foretell cX5_foretell 2 none, Cond.fieldLink RX5 25 "PulpitRoads" "now" "LPulpitRoads$Road;", Cond.instanceMethod yX2_take, Cond.initialized RX2, Cond.selects RX2 yX2_take yX2_take, Cond.code yX2_take cX2_take 3 none, Cond.fieldLink RX2 30 "PulpitRoads$Road" "stands" "Z", Cond.fieldLink RX2 44 "PulpitRoads$Road" "words" "I", Cond.fieldLink RX2 47 "PulpitRoads$Road" "hard" "I", Cond.fieldLink RX2 34 "PulpitRoads$Road" "hour" "I", Cond.fieldLink RX2 38 "PulpitRoads$Road" "stretches" "I", Cond.fieldLink RX2 41 "PulpitRoads$Road" "pulpits" "I", Cond.fieldLink RX2 9 "PulpitRoads$Road" "grade" "[I", Cond.fieldLink RX2 15 "PulpitRoads$Road" "heardAt" "[I", Cond.fieldLink RX2 18 "PulpitRoads$Road" "kindOf" "[I", Cond.fieldLink RX2 21 "PulpitRoads$Road" "at" "[I", Cond.fieldLink RX2 24 "PulpitRoads$Road" "word" "[I", Cond.instanceMethod yX2_goHours]
def wsX5_hoursToWhole_r2 : List Cond := [Cond.selects RX2 yX2_goHours yX2_goHours, Cond.code yX2_goHours cX2_goHours 3 none, Cond.methodLink RX2 50 yX2_goHour, Cond.instanceMethod yX2_goHour, Cond.selects RX2 yX2_goHour yX2_goHour, Cond.code yX2_goHour cX2_goHour 3 none, Cond.fieldLink RX2 27 "PulpitRoads$Road" "saidNow" "[I", Cond.methodLink RX2 53 yX2_councils, Cond.instanceMethod yX2_councils, Cond.selects RX2 yX2_councils yX2_councils, Cond.code yX2_councils cX2_councils 4 (some .int), Cond.methodLink RX2 57 yX2_pass, Cond.instanceMethod yX2_pass, Cond.selects RX2 yX2_pass yX2_pass, Cond.code yX2_pass cX2_pass 4 none, Cond.methodLink RX2 61 yX2_sayings, Cond.instanceMethod yX2_sayings, Cond.selects RX2 yX2_sayings yX2_sayings, Cond.code yX2_sayings cX2_sayings 5 (some .int), Cond.methodLink RX2 75 yX2_wordAfter, Cond.instanceMethod yX2_wordAfter, Cond.selects RX2 yX2_wordAfter yX2_wordAfter, Cond.code yX2_wordAfter cX2_wordAfter 3 (some .int), Cond.methodLink RX2 65 yX2_wordBehind]
def wsX5_hoursToWhole_r3 : List Cond := [Cond.instanceMethod yX2_wordBehind, Cond.selects RX2 yX2_wordBehind yX2_wordBehind, Cond.code yX2_wordBehind cX2_wordBehind 4 (some .int), Cond.methodLink RX2 68 yX2_stretchBehind, Cond.instanceMethod yX2_stretchBehind, Cond.selects RX2 yX2_stretchBehind yX2_stretchBehind, Cond.code yX2_stretchBehind cX2_stretchBehind 4 (some .int), Cond.methodLink RX2 78 yX2_beforeOf, Cond.instanceMethod yX2_beforeOf, Cond.selects RX2 yX2_beforeOf yX2_beforeOf, Cond.code yX2_beforeOf cX2_beforeOf 2 (some .int), Cond.methodLink RX2 81 yX2_nextOf, Cond.instanceMethod yX2_nextOf, Cond.selects RX2 yX2_nextOf yX2_nextOf, Cond.code yX2_nextOf cX2_nextOf 2 (some .int), Cond.instanceMethod yX2_wholeGates, Cond.selects RX2 yX2_wholeGates yX2_wholeGates, Cond.code yX2_wholeGates cX2_wholeGates 3 (some .int), Cond.methodLink RX2 84 yX2_allWords, Cond.instanceMethod yX2_allWords, Cond.selects RX2 yX2_allWords yX2_allWords, Cond.code yX2_allWords cX2_allWords 1 (some .int)]
def wsX5_hoursToWhole : List Cond := .code yX5_hoursToWhole cX5_hoursToWhole 3 (some .int) :: ((wsX5_hoursToWhole_r1 ++ (wsX5_hoursToWhole_r2 ++ wsX5_hoursToWhole_r3)) ++ wsX50 ++ wsX20)
def wsX5_whole_r1 : List Cond := [Cond.constant RX5 59 (-1000001), Cond.methodLink RX5 148 yX5_isStretch, Cond.instanceMethod yX5_isStretch, Cond.selects RX5 yX5_isStretch yX5_isStretch, Cond.initialized RX5, Cond.code yX5_isStretch cX5_isStretch 2 (some .boolean), Cond.fieldLink RX5 25 "PulpitRoads" "now" "LPulpitRoads$Road;", Cond.methodLink RX5 190 yX5_hoursToWhole, Cond.instanceMethod yX5_hoursToWhole, Cond.selects RX5 yX5_hoursToWhole yX5_hoursToWhole, Cond.code yX5_hoursToWhole cX5_hoursToWhole 3 (some .int), Cond.fieldLink RX5 29 "PulpitRoads" "foretold" "LPulpitRoads$Road;", Cond.constant RX5 196 (-1000000), Cond.methodLink RX5 187 yX5_foretell, Cond.instanceMethod yX5_foretell, Cond.selects RX5 yX5_foretell yX5_foretell, Cond.code yX5_foretell cX5_foretell 2 none, Cond.instanceMethod yX2_take, Cond.initialized RX2, Cond.selects RX2 yX2_take yX2_take, Cond.code yX2_take cX2_take 3 none, Cond.fieldLink RX2 30 "PulpitRoads$Road" "stands" "Z", Cond.fieldLink RX2 44 "PulpitRoads$Road" "words" "I", Cond.fieldLink RX2 47 "PulpitRoads$Road" "hard" "I"]
def wsX5_whole_r2 : List Cond := [Cond.fieldLink RX2 34 "PulpitRoads$Road" "hour" "I", Cond.fieldLink RX2 38 "PulpitRoads$Road" "stretches" "I", Cond.fieldLink RX2 41 "PulpitRoads$Road" "pulpits" "I", Cond.fieldLink RX2 9 "PulpitRoads$Road" "grade" "[I", Cond.fieldLink RX2 15 "PulpitRoads$Road" "heardAt" "[I", Cond.fieldLink RX2 18 "PulpitRoads$Road" "kindOf" "[I", Cond.fieldLink RX2 21 "PulpitRoads$Road" "at" "[I", Cond.fieldLink RX2 24 "PulpitRoads$Road" "word" "[I", Cond.instanceMethod yX2_goHours, Cond.selects RX2 yX2_goHours yX2_goHours, Cond.code yX2_goHours cX2_goHours 3 none, Cond.methodLink RX2 50 yX2_goHour, Cond.instanceMethod yX2_goHour, Cond.selects RX2 yX2_goHour yX2_goHour, Cond.code yX2_goHour cX2_goHour 3 none, Cond.fieldLink RX2 27 "PulpitRoads$Road" "saidNow" "[I", Cond.methodLink RX2 53 yX2_councils, Cond.instanceMethod yX2_councils, Cond.selects RX2 yX2_councils yX2_councils, Cond.code yX2_councils cX2_councils 4 (some .int), Cond.methodLink RX2 57 yX2_pass, Cond.instanceMethod yX2_pass, Cond.selects RX2 yX2_pass yX2_pass, Cond.code yX2_pass cX2_pass 4 none]
def wsX5_whole_r3 : List Cond := [Cond.methodLink RX2 61 yX2_sayings, Cond.instanceMethod yX2_sayings, Cond.selects RX2 yX2_sayings yX2_sayings, Cond.code yX2_sayings cX2_sayings 5 (some .int), Cond.methodLink RX2 75 yX2_wordAfter, Cond.instanceMethod yX2_wordAfter, Cond.selects RX2 yX2_wordAfter yX2_wordAfter, Cond.code yX2_wordAfter cX2_wordAfter 3 (some .int), Cond.methodLink RX2 65 yX2_wordBehind, Cond.instanceMethod yX2_wordBehind, Cond.selects RX2 yX2_wordBehind yX2_wordBehind, Cond.code yX2_wordBehind cX2_wordBehind 4 (some .int), Cond.methodLink RX2 68 yX2_stretchBehind, Cond.instanceMethod yX2_stretchBehind, Cond.selects RX2 yX2_stretchBehind yX2_stretchBehind, Cond.code yX2_stretchBehind cX2_stretchBehind 4 (some .int), Cond.methodLink RX2 78 yX2_beforeOf, Cond.instanceMethod yX2_beforeOf, Cond.selects RX2 yX2_beforeOf yX2_beforeOf, Cond.code yX2_beforeOf cX2_beforeOf 2 (some .int), Cond.methodLink RX2 81 yX2_nextOf, Cond.instanceMethod yX2_nextOf, Cond.selects RX2 yX2_nextOf yX2_nextOf, Cond.code yX2_nextOf cX2_nextOf 2 (some .int)]
def wsX5_whole_r4 : List Cond := [Cond.instanceMethod yX2_wholeGates, Cond.selects RX2 yX2_wholeGates yX2_wholeGates, Cond.code yX2_wholeGates cX2_wholeGates 3 (some .int), Cond.methodLink RX2 84 yX2_allWords, Cond.instanceMethod yX2_allWords, Cond.selects RX2 yX2_allWords yX2_allWords, Cond.code yX2_allWords cX2_allWords 1 (some .int)]
def wsX5_whole : List Cond := .code yX5_whole cX5_whole 2 (some .int) :: ((wsX5_whole_r1 ++ (wsX5_whole_r2 ++ (wsX5_whole_r3 ++ wsX5_whole_r4))) ++ wsX50 ++ wsX20)
def wsX5_leastOf : List Cond := .code yX5_leastOf cX5_leastOf 2 (some .int) :: ([.constant RX5 196 (-1000000)])
def wsX5_first_r1 : List Cond := [Cond.fieldLink RX5 25 "PulpitRoads" "now" "LPulpitRoads$Road;", Cond.constant RX5 131 (-1000002), Cond.constant RX5 59 (-1000001), Cond.constant RX5 196 (-1000000), Cond.fieldLink RX5 29 "PulpitRoads" "foretold" "LPulpitRoads$Road;", Cond.methodLink RX5 183 yX5_isWithin, Cond.static yX5_isWithin, Cond.initialized RX5, Cond.code yX5_isWithin cX5_isWithin 3 (some .boolean), Cond.methodLink RX5 190 yX5_hoursToWhole, Cond.instanceMethod yX5_hoursToWhole, Cond.selects RX5 yX5_hoursToWhole yX5_hoursToWhole, Cond.code yX5_hoursToWhole cX5_hoursToWhole 3 (some .int), Cond.methodLink RX5 187 yX5_foretell, Cond.instanceMethod yX5_foretell, Cond.selects RX5 yX5_foretell yX5_foretell, Cond.code yX5_foretell cX5_foretell 2 none, Cond.instanceMethod yX2_take, Cond.initialized RX2, Cond.selects RX2 yX2_take yX2_take, Cond.code yX2_take cX2_take 3 none, Cond.fieldLink RX2 30 "PulpitRoads$Road" "stands" "Z", Cond.fieldLink RX2 44 "PulpitRoads$Road" "words" "I", Cond.fieldLink RX2 47 "PulpitRoads$Road" "hard" "I"]
def wsX5_first_r2 : List Cond := [Cond.fieldLink RX2 34 "PulpitRoads$Road" "hour" "I", Cond.fieldLink RX2 38 "PulpitRoads$Road" "stretches" "I", Cond.fieldLink RX2 41 "PulpitRoads$Road" "pulpits" "I", Cond.fieldLink RX2 9 "PulpitRoads$Road" "grade" "[I", Cond.fieldLink RX2 15 "PulpitRoads$Road" "heardAt" "[I", Cond.fieldLink RX2 18 "PulpitRoads$Road" "kindOf" "[I", Cond.fieldLink RX2 21 "PulpitRoads$Road" "at" "[I", Cond.fieldLink RX2 24 "PulpitRoads$Road" "word" "[I", Cond.instanceMethod yX2_goHours, Cond.selects RX2 yX2_goHours yX2_goHours, Cond.code yX2_goHours cX2_goHours 3 none, Cond.methodLink RX2 50 yX2_goHour, Cond.instanceMethod yX2_goHour, Cond.selects RX2 yX2_goHour yX2_goHour, Cond.code yX2_goHour cX2_goHour 3 none, Cond.fieldLink RX2 27 "PulpitRoads$Road" "saidNow" "[I", Cond.methodLink RX2 53 yX2_councils, Cond.instanceMethod yX2_councils, Cond.selects RX2 yX2_councils yX2_councils, Cond.code yX2_councils cX2_councils 4 (some .int), Cond.methodLink RX2 57 yX2_pass, Cond.instanceMethod yX2_pass, Cond.selects RX2 yX2_pass yX2_pass, Cond.code yX2_pass cX2_pass 4 none]
def wsX5_first_r3 : List Cond := [Cond.methodLink RX2 61 yX2_sayings, Cond.instanceMethod yX2_sayings, Cond.selects RX2 yX2_sayings yX2_sayings, Cond.code yX2_sayings cX2_sayings 5 (some .int), Cond.methodLink RX2 75 yX2_wordAfter, Cond.instanceMethod yX2_wordAfter, Cond.selects RX2 yX2_wordAfter yX2_wordAfter, Cond.code yX2_wordAfter cX2_wordAfter 3 (some .int), Cond.methodLink RX2 65 yX2_wordBehind, Cond.instanceMethod yX2_wordBehind, Cond.selects RX2 yX2_wordBehind yX2_wordBehind, Cond.code yX2_wordBehind cX2_wordBehind 4 (some .int), Cond.methodLink RX2 68 yX2_stretchBehind, Cond.instanceMethod yX2_stretchBehind, Cond.selects RX2 yX2_stretchBehind yX2_stretchBehind, Cond.code yX2_stretchBehind cX2_stretchBehind 4 (some .int), Cond.methodLink RX2 78 yX2_beforeOf, Cond.instanceMethod yX2_beforeOf, Cond.selects RX2 yX2_beforeOf yX2_beforeOf, Cond.code yX2_beforeOf cX2_beforeOf 2 (some .int), Cond.methodLink RX2 81 yX2_nextOf, Cond.instanceMethod yX2_nextOf, Cond.selects RX2 yX2_nextOf yX2_nextOf, Cond.code yX2_nextOf cX2_nextOf 2 (some .int)]
def wsX5_first_r4 : List Cond := [Cond.instanceMethod yX2_wholeGates, Cond.selects RX2 yX2_wholeGates yX2_wholeGates, Cond.code yX2_wholeGates cX2_wholeGates 3 (some .int), Cond.methodLink RX2 84 yX2_allWords, Cond.instanceMethod yX2_allWords, Cond.selects RX2 yX2_allWords yX2_allWords, Cond.code yX2_allWords cX2_allWords 1 (some .int), Cond.methodLink RX5 197 yX5_leastOf, Cond.static yX5_leastOf, Cond.code yX5_leastOf cX5_leastOf 2 (some .int)]
def wsX5_first : List Cond := .code yX5_first cX5_first 3 (some .int) :: ((wsX5_first_r1 ++ (wsX5_first_r2 ++ (wsX5_first_r3 ++ wsX5_first_r4))) ++ wsX50 ++ wsX20)
def wsX5_left_r1 : List Cond := [Cond.fieldLink RX5 25 "PulpitRoads" "now" "LPulpitRoads$Road;", Cond.constant RX5 131 (-1000002), Cond.constant RX5 59 (-1000001), Cond.fieldLink RX5 29 "PulpitRoads" "foretold" "LPulpitRoads$Road;", Cond.methodLink RX5 183 yX5_isWithin, Cond.static yX5_isWithin, Cond.initialized RX5, Cond.code yX5_isWithin cX5_isWithin 3 (some .boolean), Cond.methodLink RX5 187 yX5_foretell, Cond.instanceMethod yX5_foretell, Cond.selects RX5 yX5_foretell yX5_foretell, Cond.code yX5_foretell cX5_foretell 2 none, Cond.instanceMethod yX2_take, Cond.initialized RX2, Cond.selects RX2 yX2_take yX2_take, Cond.code yX2_take cX2_take 3 none, Cond.fieldLink RX2 30 "PulpitRoads$Road" "stands" "Z", Cond.fieldLink RX2 44 "PulpitRoads$Road" "words" "I", Cond.fieldLink RX2 47 "PulpitRoads$Road" "hard" "I", Cond.fieldLink RX2 34 "PulpitRoads$Road" "hour" "I", Cond.fieldLink RX2 38 "PulpitRoads$Road" "stretches" "I", Cond.fieldLink RX2 41 "PulpitRoads$Road" "pulpits" "I", Cond.fieldLink RX2 9 "PulpitRoads$Road" "grade" "[I", Cond.fieldLink RX2 15 "PulpitRoads$Road" "heardAt" "[I"]
def wsX5_left_r2 : List Cond := [Cond.fieldLink RX2 18 "PulpitRoads$Road" "kindOf" "[I", Cond.fieldLink RX2 21 "PulpitRoads$Road" "at" "[I", Cond.fieldLink RX2 24 "PulpitRoads$Road" "word" "[I", Cond.instanceMethod yX2_goHours, Cond.selects RX2 yX2_goHours yX2_goHours, Cond.code yX2_goHours cX2_goHours 3 none, Cond.methodLink RX2 50 yX2_goHour, Cond.instanceMethod yX2_goHour, Cond.selects RX2 yX2_goHour yX2_goHour, Cond.code yX2_goHour cX2_goHour 3 none, Cond.fieldLink RX2 27 "PulpitRoads$Road" "saidNow" "[I", Cond.methodLink RX2 53 yX2_councils, Cond.instanceMethod yX2_councils, Cond.selects RX2 yX2_councils yX2_councils, Cond.code yX2_councils cX2_councils 4 (some .int), Cond.methodLink RX2 57 yX2_pass, Cond.instanceMethod yX2_pass, Cond.selects RX2 yX2_pass yX2_pass, Cond.code yX2_pass cX2_pass 4 none, Cond.methodLink RX2 61 yX2_sayings, Cond.instanceMethod yX2_sayings, Cond.selects RX2 yX2_sayings yX2_sayings, Cond.code yX2_sayings cX2_sayings 5 (some .int), Cond.methodLink RX2 75 yX2_wordAfter]
def wsX5_left_r3 : List Cond := [Cond.instanceMethod yX2_wordAfter, Cond.selects RX2 yX2_wordAfter yX2_wordAfter, Cond.code yX2_wordAfter cX2_wordAfter 3 (some .int), Cond.methodLink RX2 65 yX2_wordBehind, Cond.instanceMethod yX2_wordBehind, Cond.selects RX2 yX2_wordBehind yX2_wordBehind, Cond.code yX2_wordBehind cX2_wordBehind 4 (some .int), Cond.methodLink RX2 68 yX2_stretchBehind, Cond.instanceMethod yX2_stretchBehind, Cond.selects RX2 yX2_stretchBehind yX2_stretchBehind, Cond.code yX2_stretchBehind cX2_stretchBehind 4 (some .int), Cond.methodLink RX2 78 yX2_beforeOf, Cond.instanceMethod yX2_beforeOf, Cond.selects RX2 yX2_beforeOf yX2_beforeOf, Cond.code yX2_beforeOf cX2_beforeOf 2 (some .int), Cond.methodLink RX2 81 yX2_nextOf, Cond.instanceMethod yX2_nextOf, Cond.selects RX2 yX2_nextOf yX2_nextOf, Cond.code yX2_nextOf cX2_nextOf 2 (some .int), Cond.instanceMethod yX2_allWords, Cond.selects RX2 yX2_allWords yX2_allWords, Cond.code yX2_allWords cX2_allWords 1 (some .int), Cond.instanceMethod yX2_heardAtAny, Cond.selects RX2 yX2_heardAtAny yX2_heardAtAny]
def wsX5_left_r4 : List Cond := [Cond.code yX2_heardAtAny cX2_heardAtAny 4 (some .int)]
def wsX5_left : List Cond := .code yX5_left cX5_left 2 (some .int) :: ((wsX5_left_r1 ++ (wsX5_left_r2 ++ (wsX5_left_r3 ++ wsX5_left_r4))) ++ wsX50 ++ wsX20)
def wsX5_meet_r1 : List Cond := [Cond.constant RX5 59 (-1000001), Cond.fieldLink RX5 29 "PulpitRoads" "foretold" "LPulpitRoads$Road;", Cond.constant RX5 196 (-1000000), Cond.methodLink RX5 145 yX5_isPulpit, Cond.instanceMethod yX5_isPulpit, Cond.selects RX5 yX5_isPulpit yX5_isPulpit, Cond.initialized RX5, Cond.code yX5_isPulpit cX5_isPulpit 2 (some .boolean), Cond.fieldLink RX5 25 "PulpitRoads" "now" "LPulpitRoads$Road;", Cond.methodLink RX5 187 yX5_foretell, Cond.instanceMethod yX5_foretell, Cond.selects RX5 yX5_foretell yX5_foretell, Cond.code yX5_foretell cX5_foretell 2 none, Cond.instanceMethod yX2_take, Cond.initialized RX2, Cond.selects RX2 yX2_take yX2_take, Cond.code yX2_take cX2_take 3 none, Cond.fieldLink RX2 30 "PulpitRoads$Road" "stands" "Z", Cond.fieldLink RX2 44 "PulpitRoads$Road" "words" "I", Cond.fieldLink RX2 47 "PulpitRoads$Road" "hard" "I", Cond.fieldLink RX2 34 "PulpitRoads$Road" "hour" "I", Cond.fieldLink RX2 38 "PulpitRoads$Road" "stretches" "I", Cond.fieldLink RX2 41 "PulpitRoads$Road" "pulpits" "I", Cond.fieldLink RX2 9 "PulpitRoads$Road" "grade" "[I"]
def wsX5_meet_r2 : List Cond := [Cond.fieldLink RX2 15 "PulpitRoads$Road" "heardAt" "[I", Cond.fieldLink RX2 18 "PulpitRoads$Road" "kindOf" "[I", Cond.fieldLink RX2 21 "PulpitRoads$Road" "at" "[I", Cond.fieldLink RX2 24 "PulpitRoads$Road" "word" "[I", Cond.instanceMethod yX2_goHours, Cond.selects RX2 yX2_goHours yX2_goHours, Cond.code yX2_goHours cX2_goHours 3 none, Cond.methodLink RX2 50 yX2_goHour, Cond.instanceMethod yX2_goHour, Cond.selects RX2 yX2_goHour yX2_goHour, Cond.code yX2_goHour cX2_goHour 3 none, Cond.fieldLink RX2 27 "PulpitRoads$Road" "saidNow" "[I", Cond.methodLink RX2 53 yX2_councils, Cond.instanceMethod yX2_councils, Cond.selects RX2 yX2_councils yX2_councils, Cond.code yX2_councils cX2_councils 4 (some .int), Cond.methodLink RX2 57 yX2_pass, Cond.instanceMethod yX2_pass, Cond.selects RX2 yX2_pass yX2_pass, Cond.code yX2_pass cX2_pass 4 none, Cond.methodLink RX2 61 yX2_sayings, Cond.instanceMethod yX2_sayings, Cond.selects RX2 yX2_sayings yX2_sayings, Cond.code yX2_sayings cX2_sayings 5 (some .int)]
def wsX5_meet_r3 : List Cond := [Cond.methodLink RX2 75 yX2_wordAfter, Cond.instanceMethod yX2_wordAfter, Cond.selects RX2 yX2_wordAfter yX2_wordAfter, Cond.code yX2_wordAfter cX2_wordAfter 3 (some .int), Cond.methodLink RX2 65 yX2_wordBehind, Cond.instanceMethod yX2_wordBehind, Cond.selects RX2 yX2_wordBehind yX2_wordBehind, Cond.code yX2_wordBehind cX2_wordBehind 4 (some .int), Cond.methodLink RX2 68 yX2_stretchBehind, Cond.instanceMethod yX2_stretchBehind, Cond.selects RX2 yX2_stretchBehind yX2_stretchBehind, Cond.code yX2_stretchBehind cX2_stretchBehind 4 (some .int), Cond.methodLink RX2 78 yX2_beforeOf, Cond.instanceMethod yX2_beforeOf, Cond.selects RX2 yX2_beforeOf yX2_beforeOf, Cond.code yX2_beforeOf cX2_beforeOf 2 (some .int), Cond.methodLink RX2 81 yX2_nextOf, Cond.instanceMethod yX2_nextOf, Cond.selects RX2 yX2_nextOf yX2_nextOf, Cond.code yX2_nextOf cX2_nextOf 2 (some .int)]
def wsX5_meet : List Cond := .code yX5_meet cX5_meet 4 (some .int) :: ((wsX5_meet_r1 ++ (wsX5_meet_r2 ++ wsX5_meet_r3)) ++ wsX50 ++ wsX20)
def wsX5_round_r1 : List Cond := [Cond.fieldLink RX5 25 "PulpitRoads" "now" "LPulpitRoads$Road;", Cond.constant RX5 131 (-1000002), Cond.fieldLink RX5 29 "PulpitRoads" "foretold" "LPulpitRoads$Road;", Cond.constant RX5 196 (-1000000), Cond.methodLink RX5 187 yX5_foretell, Cond.instanceMethod yX5_foretell, Cond.selects RX5 yX5_foretell yX5_foretell, Cond.initialized RX5, Cond.code yX5_foretell cX5_foretell 2 none, Cond.instanceMethod yX2_take, Cond.initialized RX2, Cond.selects RX2 yX2_take yX2_take, Cond.code yX2_take cX2_take 3 none, Cond.fieldLink RX2 30 "PulpitRoads$Road" "stands" "Z", Cond.fieldLink RX2 44 "PulpitRoads$Road" "words" "I", Cond.fieldLink RX2 47 "PulpitRoads$Road" "hard" "I", Cond.fieldLink RX2 34 "PulpitRoads$Road" "hour" "I", Cond.fieldLink RX2 38 "PulpitRoads$Road" "stretches" "I", Cond.fieldLink RX2 41 "PulpitRoads$Road" "pulpits" "I", Cond.fieldLink RX2 9 "PulpitRoads$Road" "grade" "[I", Cond.fieldLink RX2 15 "PulpitRoads$Road" "heardAt" "[I", Cond.fieldLink RX2 18 "PulpitRoads$Road" "kindOf" "[I", Cond.fieldLink RX2 21 "PulpitRoads$Road" "at" "[I", Cond.fieldLink RX2 24 "PulpitRoads$Road" "word" "[I"]
def wsX5_round_r2 : List Cond := [Cond.instanceMethod yX2_goHours, Cond.selects RX2 yX2_goHours yX2_goHours, Cond.code yX2_goHours cX2_goHours 3 none, Cond.methodLink RX2 50 yX2_goHour, Cond.instanceMethod yX2_goHour, Cond.selects RX2 yX2_goHour yX2_goHour, Cond.code yX2_goHour cX2_goHour 3 none, Cond.fieldLink RX2 27 "PulpitRoads$Road" "saidNow" "[I", Cond.methodLink RX2 53 yX2_councils, Cond.instanceMethod yX2_councils, Cond.selects RX2 yX2_councils yX2_councils, Cond.code yX2_councils cX2_councils 4 (some .int), Cond.methodLink RX2 57 yX2_pass, Cond.instanceMethod yX2_pass, Cond.selects RX2 yX2_pass yX2_pass, Cond.code yX2_pass cX2_pass 4 none, Cond.methodLink RX2 61 yX2_sayings, Cond.instanceMethod yX2_sayings, Cond.selects RX2 yX2_sayings yX2_sayings, Cond.code yX2_sayings cX2_sayings 5 (some .int), Cond.methodLink RX2 75 yX2_wordAfter, Cond.instanceMethod yX2_wordAfter, Cond.selects RX2 yX2_wordAfter yX2_wordAfter, Cond.code yX2_wordAfter cX2_wordAfter 3 (some .int)]
def wsX5_round_r3 : List Cond := [Cond.methodLink RX2 65 yX2_wordBehind, Cond.instanceMethod yX2_wordBehind, Cond.selects RX2 yX2_wordBehind yX2_wordBehind, Cond.code yX2_wordBehind cX2_wordBehind 4 (some .int), Cond.methodLink RX2 68 yX2_stretchBehind, Cond.instanceMethod yX2_stretchBehind, Cond.selects RX2 yX2_stretchBehind yX2_stretchBehind, Cond.code yX2_stretchBehind cX2_stretchBehind 4 (some .int), Cond.methodLink RX2 78 yX2_beforeOf, Cond.instanceMethod yX2_beforeOf, Cond.selects RX2 yX2_beforeOf yX2_beforeOf, Cond.code yX2_beforeOf cX2_beforeOf 2 (some .int), Cond.methodLink RX2 81 yX2_nextOf, Cond.instanceMethod yX2_nextOf, Cond.selects RX2 yX2_nextOf yX2_nextOf, Cond.code yX2_nextOf cX2_nextOf 2 (some .int), Cond.instanceMethod yX2_hasPulpitsAs, Cond.selects RX2 yX2_hasPulpitsAs yX2_hasPulpitsAs, Cond.code yX2_hasPulpitsAs cX2_hasPulpitsAs 3 (some .boolean)]
def wsX5_round : List Cond := .code yX5_round cX5_round 2 (some .int) :: ((wsX5_round_r1 ++ (wsX5_round_r2 ++ wsX5_round_r3)) ++ wsX50 ++ wsX20)
def wsX5_best_r1 : List Cond := [Cond.constant RX5 59 (-1000001), Cond.fieldLink RX5 25 "PulpitRoads" "now" "LPulpitRoads$Road;", Cond.fieldLink RX5 29 "PulpitRoads" "foretold" "LPulpitRoads$Road;", Cond.methodLink RX5 145 yX5_isPulpit, Cond.instanceMethod yX5_isPulpit, Cond.selects RX5 yX5_isPulpit yX5_isPulpit, Cond.initialized RX5, Cond.code yX5_isPulpit cX5_isPulpit 2 (some .boolean), Cond.methodLink RX5 148 yX5_isStretch, Cond.instanceMethod yX5_isStretch, Cond.selects RX5 yX5_isStretch yX5_isStretch, Cond.code yX5_isStretch cX5_isStretch 2 (some .boolean), Cond.methodLink RX5 183 yX5_isWithin, Cond.static yX5_isWithin, Cond.code yX5_isWithin cX5_isWithin 3 (some .boolean), Cond.instanceMethod yX2_take, Cond.initialized RX2, Cond.selects RX2 yX2_take yX2_take, Cond.code yX2_take cX2_take 3 none, Cond.fieldLink RX2 30 "PulpitRoads$Road" "stands" "Z", Cond.fieldLink RX2 44 "PulpitRoads$Road" "words" "I", Cond.fieldLink RX2 47 "PulpitRoads$Road" "hard" "I", Cond.fieldLink RX2 34 "PulpitRoads$Road" "hour" "I", Cond.fieldLink RX2 38 "PulpitRoads$Road" "stretches" "I"]
def wsX5_best_r2 : List Cond := [Cond.fieldLink RX2 41 "PulpitRoads$Road" "pulpits" "I", Cond.fieldLink RX2 9 "PulpitRoads$Road" "grade" "[I", Cond.fieldLink RX2 15 "PulpitRoads$Road" "heardAt" "[I", Cond.fieldLink RX2 18 "PulpitRoads$Road" "kindOf" "[I", Cond.fieldLink RX2 21 "PulpitRoads$Road" "at" "[I", Cond.fieldLink RX2 24 "PulpitRoads$Road" "word" "[I", Cond.instanceMethod yX2_goHours, Cond.selects RX2 yX2_goHours yX2_goHours, Cond.code yX2_goHours cX2_goHours 3 none, Cond.methodLink RX2 50 yX2_goHour, Cond.instanceMethod yX2_goHour, Cond.selects RX2 yX2_goHour yX2_goHour, Cond.code yX2_goHour cX2_goHour 3 none, Cond.fieldLink RX2 27 "PulpitRoads$Road" "saidNow" "[I", Cond.methodLink RX2 53 yX2_councils, Cond.instanceMethod yX2_councils, Cond.selects RX2 yX2_councils yX2_councils, Cond.code yX2_councils cX2_councils 4 (some .int), Cond.methodLink RX2 57 yX2_pass, Cond.instanceMethod yX2_pass, Cond.selects RX2 yX2_pass yX2_pass, Cond.code yX2_pass cX2_pass 4 none, Cond.methodLink RX2 61 yX2_sayings, Cond.instanceMethod yX2_sayings]
def wsX5_best_r3 : List Cond := [Cond.selects RX2 yX2_sayings yX2_sayings, Cond.code yX2_sayings cX2_sayings 5 (some .int), Cond.methodLink RX2 75 yX2_wordAfter, Cond.instanceMethod yX2_wordAfter, Cond.selects RX2 yX2_wordAfter yX2_wordAfter, Cond.code yX2_wordAfter cX2_wordAfter 3 (some .int), Cond.methodLink RX2 65 yX2_wordBehind, Cond.instanceMethod yX2_wordBehind, Cond.selects RX2 yX2_wordBehind yX2_wordBehind, Cond.code yX2_wordBehind cX2_wordBehind 4 (some .int), Cond.methodLink RX2 68 yX2_stretchBehind, Cond.instanceMethod yX2_stretchBehind, Cond.selects RX2 yX2_stretchBehind yX2_stretchBehind, Cond.code yX2_stretchBehind cX2_stretchBehind 4 (some .int), Cond.methodLink RX2 78 yX2_beforeOf, Cond.instanceMethod yX2_beforeOf, Cond.selects RX2 yX2_beforeOf yX2_beforeOf, Cond.code yX2_beforeOf cX2_beforeOf 2 (some .int), Cond.methodLink RX2 81 yX2_nextOf, Cond.instanceMethod yX2_nextOf, Cond.selects RX2 yX2_nextOf yX2_nextOf, Cond.code yX2_nextOf cX2_nextOf 2 (some .int), Cond.methodLink RX5 163 yJ6_bitCount_0f7a4, Cond.static yJ6_bitCount_0f7a4]
def wsX5_best_r4 : List Cond := [Cond.initialized RJ6, Cond.code yJ6_bitCount_0f7a4 cJ6_bitCount_0f7a4 1 (some .int), Cond.constant RJ6 265 (1431655765), Cond.constant RJ6 266 (858993459), Cond.constant RJ6 267 (252645135)]
def wsX5_best : List Cond := .code yX5_best cX5_best 9 (some .int) :: ((wsX5_best_r1 ++ (wsX5_best_r2 ++ (wsX5_best_r3 ++ wsX5_best_r4))) ++ wsX50 ++ wsX20)
def wsX5_piece_r1 : List Cond := [Cond.fieldLink RX5 25 "PulpitRoads" "now" "LPulpitRoads$Road;", Cond.constant RX5 131 (-1000002), Cond.constant RX5 59 (-1000001), Cond.constant RX5 196 (-1000000), Cond.methodLink RX5 183 yX5_isWithin, Cond.static yX5_isWithin, Cond.initialized RX5, Cond.code yX5_isWithin cX5_isWithin 3 (some .boolean), Cond.methodLink RX5 163 yJ6_bitCount_0f7a4, Cond.static yJ6_bitCount_0f7a4, Cond.initialized RJ6, Cond.code yJ6_bitCount_0f7a4 cJ6_bitCount_0f7a4 1 (some .int), Cond.constant RJ6 265 (1431655765), Cond.constant RJ6 266 (858993459), Cond.constant RJ6 267 (252645135), Cond.instanceMethod yX2_heardAtAny, Cond.initialized RX2, Cond.selects RX2 yX2_heardAtAny yX2_heardAtAny, Cond.code yX2_heardAtAny cX2_heardAtAny 4 (some .int), Cond.fieldLink RX2 38 "PulpitRoads$Road" "stretches" "I", Cond.fieldLink RX2 15 "PulpitRoads$Road" "heardAt" "[I", Cond.instanceMethod yX2_allWords, Cond.selects RX2 yX2_allWords yX2_allWords, Cond.code yX2_allWords cX2_allWords 1 (some .int)]
def wsX5_piece_r2 : List Cond := [Cond.fieldLink RX2 44 "PulpitRoads$Road" "words" "I"]
def wsX5_piece : List Cond := .code yX5_piece cX5_piece 6 (some .int) :: ((wsX5_piece_r1 ++ wsX5_piece_r2) ++ wsX50 ++ wsX20)
def wsX5_foretellSayings_r1 : List Cond := [Cond.fieldLink RX5 29 "PulpitRoads" "foretold" "LPulpitRoads$Road;", Cond.fieldLink RX5 32 "PulpitRoads" "saidAhead" "[I", Cond.methodLink RX5 187 yX5_foretell, Cond.instanceMethod yX5_foretell, Cond.selects RX5 yX5_foretell yX5_foretell, Cond.initialized RX5, Cond.code yX5_foretell cX5_foretell 2 none, Cond.fieldLink RX5 25 "PulpitRoads" "now" "LPulpitRoads$Road;", Cond.instanceMethod yX2_take, Cond.initialized RX2, Cond.selects RX2 yX2_take yX2_take, Cond.code yX2_take cX2_take 3 none, Cond.fieldLink RX2 30 "PulpitRoads$Road" "stands" "Z", Cond.fieldLink RX2 44 "PulpitRoads$Road" "words" "I", Cond.fieldLink RX2 47 "PulpitRoads$Road" "hard" "I", Cond.fieldLink RX2 34 "PulpitRoads$Road" "hour" "I", Cond.fieldLink RX2 38 "PulpitRoads$Road" "stretches" "I", Cond.fieldLink RX2 41 "PulpitRoads$Road" "pulpits" "I", Cond.fieldLink RX2 9 "PulpitRoads$Road" "grade" "[I", Cond.fieldLink RX2 15 "PulpitRoads$Road" "heardAt" "[I", Cond.fieldLink RX2 18 "PulpitRoads$Road" "kindOf" "[I", Cond.fieldLink RX2 21 "PulpitRoads$Road" "at" "[I", Cond.fieldLink RX2 24 "PulpitRoads$Road" "word" "[I", Cond.instanceMethod yX2_goHours]
def wsX5_foretellSayings_r2 : List Cond := [Cond.selects RX2 yX2_goHours yX2_goHours, Cond.code yX2_goHours cX2_goHours 3 none, Cond.methodLink RX2 50 yX2_goHour, Cond.instanceMethod yX2_goHour, Cond.selects RX2 yX2_goHour yX2_goHour, Cond.code yX2_goHour cX2_goHour 3 none, Cond.fieldLink RX2 27 "PulpitRoads$Road" "saidNow" "[I", Cond.methodLink RX2 53 yX2_councils, Cond.instanceMethod yX2_councils, Cond.selects RX2 yX2_councils yX2_councils, Cond.code yX2_councils cX2_councils 4 (some .int), Cond.methodLink RX2 57 yX2_pass, Cond.instanceMethod yX2_pass, Cond.selects RX2 yX2_pass yX2_pass, Cond.code yX2_pass cX2_pass 4 none, Cond.methodLink RX2 61 yX2_sayings, Cond.instanceMethod yX2_sayings, Cond.selects RX2 yX2_sayings yX2_sayings, Cond.code yX2_sayings cX2_sayings 5 (some .int), Cond.methodLink RX2 75 yX2_wordAfter, Cond.instanceMethod yX2_wordAfter, Cond.selects RX2 yX2_wordAfter yX2_wordAfter, Cond.code yX2_wordAfter cX2_wordAfter 3 (some .int), Cond.methodLink RX2 65 yX2_wordBehind]
def wsX5_foretellSayings_r3 : List Cond := [Cond.instanceMethod yX2_wordBehind, Cond.selects RX2 yX2_wordBehind yX2_wordBehind, Cond.code yX2_wordBehind cX2_wordBehind 4 (some .int), Cond.methodLink RX2 68 yX2_stretchBehind, Cond.instanceMethod yX2_stretchBehind, Cond.selects RX2 yX2_stretchBehind yX2_stretchBehind, Cond.code yX2_stretchBehind cX2_stretchBehind 4 (some .int), Cond.methodLink RX2 78 yX2_beforeOf, Cond.instanceMethod yX2_beforeOf, Cond.selects RX2 yX2_beforeOf yX2_beforeOf, Cond.code yX2_beforeOf cX2_beforeOf 2 (some .int), Cond.methodLink RX2 81 yX2_nextOf, Cond.instanceMethod yX2_nextOf, Cond.selects RX2 yX2_nextOf yX2_nextOf, Cond.code yX2_nextOf cX2_nextOf 2 (some .int)]
def wsX5_foretellSayings : List Cond := .code yX5_foretellSayings cX5_foretellSayings 4 none :: ((wsX5_foretellSayings_r1 ++ (wsX5_foretellSayings_r2 ++ wsX5_foretellSayings_r3)) ++ wsX50 ++ wsX20)
def wsX5_heardOnWay : List Cond := .code yX5_heardOnWay cX5_heardOnWay 7 (some .int) :: ([.fieldLink RX5 29 "PulpitRoads" "foretold" "LPulpitRoads$Road;", .fieldLink RX5 32 "PulpitRoads" "saidAhead" "[I", .instanceMethod yX2_nextOf, .initialized RX2, .selects RX2 yX2_nextOf yX2_nextOf, .code yX2_nextOf cX2_nextOf 2 (some .int), .fieldLink RX2 38 "PulpitRoads$Road" "stretches" "I"] ++ wsX50 ++ wsX20)
def wsX5_walk_r1 : List Cond := [Cond.constant RX5 59 (-1000001), Cond.methodLink RX5 148 yX5_isStretch, Cond.instanceMethod yX5_isStretch, Cond.selects RX5 yX5_isStretch yX5_isStretch, Cond.initialized RX5, Cond.code yX5_isStretch cX5_isStretch 2 (some .boolean), Cond.fieldLink RX5 25 "PulpitRoads" "now" "LPulpitRoads$Road;", Cond.methodLink RX5 183 yX5_isWithin, Cond.static yX5_isWithin, Cond.code yX5_isWithin cX5_isWithin 3 (some .boolean), Cond.methodLink RX5 212 yX5_foretellSayings, Cond.instanceMethod yX5_foretellSayings, Cond.selects RX5 yX5_foretellSayings yX5_foretellSayings, Cond.code yX5_foretellSayings cX5_foretellSayings 4 none, Cond.fieldLink RX5 29 "PulpitRoads" "foretold" "LPulpitRoads$Road;", Cond.fieldLink RX5 32 "PulpitRoads" "saidAhead" "[I", Cond.methodLink RX5 187 yX5_foretell, Cond.instanceMethod yX5_foretell, Cond.selects RX5 yX5_foretell yX5_foretell, Cond.code yX5_foretell cX5_foretell 2 none, Cond.instanceMethod yX2_take, Cond.initialized RX2, Cond.selects RX2 yX2_take yX2_take, Cond.code yX2_take cX2_take 3 none]
def wsX5_walk_r2 : List Cond := [Cond.fieldLink RX2 30 "PulpitRoads$Road" "stands" "Z", Cond.fieldLink RX2 44 "PulpitRoads$Road" "words" "I", Cond.fieldLink RX2 47 "PulpitRoads$Road" "hard" "I", Cond.fieldLink RX2 34 "PulpitRoads$Road" "hour" "I", Cond.fieldLink RX2 38 "PulpitRoads$Road" "stretches" "I", Cond.fieldLink RX2 41 "PulpitRoads$Road" "pulpits" "I", Cond.fieldLink RX2 9 "PulpitRoads$Road" "grade" "[I", Cond.fieldLink RX2 15 "PulpitRoads$Road" "heardAt" "[I", Cond.fieldLink RX2 18 "PulpitRoads$Road" "kindOf" "[I", Cond.fieldLink RX2 21 "PulpitRoads$Road" "at" "[I", Cond.fieldLink RX2 24 "PulpitRoads$Road" "word" "[I", Cond.instanceMethod yX2_goHours, Cond.selects RX2 yX2_goHours yX2_goHours, Cond.code yX2_goHours cX2_goHours 3 none, Cond.methodLink RX2 50 yX2_goHour, Cond.instanceMethod yX2_goHour, Cond.selects RX2 yX2_goHour yX2_goHour, Cond.code yX2_goHour cX2_goHour 3 none, Cond.fieldLink RX2 27 "PulpitRoads$Road" "saidNow" "[I", Cond.methodLink RX2 53 yX2_councils, Cond.instanceMethod yX2_councils, Cond.selects RX2 yX2_councils yX2_councils, Cond.code yX2_councils cX2_councils 4 (some .int), Cond.methodLink RX2 57 yX2_pass]
def wsX5_walk_r3 : List Cond := [Cond.instanceMethod yX2_pass, Cond.selects RX2 yX2_pass yX2_pass, Cond.code yX2_pass cX2_pass 4 none, Cond.methodLink RX2 61 yX2_sayings, Cond.instanceMethod yX2_sayings, Cond.selects RX2 yX2_sayings yX2_sayings, Cond.code yX2_sayings cX2_sayings 5 (some .int), Cond.methodLink RX2 75 yX2_wordAfter, Cond.instanceMethod yX2_wordAfter, Cond.selects RX2 yX2_wordAfter yX2_wordAfter, Cond.code yX2_wordAfter cX2_wordAfter 3 (some .int), Cond.methodLink RX2 65 yX2_wordBehind, Cond.instanceMethod yX2_wordBehind, Cond.selects RX2 yX2_wordBehind yX2_wordBehind, Cond.code yX2_wordBehind cX2_wordBehind 4 (some .int), Cond.methodLink RX2 68 yX2_stretchBehind, Cond.instanceMethod yX2_stretchBehind, Cond.selects RX2 yX2_stretchBehind yX2_stretchBehind, Cond.code yX2_stretchBehind cX2_stretchBehind 4 (some .int), Cond.methodLink RX2 78 yX2_beforeOf, Cond.instanceMethod yX2_beforeOf, Cond.selects RX2 yX2_beforeOf yX2_beforeOf, Cond.code yX2_beforeOf cX2_beforeOf 2 (some .int), Cond.methodLink RX2 81 yX2_nextOf]
def wsX5_walk_r4 : List Cond := [Cond.instanceMethod yX2_nextOf, Cond.selects RX2 yX2_nextOf yX2_nextOf, Cond.code yX2_nextOf cX2_nextOf 2 (some .int), Cond.methodLink RX5 215 yX5_heardOnWay, Cond.instanceMethod yX5_heardOnWay, Cond.selects RX5 yX5_heardOnWay yX5_heardOnWay, Cond.code yX5_heardOnWay cX5_heardOnWay 7 (some .int), Cond.methodLink RX5 163 yJ6_bitCount_0f7a4, Cond.static yJ6_bitCount_0f7a4, Cond.initialized RJ6, Cond.code yJ6_bitCount_0f7a4 cJ6_bitCount_0f7a4 1 (some .int), Cond.constant RJ6 265 (1431655765), Cond.constant RJ6 266 (858993459), Cond.constant RJ6 267 (252645135)]
def wsX5_walk : List Cond := .code yX5_walk cX5_walk 8 (some .int) :: ((wsX5_walk_r1 ++ (wsX5_walk_r2 ++ (wsX5_walk_r3 ++ wsX5_walk_r4))) ++ wsX50 ++ wsX20)
def wsX5_guessEnd : List Cond := .code yX5_guessEnd cX5_guessEnd 2 (some .int) :: ([.fieldLink RX5 25 "PulpitRoads" "now" "LPulpitRoads$Road;"] ++ wsX50 ++ wsX20)
def wsX5_suppose : List Cond := .code yX5_suppose cX5_suppose 4 none :: ([.fieldLink RX5 29 "PulpitRoads" "foretold" "LPulpitRoads$Road;"] ++ wsX50 ++ wsX20)
def wsX5_goesAsTold_r1 : List Cond := [Cond.fieldLink RX5 29 "PulpitRoads" "foretold" "LPulpitRoads$Road;", Cond.instanceMethod yX2_goHour, Cond.initialized RX2, Cond.selects RX2 yX2_goHour yX2_goHour, Cond.code yX2_goHour cX2_goHour 3 none, Cond.fieldLink RX2 38 "PulpitRoads$Road" "stretches" "I", Cond.fieldLink RX2 27 "PulpitRoads$Road" "saidNow" "[I", Cond.fieldLink RX2 41 "PulpitRoads$Road" "pulpits" "I", Cond.fieldLink RX2 34 "PulpitRoads$Road" "hour" "I", Cond.methodLink RX2 53 yX2_councils, Cond.instanceMethod yX2_councils, Cond.selects RX2 yX2_councils yX2_councils, Cond.code yX2_councils cX2_councils 4 (some .int), Cond.fieldLink RX2 21 "PulpitRoads$Road" "at" "[I", Cond.methodLink RX2 57 yX2_pass, Cond.instanceMethod yX2_pass, Cond.selects RX2 yX2_pass yX2_pass, Cond.code yX2_pass cX2_pass 4 none, Cond.fieldLink RX2 15 "PulpitRoads$Road" "heardAt" "[I", Cond.fieldLink RX2 24 "PulpitRoads$Road" "word" "[I", Cond.methodLink RX2 61 yX2_sayings, Cond.instanceMethod yX2_sayings, Cond.selects RX2 yX2_sayings yX2_sayings, Cond.code yX2_sayings cX2_sayings 5 (some .int)]
def wsX5_goesAsTold_r2 : List Cond := [Cond.fieldLink RX2 18 "PulpitRoads$Road" "kindOf" "[I", Cond.fieldLink RX2 9 "PulpitRoads$Road" "grade" "[I", Cond.methodLink RX2 75 yX2_wordAfter, Cond.instanceMethod yX2_wordAfter, Cond.selects RX2 yX2_wordAfter yX2_wordAfter, Cond.code yX2_wordAfter cX2_wordAfter 3 (some .int), Cond.fieldLink RX2 44 "PulpitRoads$Road" "words" "I", Cond.methodLink RX2 65 yX2_wordBehind, Cond.instanceMethod yX2_wordBehind, Cond.selects RX2 yX2_wordBehind yX2_wordBehind, Cond.code yX2_wordBehind cX2_wordBehind 4 (some .int), Cond.methodLink RX2 68 yX2_stretchBehind, Cond.instanceMethod yX2_stretchBehind, Cond.selects RX2 yX2_stretchBehind yX2_stretchBehind, Cond.code yX2_stretchBehind cX2_stretchBehind 4 (some .int), Cond.fieldLink RX2 47 "PulpitRoads$Road" "hard" "I", Cond.methodLink RX2 78 yX2_beforeOf, Cond.instanceMethod yX2_beforeOf, Cond.selects RX2 yX2_beforeOf yX2_beforeOf, Cond.code yX2_beforeOf cX2_beforeOf 2 (some .int), Cond.methodLink RX2 81 yX2_nextOf, Cond.instanceMethod yX2_nextOf, Cond.selects RX2 yX2_nextOf yX2_nextOf, Cond.code yX2_nextOf cX2_nextOf 2 (some .int)]
def wsX5_goesAsTold : List Cond := .code yX5_goesAsTold cX5_goesAsTold 6 (some .boolean) :: ((wsX5_goesAsTold_r1 ++ wsX5_goesAsTold_r2) ++ wsX50 ++ wsX20 ++ wsX30)
def wsX5_fits_r1 : List Cond := [Cond.constant RX5 59 (-1000001), Cond.fieldLink RX5 11 "PulpitRoads" "rows" "[LPulpitRoads$Row;", Cond.fieldLink RX5 29 "PulpitRoads" "foretold" "LPulpitRoads$Road;", Cond.fieldLink RX5 25 "PulpitRoads" "now" "LPulpitRoads$Road;", Cond.methodLink RX5 145 yX5_isPulpit, Cond.instanceMethod yX5_isPulpit, Cond.selects RX5 yX5_isPulpit yX5_isPulpit, Cond.initialized RX5, Cond.code yX5_isPulpit cX5_isPulpit 2 (some .boolean), Cond.methodLink RX5 55 yX5_isRow, Cond.static yX5_isRow, Cond.code yX5_isRow cX5_isRow 1 (some .boolean), Cond.methodLink RX5 183 yX5_isWithin, Cond.static yX5_isWithin, Cond.code yX5_isWithin cX5_isWithin 3 (some .boolean), Cond.methodLink RX5 60 yX5_found, Cond.instanceMethod yX5_found, Cond.selects RX5 yX5_found yX5_found, Cond.code yX5_found cX5_found 2 (some .int), Cond.fieldLink RX5 273 "PulpitRoads" "latestFinding" "I", Cond.constant RX5 276 (-1000010), Cond.instanceMethod yX3_hasPlaces, Cond.initialized RX3, Cond.selects RX3 yX3_hasPlaces yX3_hasPlaces]
def wsX5_fits_r2 : List Cond := [Cond.code yX3_hasPlaces cX3_hasPlaces 3 (some .boolean), Cond.fieldLink RX3 23 "PulpitRoads$Row" "length" "I", Cond.methodLink RX5 219 yX5_guessEnd, Cond.instanceMethod yX5_guessEnd, Cond.selects RX5 yX5_guessEnd yX5_guessEnd, Cond.code yX5_guessEnd cX5_guessEnd 2 (some .int), Cond.instanceMethod yX2_take, Cond.initialized RX2, Cond.selects RX2 yX2_take yX2_take, Cond.code yX2_take cX2_take 3 none, Cond.fieldLink RX2 30 "PulpitRoads$Road" "stands" "Z", Cond.fieldLink RX2 44 "PulpitRoads$Road" "words" "I", Cond.fieldLink RX2 47 "PulpitRoads$Road" "hard" "I", Cond.fieldLink RX2 34 "PulpitRoads$Road" "hour" "I", Cond.fieldLink RX2 38 "PulpitRoads$Road" "stretches" "I", Cond.fieldLink RX2 41 "PulpitRoads$Road" "pulpits" "I", Cond.fieldLink RX2 9 "PulpitRoads$Road" "grade" "[I", Cond.fieldLink RX2 15 "PulpitRoads$Road" "heardAt" "[I", Cond.fieldLink RX2 18 "PulpitRoads$Road" "kindOf" "[I", Cond.fieldLink RX2 21 "PulpitRoads$Road" "at" "[I", Cond.fieldLink RX2 24 "PulpitRoads$Road" "word" "[I", Cond.methodLink RX5 222 yX5_suppose, Cond.instanceMethod yX5_suppose, Cond.selects RX5 yX5_suppose yX5_suppose]
def wsX5_fits_r3 : List Cond := [Cond.code yX5_suppose cX5_suppose 4 none, Cond.methodLink RX5 226 yX5_goesAsTold, Cond.instanceMethod yX5_goesAsTold, Cond.selects RX5 yX5_goesAsTold yX5_goesAsTold, Cond.code yX5_goesAsTold cX5_goesAsTold 6 (some .boolean), Cond.instanceMethod yX2_goHour, Cond.selects RX2 yX2_goHour yX2_goHour, Cond.code yX2_goHour cX2_goHour 3 none, Cond.fieldLink RX2 27 "PulpitRoads$Road" "saidNow" "[I", Cond.methodLink RX2 53 yX2_councils, Cond.instanceMethod yX2_councils, Cond.selects RX2 yX2_councils yX2_councils, Cond.code yX2_councils cX2_councils 4 (some .int), Cond.methodLink RX2 57 yX2_pass, Cond.instanceMethod yX2_pass, Cond.selects RX2 yX2_pass yX2_pass, Cond.code yX2_pass cX2_pass 4 none, Cond.methodLink RX2 61 yX2_sayings, Cond.instanceMethod yX2_sayings, Cond.selects RX2 yX2_sayings yX2_sayings, Cond.code yX2_sayings cX2_sayings 5 (some .int), Cond.methodLink RX2 75 yX2_wordAfter, Cond.instanceMethod yX2_wordAfter, Cond.selects RX2 yX2_wordAfter yX2_wordAfter]
def wsX5_fits_r4 : List Cond := [Cond.code yX2_wordAfter cX2_wordAfter 3 (some .int), Cond.methodLink RX2 65 yX2_wordBehind, Cond.instanceMethod yX2_wordBehind, Cond.selects RX2 yX2_wordBehind yX2_wordBehind, Cond.code yX2_wordBehind cX2_wordBehind 4 (some .int), Cond.methodLink RX2 68 yX2_stretchBehind, Cond.instanceMethod yX2_stretchBehind, Cond.selects RX2 yX2_stretchBehind yX2_stretchBehind, Cond.code yX2_stretchBehind cX2_stretchBehind 4 (some .int), Cond.methodLink RX2 78 yX2_beforeOf, Cond.instanceMethod yX2_beforeOf, Cond.selects RX2 yX2_beforeOf yX2_beforeOf, Cond.code yX2_beforeOf cX2_beforeOf 2 (some .int), Cond.methodLink RX2 81 yX2_nextOf, Cond.instanceMethod yX2_nextOf, Cond.selects RX2 yX2_nextOf yX2_nextOf, Cond.code yX2_nextOf cX2_nextOf 2 (some .int), Cond.methodLink RX5 68 yX5_foundNothing, Cond.instanceMethod yX5_foundNothing, Cond.selects RX5 yX5_foundNothing yX5_foundNothing, Cond.code yX5_foundNothing cX5_foundNothing 2 (some .int)]
def wsX5_fits : List Cond := .code yX5_fits cX5_fits 10 (some .int) :: ((wsX5_fits_r1 ++ (wsX5_fits_r2 ++ (wsX5_fits_r3 ++ wsX5_fits_r4))) ++ wsX50 ++ wsX30 ++ wsX20)
def wsX5_tenthsOfHearing : List Cond := .code yX5_tenthsOfHearing cX5_tenthsOfHearing 7 (some .int) :: ([.fieldLink RX5 25 "PulpitRoads" "now" "LPulpitRoads$Road;", .instanceMethod yX2_councils, .initialized RX2, .selects RX2 yX2_councils yX2_councils, .code yX2_councils cX2_councils 4 (some .int), .fieldLink RX2 41 "PulpitRoads$Road" "pulpits" "I", .fieldLink RX2 21 "PulpitRoads$Road" "at" "[I", .instanceMethod yX2_sayings, .selects RX2 yX2_sayings yX2_sayings, .code yX2_sayings cX2_sayings 5 (some .int), .fieldLink RX2 18 "PulpitRoads$Road" "kindOf" "[I", .fieldLink RX2 24 "PulpitRoads$Road" "word" "[I", .fieldLink RX2 9 "PulpitRoads$Road" "grade" "[I", .methodLink RX2 75 yX2_wordAfter, .instanceMethod yX2_wordAfter, .selects RX2 yX2_wordAfter yX2_wordAfter, .code yX2_wordAfter cX2_wordAfter 3 (some .int), .fieldLink RX2 44 "PulpitRoads$Road" "words" "I"] ++ wsX50 ++ wsX20)
def wsX5_commonDivisor : List Cond := .code yX5_commonDivisor cX5_commonDivisor 3 (some .int) :: ([])
def wsX5_axles_r1 : List Cond := [Cond.constant RX5 59 (-1000001), Cond.methodLink RX5 148 yX5_isStretch, Cond.instanceMethod yX5_isStretch, Cond.selects RX5 yX5_isStretch yX5_isStretch, Cond.initialized RX5, Cond.code yX5_isStretch cX5_isStretch 2 (some .boolean), Cond.fieldLink RX5 25 "PulpitRoads" "now" "LPulpitRoads$Road;", Cond.methodLink RX5 154 yX5_isWord, Cond.instanceMethod yX5_isWord, Cond.selects RX5 yX5_isWord yX5_isWord, Cond.code yX5_isWord cX5_isWord 2 (some .boolean), Cond.methodLink RX5 183 yX5_isWithin, Cond.static yX5_isWithin, Cond.code yX5_isWithin cX5_isWithin 3 (some .boolean), Cond.methodLink RX5 230 yX5_tenthsOfHearing, Cond.instanceMethod yX5_tenthsOfHearing, Cond.selects RX5 yX5_tenthsOfHearing yX5_tenthsOfHearing, Cond.code yX5_tenthsOfHearing cX5_tenthsOfHearing 7 (some .int), Cond.instanceMethod yX2_councils, Cond.initialized RX2, Cond.selects RX2 yX2_councils yX2_councils, Cond.code yX2_councils cX2_councils 4 (some .int), Cond.fieldLink RX2 41 "PulpitRoads$Road" "pulpits" "I", Cond.fieldLink RX2 21 "PulpitRoads$Road" "at" "[I"]
def wsX5_axles_r2 : List Cond := [Cond.instanceMethod yX2_sayings, Cond.selects RX2 yX2_sayings yX2_sayings, Cond.code yX2_sayings cX2_sayings 5 (some .int), Cond.fieldLink RX2 18 "PulpitRoads$Road" "kindOf" "[I", Cond.fieldLink RX2 24 "PulpitRoads$Road" "word" "[I", Cond.fieldLink RX2 9 "PulpitRoads$Road" "grade" "[I", Cond.methodLink RX2 75 yX2_wordAfter, Cond.instanceMethod yX2_wordAfter, Cond.selects RX2 yX2_wordAfter yX2_wordAfter, Cond.code yX2_wordAfter cX2_wordAfter 3 (some .int), Cond.fieldLink RX2 44 "PulpitRoads$Road" "words" "I", Cond.methodLink RX5 233 yX5_commonDivisor, Cond.static yX5_commonDivisor, Cond.code yX5_commonDivisor cX5_commonDivisor 3 (some .int)]
def wsX5_axles : List Cond := .code yX5_axles cX5_axles 7 (some .int) :: ((wsX5_axles_r1 ++ wsX5_axles_r2) ++ wsX50 ++ wsX20)
def wsX5_putByDraw : List Cond := .code yX5_putByDraw cX5_putByDraw 4 none :: ([.constantLong RX5 283 (3), .fieldLink RX5 29 "PulpitRoads" "foretold" "LPulpitRoads$Road;"] ++ wsX50 ++ wsX20)
def wsX5_drawn_r1 : List Cond := [Cond.fieldLink RX5 25 "PulpitRoads" "now" "LPulpitRoads$Road;", Cond.constant RX5 131 (-1000002), Cond.constant RX5 237 (999999), Cond.constant RX5 59 (-1000001), Cond.constantLong RX5 238 (16807), Cond.constantLong RX5 240 (2147483647), Cond.fieldLink RX5 29 "PulpitRoads" "foretold" "LPulpitRoads$Road;", Cond.methodLink RX5 183 yX5_isWithin, Cond.static yX5_isWithin, Cond.initialized RX5, Cond.code yX5_isWithin cX5_isWithin 3 (some .boolean), Cond.methodLink RX5 187 yX5_foretell, Cond.instanceMethod yX5_foretell, Cond.selects RX5 yX5_foretell yX5_foretell, Cond.code yX5_foretell cX5_foretell 2 none, Cond.instanceMethod yX2_take, Cond.initialized RX2, Cond.selects RX2 yX2_take yX2_take, Cond.code yX2_take cX2_take 3 none, Cond.fieldLink RX2 30 "PulpitRoads$Road" "stands" "Z", Cond.fieldLink RX2 44 "PulpitRoads$Road" "words" "I", Cond.fieldLink RX2 47 "PulpitRoads$Road" "hard" "I", Cond.fieldLink RX2 34 "PulpitRoads$Road" "hour" "I", Cond.fieldLink RX2 38 "PulpitRoads$Road" "stretches" "I"]
def wsX5_drawn_r2 : List Cond := [Cond.fieldLink RX2 41 "PulpitRoads$Road" "pulpits" "I", Cond.fieldLink RX2 9 "PulpitRoads$Road" "grade" "[I", Cond.fieldLink RX2 15 "PulpitRoads$Road" "heardAt" "[I", Cond.fieldLink RX2 18 "PulpitRoads$Road" "kindOf" "[I", Cond.fieldLink RX2 21 "PulpitRoads$Road" "at" "[I", Cond.fieldLink RX2 24 "PulpitRoads$Road" "word" "[I", Cond.instanceMethod yX2_goHours, Cond.selects RX2 yX2_goHours yX2_goHours, Cond.code yX2_goHours cX2_goHours 3 none, Cond.methodLink RX2 50 yX2_goHour, Cond.instanceMethod yX2_goHour, Cond.selects RX2 yX2_goHour yX2_goHour, Cond.code yX2_goHour cX2_goHour 3 none, Cond.fieldLink RX2 27 "PulpitRoads$Road" "saidNow" "[I", Cond.methodLink RX2 53 yX2_councils, Cond.instanceMethod yX2_councils, Cond.selects RX2 yX2_councils yX2_councils, Cond.code yX2_councils cX2_councils 4 (some .int), Cond.methodLink RX2 57 yX2_pass, Cond.instanceMethod yX2_pass, Cond.selects RX2 yX2_pass yX2_pass, Cond.code yX2_pass cX2_pass 4 none, Cond.methodLink RX2 61 yX2_sayings, Cond.instanceMethod yX2_sayings]
def wsX5_drawn_r3 : List Cond := [Cond.selects RX2 yX2_sayings yX2_sayings, Cond.code yX2_sayings cX2_sayings 5 (some .int), Cond.methodLink RX2 75 yX2_wordAfter, Cond.instanceMethod yX2_wordAfter, Cond.selects RX2 yX2_wordAfter yX2_wordAfter, Cond.code yX2_wordAfter cX2_wordAfter 3 (some .int), Cond.methodLink RX2 65 yX2_wordBehind, Cond.instanceMethod yX2_wordBehind, Cond.selects RX2 yX2_wordBehind yX2_wordBehind, Cond.code yX2_wordBehind cX2_wordBehind 4 (some .int), Cond.methodLink RX2 68 yX2_stretchBehind, Cond.instanceMethod yX2_stretchBehind, Cond.selects RX2 yX2_stretchBehind yX2_stretchBehind, Cond.code yX2_stretchBehind cX2_stretchBehind 4 (some .int), Cond.methodLink RX2 78 yX2_beforeOf, Cond.instanceMethod yX2_beforeOf, Cond.selects RX2 yX2_beforeOf yX2_beforeOf, Cond.code yX2_beforeOf cX2_beforeOf 2 (some .int), Cond.methodLink RX2 81 yX2_nextOf, Cond.instanceMethod yX2_nextOf, Cond.selects RX2 yX2_nextOf yX2_nextOf, Cond.code yX2_nextOf cX2_nextOf 2 (some .int), Cond.methodLink RX5 242 yX5_putByDraw, Cond.instanceMethod yX5_putByDraw]
def wsX5_drawn_r4 : List Cond := [Cond.selects RX5 yX5_putByDraw yX5_putByDraw, Cond.code yX5_putByDraw cX5_putByDraw 4 none, Cond.constantLong RX5 283 (3), Cond.instanceMethod yX2_wordsHeard, Cond.selects RX2 yX2_wordsHeard yX2_wordsHeard, Cond.code yX2_wordsHeard cX2_wordsHeard 3 (some .int), Cond.methodLink RX2 87 yJ6_bitCount_0f7a4, Cond.static yJ6_bitCount_0f7a4, Cond.initialized RJ6, Cond.code yJ6_bitCount_0f7a4 cJ6_bitCount_0f7a4 1 (some .int), Cond.constant RJ6 265 (1431655765), Cond.constant RJ6 266 (858993459), Cond.constant RJ6 267 (252645135), Cond.instanceMethod yX2_wholeGates, Cond.selects RX2 yX2_wholeGates yX2_wholeGates, Cond.code yX2_wholeGates cX2_wholeGates 3 (some .int), Cond.methodLink RX2 84 yX2_allWords, Cond.instanceMethod yX2_allWords, Cond.selects RX2 yX2_allWords yX2_allWords, Cond.code yX2_allWords cX2_allWords 1 (some .int), Cond.methodLink RX5 163 yJ6_bitCount_0f7a4]
def wsX5_drawn : List Cond := .code yX5_drawn cX5_drawn 7 (some .int) :: ((wsX5_drawn_r1 ++ (wsX5_drawn_r2 ++ (wsX5_drawn_r3 ++ wsX5_drawn_r4))) ++ wsX50 ++ wsX20)
def wsX5_image : List Cond := .code yX5_image cX5_image 2 (some .int) :: ([.constant RX5 59 (-1000001), .fieldLink RX5 25 "PulpitRoads" "now" "LPulpitRoads$Road;", .constant RX5 131 (-1000002), .fieldLink RX5 36 "PulpitRoads" "images" "[LPulpitRoads$Road;", .methodLink RX5 183 yX5_isWithin, .static yX5_isWithin, .initialized RX5, .code yX5_isWithin cX5_isWithin 3 (some .boolean), .instanceMethod yX2_take, .initialized RX2, .selects RX2 yX2_take yX2_take, .code yX2_take cX2_take 3 none, .fieldLink RX2 30 "PulpitRoads$Road" "stands" "Z", .fieldLink RX2 44 "PulpitRoads$Road" "words" "I", .fieldLink RX2 47 "PulpitRoads$Road" "hard" "I", .fieldLink RX2 34 "PulpitRoads$Road" "hour" "I", .fieldLink RX2 38 "PulpitRoads$Road" "stretches" "I", .fieldLink RX2 41 "PulpitRoads$Road" "pulpits" "I", .fieldLink RX2 9 "PulpitRoads$Road" "grade" "[I", .fieldLink RX2 15 "PulpitRoads$Road" "heardAt" "[I", .fieldLink RX2 18 "PulpitRoads$Road" "kindOf" "[I", .fieldLink RX2 21 "PulpitRoads$Road" "at" "[I", .fieldLink RX2 24 "PulpitRoads$Road" "word" "[I"] ++ wsX50 ++ wsX20)
def wsX5_restore : List Cond := .code yX5_restore cX5_restore 2 (some .int) :: ([.constant RX5 59 (-1000001), .fieldLink RX5 36 "PulpitRoads" "images" "[LPulpitRoads$Road;", .constant RX5 131 (-1000002), .fieldLink RX5 25 "PulpitRoads" "now" "LPulpitRoads$Road;", .fieldLink RX5 43 "PulpitRoads" "acts" "LPulpitRoads$Acts;", .methodLink RX5 183 yX5_isWithin, .static yX5_isWithin, .initialized RX5, .code yX5_isWithin cX5_isWithin 3 (some .boolean), .instanceMethod yX2_take, .initialized RX2, .selects RX2 yX2_take yX2_take, .code yX2_take cX2_take 3 none, .fieldLink RX2 30 "PulpitRoads$Road" "stands" "Z", .fieldLink RX2 44 "PulpitRoads$Road" "words" "I", .fieldLink RX2 47 "PulpitRoads$Road" "hard" "I", .fieldLink RX2 34 "PulpitRoads$Road" "hour" "I", .fieldLink RX2 38 "PulpitRoads$Road" "stretches" "I", .fieldLink RX2 41 "PulpitRoads$Road" "pulpits" "I", .fieldLink RX2 9 "PulpitRoads$Road" "grade" "[I", .fieldLink RX2 15 "PulpitRoads$Road" "heardAt" "[I", .fieldLink RX2 18 "PulpitRoads$Road" "kindOf" "[I", .fieldLink RX2 21 "PulpitRoads$Road" "at" "[I", .fieldLink RX2 24 "PulpitRoads$Road" "word" "[I"] ++ wsX50 ++ wsX20 ++ wsX00)
def wsX5_kind : List Cond := .code yX5_kind cX5_kind 2 (some .int) :: ([.fieldLink RX5 25 "PulpitRoads" "now" "LPulpitRoads$Road;", .constant RX5 59 (-1000001), .methodLink RX5 145 yX5_isPulpit, .instanceMethod yX5_isPulpit, .selects RX5 yX5_isPulpit yX5_isPulpit, .initialized RX5, .code yX5_isPulpit cX5_isPulpit 2 (some .boolean)] ++ wsX50 ++ wsX20)
def wsX5_isSuch : List Cond := .code yX5_isSuch cX5_isSuch 4 (some .boolean) :: ([.fieldLink RX5 285 "PulpitRoads" "KIND_ABOVE" "[I"])
def wsX5_as : List Cond := .code yX5_as cX5_as 3 (some .int) :: ([.constant RX5 59 (-1000001), .fieldLink RX5 25 "PulpitRoads" "now" "LPulpitRoads$Road;", .methodLink RX5 145 yX5_isPulpit, .instanceMethod yX5_isPulpit, .selects RX5 yX5_isPulpit yX5_isPulpit, .initialized RX5, .code yX5_isPulpit cX5_isPulpit 2 (some .boolean), .methodLink RX5 183 yX5_isWithin, .static yX5_isWithin, .code yX5_isWithin cX5_isWithin 3 (some .boolean), .methodLink RX5 252 yX5_isSuch, .static yX5_isSuch, .code yX5_isSuch cX5_isSuch 4 (some .boolean), .fieldLink RX5 285 "PulpitRoads" "KIND_ABOVE" "[I", .methodLink RX5 68 yX5_foundNothing, .instanceMethod yX5_foundNothing, .selects RX5 yX5_foundNothing yX5_foundNothing, .code yX5_foundNothing cX5_foundNothing 2 (some .int), .fieldLink RX5 273 "PulpitRoads" "latestFinding" "I", .methodLink RX5 60 yX5_found, .instanceMethod yX5_found, .selects RX5 yX5_found yX5_found, .code yX5_found cX5_found 2 (some .int), .constant RX5 276 (-1000010)] ++ wsX50 ++ wsX20)
def wsX5_ask_r1 : List Cond := [Cond.constant RX5 59 (-1000001), Cond.fieldLink RX5 50 "PulpitRoads" "bodies" "LPulpitRoads$Bodies;", Cond.fieldLink RX5 25 "PulpitRoads" "now" "LPulpitRoads$Road;", Cond.methodLink RX5 145 yX5_isPulpit, Cond.instanceMethod yX5_isPulpit, Cond.selects RX5 yX5_isPulpit yX5_isPulpit, Cond.initialized RX5, Cond.code yX5_isPulpit cX5_isPulpit 2 (some .boolean), Cond.methodLink RX5 183 yX5_isWithin, Cond.static yX5_isWithin, Cond.code yX5_isWithin cX5_isWithin 3 (some .boolean), Cond.instanceMethod yX1_begin, Cond.initialized RX1, Cond.selects RX1 yX1_begin yX1_begin, Cond.code yX1_begin cX1_begin 5 (some .int), Cond.methodLink RX1 20 yX1_bodyOf, Cond.static yX1_bodyOf, Cond.code yX1_bodyOf cX1_bodyOf 5 (some .int), Cond.methodLink RX1 24 yX1_give, Cond.instanceMethod yX1_give, Cond.selects RX1 yX1_give yX1_give, Cond.code yX1_give cX1_give 6 (some .int), Cond.methodLink RX1 37 yX1_leave, Cond.instanceMethod yX1_leave]
def wsX5_ask_r2 : List Cond := [Cond.selects RX1 yX1_leave yX1_leave, Cond.code yX1_leave cX1_leave 2 none, Cond.fieldLink RX1 51 "PulpitRoads$Bodies" "traced" "I", Cond.fieldLink RX1 11 "PulpitRoads$Bodies" "numbers" "[I", Cond.methodLink RX1 44 yX1_begin]
def wsX5_ask : List Cond := .code yX5_ask cX5_ask 3 (some .int) :: ((wsX5_ask_r1 ++ wsX5_ask_r2) ++ wsX50 ++ wsX10 ++ wsX20)
def wsX5_trace : List Cond := .code yX5_trace cX5_trace 2 (some .int) :: ([.fieldLink RX5 50 "PulpitRoads" "bodies" "LPulpitRoads$Bodies;", .constant RX5 196 (-1000000)] ++ wsX50 ++ wsX10)
def wsX5_rowsThere : List Cond := .code yX5_rowsThere cX5_rowsThere 3 (some .int) :: ([.fieldLink RX5 11 "PulpitRoads" "rows" "[LPulpitRoads$Row;"] ++ wsX50 ++ wsX30)
def wsX5_count_r1 : List Cond := [Cond.fieldLink RX5 25 "PulpitRoads" "now" "LPulpitRoads$Road;", Cond.fieldLink RX5 43 "PulpitRoads" "acts" "LPulpitRoads$Acts;", Cond.fieldLink RX5 18 "PulpitRoads" "tape" "LPulpitRoads$Tape;", Cond.constant RX5 59 (-1000001), Cond.methodLink RX5 264 yX5_rowsThere, Cond.instanceMethod yX5_rowsThere, Cond.selects RX5 yX5_rowsThere yX5_rowsThere, Cond.initialized RX5, Cond.code yX5_rowsThere cX5_rowsThere 3 (some .int), Cond.fieldLink RX5 11 "PulpitRoads" "rows" "[LPulpitRoads$Row;", Cond.instanceMethod yX2_wholeGates, Cond.initialized RX2, Cond.selects RX2 yX2_wholeGates yX2_wholeGates, Cond.code yX2_wholeGates cX2_wholeGates 3 (some .int), Cond.fieldLink RX2 38 "PulpitRoads$Road" "stretches" "I", Cond.fieldLink RX2 15 "PulpitRoads$Road" "heardAt" "[I", Cond.methodLink RX2 84 yX2_allWords, Cond.instanceMethod yX2_allWords, Cond.selects RX2 yX2_allWords yX2_allWords, Cond.code yX2_allWords cX2_allWords 1 (some .int), Cond.fieldLink RX2 44 "PulpitRoads$Road" "words" "I", Cond.instanceMethod yX2_wordsHeard, Cond.selects RX2 yX2_wordsHeard yX2_wordsHeard, Cond.code yX2_wordsHeard cX2_wordsHeard 3 (some .int)]
def wsX5_count_r2 : List Cond := [Cond.methodLink RX2 87 yJ6_bitCount_0f7a4, Cond.static yJ6_bitCount_0f7a4, Cond.initialized RJ6, Cond.code yJ6_bitCount_0f7a4 cJ6_bitCount_0f7a4 1 (some .int), Cond.constant RJ6 265 (1431655765), Cond.constant RJ6 266 (858993459), Cond.constant RJ6 267 (252645135)]
def wsX5_count : List Cond := .code yX5_count cX5_count 2 (some .int) :: ((wsX5_count_r1 ++ wsX5_count_r2) ++ wsX50 ++ wsX20 ++ wsX00 ++ wsX40 ++ wsX30)
def wsX5_status : List Cond := .code yX5_status cX5_status 1 (some .int) :: ([.fieldLink RX5 273 "PulpitRoads" "latestFinding" "I"] ++ wsX50)
def wsX6_init : List Cond := .code yX6_init cX6_init 2 none :: ([.methodLink RX6 1 objectInit, .instanceMethod objectInit, .code objectInit ⟨#[0xb1]⟩ 1 none, .arrayClass .int, .fieldLink RX6 7 "PulpitRoadsModel" "w" "[I", .fieldLink RX6 13 "PulpitRoadsModel" "tape" "[I", .fieldLink RX6 16 "PulpitRoadsModel" "many" "[I", .fieldLink RX6 19 "PulpitRoadsModel" "lane" "[I", .fieldLink RX6 22 "PulpitRoadsModel" "items" "[I", .fieldLink RX6 25 "PulpitRoadsModel" "held" "[I", .fieldLink RX6 28 "PulpitRoadsModel" "said" "[I", .fieldLink RX6 31 "PulpitRoadsModel" "trace" "[I"] ++ wsX60)
def wsX6_in : List Cond := .code yX6_in cX6_in 6 (some .boolean) :: ([])
def wsX6_has : List Cond := .code yX6_has cX6_has 2 (some .boolean) :: ([])
def wsX6_ones : List Cond := .code yX6_ones cX6_ones 3 (some .int) :: ([])
def wsX6_copyOf : List Cond := .code yX6_copyOf cX6_copyOf 5 none :: ([.fieldLink RX6 7 "PulpitRoadsModel" "w" "[I"] ++ wsX60)
def wsX6_isPulpit : List Cond := .code yX6_isPulpit cX6_isPulpit 2 (some .boolean) :: ([.fieldLink RX6 7 "PulpitRoadsModel" "w" "[I", .methodLink RX6 34 yX6_in, .static yX6_in, .initialized RX6, .code yX6_in cX6_in 6 (some .boolean)] ++ wsX60)
def wsX6_isStretch : List Cond := .code yX6_isStretch cX6_isStretch 2 (some .boolean) :: ([.fieldLink RX6 7 "PulpitRoadsModel" "w" "[I", .methodLink RX6 34 yX6_in, .static yX6_in, .initialized RX6, .code yX6_in cX6_in 6 (some .boolean)] ++ wsX60)
def wsX6_isRoad : List Cond := .code yX6_isRoad cX6_isRoad 1 (some .boolean) :: ([.fieldLink RX6 7 "PulpitRoadsModel" "w" "[I"] ++ wsX60)
def wsX6_isRow : List Cond := .code yX6_isRow cX6_isRow 1 (some .boolean) :: ([.constantLong RX6 38 (7), .methodLink RX6 34 yX6_in, .static yX6_in, .initialized RX6, .code yX6_in cX6_in 6 (some .boolean)])
def wsX6_finds : List Cond := .code yX6_finds cX6_finds 2 (some .int) :: ([.fieldLink RX6 40 "PulpitRoadsModel" "status" "I", .constant RX6 44 (-1000010)] ++ wsX60)
def wsX6_against : List Cond := .code yX6_against cX6_against 4 (some .int) :: ([.fieldLink RX6 16 "PulpitRoadsModel" "many" "[I"] ++ wsX60)
def wsX6_row : List Cond := .code yX6_row cX6_row 5 (some .int) :: ([.constantLong RX6 49 (2), .constant RX6 51 (-1000001), .fieldLink RX6 40 "PulpitRoadsModel" "status" "I", .fieldLink RX6 16 "PulpitRoadsModel" "many" "[I", .fieldLink RX6 19 "PulpitRoadsModel" "lane" "[I", .fieldLink RX6 22 "PulpitRoadsModel" "items" "[I", .methodLink RX6 45 yX6_isRow, .static yX6_isRow, .initialized RX6, .code yX6_isRow cX6_isRow 1 (some .boolean), .constantLong RX6 38 (7), .methodLink RX6 34 yX6_in, .static yX6_in, .code yX6_in cX6_in 6 (some .boolean), .methodLink RX6 52 yX6_finds, .instanceMethod yX6_finds, .selects RX6 yX6_finds yX6_finds, .code yX6_finds cX6_finds 2 (some .int), .constant RX6 44 (-1000010)] ++ wsX60)
def wsX6_set : List Cond := .code yX6_set cX6_set 5 (some .int) :: ([.constant RX6 51 (-1000001), .fieldLink RX6 40 "PulpitRoadsModel" "status" "I", .fieldLink RX6 22 "PulpitRoadsModel" "items" "[I", .fieldLink RX6 19 "PulpitRoadsModel" "lane" "[I", .methodLink RX6 45 yX6_isRow, .static yX6_isRow, .initialized RX6, .code yX6_isRow cX6_isRow 1 (some .boolean), .constantLong RX6 38 (7), .methodLink RX6 34 yX6_in, .static yX6_in, .code yX6_in cX6_in 6 (some .boolean), .methodLink RX6 56 yX6_against, .instanceMethod yX6_against, .selects RX6 yX6_against yX6_against, .code yX6_against cX6_against 4 (some .int), .fieldLink RX6 16 "PulpitRoadsModel" "many" "[I", .methodLink RX6 52 yX6_finds, .instanceMethod yX6_finds, .selects RX6 yX6_finds yX6_finds, .code yX6_finds cX6_finds 2 (some .int), .constant RX6 44 (-1000010)] ++ wsX60)
def wsX6_copy : List Cond := .code yX6_copy cX6_copy 7 (some .int) :: ([.constant RX6 51 (-1000001), .fieldLink RX6 16 "PulpitRoadsModel" "many" "[I", .fieldLink RX6 19 "PulpitRoadsModel" "lane" "[I", .fieldLink RX6 40 "PulpitRoadsModel" "status" "I", .fieldLink RX6 25 "PulpitRoadsModel" "held" "[I", .fieldLink RX6 22 "PulpitRoadsModel" "items" "[I", .methodLink RX6 45 yX6_isRow, .static yX6_isRow, .initialized RX6, .code yX6_isRow cX6_isRow 1 (some .boolean), .constantLong RX6 38 (7), .methodLink RX6 34 yX6_in, .static yX6_in, .code yX6_in cX6_in 6 (some .boolean), .methodLink RX6 52 yX6_finds, .instanceMethod yX6_finds, .selects RX6 yX6_finds yX6_finds, .code yX6_finds cX6_finds 2 (some .int), .constant RX6 44 (-1000010), .methodLink RX6 56 yX6_against, .instanceMethod yX6_against, .selects RX6 yX6_against yX6_against, .code yX6_against cX6_against 4 (some .int)] ++ wsX60)
def wsX6_drop : List Cond := .code yX6_drop cX6_drop 3 (some .int) :: ([.constant RX6 51 (-1000001), .fieldLink RX6 16 "PulpitRoadsModel" "many" "[I", .fieldLink RX6 40 "PulpitRoadsModel" "status" "I", .methodLink RX6 45 yX6_isRow, .static yX6_isRow, .initialized RX6, .code yX6_isRow cX6_isRow 1 (some .boolean), .constantLong RX6 38 (7), .methodLink RX6 34 yX6_in, .static yX6_in, .code yX6_in cX6_in 6 (some .boolean), .methodLink RX6 52 yX6_finds, .instanceMethod yX6_finds, .selects RX6 yX6_finds yX6_finds, .code yX6_finds cX6_finds 2 (some .int), .constant RX6 44 (-1000010)] ++ wsX60)
def wsX6_feed : List Cond := .code yX6_feed cX6_feed 2 (some .int) :: ([.constantLong RX6 60 (255), .constant RX6 51 (-1000001), .fieldLink RX6 62 "PulpitRoadsModel" "taped" "I", .constant RX6 65 (-1000003), .fieldLink RX6 13 "PulpitRoadsModel" "tape" "[I", .methodLink RX6 34 yX6_in, .static yX6_in, .initialized RX6, .code yX6_in cX6_in 6 (some .boolean)] ++ wsX60)
def wsX6_here : List Cond := .code yX6_here cX6_here 1 (some .int) :: ([.fieldLink RX6 66 "PulpitRoadsModel" "at" "I", .fieldLink RX6 62 "PulpitRoadsModel" "taped" "I", .fieldLink RX6 13 "PulpitRoadsModel" "tape" "[I"] ++ wsX60)
def wsX6_fails : List Cond := .code yX6_fails cX6_fails 3 (some .boolean) :: ([.fieldLink RX6 69 "PulpitRoadsModel" "faulty" "I", .fieldLink RX6 72 "PulpitRoadsModel" "start" "I"] ++ wsX60)
def wsX6_takes : List Cond := .code yX6_takes cX6_takes 2 (some .boolean) :: ([.fieldLink RX6 66 "PulpitRoadsModel" "at" "I", .methodLink RX6 75 yX6_here, .instanceMethod yX6_here, .selects RX6 yX6_here yX6_here, .initialized RX6, .code yX6_here cX6_here 1 (some .int), .fieldLink RX6 62 "PulpitRoadsModel" "taped" "I", .fieldLink RX6 13 "PulpitRoadsModel" "tape" "[I", .methodLink RX6 79 yX6_fails, .instanceMethod yX6_fails, .selects RX6 yX6_fails yX6_fails, .code yX6_fails cX6_fails 3 (some .boolean), .fieldLink RX6 69 "PulpitRoadsModel" "faulty" "I", .fieldLink RX6 72 "PulpitRoadsModel" "start" "I"] ++ wsX60)
def wsX6_takesNumber : List Cond := .code yX6_takesNumber cX6_takesNumber 4 (some .boolean) :: ([.fieldLink RX6 66 "PulpitRoadsModel" "at" "I", .fieldLink RX6 83 "PulpitRoadsModel" "number" "I", .constantLong RX6 86 (48), .constantLong RX6 88 (57), .constantLong RX6 49 (2), .methodLink RX6 75 yX6_here, .instanceMethod yX6_here, .selects RX6 yX6_here yX6_here, .initialized RX6, .code yX6_here cX6_here 1 (some .int), .fieldLink RX6 62 "PulpitRoadsModel" "taped" "I", .fieldLink RX6 13 "PulpitRoadsModel" "tape" "[I", .methodLink RX6 34 yX6_in, .static yX6_in, .code yX6_in cX6_in 6 (some .boolean), .methodLink RX6 79 yX6_fails, .instanceMethod yX6_fails, .selects RX6 yX6_fails yX6_fails, .code yX6_fails cX6_fails 3 (some .boolean), .fieldLink RX6 69 "PulpitRoadsModel" "faulty" "I", .fieldLink RX6 72 "PulpitRoadsModel" "start" "I"] ++ wsX60)
def wsX6_kindOf : List Cond := .code yX6_kindOf cX6_kindOf 1 (some .int) :: ([])
def wsX6_takesLaw_r1 : List Cond := [Cond.fieldLink RX6 7 "PulpitRoadsModel" "w" "[I", Cond.fieldLink RX6 83 "PulpitRoadsModel" "number" "I", Cond.methodLink RX6 90 yX6_takes, Cond.instanceMethod yX6_takes, Cond.selects RX6 yX6_takes yX6_takes, Cond.initialized RX6, Cond.code yX6_takes cX6_takes 2 (some .boolean), Cond.fieldLink RX6 66 "PulpitRoadsModel" "at" "I", Cond.methodLink RX6 75 yX6_here, Cond.instanceMethod yX6_here, Cond.selects RX6 yX6_here yX6_here, Cond.code yX6_here cX6_here 1 (some .int), Cond.fieldLink RX6 62 "PulpitRoadsModel" "taped" "I", Cond.fieldLink RX6 13 "PulpitRoadsModel" "tape" "[I", Cond.methodLink RX6 79 yX6_fails, Cond.instanceMethod yX6_fails, Cond.selects RX6 yX6_fails yX6_fails, Cond.code yX6_fails cX6_fails 3 (some .boolean), Cond.fieldLink RX6 69 "PulpitRoadsModel" "faulty" "I", Cond.fieldLink RX6 72 "PulpitRoadsModel" "start" "I", Cond.methodLink RX6 93 yX6_takesNumber, Cond.instanceMethod yX6_takesNumber, Cond.selects RX6 yX6_takesNumber yX6_takesNumber, Cond.code yX6_takesNumber cX6_takesNumber 4 (some .boolean)]
def wsX6_takesLaw_r2 : List Cond := [Cond.constantLong RX6 86 (48), Cond.constantLong RX6 88 (57), Cond.constantLong RX6 49 (2), Cond.methodLink RX6 34 yX6_in, Cond.static yX6_in, Cond.code yX6_in cX6_in 6 (some .boolean)]
def wsX6_takesLaw : List Cond := .code yX6_takesLaw cX6_takesLaw 1 (some .boolean) :: ((wsX6_takesLaw_r1 ++ wsX6_takesLaw_r2) ++ wsX60)
def wsX6_takesStretch_r1 : List Cond := [Cond.fieldLink RX6 66 "PulpitRoadsModel" "at" "I", Cond.fieldLink RX6 7 "PulpitRoadsModel" "w" "[I", Cond.fieldLink RX6 83 "PulpitRoadsModel" "number" "I", Cond.methodLink RX6 75 yX6_here, Cond.instanceMethod yX6_here, Cond.selects RX6 yX6_here yX6_here, Cond.initialized RX6, Cond.code yX6_here cX6_here 1 (some .int), Cond.fieldLink RX6 62 "PulpitRoadsModel" "taped" "I", Cond.fieldLink RX6 13 "PulpitRoadsModel" "tape" "[I", Cond.methodLink RX6 79 yX6_fails, Cond.instanceMethod yX6_fails, Cond.selects RX6 yX6_fails yX6_fails, Cond.code yX6_fails cX6_fails 3 (some .boolean), Cond.fieldLink RX6 69 "PulpitRoadsModel" "faulty" "I", Cond.fieldLink RX6 72 "PulpitRoadsModel" "start" "I", Cond.methodLink RX6 93 yX6_takesNumber, Cond.instanceMethod yX6_takesNumber, Cond.selects RX6 yX6_takesNumber yX6_takesNumber, Cond.code yX6_takesNumber cX6_takesNumber 4 (some .boolean), Cond.constantLong RX6 86 (48), Cond.constantLong RX6 88 (57), Cond.constantLong RX6 49 (2), Cond.methodLink RX6 34 yX6_in]
def wsX6_takesStretch_r2 : List Cond := [Cond.static yX6_in, Cond.code yX6_in cX6_in 6 (some .boolean), Cond.methodLink RX6 90 yX6_takes, Cond.instanceMethod yX6_takes, Cond.selects RX6 yX6_takes yX6_takes, Cond.code yX6_takes cX6_takes 2 (some .boolean)]
def wsX6_takesStretch : List Cond := .code yX6_takesStretch cX6_takesStretch 1 (some .boolean) :: ((wsX6_takesStretch_r1 ++ wsX6_takesStretch_r2) ++ wsX60)
def wsX6_takesPulpit_r1 : List Cond := [Cond.fieldLink RX6 7 "PulpitRoadsModel" "w" "[I", Cond.fieldLink RX6 66 "PulpitRoadsModel" "at" "I", Cond.fieldLink RX6 83 "PulpitRoadsModel" "number" "I", Cond.methodLink RX6 75 yX6_here, Cond.instanceMethod yX6_here, Cond.selects RX6 yX6_here yX6_here, Cond.initialized RX6, Cond.code yX6_here cX6_here 1 (some .int), Cond.fieldLink RX6 62 "PulpitRoadsModel" "taped" "I", Cond.fieldLink RX6 13 "PulpitRoadsModel" "tape" "[I", Cond.methodLink RX6 96 yX6_kindOf, Cond.static yX6_kindOf, Cond.code yX6_kindOf cX6_kindOf 1 (some .int), Cond.methodLink RX6 79 yX6_fails, Cond.instanceMethod yX6_fails, Cond.selects RX6 yX6_fails yX6_fails, Cond.code yX6_fails cX6_fails 3 (some .boolean), Cond.fieldLink RX6 69 "PulpitRoadsModel" "faulty" "I", Cond.fieldLink RX6 72 "PulpitRoadsModel" "start" "I", Cond.methodLink RX6 93 yX6_takesNumber, Cond.instanceMethod yX6_takesNumber, Cond.selects RX6 yX6_takesNumber yX6_takesNumber, Cond.code yX6_takesNumber cX6_takesNumber 4 (some .boolean), Cond.constantLong RX6 86 (48)]
def wsX6_takesPulpit_r2 : List Cond := [Cond.constantLong RX6 88 (57), Cond.constantLong RX6 49 (2), Cond.methodLink RX6 34 yX6_in, Cond.static yX6_in, Cond.code yX6_in cX6_in 6 (some .boolean), Cond.methodLink RX6 90 yX6_takes, Cond.instanceMethod yX6_takes, Cond.selects RX6 yX6_takes yX6_takes, Cond.code yX6_takes cX6_takes 2 (some .boolean)]
def wsX6_takesPulpit : List Cond := .code yX6_takesPulpit cX6_takesPulpit 3 (some .boolean) :: ((wsX6_takesPulpit_r1 ++ wsX6_takesPulpit_r2) ++ wsX60)
def wsX6_takesAll_r1 : List Cond := [Cond.fieldLink RX6 7 "PulpitRoadsModel" "w" "[I", Cond.fieldLink RX6 66 "PulpitRoadsModel" "at" "I", Cond.fieldLink RX6 62 "PulpitRoadsModel" "taped" "I", Cond.methodLink RX6 99 yX6_takesLaw, Cond.instanceMethod yX6_takesLaw, Cond.selects RX6 yX6_takesLaw yX6_takesLaw, Cond.initialized RX6, Cond.code yX6_takesLaw cX6_takesLaw 1 (some .boolean), Cond.fieldLink RX6 83 "PulpitRoadsModel" "number" "I", Cond.methodLink RX6 90 yX6_takes, Cond.instanceMethod yX6_takes, Cond.selects RX6 yX6_takes yX6_takes, Cond.code yX6_takes cX6_takes 2 (some .boolean), Cond.methodLink RX6 75 yX6_here, Cond.instanceMethod yX6_here, Cond.selects RX6 yX6_here yX6_here, Cond.code yX6_here cX6_here 1 (some .int), Cond.fieldLink RX6 13 "PulpitRoadsModel" "tape" "[I", Cond.methodLink RX6 79 yX6_fails, Cond.instanceMethod yX6_fails, Cond.selects RX6 yX6_fails yX6_fails, Cond.code yX6_fails cX6_fails 3 (some .boolean), Cond.fieldLink RX6 69 "PulpitRoadsModel" "faulty" "I", Cond.fieldLink RX6 72 "PulpitRoadsModel" "start" "I"]
def wsX6_takesAll_r2 : List Cond := [Cond.methodLink RX6 93 yX6_takesNumber, Cond.instanceMethod yX6_takesNumber, Cond.selects RX6 yX6_takesNumber yX6_takesNumber, Cond.code yX6_takesNumber cX6_takesNumber 4 (some .boolean), Cond.constantLong RX6 86 (48), Cond.constantLong RX6 88 (57), Cond.constantLong RX6 49 (2), Cond.methodLink RX6 34 yX6_in, Cond.static yX6_in, Cond.code yX6_in cX6_in 6 (some .boolean), Cond.methodLink RX6 103 yX6_takesStretch, Cond.instanceMethod yX6_takesStretch, Cond.selects RX6 yX6_takesStretch yX6_takesStretch, Cond.code yX6_takesStretch cX6_takesStretch 1 (some .boolean), Cond.methodLink RX6 106 yX6_takesPulpit, Cond.instanceMethod yX6_takesPulpit, Cond.selects RX6 yX6_takesPulpit yX6_takesPulpit, Cond.code yX6_takesPulpit cX6_takesPulpit 3 (some .boolean), Cond.methodLink RX6 96 yX6_kindOf, Cond.static yX6_kindOf, Cond.code yX6_kindOf cX6_kindOf 1 (some .int)]
def wsX6_takesAll : List Cond := .code yX6_takesAll cX6_takesAll 1 (some .boolean) :: ((wsX6_takesAll_r1 ++ wsX6_takesAll_r2) ++ wsX60)
def wsX6_road_r1 : List Cond := [Cond.fieldLink RX6 7 "PulpitRoadsModel" "w" "[I", Cond.fieldLink RX6 66 "PulpitRoadsModel" "at" "I", Cond.fieldLink RX6 62 "PulpitRoadsModel" "taped" "I", Cond.constant RX6 112 (-1000100), Cond.fieldLink RX6 72 "PulpitRoadsModel" "start" "I", Cond.fieldLink RX6 117 "PulpitRoadsModel" "undoes" "I", Cond.methodLink RX6 109 yX6_takesAll, Cond.instanceMethod yX6_takesAll, Cond.selects RX6 yX6_takesAll yX6_takesAll, Cond.initialized RX6, Cond.code yX6_takesAll cX6_takesAll 1 (some .boolean), Cond.methodLink RX6 99 yX6_takesLaw, Cond.instanceMethod yX6_takesLaw, Cond.selects RX6 yX6_takesLaw yX6_takesLaw, Cond.code yX6_takesLaw cX6_takesLaw 1 (some .boolean), Cond.fieldLink RX6 83 "PulpitRoadsModel" "number" "I", Cond.methodLink RX6 90 yX6_takes, Cond.instanceMethod yX6_takes, Cond.selects RX6 yX6_takes yX6_takes, Cond.code yX6_takes cX6_takes 2 (some .boolean), Cond.methodLink RX6 75 yX6_here, Cond.instanceMethod yX6_here, Cond.selects RX6 yX6_here yX6_here, Cond.code yX6_here cX6_here 1 (some .int)]
def wsX6_road_r2 : List Cond := [Cond.fieldLink RX6 13 "PulpitRoadsModel" "tape" "[I", Cond.methodLink RX6 79 yX6_fails, Cond.instanceMethod yX6_fails, Cond.selects RX6 yX6_fails yX6_fails, Cond.code yX6_fails cX6_fails 3 (some .boolean), Cond.fieldLink RX6 69 "PulpitRoadsModel" "faulty" "I", Cond.methodLink RX6 93 yX6_takesNumber, Cond.instanceMethod yX6_takesNumber, Cond.selects RX6 yX6_takesNumber yX6_takesNumber, Cond.code yX6_takesNumber cX6_takesNumber 4 (some .boolean), Cond.constantLong RX6 86 (48), Cond.constantLong RX6 88 (57), Cond.constantLong RX6 49 (2), Cond.methodLink RX6 34 yX6_in, Cond.static yX6_in, Cond.code yX6_in cX6_in 6 (some .boolean), Cond.methodLink RX6 103 yX6_takesStretch, Cond.instanceMethod yX6_takesStretch, Cond.selects RX6 yX6_takesStretch yX6_takesStretch, Cond.code yX6_takesStretch cX6_takesStretch 1 (some .boolean), Cond.methodLink RX6 106 yX6_takesPulpit, Cond.instanceMethod yX6_takesPulpit, Cond.selects RX6 yX6_takesPulpit yX6_takesPulpit, Cond.code yX6_takesPulpit cX6_takesPulpit 3 (some .boolean)]
def wsX6_road_r3 : List Cond := [Cond.methodLink RX6 96 yX6_kindOf, Cond.static yX6_kindOf, Cond.code yX6_kindOf cX6_kindOf 1 (some .int), Cond.methodLink RX6 113 yX6_copyOf, Cond.instanceMethod yX6_copyOf, Cond.selects RX6 yX6_copyOf yX6_copyOf, Cond.code yX6_copyOf cX6_copyOf 5 none]
def wsX6_road : List Cond := .code yX6_road cX6_road 2 (some .int) :: ((wsX6_road_r1 ++ (wsX6_road_r2 ++ wsX6_road_r3)) ++ wsX60)
def wsX6_fault : List Cond := .code yX6_fault cX6_fault 1 (some .int) :: ([.fieldLink RX6 69 "PulpitRoadsModel" "faulty" "I"] ++ wsX60)
def wsX6_saysMany : List Cond := .code yX6_saysMany cX6_saysMany 4 (some .int) :: ([.fieldLink RX6 7 "PulpitRoadsModel" "w" "[I"] ++ wsX60)
def wsX6_saysIn : List Cond := .code yX6_saysIn cX6_saysIn 7 (some .int) :: ([.fieldLink RX6 7 "PulpitRoadsModel" "w" "[I", .methodLink RX6 120 yX6_saysMany, .instanceMethod yX6_saysMany, .selects RX6 yX6_saysMany yX6_saysMany, .initialized RX6, .code yX6_saysMany cX6_saysMany 4 (some .int)] ++ wsX60)
def wsX6_passes : List Cond := .code yX6_passes cX6_passes 10 none :: ([.fieldLink RX6 7 "PulpitRoadsModel" "w" "[I", .methodLink RX6 124 yX6_saysIn, .instanceMethod yX6_saysIn, .selects RX6 yX6_saysIn yX6_saysIn, .initialized RX6, .code yX6_saysIn cX6_saysIn 7 (some .int), .methodLink RX6 120 yX6_saysMany, .instanceMethod yX6_saysMany, .selects RX6 yX6_saysMany yX6_saysMany, .code yX6_saysMany cX6_saysMany 4 (some .int), .methodLink RX6 127 yX6_has, .static yX6_has, .code yX6_has cX6_has 2 (some .boolean)] ++ wsX60)
def wsX6_councilsIn : List Cond := .code yX6_councilsIn cX6_councilsIn 5 (some .int) :: ([.fieldLink RX6 7 "PulpitRoadsModel" "w" "[I"] ++ wsX60)
def wsX6_hourBy : List Cond := .code yX6_hourBy cX6_hourBy 5 none :: ([.fieldLink RX6 7 "PulpitRoadsModel" "w" "[I", .methodLink RX6 130 yX6_councilsIn, .instanceMethod yX6_councilsIn, .selects RX6 yX6_councilsIn yX6_councilsIn, .initialized RX6, .code yX6_councilsIn cX6_councilsIn 5 (some .int), .methodLink RX6 127 yX6_has, .static yX6_has, .code yX6_has cX6_has 2 (some .boolean), .methodLink RX6 133 yX6_passes, .instanceMethod yX6_passes, .selects RX6 yX6_passes yX6_passes, .code yX6_passes cX6_passes 10 none, .methodLink RX6 124 yX6_saysIn, .instanceMethod yX6_saysIn, .selects RX6 yX6_saysIn yX6_saysIn, .code yX6_saysIn cX6_saysIn 7 (some .int), .methodLink RX6 120 yX6_saysMany, .instanceMethod yX6_saysMany, .selects RX6 yX6_saysMany yX6_saysMany, .code yX6_saysMany cX6_saysMany 4 (some .int)] ++ wsX60)
def wsX6_all : List Cond := .code yX6_all cX6_all 2 (some .int) :: ([.fieldLink RX6 7 "PulpitRoadsModel" "w" "[I"] ++ wsX60)
def wsX6_wholeOnes : List Cond := .code yX6_wholeOnes cX6_wholeOnes 4 (some .int) :: ([.fieldLink RX6 7 "PulpitRoadsModel" "w" "[I", .methodLink RX6 137 yX6_all, .instanceMethod yX6_all, .selects RX6 yX6_all yX6_all, .initialized RX6, .code yX6_all cX6_all 2 (some .int)] ++ wsX60)
def wsX6_heardWords : List Cond := .code yX6_heardWords cX6_heardWords 4 (some .int) :: ([.fieldLink RX6 7 "PulpitRoadsModel" "w" "[I", .methodLink RX6 140 yX6_ones, .static yX6_ones, .initialized RX6, .code yX6_ones cX6_ones 3 (some .int)] ++ wsX60)
def wsX6_minds : List Cond := .code yX6_minds cX6_minds 2 none :: ([.fieldLink RX6 117 "PulpitRoadsModel" "undoes" "I", .fieldLink RX6 7 "PulpitRoadsModel" "w" "[I", .methodLink RX6 113 yX6_copyOf, .instanceMethod yX6_copyOf, .selects RX6 yX6_copyOf yX6_copyOf, .initialized RX6, .code yX6_copyOf cX6_copyOf 5 none] ++ wsX60)
def wsX6_hours_r1 : List Cond := [Cond.constant RX6 146 (-1000002), Cond.constantLong RX6 147 (24), Cond.constant RX6 51 (-1000001), Cond.fieldLink RX6 7 "PulpitRoadsModel" "w" "[I", Cond.constant RX6 65 (-1000003), Cond.methodLink RX6 143 yX6_isRoad, Cond.instanceMethod yX6_isRoad, Cond.selects RX6 yX6_isRoad yX6_isRoad, Cond.initialized RX6, Cond.code yX6_isRoad cX6_isRoad 1 (some .boolean), Cond.methodLink RX6 34 yX6_in, Cond.static yX6_in, Cond.code yX6_in cX6_in 6 (some .boolean), Cond.methodLink RX6 149 yX6_minds, Cond.instanceMethod yX6_minds, Cond.selects RX6 yX6_minds yX6_minds, Cond.code yX6_minds cX6_minds 2 none, Cond.fieldLink RX6 117 "PulpitRoadsModel" "undoes" "I", Cond.methodLink RX6 113 yX6_copyOf, Cond.instanceMethod yX6_copyOf, Cond.selects RX6 yX6_copyOf yX6_copyOf, Cond.code yX6_copyOf cX6_copyOf 5 none, Cond.methodLink RX6 152 yX6_hourBy, Cond.instanceMethod yX6_hourBy]
def wsX6_hours_r2 : List Cond := [Cond.selects RX6 yX6_hourBy yX6_hourBy, Cond.code yX6_hourBy cX6_hourBy 5 none, Cond.methodLink RX6 130 yX6_councilsIn, Cond.instanceMethod yX6_councilsIn, Cond.selects RX6 yX6_councilsIn yX6_councilsIn, Cond.code yX6_councilsIn cX6_councilsIn 5 (some .int), Cond.methodLink RX6 127 yX6_has, Cond.static yX6_has, Cond.code yX6_has cX6_has 2 (some .boolean), Cond.methodLink RX6 133 yX6_passes, Cond.instanceMethod yX6_passes, Cond.selects RX6 yX6_passes yX6_passes, Cond.code yX6_passes cX6_passes 10 none, Cond.methodLink RX6 124 yX6_saysIn, Cond.instanceMethod yX6_saysIn, Cond.selects RX6 yX6_saysIn yX6_saysIn, Cond.code yX6_saysIn cX6_saysIn 7 (some .int), Cond.methodLink RX6 120 yX6_saysMany, Cond.instanceMethod yX6_saysMany, Cond.selects RX6 yX6_saysMany yX6_saysMany, Cond.code yX6_saysMany cX6_saysMany 4 (some .int), Cond.methodLink RX6 155 yX6_wholeOnes, Cond.instanceMethod yX6_wholeOnes, Cond.selects RX6 yX6_wholeOnes yX6_wholeOnes]
def wsX6_hours_r3 : List Cond := [Cond.code yX6_wholeOnes cX6_wholeOnes 4 (some .int), Cond.methodLink RX6 137 yX6_all, Cond.instanceMethod yX6_all, Cond.selects RX6 yX6_all yX6_all, Cond.code yX6_all cX6_all 2 (some .int)]
def wsX6_hours : List Cond := .code yX6_hours cX6_hours 3 (some .int) :: ((wsX6_hours_r1 ++ (wsX6_hours_r2 ++ wsX6_hours_r3)) ++ wsX60)
def wsX6_put : List Cond := .code yX6_put cX6_put 4 (some .int) :: ([.constant RX6 51 (-1000001), .fieldLink RX6 7 "PulpitRoadsModel" "w" "[I", .constant RX6 146 (-1000002), .methodLink RX6 158 yX6_isPulpit, .instanceMethod yX6_isPulpit, .selects RX6 yX6_isPulpit yX6_isPulpit, .initialized RX6, .code yX6_isPulpit cX6_isPulpit 2 (some .boolean), .methodLink RX6 34 yX6_in, .static yX6_in, .code yX6_in cX6_in 6 (some .boolean), .methodLink RX6 161 yX6_isStretch, .instanceMethod yX6_isStretch, .selects RX6 yX6_isStretch yX6_isStretch, .code yX6_isStretch cX6_isStretch 2 (some .boolean), .methodLink RX6 149 yX6_minds, .instanceMethod yX6_minds, .selects RX6 yX6_minds yX6_minds, .code yX6_minds cX6_minds 2 none, .fieldLink RX6 117 "PulpitRoadsModel" "undoes" "I", .methodLink RX6 113 yX6_copyOf, .instanceMethod yX6_copyOf, .selects RX6 yX6_copyOf yX6_copyOf, .code yX6_copyOf cX6_copyOf 5 none] ++ wsX60)
def wsX6_skip : List Cond := .code yX6_skip cX6_skip 4 (some .int) :: ([.fieldLink RX6 7 "PulpitRoadsModel" "w" "[I", .constant RX6 51 (-1000001), .methodLink RX6 158 yX6_isPulpit, .instanceMethod yX6_isPulpit, .selects RX6 yX6_isPulpit yX6_isPulpit, .initialized RX6, .code yX6_isPulpit cX6_isPulpit 2 (some .boolean), .methodLink RX6 34 yX6_in, .static yX6_in, .code yX6_in cX6_in 6 (some .boolean), .methodLink RX6 149 yX6_minds, .instanceMethod yX6_minds, .selects RX6 yX6_minds yX6_minds, .code yX6_minds cX6_minds 2 none, .fieldLink RX6 117 "PulpitRoadsModel" "undoes" "I", .methodLink RX6 113 yX6_copyOf, .instanceMethod yX6_copyOf, .selects RX6 yX6_copyOf yX6_copyOf, .code yX6_copyOf cX6_copyOf 5 none] ++ wsX60)
def wsX6_forget : List Cond := .code yX6_forget cX6_forget 3 (some .int) :: ([.constant RX6 51 (-1000001), .fieldLink RX6 7 "PulpitRoadsModel" "w" "[I", .constant RX6 146 (-1000002), .methodLink RX6 161 yX6_isStretch, .instanceMethod yX6_isStretch, .selects RX6 yX6_isStretch yX6_isStretch, .initialized RX6, .code yX6_isStretch cX6_isStretch 2 (some .boolean), .methodLink RX6 34 yX6_in, .static yX6_in, .code yX6_in cX6_in 6 (some .boolean), .methodLink RX6 149 yX6_minds, .instanceMethod yX6_minds, .selects RX6 yX6_minds yX6_minds, .code yX6_minds cX6_minds 2 none, .fieldLink RX6 117 "PulpitRoadsModel" "undoes" "I", .methodLink RX6 113 yX6_copyOf, .instanceMethod yX6_copyOf, .selects RX6 yX6_copyOf yX6_copyOf, .code yX6_copyOf cX6_copyOf 5 none, .methodLink RX6 140 yX6_ones, .static yX6_ones, .code yX6_ones cX6_ones 3 (some .int)] ++ wsX60)
def wsX6_undo : List Cond := .code yX6_undo cX6_undo 1 (some .int) :: ([.fieldLink RX6 117 "PulpitRoadsModel" "undoes" "I", .constant RX6 146 (-1000002), .methodLink RX6 113 yX6_copyOf, .instanceMethod yX6_copyOf, .selects RX6 yX6_copyOf yX6_copyOf, .initialized RX6, .code yX6_copyOf cX6_copyOf 5 none, .fieldLink RX6 7 "PulpitRoadsModel" "w" "[I"] ++ wsX60)
def wsX6_pulpit : List Cond := .code yX6_pulpit cX6_pulpit 3 (some .int) :: ([.constant RX6 51 (-1000001), .fieldLink RX6 7 "PulpitRoadsModel" "w" "[I", .methodLink RX6 158 yX6_isPulpit, .instanceMethod yX6_isPulpit, .selects RX6 yX6_isPulpit yX6_isPulpit, .initialized RX6, .code yX6_isPulpit cX6_isPulpit 2 (some .boolean), .methodLink RX6 34 yX6_in, .static yX6_in, .code yX6_in cX6_in 6 (some .boolean), .methodLink RX6 130 yX6_councilsIn, .instanceMethod yX6_councilsIn, .selects RX6 yX6_councilsIn yX6_councilsIn, .code yX6_councilsIn cX6_councilsIn 5 (some .int), .methodLink RX6 124 yX6_saysIn, .instanceMethod yX6_saysIn, .selects RX6 yX6_saysIn yX6_saysIn, .code yX6_saysIn cX6_saysIn 7 (some .int), .methodLink RX6 120 yX6_saysMany, .instanceMethod yX6_saysMany, .selects RX6 yX6_saysMany yX6_saysMany, .code yX6_saysMany cX6_saysMany 4 (some .int)] ++ wsX60)
def wsX6_pulpitsAt : List Cond := .code yX6_pulpitsAt cX6_pulpitsAt 4 (some .int) :: ([.fieldLink RX6 7 "PulpitRoadsModel" "w" "[I"] ++ wsX60)
def wsX6_stretch : List Cond := .code yX6_stretch cX6_stretch 3 (some .int) :: ([.constant RX6 51 (-1000001), .fieldLink RX6 7 "PulpitRoadsModel" "w" "[I", .methodLink RX6 161 yX6_isStretch, .instanceMethod yX6_isStretch, .selects RX6 yX6_isStretch yX6_isStretch, .initialized RX6, .code yX6_isStretch cX6_isStretch 2 (some .boolean), .methodLink RX6 34 yX6_in, .static yX6_in, .code yX6_in cX6_in 6 (some .boolean), .methodLink RX6 164 yX6_pulpitsAt, .instanceMethod yX6_pulpitsAt, .selects RX6 yX6_pulpitsAt yX6_pulpitsAt, .code yX6_pulpitsAt cX6_pulpitsAt 4 (some .int)] ++ wsX60)
def wsX6_tries : List Cond := .code yX6_tries cX6_tries 1 none :: ([.methodLink RX6 113 yX6_copyOf, .instanceMethod yX6_copyOf, .selects RX6 yX6_copyOf yX6_copyOf, .initialized RX6, .code yX6_copyOf cX6_copyOf 5 none, .fieldLink RX6 7 "PulpitRoadsModel" "w" "[I"] ++ wsX60)
def wsX6_goesOn_r1 : List Cond := [Cond.methodLink RX6 152 yX6_hourBy, Cond.instanceMethod yX6_hourBy, Cond.selects RX6 yX6_hourBy yX6_hourBy, Cond.initialized RX6, Cond.code yX6_hourBy cX6_hourBy 5 none, Cond.fieldLink RX6 7 "PulpitRoadsModel" "w" "[I", Cond.methodLink RX6 130 yX6_councilsIn, Cond.instanceMethod yX6_councilsIn, Cond.selects RX6 yX6_councilsIn yX6_councilsIn, Cond.code yX6_councilsIn cX6_councilsIn 5 (some .int), Cond.methodLink RX6 127 yX6_has, Cond.static yX6_has, Cond.code yX6_has cX6_has 2 (some .boolean), Cond.methodLink RX6 133 yX6_passes, Cond.instanceMethod yX6_passes, Cond.selects RX6 yX6_passes yX6_passes, Cond.code yX6_passes cX6_passes 10 none, Cond.methodLink RX6 124 yX6_saysIn, Cond.instanceMethod yX6_saysIn, Cond.selects RX6 yX6_saysIn yX6_saysIn, Cond.code yX6_saysIn cX6_saysIn 7 (some .int), Cond.methodLink RX6 120 yX6_saysMany, Cond.instanceMethod yX6_saysMany, Cond.selects RX6 yX6_saysMany yX6_saysMany]
def wsX6_goesOn_r2 : List Cond := [Cond.code yX6_saysMany cX6_saysMany 4 (some .int)]
def wsX6_goesOn : List Cond := .code yX6_goesOn cX6_goesOn 3 none :: ((wsX6_goesOn_r1 ++ wsX6_goesOn_r2) ++ wsX60)
def wsX6_ahead_r1 : List Cond := [Cond.constantLong RX6 167 (60), Cond.constant RX6 51 (-1000001), Cond.fieldLink RX6 7 "PulpitRoadsModel" "w" "[I", Cond.methodLink RX6 158 yX6_isPulpit, Cond.instanceMethod yX6_isPulpit, Cond.selects RX6 yX6_isPulpit yX6_isPulpit, Cond.initialized RX6, Cond.code yX6_isPulpit cX6_isPulpit 2 (some .boolean), Cond.methodLink RX6 34 yX6_in, Cond.static yX6_in, Cond.code yX6_in cX6_in 6 (some .boolean), Cond.methodLink RX6 169 yX6_tries, Cond.instanceMethod yX6_tries, Cond.selects RX6 yX6_tries yX6_tries, Cond.code yX6_tries cX6_tries 1 none, Cond.methodLink RX6 113 yX6_copyOf, Cond.instanceMethod yX6_copyOf, Cond.selects RX6 yX6_copyOf yX6_copyOf, Cond.code yX6_copyOf cX6_copyOf 5 none, Cond.methodLink RX6 172 yX6_goesOn, Cond.instanceMethod yX6_goesOn, Cond.selects RX6 yX6_goesOn yX6_goesOn, Cond.code yX6_goesOn cX6_goesOn 3 none, Cond.methodLink RX6 152 yX6_hourBy]
def wsX6_ahead_r2 : List Cond := [Cond.instanceMethod yX6_hourBy, Cond.selects RX6 yX6_hourBy yX6_hourBy, Cond.code yX6_hourBy cX6_hourBy 5 none, Cond.methodLink RX6 130 yX6_councilsIn, Cond.instanceMethod yX6_councilsIn, Cond.selects RX6 yX6_councilsIn yX6_councilsIn, Cond.code yX6_councilsIn cX6_councilsIn 5 (some .int), Cond.methodLink RX6 127 yX6_has, Cond.static yX6_has, Cond.code yX6_has cX6_has 2 (some .boolean), Cond.methodLink RX6 133 yX6_passes, Cond.instanceMethod yX6_passes, Cond.selects RX6 yX6_passes yX6_passes, Cond.code yX6_passes cX6_passes 10 none, Cond.methodLink RX6 124 yX6_saysIn, Cond.instanceMethod yX6_saysIn, Cond.selects RX6 yX6_saysIn yX6_saysIn, Cond.code yX6_saysIn cX6_saysIn 7 (some .int), Cond.methodLink RX6 120 yX6_saysMany, Cond.instanceMethod yX6_saysMany, Cond.selects RX6 yX6_saysMany yX6_saysMany, Cond.code yX6_saysMany cX6_saysMany 4 (some .int)]
def wsX6_ahead : List Cond := .code yX6_ahead cX6_ahead 4 (some .int) :: ((wsX6_ahead_r1 ++ wsX6_ahead_r2) ++ wsX60)
def wsX6_heard_r1 : List Cond := [Cond.constantLong RX6 167 (60), Cond.constant RX6 51 (-1000001), Cond.fieldLink RX6 7 "PulpitRoadsModel" "w" "[I", Cond.methodLink RX6 161 yX6_isStretch, Cond.instanceMethod yX6_isStretch, Cond.selects RX6 yX6_isStretch yX6_isStretch, Cond.initialized RX6, Cond.code yX6_isStretch cX6_isStretch 2 (some .boolean), Cond.methodLink RX6 34 yX6_in, Cond.static yX6_in, Cond.code yX6_in cX6_in 6 (some .boolean), Cond.methodLink RX6 169 yX6_tries, Cond.instanceMethod yX6_tries, Cond.selects RX6 yX6_tries yX6_tries, Cond.code yX6_tries cX6_tries 1 none, Cond.methodLink RX6 113 yX6_copyOf, Cond.instanceMethod yX6_copyOf, Cond.selects RX6 yX6_copyOf yX6_copyOf, Cond.code yX6_copyOf cX6_copyOf 5 none, Cond.methodLink RX6 172 yX6_goesOn, Cond.instanceMethod yX6_goesOn, Cond.selects RX6 yX6_goesOn yX6_goesOn, Cond.code yX6_goesOn cX6_goesOn 3 none, Cond.methodLink RX6 152 yX6_hourBy]
def wsX6_heard_r2 : List Cond := [Cond.instanceMethod yX6_hourBy, Cond.selects RX6 yX6_hourBy yX6_hourBy, Cond.code yX6_hourBy cX6_hourBy 5 none, Cond.methodLink RX6 130 yX6_councilsIn, Cond.instanceMethod yX6_councilsIn, Cond.selects RX6 yX6_councilsIn yX6_councilsIn, Cond.code yX6_councilsIn cX6_councilsIn 5 (some .int), Cond.methodLink RX6 127 yX6_has, Cond.static yX6_has, Cond.code yX6_has cX6_has 2 (some .boolean), Cond.methodLink RX6 133 yX6_passes, Cond.instanceMethod yX6_passes, Cond.selects RX6 yX6_passes yX6_passes, Cond.code yX6_passes cX6_passes 10 none, Cond.methodLink RX6 124 yX6_saysIn, Cond.instanceMethod yX6_saysIn, Cond.selects RX6 yX6_saysIn yX6_saysIn, Cond.code yX6_saysIn cX6_saysIn 7 (some .int), Cond.methodLink RX6 120 yX6_saysMany, Cond.instanceMethod yX6_saysMany, Cond.selects RX6 yX6_saysMany yX6_saysMany, Cond.code yX6_saysMany cX6_saysMany 4 (some .int)]
def wsX6_heard : List Cond := .code yX6_heard cX6_heard 3 (some .int) :: ((wsX6_heard_r1 ++ wsX6_heard_r2) ++ wsX60)
def wsX6_whole_r1 : List Cond := [Cond.constant RX6 51 (-1000001), Cond.constant RX6 176 (-1000000), Cond.methodLink RX6 161 yX6_isStretch, Cond.instanceMethod yX6_isStretch, Cond.selects RX6 yX6_isStretch yX6_isStretch, Cond.initialized RX6, Cond.code yX6_isStretch cX6_isStretch 2 (some .boolean), Cond.fieldLink RX6 7 "PulpitRoadsModel" "w" "[I", Cond.methodLink RX6 34 yX6_in, Cond.static yX6_in, Cond.code yX6_in cX6_in 6 (some .boolean), Cond.methodLink RX6 169 yX6_tries, Cond.instanceMethod yX6_tries, Cond.selects RX6 yX6_tries yX6_tries, Cond.code yX6_tries cX6_tries 1 none, Cond.methodLink RX6 113 yX6_copyOf, Cond.instanceMethod yX6_copyOf, Cond.selects RX6 yX6_copyOf yX6_copyOf, Cond.code yX6_copyOf cX6_copyOf 5 none, Cond.methodLink RX6 155 yX6_wholeOnes, Cond.instanceMethod yX6_wholeOnes, Cond.selects RX6 yX6_wholeOnes yX6_wholeOnes, Cond.code yX6_wholeOnes cX6_wholeOnes 4 (some .int), Cond.methodLink RX6 137 yX6_all]
def wsX6_whole_r2 : List Cond := [Cond.instanceMethod yX6_all, Cond.selects RX6 yX6_all yX6_all, Cond.code yX6_all cX6_all 2 (some .int), Cond.methodLink RX6 127 yX6_has, Cond.static yX6_has, Cond.code yX6_has cX6_has 2 (some .boolean), Cond.methodLink RX6 152 yX6_hourBy, Cond.instanceMethod yX6_hourBy, Cond.selects RX6 yX6_hourBy yX6_hourBy, Cond.code yX6_hourBy cX6_hourBy 5 none, Cond.methodLink RX6 130 yX6_councilsIn, Cond.instanceMethod yX6_councilsIn, Cond.selects RX6 yX6_councilsIn yX6_councilsIn, Cond.code yX6_councilsIn cX6_councilsIn 5 (some .int), Cond.methodLink RX6 133 yX6_passes, Cond.instanceMethod yX6_passes, Cond.selects RX6 yX6_passes yX6_passes, Cond.code yX6_passes cX6_passes 10 none, Cond.methodLink RX6 124 yX6_saysIn, Cond.instanceMethod yX6_saysIn, Cond.selects RX6 yX6_saysIn yX6_saysIn, Cond.code yX6_saysIn cX6_saysIn 7 (some .int), Cond.methodLink RX6 120 yX6_saysMany, Cond.instanceMethod yX6_saysMany]
def wsX6_whole_r3 : List Cond := [Cond.selects RX6 yX6_saysMany yX6_saysMany, Cond.code yX6_saysMany cX6_saysMany 4 (some .int)]
def wsX6_whole : List Cond := .code yX6_whole cX6_whole 3 (some .int) :: ((wsX6_whole_r1 ++ (wsX6_whole_r2 ++ wsX6_whole_r3)) ++ wsX60)
def wsX6_leastOf : List Cond := .code yX6_leastOf cX6_leastOf 3 (some .int) :: ([.methodLink RX6 127 yX6_has, .static yX6_has, .initialized RX6, .code yX6_has cX6_has 2 (some .boolean)])
def wsX6_first_r1 : List Cond := [Cond.constant RX6 146 (-1000002), Cond.constant RX6 51 (-1000001), Cond.constant RX6 176 (-1000000), Cond.methodLink RX6 143 yX6_isRoad, Cond.instanceMethod yX6_isRoad, Cond.selects RX6 yX6_isRoad yX6_isRoad, Cond.initialized RX6, Cond.code yX6_isRoad cX6_isRoad 1 (some .boolean), Cond.fieldLink RX6 7 "PulpitRoadsModel" "w" "[I", Cond.methodLink RX6 34 yX6_in, Cond.static yX6_in, Cond.code yX6_in cX6_in 6 (some .boolean), Cond.methodLink RX6 169 yX6_tries, Cond.instanceMethod yX6_tries, Cond.selects RX6 yX6_tries yX6_tries, Cond.code yX6_tries cX6_tries 1 none, Cond.methodLink RX6 113 yX6_copyOf, Cond.instanceMethod yX6_copyOf, Cond.selects RX6 yX6_copyOf yX6_copyOf, Cond.code yX6_copyOf cX6_copyOf 5 none, Cond.methodLink RX6 155 yX6_wholeOnes, Cond.instanceMethod yX6_wholeOnes, Cond.selects RX6 yX6_wholeOnes yX6_wholeOnes, Cond.code yX6_wholeOnes cX6_wholeOnes 4 (some .int)]
def wsX6_first_r2 : List Cond := [Cond.methodLink RX6 137 yX6_all, Cond.instanceMethod yX6_all, Cond.selects RX6 yX6_all yX6_all, Cond.code yX6_all cX6_all 2 (some .int), Cond.methodLink RX6 177 yX6_leastOf, Cond.instanceMethod yX6_leastOf, Cond.selects RX6 yX6_leastOf yX6_leastOf, Cond.code yX6_leastOf cX6_leastOf 3 (some .int), Cond.methodLink RX6 127 yX6_has, Cond.static yX6_has, Cond.code yX6_has cX6_has 2 (some .boolean), Cond.methodLink RX6 152 yX6_hourBy, Cond.instanceMethod yX6_hourBy, Cond.selects RX6 yX6_hourBy yX6_hourBy, Cond.code yX6_hourBy cX6_hourBy 5 none, Cond.methodLink RX6 130 yX6_councilsIn, Cond.instanceMethod yX6_councilsIn, Cond.selects RX6 yX6_councilsIn yX6_councilsIn, Cond.code yX6_councilsIn cX6_councilsIn 5 (some .int), Cond.methodLink RX6 133 yX6_passes, Cond.instanceMethod yX6_passes, Cond.selects RX6 yX6_passes yX6_passes, Cond.code yX6_passes cX6_passes 10 none, Cond.methodLink RX6 124 yX6_saysIn]
def wsX6_first_r3 : List Cond := [Cond.instanceMethod yX6_saysIn, Cond.selects RX6 yX6_saysIn yX6_saysIn, Cond.code yX6_saysIn cX6_saysIn 7 (some .int), Cond.methodLink RX6 120 yX6_saysMany, Cond.instanceMethod yX6_saysMany, Cond.selects RX6 yX6_saysMany yX6_saysMany, Cond.code yX6_saysMany cX6_saysMany 4 (some .int)]
def wsX6_first : List Cond := .code yX6_first cX6_first 4 (some .int) :: ((wsX6_first_r1 ++ (wsX6_first_r2 ++ wsX6_first_r3)) ++ wsX60)
def wsX6_left_r1 : List Cond := [Cond.constant RX6 146 (-1000002), Cond.constantLong RX6 167 (60), Cond.constant RX6 51 (-1000001), Cond.fieldLink RX6 7 "PulpitRoadsModel" "w" "[I", Cond.methodLink RX6 143 yX6_isRoad, Cond.instanceMethod yX6_isRoad, Cond.selects RX6 yX6_isRoad yX6_isRoad, Cond.initialized RX6, Cond.code yX6_isRoad cX6_isRoad 1 (some .boolean), Cond.methodLink RX6 34 yX6_in, Cond.static yX6_in, Cond.code yX6_in cX6_in 6 (some .boolean), Cond.methodLink RX6 169 yX6_tries, Cond.instanceMethod yX6_tries, Cond.selects RX6 yX6_tries yX6_tries, Cond.code yX6_tries cX6_tries 1 none, Cond.methodLink RX6 113 yX6_copyOf, Cond.instanceMethod yX6_copyOf, Cond.selects RX6 yX6_copyOf yX6_copyOf, Cond.code yX6_copyOf cX6_copyOf 5 none, Cond.methodLink RX6 172 yX6_goesOn, Cond.instanceMethod yX6_goesOn, Cond.selects RX6 yX6_goesOn yX6_goesOn, Cond.code yX6_goesOn cX6_goesOn 3 none]
def wsX6_left_r2 : List Cond := [Cond.methodLink RX6 152 yX6_hourBy, Cond.instanceMethod yX6_hourBy, Cond.selects RX6 yX6_hourBy yX6_hourBy, Cond.code yX6_hourBy cX6_hourBy 5 none, Cond.methodLink RX6 130 yX6_councilsIn, Cond.instanceMethod yX6_councilsIn, Cond.selects RX6 yX6_councilsIn yX6_councilsIn, Cond.code yX6_councilsIn cX6_councilsIn 5 (some .int), Cond.methodLink RX6 127 yX6_has, Cond.static yX6_has, Cond.code yX6_has cX6_has 2 (some .boolean), Cond.methodLink RX6 133 yX6_passes, Cond.instanceMethod yX6_passes, Cond.selects RX6 yX6_passes yX6_passes, Cond.code yX6_passes cX6_passes 10 none, Cond.methodLink RX6 124 yX6_saysIn, Cond.instanceMethod yX6_saysIn, Cond.selects RX6 yX6_saysIn yX6_saysIn, Cond.code yX6_saysIn cX6_saysIn 7 (some .int), Cond.methodLink RX6 120 yX6_saysMany, Cond.instanceMethod yX6_saysMany, Cond.selects RX6 yX6_saysMany yX6_saysMany, Cond.code yX6_saysMany cX6_saysMany 4 (some .int), Cond.methodLink RX6 137 yX6_all]
def wsX6_left_r3 : List Cond := [Cond.instanceMethod yX6_all, Cond.selects RX6 yX6_all yX6_all, Cond.code yX6_all cX6_all 2 (some .int)]
def wsX6_left : List Cond := .code yX6_left cX6_left 4 (some .int) :: ((wsX6_left_r1 ++ (wsX6_left_r2 ++ wsX6_left_r3)) ++ wsX60)
def wsX6_meet_r1 : List Cond := [Cond.constant RX6 51 (-1000001), Cond.fieldLink RX6 7 "PulpitRoadsModel" "w" "[I", Cond.constant RX6 176 (-1000000), Cond.methodLink RX6 158 yX6_isPulpit, Cond.instanceMethod yX6_isPulpit, Cond.selects RX6 yX6_isPulpit yX6_isPulpit, Cond.initialized RX6, Cond.code yX6_isPulpit cX6_isPulpit 2 (some .boolean), Cond.methodLink RX6 34 yX6_in, Cond.static yX6_in, Cond.code yX6_in cX6_in 6 (some .boolean), Cond.methodLink RX6 169 yX6_tries, Cond.instanceMethod yX6_tries, Cond.selects RX6 yX6_tries yX6_tries, Cond.code yX6_tries cX6_tries 1 none, Cond.methodLink RX6 113 yX6_copyOf, Cond.instanceMethod yX6_copyOf, Cond.selects RX6 yX6_copyOf yX6_copyOf, Cond.code yX6_copyOf cX6_copyOf 5 none, Cond.methodLink RX6 152 yX6_hourBy, Cond.instanceMethod yX6_hourBy, Cond.selects RX6 yX6_hourBy yX6_hourBy, Cond.code yX6_hourBy cX6_hourBy 5 none, Cond.methodLink RX6 130 yX6_councilsIn]
def wsX6_meet_r2 : List Cond := [Cond.instanceMethod yX6_councilsIn, Cond.selects RX6 yX6_councilsIn yX6_councilsIn, Cond.code yX6_councilsIn cX6_councilsIn 5 (some .int), Cond.methodLink RX6 127 yX6_has, Cond.static yX6_has, Cond.code yX6_has cX6_has 2 (some .boolean), Cond.methodLink RX6 133 yX6_passes, Cond.instanceMethod yX6_passes, Cond.selects RX6 yX6_passes yX6_passes, Cond.code yX6_passes cX6_passes 10 none, Cond.methodLink RX6 124 yX6_saysIn, Cond.instanceMethod yX6_saysIn, Cond.selects RX6 yX6_saysIn yX6_saysIn, Cond.code yX6_saysIn cX6_saysIn 7 (some .int), Cond.methodLink RX6 120 yX6_saysMany, Cond.instanceMethod yX6_saysMany, Cond.selects RX6 yX6_saysMany yX6_saysMany, Cond.code yX6_saysMany cX6_saysMany 4 (some .int)]
def wsX6_meet : List Cond := .code yX6_meet cX6_meet 4 (some .int) :: ((wsX6_meet_r1 ++ wsX6_meet_r2) ++ wsX60)
def wsX6_round_r1 : List Cond := [Cond.constant RX6 146 (-1000002), Cond.fieldLink RX6 7 "PulpitRoadsModel" "w" "[I", Cond.constant RX6 176 (-1000000), Cond.methodLink RX6 143 yX6_isRoad, Cond.instanceMethod yX6_isRoad, Cond.selects RX6 yX6_isRoad yX6_isRoad, Cond.initialized RX6, Cond.code yX6_isRoad cX6_isRoad 1 (some .boolean), Cond.methodLink RX6 169 yX6_tries, Cond.instanceMethod yX6_tries, Cond.selects RX6 yX6_tries yX6_tries, Cond.code yX6_tries cX6_tries 1 none, Cond.methodLink RX6 113 yX6_copyOf, Cond.instanceMethod yX6_copyOf, Cond.selects RX6 yX6_copyOf yX6_copyOf, Cond.code yX6_copyOf cX6_copyOf 5 none, Cond.methodLink RX6 152 yX6_hourBy, Cond.instanceMethod yX6_hourBy, Cond.selects RX6 yX6_hourBy yX6_hourBy, Cond.code yX6_hourBy cX6_hourBy 5 none, Cond.methodLink RX6 130 yX6_councilsIn, Cond.instanceMethod yX6_councilsIn, Cond.selects RX6 yX6_councilsIn yX6_councilsIn, Cond.code yX6_councilsIn cX6_councilsIn 5 (some .int)]
def wsX6_round_r2 : List Cond := [Cond.methodLink RX6 127 yX6_has, Cond.static yX6_has, Cond.code yX6_has cX6_has 2 (some .boolean), Cond.methodLink RX6 133 yX6_passes, Cond.instanceMethod yX6_passes, Cond.selects RX6 yX6_passes yX6_passes, Cond.code yX6_passes cX6_passes 10 none, Cond.methodLink RX6 124 yX6_saysIn, Cond.instanceMethod yX6_saysIn, Cond.selects RX6 yX6_saysIn yX6_saysIn, Cond.code yX6_saysIn cX6_saysIn 7 (some .int), Cond.methodLink RX6 120 yX6_saysMany, Cond.instanceMethod yX6_saysMany, Cond.selects RX6 yX6_saysMany yX6_saysMany, Cond.code yX6_saysMany cX6_saysMany 4 (some .int)]
def wsX6_round : List Cond := .code yX6_round cX6_round 4 (some .int) :: ((wsX6_round_r1 ++ wsX6_round_r2) ++ wsX60)
def wsX6_best_r1 : List Cond := [Cond.constantLong RX6 180 (30), Cond.constant RX6 51 (-1000001), Cond.fieldLink RX6 7 "PulpitRoadsModel" "w" "[I", Cond.methodLink RX6 158 yX6_isPulpit, Cond.instanceMethod yX6_isPulpit, Cond.selects RX6 yX6_isPulpit yX6_isPulpit, Cond.initialized RX6, Cond.code yX6_isPulpit cX6_isPulpit 2 (some .boolean), Cond.methodLink RX6 34 yX6_in, Cond.static yX6_in, Cond.code yX6_in cX6_in 6 (some .boolean), Cond.methodLink RX6 161 yX6_isStretch, Cond.instanceMethod yX6_isStretch, Cond.selects RX6 yX6_isStretch yX6_isStretch, Cond.code yX6_isStretch cX6_isStretch 2 (some .boolean), Cond.methodLink RX6 169 yX6_tries, Cond.instanceMethod yX6_tries, Cond.selects RX6 yX6_tries yX6_tries, Cond.code yX6_tries cX6_tries 1 none, Cond.methodLink RX6 113 yX6_copyOf, Cond.instanceMethod yX6_copyOf, Cond.selects RX6 yX6_copyOf yX6_copyOf, Cond.code yX6_copyOf cX6_copyOf 5 none, Cond.methodLink RX6 172 yX6_goesOn]
def wsX6_best_r2 : List Cond := [Cond.instanceMethod yX6_goesOn, Cond.selects RX6 yX6_goesOn yX6_goesOn, Cond.code yX6_goesOn cX6_goesOn 3 none, Cond.methodLink RX6 152 yX6_hourBy, Cond.instanceMethod yX6_hourBy, Cond.selects RX6 yX6_hourBy yX6_hourBy, Cond.code yX6_hourBy cX6_hourBy 5 none, Cond.methodLink RX6 130 yX6_councilsIn, Cond.instanceMethod yX6_councilsIn, Cond.selects RX6 yX6_councilsIn yX6_councilsIn, Cond.code yX6_councilsIn cX6_councilsIn 5 (some .int), Cond.methodLink RX6 127 yX6_has, Cond.static yX6_has, Cond.code yX6_has cX6_has 2 (some .boolean), Cond.methodLink RX6 133 yX6_passes, Cond.instanceMethod yX6_passes, Cond.selects RX6 yX6_passes yX6_passes, Cond.code yX6_passes cX6_passes 10 none, Cond.methodLink RX6 124 yX6_saysIn, Cond.instanceMethod yX6_saysIn, Cond.selects RX6 yX6_saysIn yX6_saysIn, Cond.code yX6_saysIn cX6_saysIn 7 (some .int), Cond.methodLink RX6 120 yX6_saysMany, Cond.instanceMethod yX6_saysMany]
def wsX6_best_r3 : List Cond := [Cond.selects RX6 yX6_saysMany yX6_saysMany, Cond.code yX6_saysMany cX6_saysMany 4 (some .int), Cond.methodLink RX6 140 yX6_ones, Cond.static yX6_ones, Cond.code yX6_ones cX6_ones 3 (some .int)]
def wsX6_best : List Cond := .code yX6_best cX6_best 9 (some .int) :: ((wsX6_best_r1 ++ (wsX6_best_r2 ++ wsX6_best_r3)) ++ wsX60)
def wsX6_piece : List Cond := .code yX6_piece cX6_piece 6 (some .int) :: ([.constant RX6 146 (-1000002), .constant RX6 51 (-1000001), .constant RX6 176 (-1000000), .fieldLink RX6 7 "PulpitRoadsModel" "w" "[I", .methodLink RX6 143 yX6_isRoad, .instanceMethod yX6_isRoad, .selects RX6 yX6_isRoad yX6_isRoad, .initialized RX6, .code yX6_isRoad cX6_isRoad 1 (some .boolean), .methodLink RX6 34 yX6_in, .static yX6_in, .code yX6_in cX6_in 6 (some .boolean), .methodLink RX6 127 yX6_has, .static yX6_has, .code yX6_has cX6_has 2 (some .boolean), .methodLink RX6 137 yX6_all, .instanceMethod yX6_all, .selects RX6 yX6_all yX6_all, .code yX6_all cX6_all 2 (some .int), .methodLink RX6 140 yX6_ones, .static yX6_ones, .code yX6_ones cX6_ones 3 (some .int)] ++ wsX60)
def wsX6_laysSaid_r1 : List Cond := [Cond.fieldLink RX6 28 "PulpitRoadsModel" "said" "[I", Cond.fieldLink RX6 7 "PulpitRoadsModel" "w" "[I", Cond.methodLink RX6 169 yX6_tries, Cond.instanceMethod yX6_tries, Cond.selects RX6 yX6_tries yX6_tries, Cond.initialized RX6, Cond.code yX6_tries cX6_tries 1 none, Cond.methodLink RX6 113 yX6_copyOf, Cond.instanceMethod yX6_copyOf, Cond.selects RX6 yX6_copyOf yX6_copyOf, Cond.code yX6_copyOf cX6_copyOf 5 none, Cond.methodLink RX6 130 yX6_councilsIn, Cond.instanceMethod yX6_councilsIn, Cond.selects RX6 yX6_councilsIn yX6_councilsIn, Cond.code yX6_councilsIn cX6_councilsIn 5 (some .int), Cond.methodLink RX6 127 yX6_has, Cond.static yX6_has, Cond.code yX6_has cX6_has 2 (some .boolean), Cond.methodLink RX6 124 yX6_saysIn, Cond.instanceMethod yX6_saysIn, Cond.selects RX6 yX6_saysIn yX6_saysIn, Cond.code yX6_saysIn cX6_saysIn 7 (some .int), Cond.methodLink RX6 120 yX6_saysMany, Cond.instanceMethod yX6_saysMany]
def wsX6_laysSaid_r2 : List Cond := [Cond.selects RX6 yX6_saysMany yX6_saysMany, Cond.code yX6_saysMany cX6_saysMany 4 (some .int), Cond.methodLink RX6 152 yX6_hourBy, Cond.instanceMethod yX6_hourBy, Cond.selects RX6 yX6_hourBy yX6_hourBy, Cond.code yX6_hourBy cX6_hourBy 5 none, Cond.methodLink RX6 133 yX6_passes, Cond.instanceMethod yX6_passes, Cond.selects RX6 yX6_passes yX6_passes, Cond.code yX6_passes cX6_passes 10 none]
def wsX6_laysSaid : List Cond := .code yX6_laysSaid cX6_laysSaid 5 none :: ((wsX6_laysSaid_r1 ++ wsX6_laysSaid_r2) ++ wsX60)
def wsX6_walk_r1 : List Cond := [Cond.constantLong RX6 182 (8), Cond.constant RX6 51 (-1000001), Cond.fieldLink RX6 7 "PulpitRoadsModel" "w" "[I", Cond.fieldLink RX6 28 "PulpitRoadsModel" "said" "[I", Cond.methodLink RX6 161 yX6_isStretch, Cond.instanceMethod yX6_isStretch, Cond.selects RX6 yX6_isStretch yX6_isStretch, Cond.initialized RX6, Cond.code yX6_isStretch cX6_isStretch 2 (some .boolean), Cond.methodLink RX6 34 yX6_in, Cond.static yX6_in, Cond.code yX6_in cX6_in 6 (some .boolean), Cond.methodLink RX6 184 yX6_laysSaid, Cond.instanceMethod yX6_laysSaid, Cond.selects RX6 yX6_laysSaid yX6_laysSaid, Cond.code yX6_laysSaid cX6_laysSaid 5 none, Cond.methodLink RX6 169 yX6_tries, Cond.instanceMethod yX6_tries, Cond.selects RX6 yX6_tries yX6_tries, Cond.code yX6_tries cX6_tries 1 none, Cond.methodLink RX6 113 yX6_copyOf, Cond.instanceMethod yX6_copyOf, Cond.selects RX6 yX6_copyOf yX6_copyOf, Cond.code yX6_copyOf cX6_copyOf 5 none]
def wsX6_walk_r2 : List Cond := [Cond.methodLink RX6 130 yX6_councilsIn, Cond.instanceMethod yX6_councilsIn, Cond.selects RX6 yX6_councilsIn yX6_councilsIn, Cond.code yX6_councilsIn cX6_councilsIn 5 (some .int), Cond.methodLink RX6 127 yX6_has, Cond.static yX6_has, Cond.code yX6_has cX6_has 2 (some .boolean), Cond.methodLink RX6 124 yX6_saysIn, Cond.instanceMethod yX6_saysIn, Cond.selects RX6 yX6_saysIn yX6_saysIn, Cond.code yX6_saysIn cX6_saysIn 7 (some .int), Cond.methodLink RX6 120 yX6_saysMany, Cond.instanceMethod yX6_saysMany, Cond.selects RX6 yX6_saysMany yX6_saysMany, Cond.code yX6_saysMany cX6_saysMany 4 (some .int), Cond.methodLink RX6 152 yX6_hourBy, Cond.instanceMethod yX6_hourBy, Cond.selects RX6 yX6_hourBy yX6_hourBy, Cond.code yX6_hourBy cX6_hourBy 5 none, Cond.methodLink RX6 133 yX6_passes, Cond.instanceMethod yX6_passes, Cond.selects RX6 yX6_passes yX6_passes, Cond.code yX6_passes cX6_passes 10 none, Cond.methodLink RX6 140 yX6_ones]
def wsX6_walk_r3 : List Cond := [Cond.static yX6_ones, Cond.code yX6_ones cX6_ones 3 (some .int)]
def wsX6_walk : List Cond := .code yX6_walk cX6_walk 10 (some .int) :: ((wsX6_walk_r1 ++ (wsX6_walk_r2 ++ wsX6_walk_r3)) ++ wsX60)
def wsX6_isSo_r1 : List Cond := [Cond.fieldLink RX6 7 "PulpitRoadsModel" "w" "[I", Cond.fieldLink RX6 22 "PulpitRoadsModel" "items" "[I", Cond.methodLink RX6 152 yX6_hourBy, Cond.instanceMethod yX6_hourBy, Cond.selects RX6 yX6_hourBy yX6_hourBy, Cond.initialized RX6, Cond.code yX6_hourBy cX6_hourBy 5 none, Cond.methodLink RX6 130 yX6_councilsIn, Cond.instanceMethod yX6_councilsIn, Cond.selects RX6 yX6_councilsIn yX6_councilsIn, Cond.code yX6_councilsIn cX6_councilsIn 5 (some .int), Cond.methodLink RX6 127 yX6_has, Cond.static yX6_has, Cond.code yX6_has cX6_has 2 (some .boolean), Cond.methodLink RX6 133 yX6_passes, Cond.instanceMethod yX6_passes, Cond.selects RX6 yX6_passes yX6_passes, Cond.code yX6_passes cX6_passes 10 none, Cond.methodLink RX6 124 yX6_saysIn, Cond.instanceMethod yX6_saysIn, Cond.selects RX6 yX6_saysIn yX6_saysIn, Cond.code yX6_saysIn cX6_saysIn 7 (some .int), Cond.methodLink RX6 120 yX6_saysMany, Cond.instanceMethod yX6_saysMany]
def wsX6_isSo_r2 : List Cond := [Cond.selects RX6 yX6_saysMany yX6_saysMany, Cond.code yX6_saysMany cX6_saysMany 4 (some .int)]
def wsX6_isSo : List Cond := .code yX6_isSo cX6_isSo 6 (some .boolean) :: ((wsX6_isSo_r1 ++ wsX6_isSo_r2) ++ wsX60)
def wsX6_fits_r1 : List Cond := [Cond.constantLong RX6 187 (12), Cond.constantLong RX6 189 (3), Cond.constant RX6 51 (-1000001), Cond.fieldLink RX6 40 "PulpitRoadsModel" "status" "I", Cond.fieldLink RX6 7 "PulpitRoadsModel" "w" "[I", Cond.methodLink RX6 158 yX6_isPulpit, Cond.instanceMethod yX6_isPulpit, Cond.selects RX6 yX6_isPulpit yX6_isPulpit, Cond.initialized RX6, Cond.code yX6_isPulpit cX6_isPulpit 2 (some .boolean), Cond.methodLink RX6 34 yX6_in, Cond.static yX6_in, Cond.code yX6_in cX6_in 6 (some .boolean), Cond.methodLink RX6 45 yX6_isRow, Cond.static yX6_isRow, Cond.code yX6_isRow cX6_isRow 1 (some .boolean), Cond.constantLong RX6 38 (7), Cond.methodLink RX6 56 yX6_against, Cond.instanceMethod yX6_against, Cond.selects RX6 yX6_against yX6_against, Cond.code yX6_against cX6_against 4 (some .int), Cond.fieldLink RX6 16 "PulpitRoadsModel" "many" "[I", Cond.methodLink RX6 52 yX6_finds, Cond.instanceMethod yX6_finds]
def wsX6_fits_r2 : List Cond := [Cond.selects RX6 yX6_finds yX6_finds, Cond.code yX6_finds cX6_finds 2 (some .int), Cond.constant RX6 44 (-1000010), Cond.methodLink RX6 169 yX6_tries, Cond.instanceMethod yX6_tries, Cond.selects RX6 yX6_tries yX6_tries, Cond.code yX6_tries cX6_tries 1 none, Cond.methodLink RX6 113 yX6_copyOf, Cond.instanceMethod yX6_copyOf, Cond.selects RX6 yX6_copyOf yX6_copyOf, Cond.code yX6_copyOf cX6_copyOf 5 none, Cond.methodLink RX6 191 yX6_isSo, Cond.instanceMethod yX6_isSo, Cond.selects RX6 yX6_isSo yX6_isSo, Cond.code yX6_isSo cX6_isSo 6 (some .boolean), Cond.fieldLink RX6 22 "PulpitRoadsModel" "items" "[I", Cond.methodLink RX6 152 yX6_hourBy, Cond.instanceMethod yX6_hourBy, Cond.selects RX6 yX6_hourBy yX6_hourBy, Cond.code yX6_hourBy cX6_hourBy 5 none, Cond.methodLink RX6 130 yX6_councilsIn, Cond.instanceMethod yX6_councilsIn, Cond.selects RX6 yX6_councilsIn yX6_councilsIn, Cond.code yX6_councilsIn cX6_councilsIn 5 (some .int)]
def wsX6_fits_r3 : List Cond := [Cond.methodLink RX6 127 yX6_has, Cond.static yX6_has, Cond.code yX6_has cX6_has 2 (some .boolean), Cond.methodLink RX6 133 yX6_passes, Cond.instanceMethod yX6_passes, Cond.selects RX6 yX6_passes yX6_passes, Cond.code yX6_passes cX6_passes 10 none, Cond.methodLink RX6 124 yX6_saysIn, Cond.instanceMethod yX6_saysIn, Cond.selects RX6 yX6_saysIn yX6_saysIn, Cond.code yX6_saysIn cX6_saysIn 7 (some .int), Cond.methodLink RX6 120 yX6_saysMany, Cond.instanceMethod yX6_saysMany, Cond.selects RX6 yX6_saysMany yX6_saysMany, Cond.code yX6_saysMany cX6_saysMany 4 (some .int)]
def wsX6_fits : List Cond := .code yX6_fits cX6_fits 11 (some .int) :: ((wsX6_fits_r1 ++ (wsX6_fits_r2 ++ wsX6_fits_r3)) ++ wsX60)
def wsX6_axles_r1 : List Cond := [Cond.fieldLink RX6 7 "PulpitRoadsModel" "w" "[I", Cond.constantLong RX6 195 (10), Cond.constant RX6 51 (-1000001), Cond.methodLink RX6 161 yX6_isStretch, Cond.instanceMethod yX6_isStretch, Cond.selects RX6 yX6_isStretch yX6_isStretch, Cond.initialized RX6, Cond.code yX6_isStretch cX6_isStretch 2 (some .boolean), Cond.methodLink RX6 34 yX6_in, Cond.static yX6_in, Cond.code yX6_in cX6_in 6 (some .boolean), Cond.methodLink RX6 127 yX6_has, Cond.static yX6_has, Cond.code yX6_has cX6_has 2 (some .boolean), Cond.methodLink RX6 169 yX6_tries, Cond.instanceMethod yX6_tries, Cond.selects RX6 yX6_tries yX6_tries, Cond.code yX6_tries cX6_tries 1 none, Cond.methodLink RX6 113 yX6_copyOf, Cond.instanceMethod yX6_copyOf, Cond.selects RX6 yX6_copyOf yX6_copyOf, Cond.code yX6_copyOf cX6_copyOf 5 none, Cond.methodLink RX6 152 yX6_hourBy, Cond.instanceMethod yX6_hourBy]
def wsX6_axles_r2 : List Cond := [Cond.selects RX6 yX6_hourBy yX6_hourBy, Cond.code yX6_hourBy cX6_hourBy 5 none, Cond.methodLink RX6 130 yX6_councilsIn, Cond.instanceMethod yX6_councilsIn, Cond.selects RX6 yX6_councilsIn yX6_councilsIn, Cond.code yX6_councilsIn cX6_councilsIn 5 (some .int), Cond.methodLink RX6 133 yX6_passes, Cond.instanceMethod yX6_passes, Cond.selects RX6 yX6_passes yX6_passes, Cond.code yX6_passes cX6_passes 10 none, Cond.methodLink RX6 124 yX6_saysIn, Cond.instanceMethod yX6_saysIn, Cond.selects RX6 yX6_saysIn yX6_saysIn, Cond.code yX6_saysIn cX6_saysIn 7 (some .int), Cond.methodLink RX6 120 yX6_saysMany, Cond.instanceMethod yX6_saysMany, Cond.selects RX6 yX6_saysMany yX6_saysMany, Cond.code yX6_saysMany cX6_saysMany 4 (some .int)]
def wsX6_axles : List Cond := .code yX6_axles cX6_axles 10 (some .int) :: ((wsX6_axles_r1 ++ wsX6_axles_r2) ++ wsX60)
def wsX6_drawn_r1 : List Cond := [Cond.constant RX6 146 (-1000002), Cond.constantLong RX6 167 (60), Cond.constantLong RX6 197 (999999), Cond.constant RX6 51 (-1000001), Cond.constantLong RX6 199 (16807), Cond.constantLong RX6 201 (2147483647), Cond.fieldLink RX6 7 "PulpitRoadsModel" "w" "[I", Cond.constantLong RX6 189 (3), Cond.methodLink RX6 143 yX6_isRoad, Cond.instanceMethod yX6_isRoad, Cond.selects RX6 yX6_isRoad yX6_isRoad, Cond.initialized RX6, Cond.code yX6_isRoad cX6_isRoad 1 (some .boolean), Cond.methodLink RX6 34 yX6_in, Cond.static yX6_in, Cond.code yX6_in cX6_in 6 (some .boolean), Cond.methodLink RX6 169 yX6_tries, Cond.instanceMethod yX6_tries, Cond.selects RX6 yX6_tries yX6_tries, Cond.code yX6_tries cX6_tries 1 none, Cond.methodLink RX6 113 yX6_copyOf, Cond.instanceMethod yX6_copyOf, Cond.selects RX6 yX6_copyOf yX6_copyOf, Cond.code yX6_copyOf cX6_copyOf 5 none]
def wsX6_drawn_r2 : List Cond := [Cond.methodLink RX6 152 yX6_hourBy, Cond.instanceMethod yX6_hourBy, Cond.selects RX6 yX6_hourBy yX6_hourBy, Cond.code yX6_hourBy cX6_hourBy 5 none, Cond.methodLink RX6 130 yX6_councilsIn, Cond.instanceMethod yX6_councilsIn, Cond.selects RX6 yX6_councilsIn yX6_councilsIn, Cond.code yX6_councilsIn cX6_councilsIn 5 (some .int), Cond.methodLink RX6 127 yX6_has, Cond.static yX6_has, Cond.code yX6_has cX6_has 2 (some .boolean), Cond.methodLink RX6 133 yX6_passes, Cond.instanceMethod yX6_passes, Cond.selects RX6 yX6_passes yX6_passes, Cond.code yX6_passes cX6_passes 10 none, Cond.methodLink RX6 124 yX6_saysIn, Cond.instanceMethod yX6_saysIn, Cond.selects RX6 yX6_saysIn yX6_saysIn, Cond.code yX6_saysIn cX6_saysIn 7 (some .int), Cond.methodLink RX6 120 yX6_saysMany, Cond.instanceMethod yX6_saysMany, Cond.selects RX6 yX6_saysMany yX6_saysMany, Cond.code yX6_saysMany cX6_saysMany 4 (some .int), Cond.methodLink RX6 203 yX6_heardWords]
def wsX6_drawn_r3 : List Cond := [Cond.instanceMethod yX6_heardWords, Cond.selects RX6 yX6_heardWords yX6_heardWords, Cond.code yX6_heardWords cX6_heardWords 4 (some .int), Cond.methodLink RX6 140 yX6_ones, Cond.static yX6_ones, Cond.code yX6_ones cX6_ones 3 (some .int), Cond.methodLink RX6 155 yX6_wholeOnes, Cond.instanceMethod yX6_wholeOnes, Cond.selects RX6 yX6_wholeOnes yX6_wholeOnes, Cond.code yX6_wholeOnes cX6_wholeOnes 4 (some .int), Cond.methodLink RX6 137 yX6_all, Cond.instanceMethod yX6_all, Cond.selects RX6 yX6_all yX6_all, Cond.code yX6_all cX6_all 2 (some .int)]
def wsX6_drawn : List Cond := .code yX6_drawn cX6_drawn 7 (some .int) :: ((wsX6_drawn_r1 ++ (wsX6_drawn_r2 ++ wsX6_drawn_r3)) ++ wsX60)
def wsX6_image : List Cond := .code yX6_image cX6_image 2 (some .int) :: ([.constant RX6 51 (-1000001), .constant RX6 146 (-1000002), .methodLink RX6 34 yX6_in, .static yX6_in, .initialized RX6, .code yX6_in cX6_in 6 (some .boolean), .methodLink RX6 143 yX6_isRoad, .instanceMethod yX6_isRoad, .selects RX6 yX6_isRoad yX6_isRoad, .code yX6_isRoad cX6_isRoad 1 (some .boolean), .fieldLink RX6 7 "PulpitRoadsModel" "w" "[I", .methodLink RX6 113 yX6_copyOf, .instanceMethod yX6_copyOf, .selects RX6 yX6_copyOf yX6_copyOf, .code yX6_copyOf cX6_copyOf 5 none] ++ wsX60)
def wsX6_restore : List Cond := .code yX6_restore cX6_restore 2 (some .int) :: ([.constant RX6 51 (-1000001), .fieldLink RX6 7 "PulpitRoadsModel" "w" "[I", .constant RX6 146 (-1000002), .fieldLink RX6 117 "PulpitRoadsModel" "undoes" "I", .methodLink RX6 34 yX6_in, .static yX6_in, .initialized RX6, .code yX6_in cX6_in 6 (some .boolean), .methodLink RX6 113 yX6_copyOf, .instanceMethod yX6_copyOf, .selects RX6 yX6_copyOf yX6_copyOf, .code yX6_copyOf cX6_copyOf 5 none] ++ wsX60)
def wsX6_kind : List Cond := .code yX6_kind cX6_kind 2 (some .int) :: ([.fieldLink RX6 7 "PulpitRoadsModel" "w" "[I", .constant RX6 51 (-1000001), .methodLink RX6 158 yX6_isPulpit, .instanceMethod yX6_isPulpit, .selects RX6 yX6_isPulpit yX6_isPulpit, .initialized RX6, .code yX6_isPulpit cX6_isPulpit 2 (some .boolean), .methodLink RX6 34 yX6_in, .static yX6_in, .code yX6_in cX6_in 6 (some .boolean)] ++ wsX60)
def wsX6_isA : List Cond := .code yX6_isA cX6_isA 2 (some .boolean) :: ([])
def wsX6_as : List Cond := .code yX6_as cX6_as 3 (some .int) :: ([.constantLong RX6 206 (5), .constant RX6 51 (-1000001), .fieldLink RX6 7 "PulpitRoadsModel" "w" "[I", .fieldLink RX6 40 "PulpitRoadsModel" "status" "I", .methodLink RX6 158 yX6_isPulpit, .instanceMethod yX6_isPulpit, .selects RX6 yX6_isPulpit yX6_isPulpit, .initialized RX6, .code yX6_isPulpit cX6_isPulpit 2 (some .boolean), .methodLink RX6 34 yX6_in, .static yX6_in, .code yX6_in cX6_in 6 (some .boolean), .methodLink RX6 208 yX6_isA, .static yX6_isA, .code yX6_isA cX6_isA 2 (some .boolean), .methodLink RX6 52 yX6_finds, .instanceMethod yX6_finds, .selects RX6 yX6_finds yX6_finds, .code yX6_finds cX6_finds 2 (some .int), .constant RX6 44 (-1000010)] ++ wsX60)
def wsX6_traces : List Cond := .code yX6_traces cX6_traces 2 none :: ([.fieldLink RX6 211 "PulpitRoadsModel" "traced" "I", .fieldLink RX6 31 "PulpitRoadsModel" "trace" "[I"] ++ wsX60)
def wsX6_size10 : List Cond := .code yX6_size10 cX6_size10 2 (some .int) :: ([.fieldLink RX6 7 "PulpitRoadsModel" "w" "[I", .methodLink RX6 214 yX6_traces, .instanceMethod yX6_traces, .selects RX6 yX6_traces yX6_traces, .initialized RX6, .code yX6_traces cX6_traces 2 none, .fieldLink RX6 211 "PulpitRoadsModel" "traced" "I", .fieldLink RX6 31 "PulpitRoadsModel" "trace" "[I"] ++ wsX60)
def wsX6_mark20 : List Cond := .code yX6_mark20 cX6_mark20 2 (some .int) :: ([.methodLink RX6 214 yX6_traces, .instanceMethod yX6_traces, .selects RX6 yX6_traces yX6_traces, .initialized RX6, .code yX6_traces cX6_traces 2 none, .fieldLink RX6 211 "PulpitRoadsModel" "traced" "I", .fieldLink RX6 31 "PulpitRoadsModel" "trace" "[I"] ++ wsX60)
def wsX6_mark21 : List Cond := .code yX6_mark21 cX6_mark21 2 (some .int) :: ([.fieldLink RX6 7 "PulpitRoadsModel" "w" "[I", .methodLink RX6 214 yX6_traces, .instanceMethod yX6_traces, .selects RX6 yX6_traces yX6_traces, .initialized RX6, .code yX6_traces cX6_traces 2 none, .fieldLink RX6 211 "PulpitRoadsModel" "traced" "I", .fieldLink RX6 31 "PulpitRoadsModel" "trace" "[I", .methodLink RX6 229 yX6_mark20, .instanceMethod yX6_mark20, .selects RX6 yX6_mark20 yX6_mark20, .code yX6_mark20 cX6_mark20 2 (some .int)] ++ wsX60)
def wsX6_markOf : List Cond := .code yX6_markOf cX6_markOf 2 (some .int) :: ([.fieldLink RX6 7 "PulpitRoadsModel" "w" "[I", .methodLink RX6 214 yX6_traces, .instanceMethod yX6_traces, .selects RX6 yX6_traces yX6_traces, .initialized RX6, .code yX6_traces cX6_traces 2 none, .fieldLink RX6 211 "PulpitRoadsModel" "traced" "I", .fieldLink RX6 31 "PulpitRoadsModel" "trace" "[I", .methodLink RX6 232 yX6_mark21, .instanceMethod yX6_mark21, .selects RX6 yX6_mark21 yX6_mark21, .code yX6_mark21 cX6_mark21 2 (some .int), .methodLink RX6 229 yX6_mark20, .instanceMethod yX6_mark20, .selects RX6 yX6_mark20 yX6_mark20, .code yX6_mark20 cX6_mark20 2 (some .int)] ++ wsX60)
def wsX6_size11 : List Cond := .code yX6_size11 cX6_size11 3 (some .int) :: ([.methodLink RX6 214 yX6_traces, .instanceMethod yX6_traces, .selects RX6 yX6_traces yX6_traces, .initialized RX6, .code yX6_traces cX6_traces 2 none, .fieldLink RX6 211 "PulpitRoadsModel" "traced" "I", .fieldLink RX6 31 "PulpitRoadsModel" "trace" "[I", .methodLink RX6 217 yX6_size10, .instanceMethod yX6_size10, .selects RX6 yX6_size10 yX6_size10, .code yX6_size10 cX6_size10 2 (some .int), .fieldLink RX6 7 "PulpitRoadsModel" "w" "[I", .methodLink RX6 220 yX6_markOf, .instanceMethod yX6_markOf, .selects RX6 yX6_markOf yX6_markOf, .code yX6_markOf cX6_markOf 2 (some .int), .methodLink RX6 232 yX6_mark21, .instanceMethod yX6_mark21, .selects RX6 yX6_mark21 yX6_mark21, .code yX6_mark21 cX6_mark21 2 (some .int), .methodLink RX6 229 yX6_mark20, .instanceMethod yX6_mark20, .selects RX6 yX6_mark20 yX6_mark20, .code yX6_mark20 cX6_mark20 2 (some .int)] ++ wsX60)
def wsX6_size13 : List Cond := .code yX6_size13 cX6_size13 2 (some .int) :: ([.methodLink RX6 214 yX6_traces, .instanceMethod yX6_traces, .selects RX6 yX6_traces yX6_traces, .initialized RX6, .code yX6_traces cX6_traces 2 none, .fieldLink RX6 211 "PulpitRoadsModel" "traced" "I", .fieldLink RX6 31 "PulpitRoadsModel" "trace" "[I", .methodLink RX6 217 yX6_size10, .instanceMethod yX6_size10, .selects RX6 yX6_size10 yX6_size10, .code yX6_size10 cX6_size10 2 (some .int), .fieldLink RX6 7 "PulpitRoadsModel" "w" "[I"] ++ wsX60)
def wsX6_sizeOf_r1 : List Cond := [Cond.fieldLink RX6 7 "PulpitRoadsModel" "w" "[I", Cond.methodLink RX6 214 yX6_traces, Cond.instanceMethod yX6_traces, Cond.selects RX6 yX6_traces yX6_traces, Cond.initialized RX6, Cond.code yX6_traces cX6_traces 2 none, Cond.fieldLink RX6 211 "PulpitRoadsModel" "traced" "I", Cond.fieldLink RX6 31 "PulpitRoadsModel" "trace" "[I", Cond.methodLink RX6 223 yX6_size11, Cond.instanceMethod yX6_size11, Cond.selects RX6 yX6_size11 yX6_size11, Cond.code yX6_size11 cX6_size11 3 (some .int), Cond.methodLink RX6 217 yX6_size10, Cond.instanceMethod yX6_size10, Cond.selects RX6 yX6_size10 yX6_size10, Cond.code yX6_size10 cX6_size10 2 (some .int), Cond.methodLink RX6 220 yX6_markOf, Cond.instanceMethod yX6_markOf, Cond.selects RX6 yX6_markOf yX6_markOf, Cond.code yX6_markOf cX6_markOf 2 (some .int), Cond.methodLink RX6 232 yX6_mark21, Cond.instanceMethod yX6_mark21, Cond.selects RX6 yX6_mark21 yX6_mark21, Cond.code yX6_mark21 cX6_mark21 2 (some .int)]
def wsX6_sizeOf_r2 : List Cond := [Cond.methodLink RX6 229 yX6_mark20, Cond.instanceMethod yX6_mark20, Cond.selects RX6 yX6_mark20 yX6_mark20, Cond.code yX6_mark20 cX6_mark20 2 (some .int), Cond.methodLink RX6 226 yX6_size13, Cond.instanceMethod yX6_size13, Cond.selects RX6 yX6_size13 yX6_size13, Cond.code yX6_size13 cX6_size13 2 (some .int)]
def wsX6_sizeOf : List Cond := .code yX6_sizeOf cX6_sizeOf 2 (some .int) :: ((wsX6_sizeOf_r1 ++ wsX6_sizeOf_r2) ++ wsX60)
def wsX6_mark23_r1 : List Cond := [Cond.methodLink RX6 214 yX6_traces, Cond.instanceMethod yX6_traces, Cond.selects RX6 yX6_traces yX6_traces, Cond.initialized RX6, Cond.code yX6_traces cX6_traces 2 none, Cond.fieldLink RX6 211 "PulpitRoadsModel" "traced" "I", Cond.fieldLink RX6 31 "PulpitRoadsModel" "trace" "[I", Cond.methodLink RX6 229 yX6_mark20, Cond.instanceMethod yX6_mark20, Cond.selects RX6 yX6_mark20 yX6_mark20, Cond.code yX6_mark20 cX6_mark20 2 (some .int), Cond.methodLink RX6 235 yX6_sizeOf, Cond.instanceMethod yX6_sizeOf, Cond.selects RX6 yX6_sizeOf yX6_sizeOf, Cond.code yX6_sizeOf cX6_sizeOf 2 (some .int), Cond.fieldLink RX6 7 "PulpitRoadsModel" "w" "[I", Cond.methodLink RX6 223 yX6_size11, Cond.instanceMethod yX6_size11, Cond.selects RX6 yX6_size11 yX6_size11, Cond.code yX6_size11 cX6_size11 3 (some .int), Cond.methodLink RX6 217 yX6_size10, Cond.instanceMethod yX6_size10, Cond.selects RX6 yX6_size10 yX6_size10, Cond.code yX6_size10 cX6_size10 2 (some .int)]
def wsX6_mark23_r2 : List Cond := [Cond.methodLink RX6 220 yX6_markOf, Cond.instanceMethod yX6_markOf, Cond.selects RX6 yX6_markOf yX6_markOf, Cond.code yX6_markOf cX6_markOf 2 (some .int), Cond.methodLink RX6 232 yX6_mark21, Cond.instanceMethod yX6_mark21, Cond.selects RX6 yX6_mark21 yX6_mark21, Cond.code yX6_mark21 cX6_mark21 2 (some .int), Cond.methodLink RX6 226 yX6_size13, Cond.instanceMethod yX6_size13, Cond.selects RX6 yX6_size13 yX6_size13, Cond.code yX6_size13 cX6_size13 2 (some .int)]
def wsX6_mark23 : List Cond := .code yX6_mark23 cX6_mark23 3 (some .int) :: ((wsX6_mark23_r1 ++ wsX6_mark23_r2) ++ wsX60)
def wsX6_ask_r1 : List Cond := [Cond.constant RX6 51 (-1000001), Cond.fieldLink RX6 211 "PulpitRoadsModel" "traced" "I", Cond.fieldLink RX6 7 "PulpitRoadsModel" "w" "[I", Cond.methodLink RX6 158 yX6_isPulpit, Cond.instanceMethod yX6_isPulpit, Cond.selects RX6 yX6_isPulpit yX6_isPulpit, Cond.initialized RX6, Cond.code yX6_isPulpit cX6_isPulpit 2 (some .boolean), Cond.methodLink RX6 34 yX6_in, Cond.static yX6_in, Cond.code yX6_in cX6_in 6 (some .boolean), Cond.methodLink RX6 235 yX6_sizeOf, Cond.instanceMethod yX6_sizeOf, Cond.selects RX6 yX6_sizeOf yX6_sizeOf, Cond.code yX6_sizeOf cX6_sizeOf 2 (some .int), Cond.methodLink RX6 214 yX6_traces, Cond.instanceMethod yX6_traces, Cond.selects RX6 yX6_traces yX6_traces, Cond.code yX6_traces cX6_traces 2 none, Cond.fieldLink RX6 31 "PulpitRoadsModel" "trace" "[I", Cond.methodLink RX6 223 yX6_size11, Cond.instanceMethod yX6_size11, Cond.selects RX6 yX6_size11 yX6_size11, Cond.code yX6_size11 cX6_size11 3 (some .int)]
def wsX6_ask_r2 : List Cond := [Cond.methodLink RX6 217 yX6_size10, Cond.instanceMethod yX6_size10, Cond.selects RX6 yX6_size10 yX6_size10, Cond.code yX6_size10 cX6_size10 2 (some .int), Cond.methodLink RX6 220 yX6_markOf, Cond.instanceMethod yX6_markOf, Cond.selects RX6 yX6_markOf yX6_markOf, Cond.code yX6_markOf cX6_markOf 2 (some .int), Cond.methodLink RX6 232 yX6_mark21, Cond.instanceMethod yX6_mark21, Cond.selects RX6 yX6_mark21 yX6_mark21, Cond.code yX6_mark21 cX6_mark21 2 (some .int), Cond.methodLink RX6 229 yX6_mark20, Cond.instanceMethod yX6_mark20, Cond.selects RX6 yX6_mark20 yX6_mark20, Cond.code yX6_mark20 cX6_mark20 2 (some .int), Cond.methodLink RX6 226 yX6_size13, Cond.instanceMethod yX6_size13, Cond.selects RX6 yX6_size13 yX6_size13, Cond.code yX6_size13 cX6_size13 2 (some .int), Cond.methodLink RX6 238 yX6_mark23, Cond.instanceMethod yX6_mark23, Cond.selects RX6 yX6_mark23 yX6_mark23, Cond.code yX6_mark23 cX6_mark23 3 (some .int)]
def wsX6_ask : List Cond := .code yX6_ask cX6_ask 3 (some .int) :: ((wsX6_ask_r1 ++ wsX6_ask_r2) ++ wsX60)
def wsX6_trace : List Cond := .code yX6_trace cX6_trace 2 (some .int) :: ([.fieldLink RX6 211 "PulpitRoadsModel" "traced" "I", .fieldLink RX6 31 "PulpitRoadsModel" "trace" "[I", .constant RX6 176 (-1000000), .methodLink RX6 34 yX6_in, .static yX6_in, .initialized RX6, .code yX6_in cX6_in 6 (some .boolean)] ++ wsX60)
def wsX6_rowsThere : List Cond := .code yX6_rowsThere cX6_rowsThere 3 (some .int) :: ([.fieldLink RX6 16 "PulpitRoadsModel" "many" "[I"] ++ wsX60)
def wsX6_count_r1 : List Cond := [Cond.fieldLink RX6 7 "PulpitRoadsModel" "w" "[I", Cond.fieldLink RX6 117 "PulpitRoadsModel" "undoes" "I", Cond.fieldLink RX6 62 "PulpitRoadsModel" "taped" "I", Cond.constant RX6 51 (-1000001), Cond.methodLink RX6 241 yX6_rowsThere, Cond.instanceMethod yX6_rowsThere, Cond.selects RX6 yX6_rowsThere yX6_rowsThere, Cond.initialized RX6, Cond.code yX6_rowsThere cX6_rowsThere 3 (some .int), Cond.fieldLink RX6 16 "PulpitRoadsModel" "many" "[I", Cond.methodLink RX6 155 yX6_wholeOnes, Cond.instanceMethod yX6_wholeOnes, Cond.selects RX6 yX6_wholeOnes yX6_wholeOnes, Cond.code yX6_wholeOnes cX6_wholeOnes 4 (some .int), Cond.methodLink RX6 137 yX6_all, Cond.instanceMethod yX6_all, Cond.selects RX6 yX6_all yX6_all, Cond.code yX6_all cX6_all 2 (some .int), Cond.methodLink RX6 203 yX6_heardWords, Cond.instanceMethod yX6_heardWords, Cond.selects RX6 yX6_heardWords yX6_heardWords, Cond.code yX6_heardWords cX6_heardWords 4 (some .int), Cond.methodLink RX6 140 yX6_ones, Cond.static yX6_ones]
def wsX6_count_r2 : List Cond := [Cond.code yX6_ones cX6_ones 3 (some .int)]
def wsX6_count : List Cond := .code yX6_count cX6_count 2 (some .int) :: ((wsX6_count_r1 ++ wsX6_count_r2) ++ wsX60)
def wsX6_status : List Cond := .code yX6_status cX6_status 1 (some .int) :: ([.fieldLink RX6 40 "PulpitRoadsModel" "status" "I"] ++ wsX60)
def wsJ9_min_7cf53 : List Cond := .code yJ9_min_7cf53 cJ9_min_7cf53 2 (some .int) :: ([])
def wsL_law_r1 : List Cond := [Cond.classLink RL 7 RX5, Cond.instantiable RX5 10, Cond.initialized RX5, Cond.classLink RL 10 RX6, Cond.instantiable RX6 16, Cond.initialized RX6, Cond.methodLink RL 9 yX5_init, Cond.instanceMethod yX5_init, Cond.code yX5_init cX5_init 2 none, Cond.methodLink RX5 1 objectInit, Cond.instanceMethod objectInit, Cond.code objectInit ⟨#[0xb1]⟩ 1 none, Cond.classLink RX5 9 RX3, Cond.fieldLink RX5 11 "PulpitRoads" "rows" "[LPulpitRoads$Row;", Cond.classLink RX5 15 RX4, Cond.instantiable RX4 4, Cond.initialized RX4, Cond.fieldLink RX5 18 "PulpitRoads" "tape" "LPulpitRoads$Tape;", Cond.classLink RX5 22 RX2, Cond.instantiable RX2 12, Cond.initialized RX2, Cond.fieldLink RX5 25 "PulpitRoads" "now" "LPulpitRoads$Road;", Cond.fieldLink RX5 29 "PulpitRoads" "foretold" "LPulpitRoads$Road;", Cond.arrayClass .int]
def wsL_law_r2 : List Cond := [Cond.fieldLink RX5 32 "PulpitRoads" "saidAhead" "[I", Cond.fieldLink RX5 36 "PulpitRoads" "images" "[LPulpitRoads$Road;", Cond.classLink RX5 40 RX0, Cond.instantiable RX0 3, Cond.initialized RX0, Cond.fieldLink RX5 43 "PulpitRoads" "acts" "LPulpitRoads$Acts;", Cond.classLink RX5 47 RX1, Cond.instantiable RX1 2, Cond.initialized RX1, Cond.fieldLink RX5 50 "PulpitRoads" "bodies" "LPulpitRoads$Bodies;", Cond.instantiable RX3 4, Cond.initialized RX3, Cond.instanceMethod yX4_init, Cond.code yX4_init cX4_init 1 none, Cond.methodLink RX4 3 objectInit, Cond.fieldLink RX4 9 "PulpitRoads$Tape" "bytes" "[I", Cond.instanceMethod yX2_init, Cond.code yX2_init cX2_init 1 none, Cond.methodLink RX2 3 objectInit, Cond.fieldLink RX2 9 "PulpitRoads$Road" "grade" "[I", Cond.fieldLink RX2 15 "PulpitRoads$Road" "heardAt" "[I", Cond.fieldLink RX2 18 "PulpitRoads$Road" "kindOf" "[I", Cond.fieldLink RX2 21 "PulpitRoads$Road" "at" "[I", Cond.fieldLink RX2 24 "PulpitRoads$Road" "word" "[I"]
def wsL_law_r3 : List Cond := [Cond.fieldLink RX2 27 "PulpitRoads$Road" "saidNow" "[I", Cond.instanceMethod yX0_init, Cond.code yX0_init cX0_init 1 none, Cond.methodLink RX0 3 objectInit, Cond.fieldLink RX0 11 "PulpitRoads$Acts" "ring" "[I", Cond.instanceMethod yX1_init, Cond.code yX1_init cX1_init 1 none, Cond.methodLink RX1 3 objectInit, Cond.fieldLink RX1 11 "PulpitRoads$Bodies" "numbers" "[I", Cond.instanceMethod yX3_init, Cond.code yX3_init cX3_init 1 none, Cond.methodLink RX3 3 objectInit, Cond.fieldLink RX3 9 "PulpitRoads$Row" "items" "[I", Cond.fieldLink RX3 15 "PulpitRoads$Row" "missing" "Z", Cond.methodLink RL 12 yX6_init, Cond.instanceMethod yX6_init, Cond.code yX6_init cX6_init 2 none, Cond.methodLink RX6 1 objectInit, Cond.fieldLink RX6 7 "PulpitRoadsModel" "w" "[I", Cond.fieldLink RX6 13 "PulpitRoadsModel" "tape" "[I", Cond.fieldLink RX6 16 "PulpitRoadsModel" "many" "[I", Cond.fieldLink RX6 19 "PulpitRoadsModel" "lane" "[I", Cond.fieldLink RX6 22 "PulpitRoadsModel" "items" "[I", Cond.fieldLink RX6 25 "PulpitRoadsModel" "held" "[I"]
def wsL_law_r4 : List Cond := [Cond.fieldLink RX6 28 "PulpitRoadsModel" "said" "[I", Cond.fieldLink RX6 31 "PulpitRoadsModel" "trace" "[I", Cond.methodLink RL 13 yX5_row, Cond.instanceMethod yX5_row, Cond.selects RX5 yX5_row yX5_row, Cond.code yX5_row cX5_row 4 (some .int), Cond.constant RX5 59 (-1000001), Cond.methodLink RX5 55 yX5_isRow, Cond.static yX5_isRow, Cond.code yX5_isRow cX5_isRow 1 (some .boolean), Cond.methodLink RX5 60 yX5_found, Cond.instanceMethod yX5_found, Cond.selects RX5 yX5_found yX5_found, Cond.code yX5_found cX5_found 2 (some .int), Cond.fieldLink RX5 273 "PulpitRoads" "latestFinding" "I", Cond.constant RX5 276 (-1000010), Cond.instanceMethod yX3_begin, Cond.selects RX3 yX3_begin yX3_begin, Cond.code yX3_begin cX3_begin 4 none, Cond.fieldLink RX3 19 "PulpitRoads$Row" "lane" "I", Cond.fieldLink RX3 23 "PulpitRoads$Row" "length" "I", Cond.methodLink RX5 68 yX5_foundNothing, Cond.instanceMethod yX5_foundNothing, Cond.selects RX5 yX5_foundNothing yX5_foundNothing]
def wsL_law_r5 : List Cond := [Cond.code yX5_foundNothing cX5_foundNothing 2 (some .int), Cond.methodLink RL 17 yX6_row, Cond.instanceMethod yX6_row, Cond.selects RX6 yX6_row yX6_row, Cond.code yX6_row cX6_row 5 (some .int), Cond.constantLong RX6 49 (2), Cond.constant RX6 51 (-1000001), Cond.fieldLink RX6 40 "PulpitRoadsModel" "status" "I", Cond.methodLink RX6 45 yX6_isRow, Cond.static yX6_isRow, Cond.code yX6_isRow cX6_isRow 1 (some .boolean), Cond.constantLong RX6 38 (7), Cond.methodLink RX6 34 yX6_in, Cond.static yX6_in, Cond.code yX6_in cX6_in 6 (some .boolean), Cond.methodLink RX6 52 yX6_finds, Cond.instanceMethod yX6_finds, Cond.selects RX6 yX6_finds yX6_finds, Cond.code yX6_finds cX6_finds 2 (some .int), Cond.constant RX6 44 (-1000010), Cond.methodLink RL 18 yX5_set, Cond.instanceMethod yX5_set, Cond.selects RX5 yX5_set yX5_set, Cond.code yX5_set cX5_set 5 (some .int)]
def wsL_law_r6 : List Cond := [Cond.instanceMethod yX3_hasPlaces, Cond.selects RX3 yX3_hasPlaces yX3_hasPlaces, Cond.code yX3_hasPlaces cX3_hasPlaces 3 (some .boolean), Cond.instanceMethod yX3_cut, Cond.selects RX3 yX3_cut yX3_cut, Cond.code yX3_cut cX3_cut 2 (some .int), Cond.methodLink RL 21 yX6_set, Cond.instanceMethod yX6_set, Cond.selects RX6 yX6_set yX6_set, Cond.code yX6_set cX6_set 5 (some .int), Cond.methodLink RX6 56 yX6_against, Cond.instanceMethod yX6_against, Cond.selects RX6 yX6_against yX6_against, Cond.code yX6_against cX6_against 4 (some .int), Cond.methodLink RL 22 yX5_copy, Cond.instanceMethod yX5_copy, Cond.selects RX5 yX5_copy yX5_copy, Cond.code yX5_copy cX5_copy 8 (some .int), Cond.methodLink RX5 89 arraycopyName, Cond.native arraycopyName, Cond.static arraycopyName, Cond.initialized "java/lang/System", Cond.methodLink RL 26 yX6_copy, Cond.instanceMethod yX6_copy]
def wsL_law_r7 : List Cond := [Cond.selects RX6 yX6_copy yX6_copy, Cond.code yX6_copy cX6_copy 7 (some .int), Cond.methodLink RL 27 yX5_drop, Cond.instanceMethod yX5_drop, Cond.selects RX5 yX5_drop yX5_drop, Cond.code yX5_drop cX5_drop 3 (some .int), Cond.methodLink RL 31 yX6_drop, Cond.instanceMethod yX6_drop, Cond.selects RX6 yX6_drop yX6_drop, Cond.code yX6_drop cX6_drop 3 (some .int), Cond.methodLink RL 32 yX5_feed, Cond.instanceMethod yX5_feed, Cond.selects RX5 yX5_feed yX5_feed, Cond.code yX5_feed cX5_feed 2 (some .int), Cond.constant RX5 99 (-1000003), Cond.instanceMethod yX4_add, Cond.selects RX4 yX4_add yX4_add, Cond.code yX4_add cX4_add 2 none, Cond.fieldLink RX4 15 "PulpitRoads$Tape" "length" "I", Cond.methodLink RL 35 yX6_feed, Cond.instanceMethod yX6_feed, Cond.selects RX6 yX6_feed yX6_feed, Cond.code yX6_feed cX6_feed 2 (some .int), Cond.constantLong RX6 60 (255)]
def wsL_law_r8 : List Cond := [Cond.fieldLink RX6 62 "PulpitRoadsModel" "taped" "I", Cond.constant RX6 65 (-1000003), Cond.methodLink RL 36 yX5_road, Cond.instanceMethod yX5_road, Cond.selects RX5 yX5_road yX5_road, Cond.code yX5_road cX5_road 2 (some .int), Cond.fieldLink RX5 111 "PulpitRoads" "latestFault" "I", Cond.constant RX5 114 (-1000100), Cond.instanceMethod yX4_readInto, Cond.selects RX4 yX4_readInto yX4_readInto, Cond.code yX4_readInto cX4_readInto 2 (some .boolean), Cond.fieldLink RX4 24 "PulpitRoads$Tape" "place" "I", Cond.fieldLink RX4 27 "PulpitRoads$Tape" "faultNumber" "I", Cond.instanceMethod yX2_begin, Cond.selects RX2 yX2_begin yX2_begin, Cond.code yX2_begin cX2_begin 2 none, Cond.fieldLink RX2 30 "PulpitRoads$Road" "stands" "Z", Cond.fieldLink RX2 34 "PulpitRoads$Road" "hour" "I", Cond.fieldLink RX2 38 "PulpitRoads$Road" "stretches" "I", Cond.fieldLink RX2 41 "PulpitRoads$Road" "pulpits" "I", Cond.methodLink RX4 30 yX4_readLaw, Cond.instanceMethod yX4_readLaw, Cond.selects RX4 yX4_readLaw yX4_readLaw, Cond.code yX4_readLaw cX4_readLaw 2 (some .boolean)]
def wsL_law_r9 : List Cond := [Cond.methodLink RX4 40 yX4_takeSign, Cond.instanceMethod yX4_takeSign, Cond.selects RX4 yX4_takeSign yX4_takeSign, Cond.code yX4_takeSign cX4_takeSign 2 (some .boolean), Cond.methodLink RX4 54 yX4_letterHere, Cond.instanceMethod yX4_letterHere, Cond.selects RX4 yX4_letterHere yX4_letterHere, Cond.code yX4_letterHere cX4_letterHere 1 (some .int), Cond.methodLink RX4 86 yX4_letterAt, Cond.instanceMethod yX4_letterAt, Cond.selects RX4 yX4_letterAt yX4_letterAt, Cond.code yX4_letterAt cX4_letterAt 2 (some .int), Cond.methodLink RX4 64 yX4_blame, Cond.instanceMethod yX4_blame, Cond.selects RX4 yX4_blame yX4_blame, Cond.code yX4_blame cX4_blame 2 (some .boolean), Cond.methodLink RX4 44 yX4_takeNumber, Cond.instanceMethod yX4_takeNumber, Cond.selects RX4 yX4_takeNumber yX4_takeNumber, Cond.code yX4_takeNumber cX4_takeNumber 5 (some .int), Cond.methodLink RX4 90 yX4_isFigure, Cond.instanceMethod yX4_isFigure, Cond.selects RX4 yX4_isFigure yX4_isFigure, Cond.code yX4_isFigure cX4_isFigure 3 (some .boolean)]
def wsL_law_r10 : List Cond := [Cond.methodLink RX4 34 yX4_readStretches, Cond.instanceMethod yX4_readStretches, Cond.selects RX4 yX4_readStretches yX4_readStretches, Cond.code yX4_readStretches cX4_readStretches 3 (some .boolean), Cond.methodLink RX4 37 yX4_readPulpits, Cond.instanceMethod yX4_readPulpits, Cond.selects RX4 yX4_readPulpits yX4_readPulpits, Cond.code yX4_readPulpits cX4_readPulpits 4 (some .boolean), Cond.methodLink RX4 67 yX4_kindHere, Cond.instanceMethod yX4_kindHere, Cond.selects RX4 yX4_kindHere yX4_kindHere, Cond.code yX4_kindHere cX4_kindHere 1 (some .int), Cond.methodLink RX4 70 yX4_readPulpit, Cond.instanceMethod yX4_readPulpit, Cond.selects RX4 yX4_readPulpit yX4_readPulpit, Cond.code yX4_readPulpit cX4_readPulpit 3 (some .boolean), Cond.instanceMethod yX2_take, Cond.selects RX2 yX2_take yX2_take, Cond.code yX2_take cX2_take 3 none, Cond.fieldLink RX2 44 "PulpitRoads$Road" "words" "I", Cond.fieldLink RX2 47 "PulpitRoads$Road" "hard" "I", Cond.methodLink RL 40 yX6_road, Cond.instanceMethod yX6_road, Cond.selects RX6 yX6_road yX6_road]
def wsL_law_r11 : List Cond := [Cond.code yX6_road cX6_road 2 (some .int), Cond.fieldLink RX6 66 "PulpitRoadsModel" "at" "I", Cond.constant RX6 112 (-1000100), Cond.fieldLink RX6 72 "PulpitRoadsModel" "start" "I", Cond.fieldLink RX6 117 "PulpitRoadsModel" "undoes" "I", Cond.methodLink RX6 109 yX6_takesAll, Cond.instanceMethod yX6_takesAll, Cond.selects RX6 yX6_takesAll yX6_takesAll, Cond.code yX6_takesAll cX6_takesAll 1 (some .boolean), Cond.methodLink RX6 99 yX6_takesLaw, Cond.instanceMethod yX6_takesLaw, Cond.selects RX6 yX6_takesLaw yX6_takesLaw, Cond.code yX6_takesLaw cX6_takesLaw 1 (some .boolean), Cond.fieldLink RX6 83 "PulpitRoadsModel" "number" "I", Cond.methodLink RX6 90 yX6_takes, Cond.instanceMethod yX6_takes, Cond.selects RX6 yX6_takes yX6_takes, Cond.code yX6_takes cX6_takes 2 (some .boolean), Cond.methodLink RX6 75 yX6_here, Cond.instanceMethod yX6_here, Cond.selects RX6 yX6_here yX6_here, Cond.code yX6_here cX6_here 1 (some .int), Cond.methodLink RX6 79 yX6_fails, Cond.instanceMethod yX6_fails]
def wsL_law_r12 : List Cond := [Cond.selects RX6 yX6_fails yX6_fails, Cond.code yX6_fails cX6_fails 3 (some .boolean), Cond.fieldLink RX6 69 "PulpitRoadsModel" "faulty" "I", Cond.methodLink RX6 93 yX6_takesNumber, Cond.instanceMethod yX6_takesNumber, Cond.selects RX6 yX6_takesNumber yX6_takesNumber, Cond.code yX6_takesNumber cX6_takesNumber 4 (some .boolean), Cond.constantLong RX6 86 (48), Cond.constantLong RX6 88 (57), Cond.methodLink RX6 103 yX6_takesStretch, Cond.instanceMethod yX6_takesStretch, Cond.selects RX6 yX6_takesStretch yX6_takesStretch, Cond.code yX6_takesStretch cX6_takesStretch 1 (some .boolean), Cond.methodLink RX6 106 yX6_takesPulpit, Cond.instanceMethod yX6_takesPulpit, Cond.selects RX6 yX6_takesPulpit yX6_takesPulpit, Cond.code yX6_takesPulpit cX6_takesPulpit 3 (some .boolean), Cond.methodLink RX6 96 yX6_kindOf, Cond.static yX6_kindOf, Cond.code yX6_kindOf cX6_kindOf 1 (some .int), Cond.methodLink RX6 113 yX6_copyOf, Cond.instanceMethod yX6_copyOf, Cond.selects RX6 yX6_copyOf yX6_copyOf, Cond.code yX6_copyOf cX6_copyOf 5 none]
def wsL_law_r13 : List Cond := [Cond.methodLink RL 41 yX5_fault, Cond.instanceMethod yX5_fault, Cond.selects RX5 yX5_fault yX5_fault, Cond.code yX5_fault cX5_fault 1 (some .int), Cond.methodLink RL 44 yX6_fault, Cond.instanceMethod yX6_fault, Cond.selects RX6 yX6_fault yX6_fault, Cond.code yX6_fault cX6_fault 1 (some .int), Cond.methodLink RL 45 yX5_hours, Cond.instanceMethod yX5_hours, Cond.selects RX5 yX5_hours yX5_hours, Cond.code yX5_hours cX5_hours 3 (some .int), Cond.constant RX5 131 (-1000002), Cond.instanceMethod yX0_keep, Cond.selects RX0 yX0_keep yX0_keep, Cond.code yX0_keep cX0_keep 4 none, Cond.fieldLink RX0 15 "PulpitRoads$Acts" "end" "I", Cond.fieldLink RX0 33 "PulpitRoads$Acts" "kept" "I", Cond.methodLink RX0 36 Lib.Math.min.name, Cond.static Lib.Math.min.name, Cond.initialized "java/lang/Math", Cond.code Lib.Math.min.name Lib.Math.min.code 2 (some .int), Cond.instanceMethod yX2_goHour, Cond.selects RX2 yX2_goHour yX2_goHour]
def wsL_law_r14 : List Cond := [Cond.code yX2_goHour cX2_goHour 3 none, Cond.methodLink RX2 53 yX2_councils, Cond.instanceMethod yX2_councils, Cond.selects RX2 yX2_councils yX2_councils, Cond.code yX2_councils cX2_councils 4 (some .int), Cond.methodLink RX2 57 yX2_pass, Cond.instanceMethod yX2_pass, Cond.selects RX2 yX2_pass yX2_pass, Cond.code yX2_pass cX2_pass 4 none, Cond.methodLink RX2 61 yX2_sayings, Cond.instanceMethod yX2_sayings, Cond.selects RX2 yX2_sayings yX2_sayings, Cond.code yX2_sayings cX2_sayings 5 (some .int), Cond.methodLink RX2 75 yX2_wordAfter, Cond.instanceMethod yX2_wordAfter, Cond.selects RX2 yX2_wordAfter yX2_wordAfter, Cond.code yX2_wordAfter cX2_wordAfter 3 (some .int), Cond.methodLink RX2 65 yX2_wordBehind, Cond.instanceMethod yX2_wordBehind, Cond.selects RX2 yX2_wordBehind yX2_wordBehind, Cond.code yX2_wordBehind cX2_wordBehind 4 (some .int), Cond.methodLink RX2 68 yX2_stretchBehind, Cond.instanceMethod yX2_stretchBehind, Cond.selects RX2 yX2_stretchBehind yX2_stretchBehind]
def wsL_law_r15 : List Cond := [Cond.code yX2_stretchBehind cX2_stretchBehind 4 (some .int), Cond.methodLink RX2 78 yX2_beforeOf, Cond.instanceMethod yX2_beforeOf, Cond.selects RX2 yX2_beforeOf yX2_beforeOf, Cond.code yX2_beforeOf cX2_beforeOf 2 (some .int), Cond.methodLink RX2 81 yX2_nextOf, Cond.instanceMethod yX2_nextOf, Cond.selects RX2 yX2_nextOf yX2_nextOf, Cond.code yX2_nextOf cX2_nextOf 2 (some .int), Cond.instanceMethod yX2_wholeGates, Cond.selects RX2 yX2_wholeGates yX2_wholeGates, Cond.code yX2_wholeGates cX2_wholeGates 3 (some .int), Cond.methodLink RX2 84 yX2_allWords, Cond.instanceMethod yX2_allWords, Cond.selects RX2 yX2_allWords yX2_allWords, Cond.code yX2_allWords cX2_allWords 1 (some .int), Cond.methodLink RL 48 yX6_hours, Cond.instanceMethod yX6_hours, Cond.selects RX6 yX6_hours yX6_hours, Cond.code yX6_hours cX6_hours 3 (some .int), Cond.constant RX6 146 (-1000002), Cond.constantLong RX6 147 (24), Cond.methodLink RX6 143 yX6_isRoad, Cond.instanceMethod yX6_isRoad]
def wsL_law_r16 : List Cond := [Cond.selects RX6 yX6_isRoad yX6_isRoad, Cond.code yX6_isRoad cX6_isRoad 1 (some .boolean), Cond.methodLink RX6 149 yX6_minds, Cond.instanceMethod yX6_minds, Cond.selects RX6 yX6_minds yX6_minds, Cond.code yX6_minds cX6_minds 2 none, Cond.methodLink RX6 152 yX6_hourBy, Cond.instanceMethod yX6_hourBy, Cond.selects RX6 yX6_hourBy yX6_hourBy, Cond.code yX6_hourBy cX6_hourBy 5 none, Cond.methodLink RX6 130 yX6_councilsIn, Cond.instanceMethod yX6_councilsIn, Cond.selects RX6 yX6_councilsIn yX6_councilsIn, Cond.code yX6_councilsIn cX6_councilsIn 5 (some .int), Cond.methodLink RX6 127 yX6_has, Cond.static yX6_has, Cond.code yX6_has cX6_has 2 (some .boolean), Cond.methodLink RX6 133 yX6_passes, Cond.instanceMethod yX6_passes, Cond.selects RX6 yX6_passes yX6_passes, Cond.code yX6_passes cX6_passes 10 none, Cond.methodLink RX6 124 yX6_saysIn, Cond.instanceMethod yX6_saysIn, Cond.selects RX6 yX6_saysIn yX6_saysIn]
def wsL_law_r17 : List Cond := [Cond.code yX6_saysIn cX6_saysIn 7 (some .int), Cond.methodLink RX6 120 yX6_saysMany, Cond.instanceMethod yX6_saysMany, Cond.selects RX6 yX6_saysMany yX6_saysMany, Cond.code yX6_saysMany cX6_saysMany 4 (some .int), Cond.methodLink RX6 155 yX6_wholeOnes, Cond.instanceMethod yX6_wholeOnes, Cond.selects RX6 yX6_wholeOnes yX6_wholeOnes, Cond.code yX6_wholeOnes cX6_wholeOnes 4 (some .int), Cond.methodLink RX6 137 yX6_all, Cond.instanceMethod yX6_all, Cond.selects RX6 yX6_all yX6_all, Cond.code yX6_all cX6_all 2 (some .int), Cond.methodLink RL 49 yX5_put, Cond.instanceMethod yX5_put, Cond.selects RX5 yX5_put yX5_put, Cond.code yX5_put cX5_put 4 (some .int), Cond.methodLink RX5 145 yX5_isPulpit, Cond.instanceMethod yX5_isPulpit, Cond.selects RX5 yX5_isPulpit yX5_isPulpit, Cond.code yX5_isPulpit cX5_isPulpit 2 (some .boolean), Cond.methodLink RX5 148 yX5_isStretch, Cond.instanceMethod yX5_isStretch, Cond.selects RX5 yX5_isStretch yX5_isStretch]
def wsL_law_r18 : List Cond := [Cond.code yX5_isStretch cX5_isStretch 2 (some .boolean), Cond.methodLink RL 53 yX6_put, Cond.instanceMethod yX6_put, Cond.selects RX6 yX6_put yX6_put, Cond.code yX6_put cX6_put 4 (some .int), Cond.methodLink RX6 158 yX6_isPulpit, Cond.instanceMethod yX6_isPulpit, Cond.selects RX6 yX6_isPulpit yX6_isPulpit, Cond.code yX6_isPulpit cX6_isPulpit 2 (some .boolean), Cond.methodLink RX6 161 yX6_isStretch, Cond.instanceMethod yX6_isStretch, Cond.selects RX6 yX6_isStretch yX6_isStretch, Cond.code yX6_isStretch cX6_isStretch 2 (some .boolean), Cond.methodLink RL 54 yX5_skip, Cond.instanceMethod yX5_skip, Cond.selects RX5 yX5_skip yX5_skip, Cond.code yX5_skip cX5_skip 4 (some .int), Cond.methodLink RX5 154 yX5_isWord, Cond.instanceMethod yX5_isWord, Cond.selects RX5 yX5_isWord yX5_isWord, Cond.code yX5_isWord cX5_isWord 2 (some .boolean), Cond.methodLink RL 57 yX6_skip, Cond.instanceMethod yX6_skip, Cond.selects RX6 yX6_skip yX6_skip]
def wsL_law_r19 : List Cond := [Cond.code yX6_skip cX6_skip 4 (some .int), Cond.methodLink RL 58 yX5_forget, Cond.instanceMethod yX5_forget, Cond.selects RX5 yX5_forget yX5_forget, Cond.code yX5_forget cX5_forget 3 (some .int), Cond.methodLink RX5 163 yJ6_bitCount_0f7a4, Cond.static yJ6_bitCount_0f7a4, Cond.initialized RJ6, Cond.code yJ6_bitCount_0f7a4 cJ6_bitCount_0f7a4 1 (some .int), Cond.constant RJ6 265 (1431655765), Cond.constant RJ6 266 (858993459), Cond.constant RJ6 267 (252645135), Cond.methodLink RL 61 yX6_forget, Cond.instanceMethod yX6_forget, Cond.selects RX6 yX6_forget yX6_forget, Cond.code yX6_forget cX6_forget 3 (some .int), Cond.methodLink RX6 140 yX6_ones, Cond.static yX6_ones, Cond.code yX6_ones cX6_ones 3 (some .int), Cond.methodLink RL 62 yX5_undo, Cond.instanceMethod yX5_undo, Cond.selects RX5 yX5_undo yX5_undo, Cond.code yX5_undo cX5_undo 1 (some .int), Cond.instanceMethod yX0_giveBack]
def wsL_law_r20 : List Cond := [Cond.selects RX0 yX0_giveBack yX0_giveBack, Cond.code yX0_giveBack cX0_giveBack 4 none, Cond.methodLink RL 65 yX6_undo, Cond.instanceMethod yX6_undo, Cond.selects RX6 yX6_undo yX6_undo, Cond.code yX6_undo cX6_undo 1 (some .int), Cond.methodLink RL 66 yX5_pulpit, Cond.instanceMethod yX5_pulpit, Cond.selects RX5 yX5_pulpit yX5_pulpit, Cond.code yX5_pulpit cX5_pulpit 3 (some .int), Cond.methodLink RL 69 yX6_pulpit, Cond.instanceMethod yX6_pulpit, Cond.selects RX6 yX6_pulpit yX6_pulpit, Cond.code yX6_pulpit cX6_pulpit 3 (some .int), Cond.methodLink RL 70 yX5_stretch, Cond.instanceMethod yX5_stretch, Cond.selects RX5 yX5_stretch yX5_stretch, Cond.code yX5_stretch cX5_stretch 3 (some .int), Cond.instanceMethod yX2_pulpitsOn, Cond.selects RX2 yX2_pulpitsOn yX2_pulpitsOn, Cond.code yX2_pulpitsOn cX2_pulpitsOn 4 (some .int), Cond.methodLink RL 73 yX6_stretch, Cond.instanceMethod yX6_stretch, Cond.selects RX6 yX6_stretch yX6_stretch]
def wsL_law_r21 : List Cond := [Cond.code yX6_stretch cX6_stretch 3 (some .int), Cond.methodLink RX6 164 yX6_pulpitsAt, Cond.instanceMethod yX6_pulpitsAt, Cond.selects RX6 yX6_pulpitsAt yX6_pulpitsAt, Cond.code yX6_pulpitsAt cX6_pulpitsAt 4 (some .int), Cond.methodLink RL 74 yX5_ahead, Cond.instanceMethod yX5_ahead, Cond.selects RX5 yX5_ahead yX5_ahead, Cond.code yX5_ahead cX5_ahead 4 (some .int), Cond.methodLink RX5 183 yX5_isWithin, Cond.static yX5_isWithin, Cond.code yX5_isWithin cX5_isWithin 3 (some .boolean), Cond.methodLink RX5 187 yX5_foretell, Cond.instanceMethod yX5_foretell, Cond.selects RX5 yX5_foretell yX5_foretell, Cond.code yX5_foretell cX5_foretell 2 none, Cond.instanceMethod yX2_goHours, Cond.selects RX2 yX2_goHours yX2_goHours, Cond.code yX2_goHours cX2_goHours 3 none, Cond.methodLink RX2 50 yX2_goHour, Cond.methodLink RL 77 yX6_ahead, Cond.instanceMethod yX6_ahead, Cond.selects RX6 yX6_ahead yX6_ahead, Cond.code yX6_ahead cX6_ahead 4 (some .int)]
def wsL_law_r22 : List Cond := [Cond.constantLong RX6 167 (60), Cond.methodLink RX6 169 yX6_tries, Cond.instanceMethod yX6_tries, Cond.selects RX6 yX6_tries yX6_tries, Cond.code yX6_tries cX6_tries 1 none, Cond.methodLink RX6 172 yX6_goesOn, Cond.instanceMethod yX6_goesOn, Cond.selects RX6 yX6_goesOn yX6_goesOn, Cond.code yX6_goesOn cX6_goesOn 3 none, Cond.methodLink RL 78 yX5_heard, Cond.instanceMethod yX5_heard, Cond.selects RX5 yX5_heard yX5_heard, Cond.code yX5_heard cX5_heard 3 (some .int), Cond.methodLink RL 81 yX6_heard, Cond.instanceMethod yX6_heard, Cond.selects RX6 yX6_heard yX6_heard, Cond.code yX6_heard cX6_heard 3 (some .int), Cond.methodLink RL 82 yX5_whole, Cond.instanceMethod yX5_whole, Cond.selects RX5 yX5_whole yX5_whole, Cond.code yX5_whole cX5_whole 2 (some .int), Cond.methodLink RX5 190 yX5_hoursToWhole, Cond.instanceMethod yX5_hoursToWhole, Cond.selects RX5 yX5_hoursToWhole yX5_hoursToWhole]
def wsL_law_r23 : List Cond := [Cond.code yX5_hoursToWhole cX5_hoursToWhole 3 (some .int), Cond.constant RX5 196 (-1000000), Cond.methodLink RL 85 yX6_whole, Cond.instanceMethod yX6_whole, Cond.selects RX6 yX6_whole yX6_whole, Cond.code yX6_whole cX6_whole 3 (some .int), Cond.constant RX6 176 (-1000000), Cond.methodLink RL 86 yX5_first, Cond.instanceMethod yX5_first, Cond.selects RX5 yX5_first yX5_first, Cond.code yX5_first cX5_first 3 (some .int), Cond.methodLink RX5 197 yX5_leastOf, Cond.static yX5_leastOf, Cond.code yX5_leastOf cX5_leastOf 2 (some .int), Cond.methodLink RL 89 yX6_first, Cond.instanceMethod yX6_first, Cond.selects RX6 yX6_first yX6_first, Cond.code yX6_first cX6_first 4 (some .int), Cond.methodLink RX6 177 yX6_leastOf, Cond.instanceMethod yX6_leastOf, Cond.selects RX6 yX6_leastOf yX6_leastOf, Cond.code yX6_leastOf cX6_leastOf 3 (some .int), Cond.methodLink RL 90 yX5_left, Cond.instanceMethod yX5_left]
def wsL_law_r24 : List Cond := [Cond.selects RX5 yX5_left yX5_left, Cond.code yX5_left cX5_left 2 (some .int), Cond.instanceMethod yX2_heardAtAny, Cond.selects RX2 yX2_heardAtAny yX2_heardAtAny, Cond.code yX2_heardAtAny cX2_heardAtAny 4 (some .int), Cond.methodLink RL 93 yX6_left, Cond.instanceMethod yX6_left, Cond.selects RX6 yX6_left yX6_left, Cond.code yX6_left cX6_left 4 (some .int), Cond.methodLink RL 94 yX5_meet, Cond.instanceMethod yX5_meet, Cond.selects RX5 yX5_meet yX5_meet, Cond.code yX5_meet cX5_meet 4 (some .int), Cond.methodLink RL 97 yX6_meet, Cond.instanceMethod yX6_meet, Cond.selects RX6 yX6_meet yX6_meet, Cond.code yX6_meet cX6_meet 4 (some .int), Cond.methodLink RL 98 yX5_round, Cond.instanceMethod yX5_round, Cond.selects RX5 yX5_round yX5_round, Cond.code yX5_round cX5_round 2 (some .int), Cond.instanceMethod yX2_hasPulpitsAs, Cond.selects RX2 yX2_hasPulpitsAs yX2_hasPulpitsAs, Cond.code yX2_hasPulpitsAs cX2_hasPulpitsAs 3 (some .boolean)]
def wsL_law_r25 : List Cond := [Cond.methodLink RL 101 yX6_round, Cond.instanceMethod yX6_round, Cond.selects RX6 yX6_round yX6_round, Cond.code yX6_round cX6_round 4 (some .int), Cond.methodLink RL 102 yX5_best, Cond.instanceMethod yX5_best, Cond.selects RX5 yX5_best yX5_best, Cond.code yX5_best cX5_best 9 (some .int), Cond.methodLink RL 106 yX6_best, Cond.instanceMethod yX6_best, Cond.selects RX6 yX6_best yX6_best, Cond.code yX6_best cX6_best 9 (some .int), Cond.constantLong RX6 180 (30), Cond.methodLink RL 107 yX5_piece, Cond.instanceMethod yX5_piece, Cond.selects RX5 yX5_piece yX5_piece, Cond.code yX5_piece cX5_piece 6 (some .int), Cond.methodLink RL 110 yX6_piece, Cond.instanceMethod yX6_piece, Cond.selects RX6 yX6_piece yX6_piece, Cond.code yX6_piece cX6_piece 6 (some .int), Cond.methodLink RL 111 yX5_walk, Cond.instanceMethod yX5_walk, Cond.selects RX5 yX5_walk yX5_walk]
def wsL_law_r26 : List Cond := [Cond.code yX5_walk cX5_walk 8 (some .int), Cond.methodLink RX5 212 yX5_foretellSayings, Cond.instanceMethod yX5_foretellSayings, Cond.selects RX5 yX5_foretellSayings yX5_foretellSayings, Cond.code yX5_foretellSayings cX5_foretellSayings 4 none, Cond.methodLink RX5 215 yX5_heardOnWay, Cond.instanceMethod yX5_heardOnWay, Cond.selects RX5 yX5_heardOnWay yX5_heardOnWay, Cond.code yX5_heardOnWay cX5_heardOnWay 7 (some .int), Cond.methodLink RL 114 yX6_walk, Cond.instanceMethod yX6_walk, Cond.selects RX6 yX6_walk yX6_walk, Cond.code yX6_walk cX6_walk 10 (some .int), Cond.constantLong RX6 182 (8), Cond.methodLink RX6 184 yX6_laysSaid, Cond.instanceMethod yX6_laysSaid, Cond.selects RX6 yX6_laysSaid yX6_laysSaid, Cond.code yX6_laysSaid cX6_laysSaid 5 none, Cond.methodLink RL 115 yX5_fits, Cond.instanceMethod yX5_fits, Cond.selects RX5 yX5_fits yX5_fits, Cond.code yX5_fits cX5_fits 10 (some .int), Cond.methodLink RX5 219 yX5_guessEnd, Cond.instanceMethod yX5_guessEnd]
def wsL_law_r27 : List Cond := [Cond.selects RX5 yX5_guessEnd yX5_guessEnd, Cond.code yX5_guessEnd cX5_guessEnd 2 (some .int), Cond.methodLink RX5 222 yX5_suppose, Cond.instanceMethod yX5_suppose, Cond.selects RX5 yX5_suppose yX5_suppose, Cond.code yX5_suppose cX5_suppose 4 none, Cond.methodLink RX5 226 yX5_goesAsTold, Cond.instanceMethod yX5_goesAsTold, Cond.selects RX5 yX5_goesAsTold yX5_goesAsTold, Cond.code yX5_goesAsTold cX5_goesAsTold 6 (some .boolean), Cond.methodLink RL 118 yX6_fits, Cond.instanceMethod yX6_fits, Cond.selects RX6 yX6_fits yX6_fits, Cond.code yX6_fits cX6_fits 11 (some .int), Cond.constantLong RX6 187 (12), Cond.constantLong RX6 189 (3), Cond.methodLink RX6 191 yX6_isSo, Cond.instanceMethod yX6_isSo, Cond.selects RX6 yX6_isSo yX6_isSo, Cond.code yX6_isSo cX6_isSo 6 (some .boolean), Cond.methodLink RL 119 yX5_axles, Cond.instanceMethod yX5_axles, Cond.selects RX5 yX5_axles yX5_axles, Cond.code yX5_axles cX5_axles 7 (some .int)]
def wsL_law_r28 : List Cond := [Cond.methodLink RX5 230 yX5_tenthsOfHearing, Cond.instanceMethod yX5_tenthsOfHearing, Cond.selects RX5 yX5_tenthsOfHearing yX5_tenthsOfHearing, Cond.code yX5_tenthsOfHearing cX5_tenthsOfHearing 7 (some .int), Cond.methodLink RX5 233 yX5_commonDivisor, Cond.static yX5_commonDivisor, Cond.code yX5_commonDivisor cX5_commonDivisor 3 (some .int), Cond.methodLink RL 122 yX6_axles, Cond.instanceMethod yX6_axles, Cond.selects RX6 yX6_axles yX6_axles, Cond.code yX6_axles cX6_axles 10 (some .int), Cond.constantLong RX6 195 (10), Cond.methodLink RL 123 yX5_drawn, Cond.instanceMethod yX5_drawn, Cond.selects RX5 yX5_drawn yX5_drawn, Cond.code yX5_drawn cX5_drawn 7 (some .int), Cond.constant RX5 237 (999999), Cond.constantLong RX5 238 (16807), Cond.constantLong RX5 240 (2147483647), Cond.methodLink RX5 242 yX5_putByDraw, Cond.instanceMethod yX5_putByDraw, Cond.selects RX5 yX5_putByDraw yX5_putByDraw, Cond.code yX5_putByDraw cX5_putByDraw 4 none, Cond.constantLong RX5 283 (3)]
def wsL_law_r29 : List Cond := [Cond.instanceMethod yX2_wordsHeard, Cond.selects RX2 yX2_wordsHeard yX2_wordsHeard, Cond.code yX2_wordsHeard cX2_wordsHeard 3 (some .int), Cond.methodLink RX2 87 yJ6_bitCount_0f7a4, Cond.methodLink RL 126 yX6_drawn, Cond.instanceMethod yX6_drawn, Cond.selects RX6 yX6_drawn yX6_drawn, Cond.code yX6_drawn cX6_drawn 7 (some .int), Cond.constantLong RX6 197 (999999), Cond.constantLong RX6 199 (16807), Cond.constantLong RX6 201 (2147483647), Cond.methodLink RX6 203 yX6_heardWords, Cond.instanceMethod yX6_heardWords, Cond.selects RX6 yX6_heardWords yX6_heardWords, Cond.code yX6_heardWords cX6_heardWords 4 (some .int), Cond.methodLink RL 127 yX5_image, Cond.instanceMethod yX5_image, Cond.selects RX5 yX5_image yX5_image, Cond.code yX5_image cX5_image 2 (some .int), Cond.methodLink RL 130 yX6_image, Cond.instanceMethod yX6_image, Cond.selects RX6 yX6_image yX6_image, Cond.code yX6_image cX6_image 2 (some .int), Cond.methodLink RL 131 yX5_restore]
def wsL_law_r30 : List Cond := [Cond.instanceMethod yX5_restore, Cond.selects RX5 yX5_restore yX5_restore, Cond.code yX5_restore cX5_restore 2 (some .int), Cond.methodLink RL 134 yX6_restore, Cond.instanceMethod yX6_restore, Cond.selects RX6 yX6_restore yX6_restore, Cond.code yX6_restore cX6_restore 2 (some .int), Cond.methodLink RL 135 yX5_kind, Cond.instanceMethod yX5_kind, Cond.selects RX5 yX5_kind yX5_kind, Cond.code yX5_kind cX5_kind 2 (some .int), Cond.methodLink RL 138 yX6_kind, Cond.instanceMethod yX6_kind, Cond.selects RX6 yX6_kind yX6_kind, Cond.code yX6_kind cX6_kind 2 (some .int), Cond.methodLink RL 139 yX5_as, Cond.instanceMethod yX5_as, Cond.selects RX5 yX5_as yX5_as, Cond.code yX5_as cX5_as 3 (some .int), Cond.methodLink RX5 252 yX5_isSuch, Cond.static yX5_isSuch, Cond.code yX5_isSuch cX5_isSuch 4 (some .boolean), Cond.fieldLink RX5 285 "PulpitRoads" "KIND_ABOVE" "[I", Cond.methodLink RL 142 yX6_as]
def wsL_law_r31 : List Cond := [Cond.instanceMethod yX6_as, Cond.selects RX6 yX6_as yX6_as, Cond.code yX6_as cX6_as 3 (some .int), Cond.constantLong RX6 206 (5), Cond.methodLink RX6 208 yX6_isA, Cond.static yX6_isA, Cond.code yX6_isA cX6_isA 2 (some .boolean), Cond.methodLink RL 143 yX5_ask, Cond.instanceMethod yX5_ask, Cond.selects RX5 yX5_ask yX5_ask, Cond.code yX5_ask cX5_ask 3 (some .int), Cond.instanceMethod yX1_begin, Cond.selects RX1 yX1_begin yX1_begin, Cond.code yX1_begin cX1_begin 5 (some .int), Cond.methodLink RX1 20 yX1_bodyOf, Cond.static yX1_bodyOf, Cond.code yX1_bodyOf cX1_bodyOf 5 (some .int), Cond.methodLink RX1 24 yX1_give, Cond.instanceMethod yX1_give, Cond.selects RX1 yX1_give yX1_give, Cond.code yX1_give cX1_give 6 (some .int), Cond.methodLink RX1 37 yX1_leave, Cond.instanceMethod yX1_leave, Cond.selects RX1 yX1_leave yX1_leave]
def wsL_law_r32 : List Cond := [Cond.code yX1_leave cX1_leave 2 none, Cond.fieldLink RX1 51 "PulpitRoads$Bodies" "traced" "I", Cond.methodLink RX1 44 yX1_begin, Cond.methodLink RL 146 yX6_ask, Cond.instanceMethod yX6_ask, Cond.selects RX6 yX6_ask yX6_ask, Cond.code yX6_ask cX6_ask 3 (some .int), Cond.fieldLink RX6 211 "PulpitRoadsModel" "traced" "I", Cond.methodLink RX6 235 yX6_sizeOf, Cond.instanceMethod yX6_sizeOf, Cond.selects RX6 yX6_sizeOf yX6_sizeOf, Cond.code yX6_sizeOf cX6_sizeOf 2 (some .int), Cond.methodLink RX6 214 yX6_traces, Cond.instanceMethod yX6_traces, Cond.selects RX6 yX6_traces yX6_traces, Cond.code yX6_traces cX6_traces 2 none, Cond.methodLink RX6 223 yX6_size11, Cond.instanceMethod yX6_size11, Cond.selects RX6 yX6_size11 yX6_size11, Cond.code yX6_size11 cX6_size11 3 (some .int), Cond.methodLink RX6 217 yX6_size10, Cond.instanceMethod yX6_size10, Cond.selects RX6 yX6_size10 yX6_size10, Cond.code yX6_size10 cX6_size10 2 (some .int)]
def wsL_law_r33 : List Cond := [Cond.methodLink RX6 220 yX6_markOf, Cond.instanceMethod yX6_markOf, Cond.selects RX6 yX6_markOf yX6_markOf, Cond.code yX6_markOf cX6_markOf 2 (some .int), Cond.methodLink RX6 232 yX6_mark21, Cond.instanceMethod yX6_mark21, Cond.selects RX6 yX6_mark21 yX6_mark21, Cond.code yX6_mark21 cX6_mark21 2 (some .int), Cond.methodLink RX6 229 yX6_mark20, Cond.instanceMethod yX6_mark20, Cond.selects RX6 yX6_mark20 yX6_mark20, Cond.code yX6_mark20 cX6_mark20 2 (some .int), Cond.methodLink RX6 226 yX6_size13, Cond.instanceMethod yX6_size13, Cond.selects RX6 yX6_size13 yX6_size13, Cond.code yX6_size13 cX6_size13 2 (some .int), Cond.methodLink RX6 238 yX6_mark23, Cond.instanceMethod yX6_mark23, Cond.selects RX6 yX6_mark23 yX6_mark23, Cond.code yX6_mark23 cX6_mark23 3 (some .int), Cond.methodLink RL 147 yX5_trace, Cond.instanceMethod yX5_trace, Cond.selects RX5 yX5_trace yX5_trace, Cond.code yX5_trace cX5_trace 2 (some .int)]
def wsL_law_r34 : List Cond := [Cond.methodLink RL 150 yX6_trace, Cond.instanceMethod yX6_trace, Cond.selects RX6 yX6_trace yX6_trace, Cond.code yX6_trace cX6_trace 2 (some .int), Cond.methodLink RL 151 yX5_count, Cond.instanceMethod yX5_count, Cond.selects RX5 yX5_count yX5_count, Cond.code yX5_count cX5_count 2 (some .int), Cond.methodLink RX5 264 yX5_rowsThere, Cond.instanceMethod yX5_rowsThere, Cond.selects RX5 yX5_rowsThere yX5_rowsThere, Cond.code yX5_rowsThere cX5_rowsThere 3 (some .int), Cond.methodLink RL 154 yX6_count, Cond.instanceMethod yX6_count, Cond.selects RX6 yX6_count yX6_count, Cond.code yX6_count cX6_count 2 (some .int), Cond.methodLink RX6 241 yX6_rowsThere, Cond.instanceMethod yX6_rowsThere, Cond.selects RX6 yX6_rowsThere yX6_rowsThere, Cond.code yX6_rowsThere cX6_rowsThere 3 (some .int), Cond.methodLink RL 155 yX5_status, Cond.instanceMethod yX5_status, Cond.selects RX5 yX5_status yX5_status, Cond.code yX5_status cX5_status 1 (some .int)]
def wsL_law_r35 : List Cond := [Cond.methodLink RL 158 yX6_status, Cond.instanceMethod yX6_status, Cond.selects RX6 yX6_status yX6_status, Cond.code yX6_status cX6_status 1 (some .int)]
def wsL_law : List Cond := (wsL_law_r1 ++ (wsL_law_r2 ++ (wsL_law_r3 ++ (wsL_law_r4 ++ (wsL_law_r5 ++ (wsL_law_r6 ++ (wsL_law_r7 ++ (wsL_law_r8 ++ (wsL_law_r9 ++ (wsL_law_r10 ++ (wsL_law_r11 ++ (wsL_law_r12 ++ (wsL_law_r13 ++ (wsL_law_r14 ++ (wsL_law_r15 ++ (wsL_law_r16 ++ (wsL_law_r17 ++ (wsL_law_r18 ++ (wsL_law_r19 ++ (wsL_law_r20 ++ (wsL_law_r21 ++ (wsL_law_r22 ++ (wsL_law_r23 ++ (wsL_law_r24 ++ (wsL_law_r25 ++ (wsL_law_r26 ++ (wsL_law_r27 ++ (wsL_law_r28 ++ (wsL_law_r29 ++ (wsL_law_r30 ++ (wsL_law_r31 ++ (wsL_law_r32 ++ (wsL_law_r33 ++ (wsL_law_r34 ++ wsL_law_r35)))))))))))))))))))))))))))))))))) ++ wsX50 ++ wsX60 ++ wsX40 ++ wsX20 ++ wsX00 ++ wsX10 ++ wsX30 ++ ([] : List Cond)
abbrev vwCl : List vw_C := [(RX0, TX0, 3), (RX1, TX1, 2), (RX2, TX2, 12), (RX3, TX3, 4), (RX4, TX4, 4), (RX5, TX5, 10), (RX6, TX6, 16)]
end
section
theorem inlX0 : ∀ w ∈ wsX00, w ∈ wsL_law := fun _ h => List.mem_append_left _ (List.mem_append_left _ (List.mem_append_left _ (List.mem_append_right _ h)))
theorem inlX1 : ∀ w ∈ wsX10, w ∈ wsL_law := fun _ h => List.mem_append_left _ (List.mem_append_left _ (List.mem_append_right _ h))
theorem inlX2 : ∀ w ∈ wsX20, w ∈ wsL_law := fun _ h => List.mem_append_left _ (List.mem_append_left _ (List.mem_append_left _ (List.mem_append_left _ (List.mem_append_right _ h))))
theorem inlX3 : ∀ w ∈ wsX30, w ∈ wsL_law := fun _ h => List.mem_append_left _ (List.mem_append_right _ h)
theorem inlX4 : ∀ w ∈ wsX40, w ∈ wsL_law := fun _ h => List.mem_append_left _ (List.mem_append_left _ (List.mem_append_left _ (List.mem_append_left _ (List.mem_append_left _ (List.mem_append_right _ h)))))
theorem dX0_init_0 : decode cX0_init 0 = .ok (.aload_n 0, 1) := by decide +kernel
theorem dX0_init_1 : decode cX0_init 1 = .ok (.invokespecial 3, 3) := by decide +kernel
theorem dX0_init_4 : decode cX0_init 4 = .ok (.aload_n 0, 1) := by decide +kernel
theorem dX0_init_5 : decode cX0_init 5 = .ok (.sipush 480, 3) := by decide +kernel
theorem dX0_init_8 : decode cX0_init 8 = .ok (.newarray .int, 2) := by decide +kernel
theorem dX0_init_10 : decode cX0_init 10 = .ok (.putfield 11, 3) := by decide +kernel
theorem dX0_init_13 : decode cX0_init 13 = .ok (.return_, 1) := by decide +kernel
theorem dX0_keep_0 : decode cX0_keep 0 = .ok (.aload_n 0, 1) := by decide +kernel
theorem dX0_keep_1 : decode cX0_keep 1 = .ok (.getfield 15, 3) := by decide +kernel
theorem dX0_keep_4 : decode cX0_keep 4 = .ok (.bipush 20, 2) := by decide +kernel
theorem dX0_keep_6 : decode cX0_keep 6 = .ok (.imul, 1) := by decide +kernel
theorem dX0_keep_7 : decode cX0_keep 7 = .ok (.istore_n 2, 1) := by decide +kernel
theorem dX0_keep_8 : decode cX0_keep 8 = .ok (.aload_n 0, 1) := by decide +kernel
theorem dX0_keep_9 : decode cX0_keep 9 = .ok (.getfield 11, 3) := by decide +kernel
theorem dX0_keep_12 : decode cX0_keep 12 = .ok (.iload_n 2, 1) := by decide +kernel
theorem dX0_keep_13 : decode cX0_keep 13 = .ok (.iinc 2 1, 3) := by decide +kernel
theorem dX0_keep_16 : decode cX0_keep 16 = .ok (.aload_n 1, 1) := by decide +kernel
theorem dX0_keep_17 : decode cX0_keep 17 = .ok (.getfield 19, 3) := by decide +kernel
theorem dX0_keep_20 : decode cX0_keep 20 = .ok (.iastore, 1) := by decide +kernel
theorem dX0_keep_21 : decode cX0_keep 21 = .ok (.iconst 0, 1) := by decide +kernel
theorem dX0_keep_22 : decode cX0_keep 22 = .ok (.istore_n 3, 1) := by decide +kernel
theorem dX0_keep_23 : decode cX0_keep 23 = .ok (.iload_n 3, 1) := by decide +kernel
theorem dX0_keep_24 : decode cX0_keep 24 = .ok (.bipush 9, 2) := by decide +kernel
theorem dX0_keep_26 : decode cX0_keep 26 = .ok (.if_icmp .ge 24, 3) := by decide +kernel
theorem dX0_keep_29 : decode cX0_keep 29 = .ok (.aload_n 0, 1) := by decide +kernel
theorem dX0_keep_30 : decode cX0_keep 30 = .ok (.getfield 11, 3) := by decide +kernel
theorem dX0_keep_33 : decode cX0_keep 33 = .ok (.iload_n 2, 1) := by decide +kernel
theorem dX0_keep_34 : decode cX0_keep 34 = .ok (.iinc 2 1, 3) := by decide +kernel
theorem dX0_keep_37 : decode cX0_keep 37 = .ok (.aload_n 1, 1) := by decide +kernel
theorem dX0_keep_38 : decode cX0_keep 38 = .ok (.getfield 24, 3) := by decide +kernel
theorem dX0_keep_41 : decode cX0_keep 41 = .ok (.iload_n 3, 1) := by decide +kernel
theorem dX0_keep_42 : decode cX0_keep 42 = .ok (.iaload, 1) := by decide +kernel
theorem dX0_keep_43 : decode cX0_keep 43 = .ok (.iastore, 1) := by decide +kernel
theorem dX0_keep_44 : decode cX0_keep 44 = .ok (.iinc 3 1, 3) := by decide +kernel
theorem dX0_keep_47 : decode cX0_keep 47 = .ok (.goto (-24), 3) := by decide +kernel
theorem dX0_keep_50 : decode cX0_keep 50 = .ok (.iconst 0, 1) := by decide +kernel
theorem dX0_keep_51 : decode cX0_keep 51 = .ok (.istore_n 3, 1) := by decide +kernel
theorem dX0_keep_52 : decode cX0_keep 52 = .ok (.iload_n 3, 1) := by decide +kernel
theorem dX0_keep_53 : decode cX0_keep 53 = .ok (.iconst 5, 1) := by decide +kernel
theorem dX0_keep_54 : decode cX0_keep 54 = .ok (.if_icmp .ge 39, 3) := by decide +kernel
theorem dX0_keep_57 : decode cX0_keep 57 = .ok (.aload_n 0, 1) := by decide +kernel
theorem dX0_keep_58 : decode cX0_keep 58 = .ok (.getfield 11, 3) := by decide +kernel
theorem dX0_keep_61 : decode cX0_keep 61 = .ok (.iload_n 2, 1) := by decide +kernel
theorem dX0_keep_62 : decode cX0_keep 62 = .ok (.iinc 2 1, 3) := by decide +kernel
theorem dX0_keep_65 : decode cX0_keep 65 = .ok (.aload_n 1, 1) := by decide +kernel
theorem dX0_keep_66 : decode cX0_keep 66 = .ok (.getfield 27, 3) := by decide +kernel
theorem dX0_keep_69 : decode cX0_keep 69 = .ok (.iload_n 3, 1) := by decide +kernel
theorem dX0_keep_70 : decode cX0_keep 70 = .ok (.iaload, 1) := by decide +kernel
theorem dX0_keep_71 : decode cX0_keep 71 = .ok (.iastore, 1) := by decide +kernel
theorem dX0_keep_72 : decode cX0_keep 72 = .ok (.aload_n 0, 1) := by decide +kernel
theorem dX0_keep_73 : decode cX0_keep 73 = .ok (.getfield 11, 3) := by decide +kernel
theorem dX0_keep_76 : decode cX0_keep 76 = .ok (.iload_n 2, 1) := by decide +kernel
theorem dX0_keep_77 : decode cX0_keep 77 = .ok (.iinc 2 1, 3) := by decide +kernel
theorem dX0_keep_80 : decode cX0_keep 80 = .ok (.aload_n 1, 1) := by decide +kernel
theorem dX0_keep_81 : decode cX0_keep 81 = .ok (.getfield 30, 3) := by decide +kernel
theorem dX0_keep_84 : decode cX0_keep 84 = .ok (.iload_n 3, 1) := by decide +kernel
theorem dX0_keep_85 : decode cX0_keep 85 = .ok (.iaload, 1) := by decide +kernel
theorem dX0_keep_86 : decode cX0_keep 86 = .ok (.iastore, 1) := by decide +kernel
theorem dX0_keep_87 : decode cX0_keep 87 = .ok (.iinc 3 1, 3) := by decide +kernel
theorem dX0_keep_90 : decode cX0_keep 90 = .ok (.goto (-38), 3) := by decide +kernel
theorem dX0_keep_93 : decode cX0_keep 93 = .ok (.aload_n 0, 1) := by decide +kernel
theorem dX0_keep_94 : decode cX0_keep 94 = .ok (.aload_n 0, 1) := by decide +kernel
theorem dX0_keep_95 : decode cX0_keep 95 = .ok (.getfield 15, 3) := by decide +kernel
theorem dX0_keep_98 : decode cX0_keep 98 = .ok (.iconst 1, 1) := by decide +kernel
theorem dX0_keep_99 : decode cX0_keep 99 = .ok (.iadd, 1) := by decide +kernel
theorem dX0_keep_100 : decode cX0_keep 100 = .ok (.bipush 24, 2) := by decide +kernel
theorem dX0_keep_102 : decode cX0_keep 102 = .ok (.if_icmp .ge 12, 3) := by decide +kernel
theorem dX0_keep_105 : decode cX0_keep 105 = .ok (.aload_n 0, 1) := by decide +kernel
theorem dX0_keep_106 : decode cX0_keep 106 = .ok (.getfield 15, 3) := by decide +kernel
theorem dX0_keep_109 : decode cX0_keep 109 = .ok (.iconst 1, 1) := by decide +kernel
theorem dX0_keep_110 : decode cX0_keep 110 = .ok (.iadd, 1) := by decide +kernel
theorem dX0_keep_111 : decode cX0_keep 111 = .ok (.goto 4, 3) := by decide +kernel
theorem dX0_keep_114 : decode cX0_keep 114 = .ok (.iconst 0, 1) := by decide +kernel
theorem dX0_keep_115 : decode cX0_keep 115 = .ok (.putfield 15, 3) := by decide +kernel
theorem dX0_keep_118 : decode cX0_keep 118 = .ok (.aload_n 0, 1) := by decide +kernel
theorem dX0_keep_119 : decode cX0_keep 119 = .ok (.aload_n 0, 1) := by decide +kernel
theorem dX0_keep_120 : decode cX0_keep 120 = .ok (.getfield 33, 3) := by decide +kernel
theorem dX0_keep_123 : decode cX0_keep 123 = .ok (.iconst 1, 1) := by decide +kernel
theorem dX0_keep_124 : decode cX0_keep 124 = .ok (.iadd, 1) := by decide +kernel
theorem dX0_keep_125 : decode cX0_keep 125 = .ok (.bipush 24, 2) := by decide +kernel
theorem dX0_keep_127 : decode cX0_keep 127 = .ok (.invokestatic 36, 3) := by decide +kernel
theorem dX0_keep_130 : decode cX0_keep 130 = .ok (.putfield 33, 3) := by decide +kernel
theorem dX0_keep_133 : decode cX0_keep 133 = .ok (.return_, 1) := by decide +kernel
theorem dX0_giveBack_0 : decode cX0_giveBack 0 = .ok (.aload_n 0, 1) := by decide +kernel
theorem dX0_giveBack_1 : decode cX0_giveBack 1 = .ok (.aload_n 0, 1) := by decide +kernel
theorem dX0_giveBack_2 : decode cX0_giveBack 2 = .ok (.getfield 15, 3) := by decide +kernel
theorem dX0_giveBack_5 : decode cX0_giveBack 5 = .ok (.ifCond .le 12, 3) := by decide +kernel
theorem dX0_giveBack_8 : decode cX0_giveBack 8 = .ok (.aload_n 0, 1) := by decide +kernel
theorem dX0_giveBack_9 : decode cX0_giveBack 9 = .ok (.getfield 15, 3) := by decide +kernel
theorem dX0_giveBack_12 : decode cX0_giveBack 12 = .ok (.iconst 1, 1) := by decide +kernel
theorem dX0_giveBack_13 : decode cX0_giveBack 13 = .ok (.isub, 1) := by decide +kernel
theorem dX0_giveBack_14 : decode cX0_giveBack 14 = .ok (.goto 5, 3) := by decide +kernel
theorem dX0_giveBack_17 : decode cX0_giveBack 17 = .ok (.bipush 23, 2) := by decide +kernel
theorem dX0_giveBack_19 : decode cX0_giveBack 19 = .ok (.putfield 15, 3) := by decide +kernel
theorem dX0_giveBack_22 : decode cX0_giveBack 22 = .ok (.aload_n 0, 1) := by decide +kernel
theorem dX0_giveBack_23 : decode cX0_giveBack 23 = .ok (.dup, 1) := by decide +kernel
theorem dX0_giveBack_24 : decode cX0_giveBack 24 = .ok (.getfield 33, 3) := by decide +kernel
theorem dX0_giveBack_27 : decode cX0_giveBack 27 = .ok (.iconst 1, 1) := by decide +kernel
theorem dX0_giveBack_28 : decode cX0_giveBack 28 = .ok (.isub, 1) := by decide +kernel
theorem dX0_giveBack_29 : decode cX0_giveBack 29 = .ok (.putfield 33, 3) := by decide +kernel
theorem dX0_giveBack_32 : decode cX0_giveBack 32 = .ok (.aload_n 0, 1) := by decide +kernel
theorem dX0_giveBack_33 : decode cX0_giveBack 33 = .ok (.getfield 15, 3) := by decide +kernel
theorem dX0_giveBack_36 : decode cX0_giveBack 36 = .ok (.bipush 20, 2) := by decide +kernel
theorem dX0_giveBack_38 : decode cX0_giveBack 38 = .ok (.imul, 1) := by decide +kernel
theorem dX0_giveBack_39 : decode cX0_giveBack 39 = .ok (.istore_n 2, 1) := by decide +kernel
theorem dX0_giveBack_40 : decode cX0_giveBack 40 = .ok (.aload_n 1, 1) := by decide +kernel
theorem dX0_giveBack_41 : decode cX0_giveBack 41 = .ok (.aload_n 0, 1) := by decide +kernel
theorem dX0_giveBack_42 : decode cX0_giveBack 42 = .ok (.getfield 11, 3) := by decide +kernel
theorem dX0_giveBack_45 : decode cX0_giveBack 45 = .ok (.iload_n 2, 1) := by decide +kernel
theorem dX0_giveBack_46 : decode cX0_giveBack 46 = .ok (.iinc 2 1, 3) := by decide +kernel
theorem dX0_giveBack_49 : decode cX0_giveBack 49 = .ok (.iaload, 1) := by decide +kernel
theorem dX0_giveBack_50 : decode cX0_giveBack 50 = .ok (.putfield 19, 3) := by decide +kernel
theorem dX0_giveBack_53 : decode cX0_giveBack 53 = .ok (.iconst 0, 1) := by decide +kernel
theorem dX0_giveBack_54 : decode cX0_giveBack 54 = .ok (.istore_n 3, 1) := by decide +kernel
theorem dX0_giveBack_55 : decode cX0_giveBack 55 = .ok (.iload_n 3, 1) := by decide +kernel
theorem dX0_giveBack_56 : decode cX0_giveBack 56 = .ok (.bipush 9, 2) := by decide +kernel
theorem dX0_giveBack_58 : decode cX0_giveBack 58 = .ok (.if_icmp .ge 24, 3) := by decide +kernel
theorem dX0_giveBack_61 : decode cX0_giveBack 61 = .ok (.aload_n 1, 1) := by decide +kernel
theorem dX0_giveBack_62 : decode cX0_giveBack 62 = .ok (.getfield 24, 3) := by decide +kernel
theorem dX0_giveBack_65 : decode cX0_giveBack 65 = .ok (.iload_n 3, 1) := by decide +kernel
theorem dX0_giveBack_66 : decode cX0_giveBack 66 = .ok (.aload_n 0, 1) := by decide +kernel
theorem dX0_giveBack_67 : decode cX0_giveBack 67 = .ok (.getfield 11, 3) := by decide +kernel
theorem dX0_giveBack_70 : decode cX0_giveBack 70 = .ok (.iload_n 2, 1) := by decide +kernel
theorem dX0_giveBack_71 : decode cX0_giveBack 71 = .ok (.iinc 2 1, 3) := by decide +kernel
theorem dX0_giveBack_74 : decode cX0_giveBack 74 = .ok (.iaload, 1) := by decide +kernel
theorem dX0_giveBack_75 : decode cX0_giveBack 75 = .ok (.iastore, 1) := by decide +kernel
theorem dX0_giveBack_76 : decode cX0_giveBack 76 = .ok (.iinc 3 1, 3) := by decide +kernel
theorem dX0_giveBack_79 : decode cX0_giveBack 79 = .ok (.goto (-24), 3) := by decide +kernel
theorem dX0_giveBack_82 : decode cX0_giveBack 82 = .ok (.iconst 0, 1) := by decide +kernel
theorem dX0_giveBack_83 : decode cX0_giveBack 83 = .ok (.istore_n 3, 1) := by decide +kernel
theorem dX0_giveBack_84 : decode cX0_giveBack 84 = .ok (.iload_n 3, 1) := by decide +kernel
theorem dX0_giveBack_85 : decode cX0_giveBack 85 = .ok (.iconst 5, 1) := by decide +kernel
theorem dX0_giveBack_86 : decode cX0_giveBack 86 = .ok (.if_icmp .ge 39, 3) := by decide +kernel
theorem dX0_giveBack_89 : decode cX0_giveBack 89 = .ok (.aload_n 1, 1) := by decide +kernel
theorem dX0_giveBack_90 : decode cX0_giveBack 90 = .ok (.getfield 27, 3) := by decide +kernel
theorem dX0_giveBack_93 : decode cX0_giveBack 93 = .ok (.iload_n 3, 1) := by decide +kernel
theorem dX0_giveBack_94 : decode cX0_giveBack 94 = .ok (.aload_n 0, 1) := by decide +kernel
theorem dX0_giveBack_95 : decode cX0_giveBack 95 = .ok (.getfield 11, 3) := by decide +kernel
theorem dX0_giveBack_98 : decode cX0_giveBack 98 = .ok (.iload_n 2, 1) := by decide +kernel
theorem dX0_giveBack_99 : decode cX0_giveBack 99 = .ok (.iinc 2 1, 3) := by decide +kernel
theorem dX0_giveBack_102 : decode cX0_giveBack 102 = .ok (.iaload, 1) := by decide +kernel
theorem dX0_giveBack_103 : decode cX0_giveBack 103 = .ok (.iastore, 1) := by decide +kernel
theorem dX0_giveBack_104 : decode cX0_giveBack 104 = .ok (.aload_n 1, 1) := by decide +kernel
theorem dX0_giveBack_105 : decode cX0_giveBack 105 = .ok (.getfield 30, 3) := by decide +kernel
theorem dX0_giveBack_108 : decode cX0_giveBack 108 = .ok (.iload_n 3, 1) := by decide +kernel
theorem dX0_giveBack_109 : decode cX0_giveBack 109 = .ok (.aload_n 0, 1) := by decide +kernel
theorem dX0_giveBack_110 : decode cX0_giveBack 110 = .ok (.getfield 11, 3) := by decide +kernel
theorem dX0_giveBack_113 : decode cX0_giveBack 113 = .ok (.iload_n 2, 1) := by decide +kernel
theorem dX0_giveBack_114 : decode cX0_giveBack 114 = .ok (.iinc 2 1, 3) := by decide +kernel
theorem dX0_giveBack_117 : decode cX0_giveBack 117 = .ok (.iaload, 1) := by decide +kernel
theorem dX0_giveBack_118 : decode cX0_giveBack 118 = .ok (.iastore, 1) := by decide +kernel
theorem dX0_giveBack_119 : decode cX0_giveBack 119 = .ok (.iinc 3 1, 3) := by decide +kernel
theorem dX0_giveBack_122 : decode cX0_giveBack 122 = .ok (.goto (-38), 3) := by decide +kernel
theorem dX0_giveBack_125 : decode cX0_giveBack 125 = .ok (.return_, 1) := by decide +kernel
theorem dX1_init_0 : decode cX1_init 0 = .ok (.aload_n 0, 1) := by decide +kernel
theorem dX1_init_1 : decode cX1_init 1 = .ok (.invokespecial 3, 3) := by decide +kernel
theorem dX1_init_4 : decode cX1_init 4 = .ok (.aload_n 0, 1) := by decide +kernel
theorem dX1_init_5 : decode cX1_init 5 = .ok (.bipush 16, 2) := by decide +kernel
theorem dX1_init_7 : decode cX1_init 7 = .ok (.newarray .int, 2) := by decide +kernel
theorem dX1_init_9 : decode cX1_init 9 = .ok (.putfield 11, 3) := by decide +kernel
theorem dX1_init_12 : decode cX1_init 12 = .ok (.return_, 1) := by decide +kernel
set_option maxRecDepth 20000 in
theorem ggX1_begin_X1_bodyOf : GoodIn wsX1_begin wsX1_bodyOf := goodIn_r _ [4] (by decide +kernel) (by decide +kernel)
set_option maxRecDepth 20000 in
theorem gX1_begin_X1_bodyOf : GoodIn wsX1_begin (va_wsS RX1 20 yX1_bodyOf wsX1_bodyOf) := goodIn_app (goodIn_of _ (by decide +kernel)) ggX1_begin_X1_bodyOf
set_option maxRecDepth 20000 in
theorem ggX1_begin_X1_give : GoodIn wsX1_begin wsX1_give := goodIn_r _ [8, 9, 10, 11, 3, 12, 13, 14, 5, 6, 7, 15, 16, 17, 0, 1, 2, 4, 18, 19, 20, 21, 22, 23, 24, 25, 26, 27, 28, 29, 30, 31] (by decide +kernel) (by decide +kernel)
set_option maxRecDepth 20000 in
theorem gX1_begin_X1_give : GoodIn wsX1_begin (wsV RX1 24 RX1 yX1_give wsX1_give) := goodIn_app (goodIn_of _ (by decide +kernel)) ggX1_begin_X1_give
theorem dX1_begin_0 : decode cX1_begin 0 = .ok (.aload_n 0, 1) := by decide +kernel
theorem dX1_begin_1 : decode cX1_begin 1 = .ok (.aload_n 1, 1) := by decide +kernel
theorem dX1_begin_2 : decode cX1_begin 2 = .ok (.getfield 15, 3) := by decide +kernel
theorem dX1_begin_5 : decode cX1_begin 5 = .ok (.iload_n 2, 1) := by decide +kernel
theorem dX1_begin_6 : decode cX1_begin 6 = .ok (.iaload, 1) := by decide +kernel
theorem dX1_begin_7 : decode cX1_begin 7 = .ok (.iload_n 3, 1) := by decide +kernel
theorem dX1_begin_8 : decode cX1_begin 8 = .ok (.invokestatic 20, 3) := by decide +kernel
theorem dX1_begin_11 : decode cX1_begin 11 = .ok (.aload_n 1, 1) := by decide +kernel
theorem dX1_begin_12 : decode cX1_begin 12 = .ok (.iload_n 2, 1) := by decide +kernel
theorem dX1_begin_13 : decode cX1_begin 13 = .ok (.iload 4, 2) := by decide +kernel
theorem dX1_begin_15 : decode cX1_begin 15 = .ok (.invokevirtual 24, 3) := by decide +kernel
theorem dX1_begin_18 : decode cX1_begin 18 = .ok (.ireturn, 1) := by decide +kernel
theorem dX1_bodyOf_0 : decode cX1_bodyOf 0 = .ok (.iload_n 1, 1) := by decide +kernel
theorem dX1_bodyOf_1 : decode cX1_bodyOf 1 = .ok (.ifCond .ne 9, 3) := by decide +kernel
theorem dX1_bodyOf_4 : decode cX1_bodyOf 4 = .ok (.getstatic 28, 3) := by decide +kernel
theorem dX1_bodyOf_7 : decode cX1_bodyOf 7 = .ok (.goto 6, 3) := by decide +kernel
theorem dX1_bodyOf_10 : decode cX1_bodyOf 10 = .ok (.getstatic 31, 3) := by decide +kernel
theorem dX1_bodyOf_13 : decode cX1_bodyOf 13 = .ok (.astore_n 2, 1) := by decide +kernel
theorem dX1_bodyOf_14 : decode cX1_bodyOf 14 = .ok (.iload_n 0, 1) := by decide +kernel
theorem dX1_bodyOf_15 : decode cX1_bodyOf 15 = .ok (.istore_n 3, 1) := by decide +kernel
theorem dX1_bodyOf_16 : decode cX1_bodyOf 16 = .ok (.iconst 0, 1) := by decide +kernel
theorem dX1_bodyOf_17 : decode cX1_bodyOf 17 = .ok (.istore 4, 2) := by decide +kernel
theorem dX1_bodyOf_19 : decode cX1_bodyOf 19 = .ok (.iload 4, 2) := by decide +kernel
theorem dX1_bodyOf_21 : decode cX1_bodyOf 21 = .ok (.bipush 6, 2) := by decide +kernel
theorem dX1_bodyOf_23 : decode cX1_bodyOf 23 = .ok (.if_icmp .ge 21, 3) := by decide +kernel
theorem dX1_bodyOf_26 : decode cX1_bodyOf 26 = .ok (.aload_n 2, 1) := by decide +kernel
theorem dX1_bodyOf_27 : decode cX1_bodyOf 27 = .ok (.iload_n 3, 1) := by decide +kernel
theorem dX1_bodyOf_28 : decode cX1_bodyOf 28 = .ok (.iaload, 1) := by decide +kernel
theorem dX1_bodyOf_29 : decode cX1_bodyOf 29 = .ok (.ifCond .ne 15, 3) := by decide +kernel
theorem dX1_bodyOf_32 : decode cX1_bodyOf 32 = .ok (.getstatic 34, 3) := by decide +kernel
theorem dX1_bodyOf_35 : decode cX1_bodyOf 35 = .ok (.iload_n 3, 1) := by decide +kernel
theorem dX1_bodyOf_36 : decode cX1_bodyOf 36 = .ok (.iaload, 1) := by decide +kernel
theorem dX1_bodyOf_37 : decode cX1_bodyOf 37 = .ok (.istore_n 3, 1) := by decide +kernel
theorem dX1_bodyOf_38 : decode cX1_bodyOf 38 = .ok (.iinc 4 1, 3) := by decide +kernel
theorem dX1_bodyOf_41 : decode cX1_bodyOf 41 = .ok (.goto (-22), 3) := by decide +kernel
theorem dX1_bodyOf_44 : decode cX1_bodyOf 44 = .ok (.aload_n 2, 1) := by decide +kernel
theorem dX1_bodyOf_45 : decode cX1_bodyOf 45 = .ok (.iload_n 3, 1) := by decide +kernel
theorem dX1_bodyOf_46 : decode cX1_bodyOf 46 = .ok (.iaload, 1) := by decide +kernel
theorem dX1_bodyOf_47 : decode cX1_bodyOf 47 = .ok (.ireturn, 1) := by decide +kernel
set_option maxRecDepth 20000 in
theorem ggX1_give_X1_leave : GoodIn wsX1_give wsX1_leave := goodIn_r _ [5, 6, 7, 30, 31] (by decide +kernel) (by decide +kernel)
set_option maxRecDepth 20000 in
theorem gX1_give_X1_leave : GoodIn wsX1_give (wsV RX1 37 RX1 yX1_leave wsX1_leave) := goodIn_app (goodIn_of _ (by decide +kernel)) ggX1_give_X1_leave
set_option maxRecDepth 20000 in
theorem ggX1_give_X1_give : GoodIn wsX1_give wsX1_give := goodIn_r _ [0, 1, 2, 3, 4, 5, 6, 7, 8, 9, 10, 11, 12, 13, 14, 15, 16, 17, 18, 19, 20, 21, 22, 23, 24, 25, 26, 27, 28, 29, 30, 31] (by decide +kernel) (by decide +kernel)
set_option maxRecDepth 20000 in
theorem gX1_give_X1_give : GoodIn wsX1_give (wsV RX1 24 RX1 yX1_give wsX1_give) := goodIn_app (goodIn_of _ (by decide +kernel)) ggX1_give_X1_give
set_option maxRecDepth 20000 in
theorem ggX1_give_X1_begin : GoodIn wsX1_give wsX1_begin := goodIn_r _ [14, 15, 16, 4, 17, 8, 9, 10, 0, 1, 2, 3, 5, 6, 7, 11, 12, 13, 18, 19, 20, 21, 22, 23, 24, 25, 26, 27, 28, 29, 30, 31] (by decide +kernel) (by decide +kernel)
set_option maxRecDepth 20000 in
theorem gX1_give_X1_begin : GoodIn wsX1_give (wsV RX1 44 RX1 yX1_begin wsX1_begin) := goodIn_app (goodIn_of _ (by decide +kernel)) ggX1_give_X1_begin
theorem dX1_give_0 : decode cX1_give 0 = .ok (.iload 4, 2) := by decide +kernel
theorem dX1_give_2 : decode cX1_give 2 = .ok (.bipush 16, 2) := by decide +kernel
theorem dX1_give_4 : decode cX1_give 4 = .ok (.if_icmp .le 5, 3) := by decide +kernel
theorem dX1_give_7 : decode cX1_give 7 = .ok (.iconst 0, 1) := by decide +kernel
theorem dX1_give_8 : decode cX1_give 8 = .ok (.ireturn, 1) := by decide +kernel
theorem dX1_give_9 : decode cX1_give 9 = .ok (.aload_n 0, 1) := by decide +kernel
theorem dX1_give_10 : decode cX1_give 10 = .ok (.iload_n 1, 1) := by decide +kernel
theorem dX1_give_11 : decode cX1_give 11 = .ok (.invokevirtual 37, 3) := by decide +kernel
theorem dX1_give_14 : decode cX1_give 14 = .ok (.iload 4, 2) := by decide +kernel
theorem dX1_give_16 : decode cX1_give 16 = .ok (.iconst 1, 1) := by decide +kernel
theorem dX1_give_17 : decode cX1_give 17 = .ok (.iadd, 1) := by decide +kernel
theorem dX1_give_18 : decode cX1_give 18 = .ok (.istore 5, 2) := by decide +kernel
theorem dX1_give_20 : decode cX1_give 20 = .ok (.iload_n 1, 1) := by decide +kernel
theorem dX1_give_21 : decode cX1_give 21 = .ok (.tableswitch 211 10 24 #[75, 82, 103, 115, 129, 211, 211, 211, 211, 211, 142, 144, 162, 177, 198], 75) := by decide +kernel
theorem dX1_give_96 : decode cX1_give 96 = .ok (.aload_n 2, 1) := by decide +kernel
theorem dX1_give_97 : decode cX1_give 97 = .ok (.getfield 41, 3) := by decide +kernel
theorem dX1_give_100 : decode cX1_give 100 = .ok (.iload_n 3, 1) := by decide +kernel
theorem dX1_give_101 : decode cX1_give 101 = .ok (.iaload, 1) := by decide +kernel
theorem dX1_give_102 : decode cX1_give 102 = .ok (.ireturn, 1) := by decide +kernel
theorem dX1_give_103 : decode cX1_give 103 = .ok (.aload_n 0, 1) := by decide +kernel
theorem dX1_give_104 : decode cX1_give 104 = .ok (.bipush 10, 2) := by decide +kernel
theorem dX1_give_106 : decode cX1_give 106 = .ok (.aload_n 2, 1) := by decide +kernel
theorem dX1_give_107 : decode cX1_give 107 = .ok (.iload_n 3, 1) := by decide +kernel
theorem dX1_give_108 : decode cX1_give 108 = .ok (.iload 5, 2) := by decide +kernel
theorem dX1_give_110 : decode cX1_give 110 = .ok (.invokevirtual 24, 3) := by decide +kernel
theorem dX1_give_113 : decode cX1_give 113 = .ok (.aload_n 0, 1) := by decide +kernel
theorem dX1_give_114 : decode cX1_give 114 = .ok (.aload_n 2, 1) := by decide +kernel
theorem dX1_give_115 : decode cX1_give 115 = .ok (.iload_n 3, 1) := by decide +kernel
theorem dX1_give_116 : decode cX1_give 116 = .ok (.iconst 1, 1) := by decide +kernel
theorem dX1_give_117 : decode cX1_give 117 = .ok (.iload 5, 2) := by decide +kernel
theorem dX1_give_119 : decode cX1_give 119 = .ok (.invokevirtual 44, 3) := by decide +kernel
theorem dX1_give_122 : decode cX1_give 122 = .ok (.iadd, 1) := by decide +kernel
theorem dX1_give_123 : decode cX1_give 123 = .ok (.ireturn, 1) := by decide +kernel
theorem dX1_give_124 : decode cX1_give 124 = .ok (.aload_n 0, 1) := by decide +kernel
theorem dX1_give_125 : decode cX1_give 125 = .ok (.bipush 11, 2) := by decide +kernel
theorem dX1_give_127 : decode cX1_give 127 = .ok (.aload_n 2, 1) := by decide +kernel
theorem dX1_give_128 : decode cX1_give 128 = .ok (.iload_n 3, 1) := by decide +kernel
theorem dX1_give_129 : decode cX1_give 129 = .ok (.iload 5, 2) := by decide +kernel
theorem dX1_give_131 : decode cX1_give 131 = .ok (.invokevirtual 24, 3) := by decide +kernel
theorem dX1_give_134 : decode cX1_give 134 = .ok (.ineg, 1) := by decide +kernel
theorem dX1_give_135 : decode cX1_give 135 = .ok (.ireturn, 1) := by decide +kernel
theorem dX1_give_136 : decode cX1_give 136 = .ok (.aload_n 0, 1) := by decide +kernel
theorem dX1_give_137 : decode cX1_give 137 = .ok (.bipush 10, 2) := by decide +kernel
theorem dX1_give_139 : decode cX1_give 139 = .ok (.aload_n 2, 1) := by decide +kernel
theorem dX1_give_140 : decode cX1_give 140 = .ok (.iload_n 3, 1) := by decide +kernel
theorem dX1_give_141 : decode cX1_give 141 = .ok (.iload 5, 2) := by decide +kernel
theorem dX1_give_143 : decode cX1_give 143 = .ok (.invokevirtual 24, 3) := by decide +kernel
theorem dX1_give_146 : decode cX1_give 146 = .ok (.bipush 100, 2) := by decide +kernel
theorem dX1_give_148 : decode cX1_give 148 = .ok (.isub, 1) := by decide +kernel
theorem dX1_give_149 : decode cX1_give 149 = .ok (.ireturn, 1) := by decide +kernel
theorem dX1_give_150 : decode cX1_give 150 = .ok (.iconst 2, 1) := by decide +kernel
theorem dX1_give_151 : decode cX1_give 151 = .ok (.aload_n 0, 1) := by decide +kernel
theorem dX1_give_152 : decode cX1_give 152 = .ok (.bipush 13, 2) := by decide +kernel
theorem dX1_give_154 : decode cX1_give 154 = .ok (.aload_n 2, 1) := by decide +kernel
theorem dX1_give_155 : decode cX1_give 155 = .ok (.iload_n 3, 1) := by decide +kernel
theorem dX1_give_156 : decode cX1_give 156 = .ok (.iload 5, 2) := by decide +kernel
theorem dX1_give_158 : decode cX1_give 158 = .ok (.invokevirtual 24, 3) := by decide +kernel
theorem dX1_give_161 : decode cX1_give 161 = .ok (.imul, 1) := by decide +kernel
theorem dX1_give_162 : decode cX1_give 162 = .ok (.ireturn, 1) := by decide +kernel
theorem dX1_give_163 : decode cX1_give 163 = .ok (.iload_n 3, 1) := by decide +kernel
theorem dX1_give_164 : decode cX1_give 164 = .ok (.ireturn, 1) := by decide +kernel
theorem dX1_give_165 : decode cX1_give 165 = .ok (.aload_n 0, 1) := by decide +kernel
theorem dX1_give_166 : decode cX1_give 166 = .ok (.bipush 20, 2) := by decide +kernel
theorem dX1_give_168 : decode cX1_give 168 = .ok (.aload_n 2, 1) := by decide +kernel
theorem dX1_give_169 : decode cX1_give 169 = .ok (.iload_n 3, 1) := by decide +kernel
theorem dX1_give_170 : decode cX1_give 170 = .ok (.iload 5, 2) := by decide +kernel
theorem dX1_give_172 : decode cX1_give 172 = .ok (.invokevirtual 24, 3) := by decide +kernel
theorem dX1_give_175 : decode cX1_give 175 = .ok (.aload_n 2, 1) := by decide +kernel
theorem dX1_give_176 : decode cX1_give 176 = .ok (.getfield 48, 3) := by decide +kernel
theorem dX1_give_179 : decode cX1_give 179 = .ok (.iload_n 3, 1) := by decide +kernel
theorem dX1_give_180 : decode cX1_give 180 = .ok (.iaload, 1) := by decide +kernel
theorem dX1_give_181 : decode cX1_give 181 = .ok (.iadd, 1) := by decide +kernel
theorem dX1_give_182 : decode cX1_give 182 = .ok (.ireturn, 1) := by decide +kernel
theorem dX1_give_183 : decode cX1_give 183 = .ok (.aload_n 0, 1) := by decide +kernel
theorem dX1_give_184 : decode cX1_give 184 = .ok (.bipush 21, 2) := by decide +kernel
theorem dX1_give_186 : decode cX1_give 186 = .ok (.aload_n 2, 1) := by decide +kernel
theorem dX1_give_187 : decode cX1_give 187 = .ok (.iload_n 3, 1) := by decide +kernel
theorem dX1_give_188 : decode cX1_give 188 = .ok (.iload 5, 2) := by decide +kernel
theorem dX1_give_190 : decode cX1_give 190 = .ok (.invokevirtual 24, 3) := by decide +kernel
theorem dX1_give_193 : decode cX1_give 193 = .ok (.sipush 1000, 3) := by decide +kernel
theorem dX1_give_196 : decode cX1_give 196 = .ok (.isub, 1) := by decide +kernel
theorem dX1_give_197 : decode cX1_give 197 = .ok (.ireturn, 1) := by decide +kernel
theorem dX1_give_198 : decode cX1_give 198 = .ok (.aload_n 0, 1) := by decide +kernel
theorem dX1_give_199 : decode cX1_give 199 = .ok (.bipush 20, 2) := by decide +kernel
theorem dX1_give_201 : decode cX1_give 201 = .ok (.aload_n 2, 1) := by decide +kernel
theorem dX1_give_202 : decode cX1_give 202 = .ok (.iload_n 3, 1) := by decide +kernel
theorem dX1_give_203 : decode cX1_give 203 = .ok (.iload 5, 2) := by decide +kernel
theorem dX1_give_205 : decode cX1_give 205 = .ok (.invokevirtual 24, 3) := by decide +kernel
theorem dX1_give_208 : decode cX1_give 208 = .ok (.aload_n 0, 1) := by decide +kernel
theorem dX1_give_209 : decode cX1_give 209 = .ok (.aload_n 2, 1) := by decide +kernel
theorem dX1_give_210 : decode cX1_give 210 = .ok (.iload_n 3, 1) := by decide +kernel
theorem dX1_give_211 : decode cX1_give 211 = .ok (.iconst 0, 1) := by decide +kernel
theorem dX1_give_212 : decode cX1_give 212 = .ok (.iload 5, 2) := by decide +kernel
theorem dX1_give_214 : decode cX1_give 214 = .ok (.invokevirtual 44, 3) := by decide +kernel
theorem dX1_give_217 : decode cX1_give 217 = .ok (.isub, 1) := by decide +kernel
theorem dX1_give_218 : decode cX1_give 218 = .ok (.ireturn, 1) := by decide +kernel
theorem dX1_give_219 : decode cX1_give 219 = .ok (.iconst 2, 1) := by decide +kernel
theorem dX1_give_220 : decode cX1_give 220 = .ok (.aload_n 0, 1) := by decide +kernel
theorem dX1_give_221 : decode cX1_give 221 = .ok (.bipush 21, 2) := by decide +kernel
theorem dX1_give_223 : decode cX1_give 223 = .ok (.aload_n 2, 1) := by decide +kernel
theorem dX1_give_224 : decode cX1_give 224 = .ok (.iload_n 3, 1) := by decide +kernel
theorem dX1_give_225 : decode cX1_give 225 = .ok (.iload 5, 2) := by decide +kernel
theorem dX1_give_227 : decode cX1_give 227 = .ok (.invokevirtual 24, 3) := by decide +kernel
theorem dX1_give_230 : decode cX1_give 230 = .ok (.imul, 1) := by decide +kernel
theorem dX1_give_231 : decode cX1_give 231 = .ok (.ireturn, 1) := by decide +kernel
theorem dX1_give_232 : decode cX1_give 232 = .ok (.iconst 0, 1) := by decide +kernel
theorem dX1_give_233 : decode cX1_give 233 = .ok (.ireturn, 1) := by decide +kernel
theorem dX1_leave_0 : decode cX1_leave 0 = .ok (.aload_n 0, 1) := by decide +kernel
theorem dX1_leave_1 : decode cX1_leave 1 = .ok (.getfield 51, 3) := by decide +kernel
theorem dX1_leave_4 : decode cX1_leave 4 = .ok (.bipush 16, 2) := by decide +kernel
theorem dX1_leave_6 : decode cX1_leave 6 = .ok (.if_icmp .ge 23, 3) := by decide +kernel
theorem dX1_leave_9 : decode cX1_leave 9 = .ok (.aload_n 0, 1) := by decide +kernel
theorem dX1_leave_10 : decode cX1_leave 10 = .ok (.getfield 11, 3) := by decide +kernel
theorem dX1_leave_13 : decode cX1_leave 13 = .ok (.aload_n 0, 1) := by decide +kernel
theorem dX1_leave_14 : decode cX1_leave 14 = .ok (.getfield 51, 3) := by decide +kernel
theorem dX1_leave_17 : decode cX1_leave 17 = .ok (.iload_n 1, 1) := by decide +kernel
theorem dX1_leave_18 : decode cX1_leave 18 = .ok (.iastore, 1) := by decide +kernel
theorem dX1_leave_19 : decode cX1_leave 19 = .ok (.aload_n 0, 1) := by decide +kernel
theorem dX1_leave_20 : decode cX1_leave 20 = .ok (.dup, 1) := by decide +kernel
theorem dX1_leave_21 : decode cX1_leave 21 = .ok (.getfield 51, 3) := by decide +kernel
theorem dX1_leave_24 : decode cX1_leave 24 = .ok (.iconst 1, 1) := by decide +kernel
theorem dX1_leave_25 : decode cX1_leave 25 = .ok (.iadd, 1) := by decide +kernel
theorem dX1_leave_26 : decode cX1_leave 26 = .ok (.putfield 51, 3) := by decide +kernel
theorem dX1_leave_29 : decode cX1_leave 29 = .ok (.return_, 1) := by decide +kernel
theorem dX2_init_0 : decode cX2_init 0 = .ok (.aload_n 0, 1) := by decide +kernel
theorem dX2_init_1 : decode cX2_init 1 = .ok (.invokespecial 3, 3) := by decide +kernel
theorem dX2_init_4 : decode cX2_init 4 = .ok (.aload_n 0, 1) := by decide +kernel
theorem dX2_init_5 : decode cX2_init 5 = .ok (.bipush 9, 2) := by decide +kernel
theorem dX2_init_7 : decode cX2_init 7 = .ok (.newarray .int, 2) := by decide +kernel
theorem dX2_init_9 : decode cX2_init 9 = .ok (.putfield 9, 3) := by decide +kernel
theorem dX2_init_12 : decode cX2_init 12 = .ok (.aload_n 0, 1) := by decide +kernel
theorem dX2_init_13 : decode cX2_init 13 = .ok (.bipush 9, 2) := by decide +kernel
theorem dX2_init_15 : decode cX2_init 15 = .ok (.newarray .int, 2) := by decide +kernel
theorem dX2_init_17 : decode cX2_init 17 = .ok (.putfield 15, 3) := by decide +kernel
theorem dX2_init_20 : decode cX2_init 20 = .ok (.aload_n 0, 1) := by decide +kernel
theorem dX2_init_21 : decode cX2_init 21 = .ok (.iconst 5, 1) := by decide +kernel
theorem dX2_init_22 : decode cX2_init 22 = .ok (.newarray .int, 2) := by decide +kernel
theorem dX2_init_24 : decode cX2_init 24 = .ok (.putfield 18, 3) := by decide +kernel
theorem dX2_init_27 : decode cX2_init 27 = .ok (.aload_n 0, 1) := by decide +kernel
theorem dX2_init_28 : decode cX2_init 28 = .ok (.iconst 5, 1) := by decide +kernel
theorem dX2_init_29 : decode cX2_init 29 = .ok (.newarray .int, 2) := by decide +kernel
theorem dX2_init_31 : decode cX2_init 31 = .ok (.putfield 21, 3) := by decide +kernel
theorem dX2_init_34 : decode cX2_init 34 = .ok (.aload_n 0, 1) := by decide +kernel
theorem dX2_init_35 : decode cX2_init 35 = .ok (.iconst 5, 1) := by decide +kernel
theorem dX2_init_36 : decode cX2_init 36 = .ok (.newarray .int, 2) := by decide +kernel
theorem dX2_init_38 : decode cX2_init 38 = .ok (.putfield 24, 3) := by decide +kernel
theorem dX2_init_41 : decode cX2_init 41 = .ok (.aload_n 0, 1) := by decide +kernel
theorem dX2_init_42 : decode cX2_init 42 = .ok (.bipush 9, 2) := by decide +kernel
theorem dX2_init_44 : decode cX2_init 44 = .ok (.newarray .int, 2) := by decide +kernel
theorem dX2_init_46 : decode cX2_init 46 = .ok (.putfield 27, 3) := by decide +kernel
theorem dX2_init_49 : decode cX2_init 49 = .ok (.return_, 1) := by decide +kernel
theorem dX2_begin_0 : decode cX2_begin 0 = .ok (.aload_n 0, 1) := by decide +kernel
theorem dX2_begin_1 : decode cX2_begin 1 = .ok (.iconst 1, 1) := by decide +kernel
theorem dX2_begin_2 : decode cX2_begin 2 = .ok (.putfield 30, 3) := by decide +kernel
theorem dX2_begin_5 : decode cX2_begin 5 = .ok (.aload_n 0, 1) := by decide +kernel
theorem dX2_begin_6 : decode cX2_begin 6 = .ok (.iconst 0, 1) := by decide +kernel
theorem dX2_begin_7 : decode cX2_begin 7 = .ok (.putfield 34, 3) := by decide +kernel
theorem dX2_begin_10 : decode cX2_begin 10 = .ok (.aload_n 0, 1) := by decide +kernel
theorem dX2_begin_11 : decode cX2_begin 11 = .ok (.iconst 0, 1) := by decide +kernel
theorem dX2_begin_12 : decode cX2_begin 12 = .ok (.putfield 38, 3) := by decide +kernel
theorem dX2_begin_15 : decode cX2_begin 15 = .ok (.aload_n 0, 1) := by decide +kernel
theorem dX2_begin_16 : decode cX2_begin 16 = .ok (.iconst 0, 1) := by decide +kernel
theorem dX2_begin_17 : decode cX2_begin 17 = .ok (.putfield 41, 3) := by decide +kernel
theorem dX2_begin_20 : decode cX2_begin 20 = .ok (.iconst 0, 1) := by decide +kernel
theorem dX2_begin_21 : decode cX2_begin 21 = .ok (.istore_n 1, 1) := by decide +kernel
theorem dX2_begin_22 : decode cX2_begin 22 = .ok (.iload_n 1, 1) := by decide +kernel
theorem dX2_begin_23 : decode cX2_begin 23 = .ok (.bipush 9, 2) := by decide +kernel
theorem dX2_begin_25 : decode cX2_begin 25 = .ok (.if_icmp .ge 16, 3) := by decide +kernel
theorem dX2_begin_28 : decode cX2_begin 28 = .ok (.aload_n 0, 1) := by decide +kernel
theorem dX2_begin_29 : decode cX2_begin 29 = .ok (.getfield 15, 3) := by decide +kernel
theorem dX2_begin_32 : decode cX2_begin 32 = .ok (.iload_n 1, 1) := by decide +kernel
theorem dX2_begin_33 : decode cX2_begin 33 = .ok (.iconst 0, 1) := by decide +kernel
theorem dX2_begin_34 : decode cX2_begin 34 = .ok (.iastore, 1) := by decide +kernel
theorem dX2_begin_35 : decode cX2_begin 35 = .ok (.iinc 1 1, 3) := by decide +kernel
theorem dX2_begin_38 : decode cX2_begin 38 = .ok (.goto (-16), 3) := by decide +kernel
theorem dX2_begin_41 : decode cX2_begin 41 = .ok (.return_, 1) := by decide +kernel
theorem dX2_take_0 : decode cX2_take 0 = .ok (.aload_n 0, 1) := by decide +kernel
theorem dX2_take_1 : decode cX2_take 1 = .ok (.aload_n 1, 1) := by decide +kernel
theorem dX2_take_2 : decode cX2_take 2 = .ok (.getfield 30, 3) := by decide +kernel
theorem dX2_take_5 : decode cX2_take 5 = .ok (.putfield 30, 3) := by decide +kernel
theorem dX2_take_8 : decode cX2_take 8 = .ok (.aload_n 0, 1) := by decide +kernel
theorem dX2_take_9 : decode cX2_take 9 = .ok (.aload_n 1, 1) := by decide +kernel
theorem dX2_take_10 : decode cX2_take 10 = .ok (.getfield 44, 3) := by decide +kernel
theorem dX2_take_13 : decode cX2_take 13 = .ok (.putfield 44, 3) := by decide +kernel
theorem dX2_take_16 : decode cX2_take 16 = .ok (.aload_n 0, 1) := by decide +kernel
theorem dX2_take_17 : decode cX2_take 17 = .ok (.aload_n 1, 1) := by decide +kernel
theorem dX2_take_18 : decode cX2_take 18 = .ok (.getfield 47, 3) := by decide +kernel
theorem dX2_take_21 : decode cX2_take 21 = .ok (.putfield 47, 3) := by decide +kernel
theorem dX2_take_24 : decode cX2_take 24 = .ok (.aload_n 0, 1) := by decide +kernel
theorem dX2_take_25 : decode cX2_take 25 = .ok (.aload_n 1, 1) := by decide +kernel
theorem dX2_take_26 : decode cX2_take 26 = .ok (.getfield 34, 3) := by decide +kernel
theorem dX2_take_29 : decode cX2_take 29 = .ok (.putfield 34, 3) := by decide +kernel
theorem dX2_take_32 : decode cX2_take 32 = .ok (.aload_n 0, 1) := by decide +kernel
theorem dX2_take_33 : decode cX2_take 33 = .ok (.aload_n 1, 1) := by decide +kernel
theorem dX2_take_34 : decode cX2_take 34 = .ok (.getfield 38, 3) := by decide +kernel
theorem dX2_take_37 : decode cX2_take 37 = .ok (.putfield 38, 3) := by decide +kernel
theorem dX2_take_40 : decode cX2_take 40 = .ok (.aload_n 0, 1) := by decide +kernel
theorem dX2_take_41 : decode cX2_take 41 = .ok (.aload_n 1, 1) := by decide +kernel
theorem dX2_take_42 : decode cX2_take 42 = .ok (.getfield 41, 3) := by decide +kernel
theorem dX2_take_45 : decode cX2_take 45 = .ok (.putfield 41, 3) := by decide +kernel
theorem dX2_take_48 : decode cX2_take 48 = .ok (.iconst 0, 1) := by decide +kernel
theorem dX2_take_49 : decode cX2_take 49 = .ok (.istore_n 2, 1) := by decide +kernel
theorem dX2_take_50 : decode cX2_take 50 = .ok (.iload_n 2, 1) := by decide +kernel
theorem dX2_take_51 : decode cX2_take 51 = .ok (.bipush 9, 2) := by decide +kernel
theorem dX2_take_53 : decode cX2_take 53 = .ok (.if_icmp .ge 33, 3) := by decide +kernel
theorem dX2_take_56 : decode cX2_take 56 = .ok (.aload_n 0, 1) := by decide +kernel
theorem dX2_take_57 : decode cX2_take 57 = .ok (.getfield 9, 3) := by decide +kernel
theorem dX2_take_60 : decode cX2_take 60 = .ok (.iload_n 2, 1) := by decide +kernel
theorem dX2_take_61 : decode cX2_take 61 = .ok (.aload_n 1, 1) := by decide +kernel
theorem dX2_take_62 : decode cX2_take 62 = .ok (.getfield 9, 3) := by decide +kernel
theorem dX2_take_65 : decode cX2_take 65 = .ok (.iload_n 2, 1) := by decide +kernel
theorem dX2_take_66 : decode cX2_take 66 = .ok (.iaload, 1) := by decide +kernel
theorem dX2_take_67 : decode cX2_take 67 = .ok (.iastore, 1) := by decide +kernel
theorem dX2_take_68 : decode cX2_take 68 = .ok (.aload_n 0, 1) := by decide +kernel
theorem dX2_take_69 : decode cX2_take 69 = .ok (.getfield 15, 3) := by decide +kernel
theorem dX2_take_72 : decode cX2_take 72 = .ok (.iload_n 2, 1) := by decide +kernel
theorem dX2_take_73 : decode cX2_take 73 = .ok (.aload_n 1, 1) := by decide +kernel
theorem dX2_take_74 : decode cX2_take 74 = .ok (.getfield 15, 3) := by decide +kernel
theorem dX2_take_77 : decode cX2_take 77 = .ok (.iload_n 2, 1) := by decide +kernel
theorem dX2_take_78 : decode cX2_take 78 = .ok (.iaload, 1) := by decide +kernel
theorem dX2_take_79 : decode cX2_take 79 = .ok (.iastore, 1) := by decide +kernel
theorem dX2_take_80 : decode cX2_take 80 = .ok (.iinc 2 1, 3) := by decide +kernel
theorem dX2_take_83 : decode cX2_take 83 = .ok (.goto (-33), 3) := by decide +kernel
theorem dX2_take_86 : decode cX2_take 86 = .ok (.iconst 0, 1) := by decide +kernel
theorem dX2_take_87 : decode cX2_take 87 = .ok (.istore_n 2, 1) := by decide +kernel
theorem dX2_take_88 : decode cX2_take 88 = .ok (.iload_n 2, 1) := by decide +kernel
theorem dX2_take_89 : decode cX2_take 89 = .ok (.iconst 5, 1) := by decide +kernel
theorem dX2_take_90 : decode cX2_take 90 = .ok (.if_icmp .ge 45, 3) := by decide +kernel
theorem dX2_take_93 : decode cX2_take 93 = .ok (.aload_n 0, 1) := by decide +kernel
theorem dX2_take_94 : decode cX2_take 94 = .ok (.getfield 18, 3) := by decide +kernel
theorem dX2_take_97 : decode cX2_take 97 = .ok (.iload_n 2, 1) := by decide +kernel
theorem dX2_take_98 : decode cX2_take 98 = .ok (.aload_n 1, 1) := by decide +kernel
theorem dX2_take_99 : decode cX2_take 99 = .ok (.getfield 18, 3) := by decide +kernel
theorem dX2_take_102 : decode cX2_take 102 = .ok (.iload_n 2, 1) := by decide +kernel
theorem dX2_take_103 : decode cX2_take 103 = .ok (.iaload, 1) := by decide +kernel
theorem dX2_take_104 : decode cX2_take 104 = .ok (.iastore, 1) := by decide +kernel
theorem dX2_take_105 : decode cX2_take 105 = .ok (.aload_n 0, 1) := by decide +kernel
theorem dX2_take_106 : decode cX2_take 106 = .ok (.getfield 21, 3) := by decide +kernel
theorem dX2_take_109 : decode cX2_take 109 = .ok (.iload_n 2, 1) := by decide +kernel
theorem dX2_take_110 : decode cX2_take 110 = .ok (.aload_n 1, 1) := by decide +kernel
theorem dX2_take_111 : decode cX2_take 111 = .ok (.getfield 21, 3) := by decide +kernel
theorem dX2_take_114 : decode cX2_take 114 = .ok (.iload_n 2, 1) := by decide +kernel
theorem dX2_take_115 : decode cX2_take 115 = .ok (.iaload, 1) := by decide +kernel
theorem dX2_take_116 : decode cX2_take 116 = .ok (.iastore, 1) := by decide +kernel
theorem dX2_take_117 : decode cX2_take 117 = .ok (.aload_n 0, 1) := by decide +kernel
theorem dX2_take_118 : decode cX2_take 118 = .ok (.getfield 24, 3) := by decide +kernel
theorem dX2_take_121 : decode cX2_take 121 = .ok (.iload_n 2, 1) := by decide +kernel
theorem dX2_take_122 : decode cX2_take 122 = .ok (.aload_n 1, 1) := by decide +kernel
theorem dX2_take_123 : decode cX2_take 123 = .ok (.getfield 24, 3) := by decide +kernel
theorem dX2_take_126 : decode cX2_take 126 = .ok (.iload_n 2, 1) := by decide +kernel
theorem dX2_take_127 : decode cX2_take 127 = .ok (.iaload, 1) := by decide +kernel
theorem dX2_take_128 : decode cX2_take 128 = .ok (.iastore, 1) := by decide +kernel
theorem dX2_take_129 : decode cX2_take 129 = .ok (.iinc 2 1, 3) := by decide +kernel
theorem dX2_take_132 : decode cX2_take 132 = .ok (.goto (-44), 3) := by decide +kernel
theorem dX2_take_135 : decode cX2_take 135 = .ok (.return_, 1) := by decide +kernel
theorem dX2_nextOf_0 : decode cX2_nextOf 0 = .ok (.iload_n 1, 1) := by decide +kernel
theorem dX2_nextOf_1 : decode cX2_nextOf 1 = .ok (.iconst 1, 1) := by decide +kernel
theorem dX2_nextOf_2 : decode cX2_nextOf 2 = .ok (.iadd, 1) := by decide +kernel
theorem dX2_nextOf_3 : decode cX2_nextOf 3 = .ok (.aload_n 0, 1) := by decide +kernel
theorem dX2_nextOf_4 : decode cX2_nextOf 4 = .ok (.getfield 38, 3) := by decide +kernel
theorem dX2_nextOf_7 : decode cX2_nextOf 7 = .ok (.if_icmp .ge 9, 3) := by decide +kernel
theorem dX2_nextOf_10 : decode cX2_nextOf 10 = .ok (.iload_n 1, 1) := by decide +kernel
theorem dX2_nextOf_11 : decode cX2_nextOf 11 = .ok (.iconst 1, 1) := by decide +kernel
theorem dX2_nextOf_12 : decode cX2_nextOf 12 = .ok (.iadd, 1) := by decide +kernel
theorem dX2_nextOf_13 : decode cX2_nextOf 13 = .ok (.goto 4, 3) := by decide +kernel
theorem dX2_nextOf_16 : decode cX2_nextOf 16 = .ok (.iconst 0, 1) := by decide +kernel
theorem dX2_nextOf_17 : decode cX2_nextOf 17 = .ok (.ireturn, 1) := by decide +kernel
theorem dX2_beforeOf_0 : decode cX2_beforeOf 0 = .ok (.iload_n 1, 1) := by decide +kernel
theorem dX2_beforeOf_1 : decode cX2_beforeOf 1 = .ok (.ifCond .le 9, 3) := by decide +kernel
theorem dX2_beforeOf_4 : decode cX2_beforeOf 4 = .ok (.iload_n 1, 1) := by decide +kernel
theorem dX2_beforeOf_5 : decode cX2_beforeOf 5 = .ok (.iconst 1, 1) := by decide +kernel
theorem dX2_beforeOf_6 : decode cX2_beforeOf 6 = .ok (.isub, 1) := by decide +kernel
theorem dX2_beforeOf_7 : decode cX2_beforeOf 7 = .ok (.goto 9, 3) := by decide +kernel
theorem dX2_beforeOf_10 : decode cX2_beforeOf 10 = .ok (.aload_n 0, 1) := by decide +kernel
theorem dX2_beforeOf_11 : decode cX2_beforeOf 11 = .ok (.getfield 38, 3) := by decide +kernel
theorem dX2_beforeOf_14 : decode cX2_beforeOf 14 = .ok (.iconst 1, 1) := by decide +kernel
theorem dX2_beforeOf_15 : decode cX2_beforeOf 15 = .ok (.isub, 1) := by decide +kernel
theorem dX2_beforeOf_16 : decode cX2_beforeOf 16 = .ok (.ireturn, 1) := by decide +kernel
theorem dX2_allWords_0 : decode cX2_allWords 0 = .ok (.iconst 1, 1) := by decide +kernel
theorem dX2_allWords_1 : decode cX2_allWords 1 = .ok (.aload_n 0, 1) := by decide +kernel
theorem dX2_allWords_2 : decode cX2_allWords 2 = .ok (.getfield 44, 3) := by decide +kernel
theorem dX2_allWords_5 : decode cX2_allWords 5 = .ok (.ishl, 1) := by decide +kernel
theorem dX2_allWords_6 : decode cX2_allWords 6 = .ok (.iconst 1, 1) := by decide +kernel
theorem dX2_allWords_7 : decode cX2_allWords 7 = .ok (.isub, 1) := by decide +kernel
theorem dX2_allWords_8 : decode cX2_allWords 8 = .ok (.ireturn, 1) := by decide +kernel
set_option maxRecDepth 20000 in
theorem ggX2_goHours_X2_goHour : GoodIn wsX2_goHours wsX2_goHour := goodIn_r _ [5, 6, 7, 8, 9, 10, 11, 12, 4, 13, 14, 15, 16, 17, 18, 19, 20, 21, 22, 23, 24, 25, 26, 27, 28, 29, 30, 31, 32, 33, 34, 35, 36, 37, 38, 39, 40, 41, 42, 43, 44, 45, 46, 47, 48, 49, 50, 51, 52, 53, 54, 55, 56, 57, 58, 59, 60] (by decide +kernel) (by decide +kernel)
set_option maxRecDepth 20000 in
theorem gX2_goHours_X2_goHour : GoodIn wsX2_goHours (wsV RX2 50 RX2 yX2_goHour wsX2_goHour) := goodIn_app (goodIn_of _ (by decide +kernel)) ggX2_goHours_X2_goHour
theorem dX2_goHours_0 : decode cX2_goHours 0 = .ok (.iconst 0, 1) := by decide +kernel
theorem dX2_goHours_1 : decode cX2_goHours 1 = .ok (.istore_n 2, 1) := by decide +kernel
theorem dX2_goHours_2 : decode cX2_goHours 2 = .ok (.iload_n 2, 1) := by decide +kernel
theorem dX2_goHours_3 : decode cX2_goHours 3 = .ok (.iload_n 1, 1) := by decide +kernel
theorem dX2_goHours_4 : decode cX2_goHours 4 = .ok (.if_icmp .ge 13, 3) := by decide +kernel
theorem dX2_goHours_7 : decode cX2_goHours 7 = .ok (.aload_n 0, 1) := by decide +kernel
theorem dX2_goHours_8 : decode cX2_goHours 8 = .ok (.invokevirtual 50, 3) := by decide +kernel
theorem dX2_goHours_11 : decode cX2_goHours 11 = .ok (.iinc 2 1, 3) := by decide +kernel
theorem dX2_goHours_14 : decode cX2_goHours 14 = .ok (.goto (-12), 3) := by decide +kernel
theorem dX2_goHours_17 : decode cX2_goHours 17 = .ok (.return_, 1) := by decide +kernel
set_option maxRecDepth 20000 in
theorem ggX2_goHour_X2_councils : GoodIn wsX2_goHour wsX2_councils := goodIn_r _ [9, 3, 10, 45, 46, 47, 48, 49, 50, 51, 52, 53, 54, 55, 56] (by decide +kernel) (by decide +kernel)
set_option maxRecDepth 20000 in
theorem gX2_goHour_X2_councils : GoodIn wsX2_goHour (wsV RX2 53 RX2 yX2_councils wsX2_councils) := goodIn_app (goodIn_of _ (by decide +kernel)) ggX2_goHour_X2_councils
set_option maxRecDepth 20000 in
theorem ggX2_goHour_X2_pass : GoodIn wsX2_goHour wsX2_pass := goodIn_r _ [14, 10, 2, 15, 16, 17, 18, 19, 8, 20, 21, 22, 23, 24, 25, 26, 27, 28, 29, 30, 31, 32, 33, 34, 35, 36, 37, 38, 39, 40, 1, 41, 42, 43, 44, 45, 46, 47, 48, 49, 50, 51, 52, 53, 54, 55, 56] (by decide +kernel) (by decide +kernel)
set_option maxRecDepth 20000 in
theorem gX2_goHour_X2_pass : GoodIn wsX2_goHour (wsV RX2 57 RX2 yX2_pass wsX2_pass) := goodIn_app (goodIn_of _ (by decide +kernel)) ggX2_goHour_X2_pass
theorem dX2_goHour_0 : decode cX2_goHour 0 = .ok (.aload_n 0, 1) := by decide +kernel
theorem dX2_goHour_1 : decode cX2_goHour 1 = .ok (.invokevirtual 53, 3) := by decide +kernel
theorem dX2_goHour_4 : decode cX2_goHour 4 = .ok (.istore_n 1, 1) := by decide +kernel
theorem dX2_goHour_5 : decode cX2_goHour 5 = .ok (.iconst 0, 1) := by decide +kernel
theorem dX2_goHour_6 : decode cX2_goHour 6 = .ok (.istore_n 2, 1) := by decide +kernel
theorem dX2_goHour_7 : decode cX2_goHour 7 = .ok (.iload_n 2, 1) := by decide +kernel
theorem dX2_goHour_8 : decode cX2_goHour 8 = .ok (.aload_n 0, 1) := by decide +kernel
theorem dX2_goHour_9 : decode cX2_goHour 9 = .ok (.getfield 38, 3) := by decide +kernel
theorem dX2_goHour_12 : decode cX2_goHour 12 = .ok (.if_icmp .ge 16, 3) := by decide +kernel
theorem dX2_goHour_15 : decode cX2_goHour 15 = .ok (.aload_n 0, 1) := by decide +kernel
theorem dX2_goHour_16 : decode cX2_goHour 16 = .ok (.getfield 27, 3) := by decide +kernel
theorem dX2_goHour_19 : decode cX2_goHour 19 = .ok (.iload_n 2, 1) := by decide +kernel
theorem dX2_goHour_20 : decode cX2_goHour 20 = .ok (.iconst 0, 1) := by decide +kernel
theorem dX2_goHour_21 : decode cX2_goHour 21 = .ok (.iastore, 1) := by decide +kernel
theorem dX2_goHour_22 : decode cX2_goHour 22 = .ok (.iinc 2 1, 3) := by decide +kernel
theorem dX2_goHour_25 : decode cX2_goHour 25 = .ok (.goto (-18), 3) := by decide +kernel
theorem dX2_goHour_28 : decode cX2_goHour 28 = .ok (.iconst 0, 1) := by decide +kernel
theorem dX2_goHour_29 : decode cX2_goHour 29 = .ok (.istore_n 2, 1) := by decide +kernel
theorem dX2_goHour_30 : decode cX2_goHour 30 = .ok (.iload_n 2, 1) := by decide +kernel
theorem dX2_goHour_31 : decode cX2_goHour 31 = .ok (.aload_n 0, 1) := by decide +kernel
theorem dX2_goHour_32 : decode cX2_goHour 32 = .ok (.getfield 41, 3) := by decide +kernel
theorem dX2_goHour_35 : decode cX2_goHour 35 = .ok (.if_icmp .ge 22, 3) := by decide +kernel
theorem dX2_goHour_38 : decode cX2_goHour 38 = .ok (.iload_n 1, 1) := by decide +kernel
theorem dX2_goHour_39 : decode cX2_goHour 39 = .ok (.iload_n 2, 1) := by decide +kernel
theorem dX2_goHour_40 : decode cX2_goHour 40 = .ok (.ishr, 1) := by decide +kernel
theorem dX2_goHour_41 : decode cX2_goHour 41 = .ok (.iconst 1, 1) := by decide +kernel
theorem dX2_goHour_42 : decode cX2_goHour 42 = .ok (.iand, 1) := by decide +kernel
theorem dX2_goHour_43 : decode cX2_goHour 43 = .ok (.ifCond .ne 8, 3) := by decide +kernel
theorem dX2_goHour_46 : decode cX2_goHour 46 = .ok (.aload_n 0, 1) := by decide +kernel
theorem dX2_goHour_47 : decode cX2_goHour 47 = .ok (.iload_n 2, 1) := by decide +kernel
theorem dX2_goHour_48 : decode cX2_goHour 48 = .ok (.invokevirtual 57, 3) := by decide +kernel
theorem dX2_goHour_51 : decode cX2_goHour 51 = .ok (.iinc 2 1, 3) := by decide +kernel
theorem dX2_goHour_54 : decode cX2_goHour 54 = .ok (.goto (-24), 3) := by decide +kernel
theorem dX2_goHour_57 : decode cX2_goHour 57 = .ok (.aload_n 0, 1) := by decide +kernel
theorem dX2_goHour_58 : decode cX2_goHour 58 = .ok (.dup, 1) := by decide +kernel
theorem dX2_goHour_59 : decode cX2_goHour 59 = .ok (.getfield 34, 3) := by decide +kernel
theorem dX2_goHour_62 : decode cX2_goHour 62 = .ok (.iconst 1, 1) := by decide +kernel
theorem dX2_goHour_63 : decode cX2_goHour 63 = .ok (.iadd, 1) := by decide +kernel
theorem dX2_goHour_64 : decode cX2_goHour 64 = .ok (.putfield 34, 3) := by decide +kernel
theorem dX2_goHour_67 : decode cX2_goHour 67 = .ok (.return_, 1) := by decide +kernel
theorem dX2_councils_0 : decode cX2_councils 0 = .ok (.iconst 0, 1) := by decide +kernel
theorem dX2_councils_1 : decode cX2_councils 1 = .ok (.istore_n 1, 1) := by decide +kernel
theorem dX2_councils_2 : decode cX2_councils 2 = .ok (.iconst 0, 1) := by decide +kernel
theorem dX2_councils_3 : decode cX2_councils 3 = .ok (.istore_n 2, 1) := by decide +kernel
theorem dX2_councils_4 : decode cX2_councils 4 = .ok (.iconst 0, 1) := by decide +kernel
theorem dX2_councils_5 : decode cX2_councils 5 = .ok (.istore_n 3, 1) := by decide +kernel
theorem dX2_councils_6 : decode cX2_councils 6 = .ok (.iload_n 3, 1) := by decide +kernel
theorem dX2_councils_7 : decode cX2_councils 7 = .ok (.aload_n 0, 1) := by decide +kernel
theorem dX2_councils_8 : decode cX2_councils 8 = .ok (.getfield 41, 3) := by decide +kernel
theorem dX2_councils_11 : decode cX2_councils 11 = .ok (.if_icmp .ge 39, 3) := by decide +kernel
theorem dX2_councils_14 : decode cX2_councils 14 = .ok (.iload_n 1, 1) := by decide +kernel
theorem dX2_councils_15 : decode cX2_councils 15 = .ok (.aload_n 0, 1) := by decide +kernel
theorem dX2_councils_16 : decode cX2_councils 16 = .ok (.getfield 21, 3) := by decide +kernel
theorem dX2_councils_19 : decode cX2_councils 19 = .ok (.iload_n 3, 1) := by decide +kernel
theorem dX2_councils_20 : decode cX2_councils 20 = .ok (.iaload, 1) := by decide +kernel
theorem dX2_councils_21 : decode cX2_councils 21 = .ok (.ishr, 1) := by decide +kernel
theorem dX2_councils_22 : decode cX2_councils 22 = .ok (.iconst 1, 1) := by decide +kernel
theorem dX2_councils_23 : decode cX2_councils 23 = .ok (.iand, 1) := by decide +kernel
theorem dX2_councils_24 : decode cX2_councils 24 = .ok (.ifCond .eq 9, 3) := by decide +kernel
theorem dX2_councils_27 : decode cX2_councils 27 = .ok (.iload_n 2, 1) := by decide +kernel
theorem dX2_councils_28 : decode cX2_councils 28 = .ok (.iconst 1, 1) := by decide +kernel
theorem dX2_councils_29 : decode cX2_councils 29 = .ok (.iload_n 3, 1) := by decide +kernel
theorem dX2_councils_30 : decode cX2_councils 30 = .ok (.ishl, 1) := by decide +kernel
theorem dX2_councils_31 : decode cX2_councils 31 = .ok (.ior, 1) := by decide +kernel
theorem dX2_councils_32 : decode cX2_councils 32 = .ok (.istore_n 2, 1) := by decide +kernel
theorem dX2_councils_33 : decode cX2_councils 33 = .ok (.iload_n 1, 1) := by decide +kernel
theorem dX2_councils_34 : decode cX2_councils 34 = .ok (.iconst 1, 1) := by decide +kernel
theorem dX2_councils_35 : decode cX2_councils 35 = .ok (.aload_n 0, 1) := by decide +kernel
theorem dX2_councils_36 : decode cX2_councils 36 = .ok (.getfield 21, 3) := by decide +kernel
theorem dX2_councils_39 : decode cX2_councils 39 = .ok (.iload_n 3, 1) := by decide +kernel
theorem dX2_councils_40 : decode cX2_councils 40 = .ok (.iaload, 1) := by decide +kernel
theorem dX2_councils_41 : decode cX2_councils 41 = .ok (.ishl, 1) := by decide +kernel
theorem dX2_councils_42 : decode cX2_councils 42 = .ok (.ior, 1) := by decide +kernel
theorem dX2_councils_43 : decode cX2_councils 43 = .ok (.istore_n 1, 1) := by decide +kernel
theorem dX2_councils_44 : decode cX2_councils 44 = .ok (.iinc 3 1, 3) := by decide +kernel
theorem dX2_councils_47 : decode cX2_councils 47 = .ok (.goto (-41), 3) := by decide +kernel
theorem dX2_councils_50 : decode cX2_councils 50 = .ok (.iload_n 2, 1) := by decide +kernel
theorem dX2_councils_51 : decode cX2_councils 51 = .ok (.ireturn, 1) := by decide +kernel
set_option maxRecDepth 20000 in
theorem ggX2_pass_X2_sayings : GoodIn wsX2_pass wsX2_sayings := goodIn_r _ [9, 10, 4, 11, 1, 12, 13, 14, 8, 15, 16, 35, 36, 37, 38, 39, 40, 41, 42, 43, 44, 45, 46] (by decide +kernel) (by decide +kernel)
set_option maxRecDepth 20000 in
theorem gX2_pass_X2_sayings : GoodIn wsX2_pass (wsV RX2 61 RX2 yX2_sayings wsX2_sayings) := goodIn_app (goodIn_of _ (by decide +kernel)) ggX2_pass_X2_sayings
set_option maxRecDepth 20000 in
theorem ggX2_pass_X2_wordBehind : GoodIn wsX2_pass wsX2_wordBehind := goodIn_r _ [20, 4, 10, 11, 1, 12, 13, 14, 8, 15, 16, 35, 36, 37, 38, 39, 40, 41, 42, 43, 44, 45, 46] (by decide +kernel) (by decide +kernel)
set_option maxRecDepth 20000 in
theorem gX2_pass_X2_wordBehind : GoodIn wsX2_pass (wsV RX2 65 RX2 yX2_wordBehind wsX2_wordBehind) := goodIn_app (goodIn_of _ (by decide +kernel)) ggX2_pass_X2_wordBehind
set_option maxRecDepth 20000 in
theorem ggX2_pass_X2_stretchBehind : GoodIn wsX2_pass wsX2_stretchBehind := goodIn_r _ [24, 10, 1, 25, 26, 27, 28, 8, 29, 30, 31, 32, 33, 34, 35, 36, 37, 38, 39, 40, 41, 42, 43, 44, 45, 46] (by decide +kernel) (by decide +kernel)
set_option maxRecDepth 20000 in
theorem gX2_pass_X2_stretchBehind : GoodIn wsX2_pass (wsV RX2 68 RX2 yX2_stretchBehind wsX2_stretchBehind) := goodIn_app (goodIn_of _ (by decide +kernel)) ggX2_pass_X2_stretchBehind
theorem dX2_pass_0 : decode cX2_pass 0 = .ok (.aload_n 0, 1) := by decide +kernel
theorem dX2_pass_1 : decode cX2_pass 1 = .ok (.getfield 21, 3) := by decide +kernel
theorem dX2_pass_4 : decode cX2_pass 4 = .ok (.iload_n 1, 1) := by decide +kernel
theorem dX2_pass_5 : decode cX2_pass 5 = .ok (.iaload, 1) := by decide +kernel
theorem dX2_pass_6 : decode cX2_pass 6 = .ok (.istore_n 2, 1) := by decide +kernel
theorem dX2_pass_7 : decode cX2_pass 7 = .ok (.aload_n 0, 1) := by decide +kernel
theorem dX2_pass_8 : decode cX2_pass 8 = .ok (.iload_n 1, 1) := by decide +kernel
theorem dX2_pass_9 : decode cX2_pass 9 = .ok (.invokevirtual 61, 3) := by decide +kernel
theorem dX2_pass_12 : decode cX2_pass 12 = .ok (.istore_n 3, 1) := by decide +kernel
theorem dX2_pass_13 : decode cX2_pass 13 = .ok (.aload_n 0, 1) := by decide +kernel
theorem dX2_pass_14 : decode cX2_pass 14 = .ok (.getfield 27, 3) := by decide +kernel
theorem dX2_pass_17 : decode cX2_pass 17 = .ok (.iload_n 2, 1) := by decide +kernel
theorem dX2_pass_18 : decode cX2_pass 18 = .ok (.dup2, 1) := by decide +kernel
theorem dX2_pass_19 : decode cX2_pass 19 = .ok (.iaload, 1) := by decide +kernel
theorem dX2_pass_20 : decode cX2_pass 20 = .ok (.iload_n 3, 1) := by decide +kernel
theorem dX2_pass_21 : decode cX2_pass 21 = .ok (.ior, 1) := by decide +kernel
theorem dX2_pass_22 : decode cX2_pass 22 = .ok (.iastore, 1) := by decide +kernel
theorem dX2_pass_23 : decode cX2_pass 23 = .ok (.aload_n 0, 1) := by decide +kernel
theorem dX2_pass_24 : decode cX2_pass 24 = .ok (.getfield 15, 3) := by decide +kernel
theorem dX2_pass_27 : decode cX2_pass 27 = .ok (.iload_n 2, 1) := by decide +kernel
theorem dX2_pass_28 : decode cX2_pass 28 = .ok (.dup2, 1) := by decide +kernel
theorem dX2_pass_29 : decode cX2_pass 29 = .ok (.iaload, 1) := by decide +kernel
theorem dX2_pass_30 : decode cX2_pass 30 = .ok (.iload_n 3, 1) := by decide +kernel
theorem dX2_pass_31 : decode cX2_pass 31 = .ok (.ior, 1) := by decide +kernel
theorem dX2_pass_32 : decode cX2_pass 32 = .ok (.iastore, 1) := by decide +kernel
theorem dX2_pass_33 : decode cX2_pass 33 = .ok (.aload_n 0, 1) := by decide +kernel
theorem dX2_pass_34 : decode cX2_pass 34 = .ok (.getfield 24, 3) := by decide +kernel
theorem dX2_pass_37 : decode cX2_pass 37 = .ok (.iload_n 1, 1) := by decide +kernel
theorem dX2_pass_38 : decode cX2_pass 38 = .ok (.aload_n 0, 1) := by decide +kernel
theorem dX2_pass_39 : decode cX2_pass 39 = .ok (.iload_n 1, 1) := by decide +kernel
theorem dX2_pass_40 : decode cX2_pass 40 = .ok (.invokevirtual 65, 3) := by decide +kernel
theorem dX2_pass_43 : decode cX2_pass 43 = .ok (.iastore, 1) := by decide +kernel
theorem dX2_pass_44 : decode cX2_pass 44 = .ok (.aload_n 0, 1) := by decide +kernel
theorem dX2_pass_45 : decode cX2_pass 45 = .ok (.getfield 21, 3) := by decide +kernel
theorem dX2_pass_48 : decode cX2_pass 48 = .ok (.iload_n 1, 1) := by decide +kernel
theorem dX2_pass_49 : decode cX2_pass 49 = .ok (.aload_n 0, 1) := by decide +kernel
theorem dX2_pass_50 : decode cX2_pass 50 = .ok (.iload_n 1, 1) := by decide +kernel
theorem dX2_pass_51 : decode cX2_pass 51 = .ok (.iload_n 3, 1) := by decide +kernel
theorem dX2_pass_52 : decode cX2_pass 52 = .ok (.invokevirtual 68, 3) := by decide +kernel
theorem dX2_pass_55 : decode cX2_pass 55 = .ok (.iastore, 1) := by decide +kernel
theorem dX2_pass_56 : decode cX2_pass 56 = .ok (.return_, 1) := by decide +kernel
set_option maxRecDepth 20000 in
theorem ggX2_sayings_X2_wordAfter : GoodIn wsX2_sayings wsX2_wordAfter := goodIn_r _ [9, 1, 10, 11, 12, 13, 14, 15, 16, 17, 18, 19, 20, 21, 22] (by decide +kernel) (by decide +kernel)
set_option maxRecDepth 20000 in
theorem gX2_sayings_X2_wordAfter : GoodIn wsX2_sayings (wsV RX2 75 RX2 yX2_wordAfter wsX2_wordAfter) := goodIn_app (goodIn_of _ (by decide +kernel)) ggX2_sayings_X2_wordAfter
theorem dX2_sayings_0 : decode cX2_sayings 0 = .ok (.aload_n 0, 1) := by decide +kernel
theorem dX2_sayings_1 : decode cX2_sayings 1 = .ok (.getfield 18, 3) := by decide +kernel
theorem dX2_sayings_4 : decode cX2_sayings 4 = .ok (.iload_n 1, 1) := by decide +kernel
theorem dX2_sayings_5 : decode cX2_sayings 5 = .ok (.iaload, 1) := by decide +kernel
theorem dX2_sayings_6 : decode cX2_sayings 6 = .ok (.iconst 4, 1) := by decide +kernel
theorem dX2_sayings_7 : decode cX2_sayings 7 = .ok (.if_icmp .ne 5, 3) := by decide +kernel
theorem dX2_sayings_10 : decode cX2_sayings 10 = .ok (.iconst 0, 1) := by decide +kernel
theorem dX2_sayings_11 : decode cX2_sayings 11 = .ok (.ireturn, 1) := by decide +kernel
theorem dX2_sayings_12 : decode cX2_sayings 12 = .ok (.iconst 0, 1) := by decide +kernel
theorem dX2_sayings_13 : decode cX2_sayings 13 = .ok (.istore_n 2, 1) := by decide +kernel
theorem dX2_sayings_14 : decode cX2_sayings 14 = .ok (.aload_n 0, 1) := by decide +kernel
theorem dX2_sayings_15 : decode cX2_sayings 15 = .ok (.getfield 24, 3) := by decide +kernel
theorem dX2_sayings_18 : decode cX2_sayings 18 = .ok (.iload_n 1, 1) := by decide +kernel
theorem dX2_sayings_19 : decode cX2_sayings 19 = .ok (.iaload, 1) := by decide +kernel
theorem dX2_sayings_20 : decode cX2_sayings 20 = .ok (.istore_n 3, 1) := by decide +kernel
theorem dX2_sayings_21 : decode cX2_sayings 21 = .ok (.iconst 0, 1) := by decide +kernel
theorem dX2_sayings_22 : decode cX2_sayings 22 = .ok (.istore 4, 2) := by decide +kernel
theorem dX2_sayings_24 : decode cX2_sayings 24 = .ok (.iload 4, 2) := by decide +kernel
theorem dX2_sayings_26 : decode cX2_sayings 26 = .ok (.getstatic 72, 3) := by decide +kernel
theorem dX2_sayings_29 : decode cX2_sayings 29 = .ok (.aload_n 0, 1) := by decide +kernel
theorem dX2_sayings_30 : decode cX2_sayings 30 = .ok (.getfield 9, 3) := by decide +kernel
theorem dX2_sayings_33 : decode cX2_sayings 33 = .ok (.aload_n 0, 1) := by decide +kernel
theorem dX2_sayings_34 : decode cX2_sayings 34 = .ok (.getfield 21, 3) := by decide +kernel
theorem dX2_sayings_37 : decode cX2_sayings 37 = .ok (.iload_n 1, 1) := by decide +kernel
theorem dX2_sayings_38 : decode cX2_sayings 38 = .ok (.iaload, 1) := by decide +kernel
theorem dX2_sayings_39 : decode cX2_sayings 39 = .ok (.iaload, 1) := by decide +kernel
theorem dX2_sayings_40 : decode cX2_sayings 40 = .ok (.iaload, 1) := by decide +kernel
theorem dX2_sayings_41 : decode cX2_sayings 41 = .ok (.if_icmp .ge 22, 3) := by decide +kernel
theorem dX2_sayings_44 : decode cX2_sayings 44 = .ok (.iload_n 2, 1) := by decide +kernel
theorem dX2_sayings_45 : decode cX2_sayings 45 = .ok (.iconst 1, 1) := by decide +kernel
theorem dX2_sayings_46 : decode cX2_sayings 46 = .ok (.iload_n 3, 1) := by decide +kernel
theorem dX2_sayings_47 : decode cX2_sayings 47 = .ok (.ishl, 1) := by decide +kernel
theorem dX2_sayings_48 : decode cX2_sayings 48 = .ok (.ior, 1) := by decide +kernel
theorem dX2_sayings_49 : decode cX2_sayings 49 = .ok (.istore_n 2, 1) := by decide +kernel
theorem dX2_sayings_50 : decode cX2_sayings 50 = .ok (.aload_n 0, 1) := by decide +kernel
theorem dX2_sayings_51 : decode cX2_sayings 51 = .ok (.iload_n 1, 1) := by decide +kernel
theorem dX2_sayings_52 : decode cX2_sayings 52 = .ok (.iload_n 3, 1) := by decide +kernel
theorem dX2_sayings_53 : decode cX2_sayings 53 = .ok (.invokevirtual 75, 3) := by decide +kernel
theorem dX2_sayings_56 : decode cX2_sayings 56 = .ok (.istore_n 3, 1) := by decide +kernel
theorem dX2_sayings_57 : decode cX2_sayings 57 = .ok (.iinc 4 1, 3) := by decide +kernel
theorem dX2_sayings_60 : decode cX2_sayings 60 = .ok (.goto (-36), 3) := by decide +kernel
theorem dX2_sayings_63 : decode cX2_sayings 63 = .ok (.iload_n 2, 1) := by decide +kernel
theorem dX2_sayings_64 : decode cX2_sayings 64 = .ok (.ireturn, 1) := by decide +kernel
set_option maxRecDepth 20000 in
theorem ggX2_wordBehind_X2_wordAfter : GoodIn wsX2_wordBehind wsX2_wordAfter := goodIn_r _ [9, 2, 10, 11, 12, 13, 14, 15, 16, 17, 18, 19, 20, 21, 22] (by decide +kernel) (by decide +kernel)
set_option maxRecDepth 20000 in
theorem gX2_wordBehind_X2_wordAfter : GoodIn wsX2_wordBehind (wsV RX2 75 RX2 yX2_wordAfter wsX2_wordAfter) := goodIn_app (goodIn_of _ (by decide +kernel)) ggX2_wordBehind_X2_wordAfter
theorem dX2_wordBehind_0 : decode cX2_wordBehind 0 = .ok (.aload_n 0, 1) := by decide +kernel
theorem dX2_wordBehind_1 : decode cX2_wordBehind 1 = .ok (.getfield 24, 3) := by decide +kernel
theorem dX2_wordBehind_4 : decode cX2_wordBehind 4 = .ok (.iload_n 1, 1) := by decide +kernel
theorem dX2_wordBehind_5 : decode cX2_wordBehind 5 = .ok (.iaload, 1) := by decide +kernel
theorem dX2_wordBehind_6 : decode cX2_wordBehind 6 = .ok (.istore_n 2, 1) := by decide +kernel
theorem dX2_wordBehind_7 : decode cX2_wordBehind 7 = .ok (.aload_n 0, 1) := by decide +kernel
theorem dX2_wordBehind_8 : decode cX2_wordBehind 8 = .ok (.getfield 18, 3) := by decide +kernel
theorem dX2_wordBehind_11 : decode cX2_wordBehind 11 = .ok (.iload_n 1, 1) := by decide +kernel
theorem dX2_wordBehind_12 : decode cX2_wordBehind 12 = .ok (.iaload, 1) := by decide +kernel
theorem dX2_wordBehind_13 : decode cX2_wordBehind 13 = .ok (.iconst 4, 1) := by decide +kernel
theorem dX2_wordBehind_14 : decode cX2_wordBehind 14 = .ok (.if_icmp .eq 37, 3) := by decide +kernel
theorem dX2_wordBehind_17 : decode cX2_wordBehind 17 = .ok (.iconst 0, 1) := by decide +kernel
theorem dX2_wordBehind_18 : decode cX2_wordBehind 18 = .ok (.istore_n 3, 1) := by decide +kernel
theorem dX2_wordBehind_19 : decode cX2_wordBehind 19 = .ok (.iload_n 3, 1) := by decide +kernel
theorem dX2_wordBehind_20 : decode cX2_wordBehind 20 = .ok (.getstatic 72, 3) := by decide +kernel
theorem dX2_wordBehind_23 : decode cX2_wordBehind 23 = .ok (.aload_n 0, 1) := by decide +kernel
theorem dX2_wordBehind_24 : decode cX2_wordBehind 24 = .ok (.getfield 9, 3) := by decide +kernel
theorem dX2_wordBehind_27 : decode cX2_wordBehind 27 = .ok (.aload_n 0, 1) := by decide +kernel
theorem dX2_wordBehind_28 : decode cX2_wordBehind 28 = .ok (.getfield 21, 3) := by decide +kernel
theorem dX2_wordBehind_31 : decode cX2_wordBehind 31 = .ok (.iload_n 1, 1) := by decide +kernel
theorem dX2_wordBehind_32 : decode cX2_wordBehind 32 = .ok (.iaload, 1) := by decide +kernel
theorem dX2_wordBehind_33 : decode cX2_wordBehind 33 = .ok (.iaload, 1) := by decide +kernel
theorem dX2_wordBehind_34 : decode cX2_wordBehind 34 = .ok (.iaload, 1) := by decide +kernel
theorem dX2_wordBehind_35 : decode cX2_wordBehind 35 = .ok (.if_icmp .ge 16, 3) := by decide +kernel
theorem dX2_wordBehind_38 : decode cX2_wordBehind 38 = .ok (.aload_n 0, 1) := by decide +kernel
theorem dX2_wordBehind_39 : decode cX2_wordBehind 39 = .ok (.iload_n 1, 1) := by decide +kernel
theorem dX2_wordBehind_40 : decode cX2_wordBehind 40 = .ok (.iload_n 2, 1) := by decide +kernel
theorem dX2_wordBehind_41 : decode cX2_wordBehind 41 = .ok (.invokevirtual 75, 3) := by decide +kernel
theorem dX2_wordBehind_44 : decode cX2_wordBehind 44 = .ok (.istore_n 2, 1) := by decide +kernel
theorem dX2_wordBehind_45 : decode cX2_wordBehind 45 = .ok (.iinc 3 1, 3) := by decide +kernel
theorem dX2_wordBehind_48 : decode cX2_wordBehind 48 = .ok (.goto (-29), 3) := by decide +kernel
theorem dX2_wordBehind_51 : decode cX2_wordBehind 51 = .ok (.iload_n 2, 1) := by decide +kernel
theorem dX2_wordBehind_52 : decode cX2_wordBehind 52 = .ok (.ireturn, 1) := by decide +kernel
theorem dX2_wordAfter_0 : decode cX2_wordAfter 0 = .ok (.aload_n 0, 1) := by decide +kernel
theorem dX2_wordAfter_1 : decode cX2_wordAfter 1 = .ok (.getfield 18, 3) := by decide +kernel
theorem dX2_wordAfter_4 : decode cX2_wordAfter 4 = .ok (.iload_n 1, 1) := by decide +kernel
theorem dX2_wordAfter_5 : decode cX2_wordAfter 5 = .ok (.iaload, 1) := by decide +kernel
theorem dX2_wordAfter_6 : decode cX2_wordAfter 6 = .ok (.iconst 5, 1) := by decide +kernel
theorem dX2_wordAfter_7 : decode cX2_wordAfter 7 = .ok (.if_icmp .ne 20, 3) := by decide +kernel
theorem dX2_wordAfter_10 : decode cX2_wordAfter 10 = .ok (.iload_n 2, 1) := by decide +kernel
theorem dX2_wordAfter_11 : decode cX2_wordAfter 11 = .ok (.ifCond .le 9, 3) := by decide +kernel
theorem dX2_wordAfter_14 : decode cX2_wordAfter 14 = .ok (.iload_n 2, 1) := by decide +kernel
theorem dX2_wordAfter_15 : decode cX2_wordAfter 15 = .ok (.iconst 1, 1) := by decide +kernel
theorem dX2_wordAfter_16 : decode cX2_wordAfter 16 = .ok (.isub, 1) := by decide +kernel
theorem dX2_wordAfter_17 : decode cX2_wordAfter 17 = .ok (.goto 9, 3) := by decide +kernel
theorem dX2_wordAfter_20 : decode cX2_wordAfter 20 = .ok (.aload_n 0, 1) := by decide +kernel
theorem dX2_wordAfter_21 : decode cX2_wordAfter 21 = .ok (.getfield 44, 3) := by decide +kernel
theorem dX2_wordAfter_24 : decode cX2_wordAfter 24 = .ok (.iconst 1, 1) := by decide +kernel
theorem dX2_wordAfter_25 : decode cX2_wordAfter 25 = .ok (.isub, 1) := by decide +kernel
theorem dX2_wordAfter_26 : decode cX2_wordAfter 26 = .ok (.ireturn, 1) := by decide +kernel
theorem dX2_wordAfter_27 : decode cX2_wordAfter 27 = .ok (.iload_n 2, 1) := by decide +kernel
theorem dX2_wordAfter_28 : decode cX2_wordAfter 28 = .ok (.iconst 1, 1) := by decide +kernel
theorem dX2_wordAfter_29 : decode cX2_wordAfter 29 = .ok (.iadd, 1) := by decide +kernel
theorem dX2_wordAfter_30 : decode cX2_wordAfter 30 = .ok (.aload_n 0, 1) := by decide +kernel
theorem dX2_wordAfter_31 : decode cX2_wordAfter 31 = .ok (.getfield 44, 3) := by decide +kernel
theorem dX2_wordAfter_34 : decode cX2_wordAfter 34 = .ok (.if_icmp .ge 9, 3) := by decide +kernel
theorem dX2_wordAfter_37 : decode cX2_wordAfter 37 = .ok (.iload_n 2, 1) := by decide +kernel
theorem dX2_wordAfter_38 : decode cX2_wordAfter 38 = .ok (.iconst 1, 1) := by decide +kernel
theorem dX2_wordAfter_39 : decode cX2_wordAfter 39 = .ok (.iadd, 1) := by decide +kernel
theorem dX2_wordAfter_40 : decode cX2_wordAfter 40 = .ok (.goto 4, 3) := by decide +kernel
theorem dX2_wordAfter_43 : decode cX2_wordAfter 43 = .ok (.iconst 0, 1) := by decide +kernel
theorem dX2_wordAfter_44 : decode cX2_wordAfter 44 = .ok (.ireturn, 1) := by decide +kernel
set_option maxRecDepth 20000 in
theorem ggX2_stretchBehind_X2_beforeOf : GoodIn wsX2_stretchBehind wsX2_beforeOf := goodIn_r _ [8, 9, 14, 15, 16, 17, 18, 19, 20, 21, 22, 23, 24, 25] (by decide +kernel) (by decide +kernel)
set_option maxRecDepth 20000 in
theorem gX2_stretchBehind_X2_beforeOf : GoodIn wsX2_stretchBehind (wsV RX2 78 RX2 yX2_beforeOf wsX2_beforeOf) := goodIn_app (goodIn_of _ (by decide +kernel)) ggX2_stretchBehind_X2_beforeOf
set_option maxRecDepth 20000 in
theorem ggX2_stretchBehind_X2_nextOf : GoodIn wsX2_stretchBehind wsX2_nextOf := goodIn_r _ [13, 9, 14, 15, 16, 17, 18, 19, 20, 21, 22, 23, 24, 25] (by decide +kernel) (by decide +kernel)
set_option maxRecDepth 20000 in
theorem gX2_stretchBehind_X2_nextOf : GoodIn wsX2_stretchBehind (wsV RX2 81 RX2 yX2_nextOf wsX2_nextOf) := goodIn_app (goodIn_of _ (by decide +kernel)) ggX2_stretchBehind_X2_nextOf
theorem dX2_stretchBehind_0 : decode cX2_stretchBehind 0 = .ok (.aload_n 0, 1) := by decide +kernel
theorem dX2_stretchBehind_1 : decode cX2_stretchBehind 1 = .ok (.getfield 18, 3) := by decide +kernel
theorem dX2_stretchBehind_4 : decode cX2_stretchBehind 4 = .ok (.iload_n 1, 1) := by decide +kernel
theorem dX2_stretchBehind_5 : decode cX2_stretchBehind 5 = .ok (.iaload, 1) := by decide +kernel
theorem dX2_stretchBehind_6 : decode cX2_stretchBehind 6 = .ok (.iconst 2, 1) := by decide +kernel
theorem dX2_stretchBehind_7 : decode cX2_stretchBehind 7 = .ok (.if_icmp .ne 14, 3) := by decide +kernel
theorem dX2_stretchBehind_10 : decode cX2_stretchBehind 10 = .ok (.aload_n 0, 1) := by decide +kernel
theorem dX2_stretchBehind_11 : decode cX2_stretchBehind 11 = .ok (.aload_n 0, 1) := by decide +kernel
theorem dX2_stretchBehind_12 : decode cX2_stretchBehind 12 = .ok (.getfield 21, 3) := by decide +kernel
theorem dX2_stretchBehind_15 : decode cX2_stretchBehind 15 = .ok (.iload_n 1, 1) := by decide +kernel
theorem dX2_stretchBehind_16 : decode cX2_stretchBehind 16 = .ok (.iaload, 1) := by decide +kernel
theorem dX2_stretchBehind_17 : decode cX2_stretchBehind 17 = .ok (.invokevirtual 78, 3) := by decide +kernel
theorem dX2_stretchBehind_20 : decode cX2_stretchBehind 20 = .ok (.ireturn, 1) := by decide +kernel
theorem dX2_stretchBehind_21 : decode cX2_stretchBehind 21 = .ok (.aload_n 0, 1) := by decide +kernel
theorem dX2_stretchBehind_22 : decode cX2_stretchBehind 22 = .ok (.getfield 18, 3) := by decide +kernel
theorem dX2_stretchBehind_25 : decode cX2_stretchBehind 25 = .ok (.iload_n 1, 1) := by decide +kernel
theorem dX2_stretchBehind_26 : decode cX2_stretchBehind 26 = .ok (.iaload, 1) := by decide +kernel
theorem dX2_stretchBehind_27 : decode cX2_stretchBehind 27 = .ok (.iconst 3, 1) := by decide +kernel
theorem dX2_stretchBehind_28 : decode cX2_stretchBehind 28 = .ok (.if_icmp .ne 18, 3) := by decide +kernel
theorem dX2_stretchBehind_31 : decode cX2_stretchBehind 31 = .ok (.iload_n 2, 1) := by decide +kernel
theorem dX2_stretchBehind_32 : decode cX2_stretchBehind 32 = .ok (.aload_n 0, 1) := by decide +kernel
theorem dX2_stretchBehind_33 : decode cX2_stretchBehind 33 = .ok (.getfield 47, 3) := by decide +kernel
theorem dX2_stretchBehind_36 : decode cX2_stretchBehind 36 = .ok (.ishr, 1) := by decide +kernel
theorem dX2_stretchBehind_37 : decode cX2_stretchBehind 37 = .ok (.iconst 1, 1) := by decide +kernel
theorem dX2_stretchBehind_38 : decode cX2_stretchBehind 38 = .ok (.iand, 1) := by decide +kernel
theorem dX2_stretchBehind_39 : decode cX2_stretchBehind 39 = .ok (.ifCond .eq 7, 3) := by decide +kernel
theorem dX2_stretchBehind_42 : decode cX2_stretchBehind 42 = .ok (.iconst 1, 1) := by decide +kernel
theorem dX2_stretchBehind_43 : decode cX2_stretchBehind 43 = .ok (.goto 4, 3) := by decide +kernel
theorem dX2_stretchBehind_46 : decode cX2_stretchBehind 46 = .ok (.iconst 0, 1) := by decide +kernel
theorem dX2_stretchBehind_47 : decode cX2_stretchBehind 47 = .ok (.istore_n 3, 1) := by decide +kernel
theorem dX2_stretchBehind_48 : decode cX2_stretchBehind 48 = .ok (.iload_n 3, 1) := by decide +kernel
theorem dX2_stretchBehind_49 : decode cX2_stretchBehind 49 = .ok (.ifCond .eq 12, 3) := by decide +kernel
theorem dX2_stretchBehind_52 : decode cX2_stretchBehind 52 = .ok (.aload_n 0, 1) := by decide +kernel
theorem dX2_stretchBehind_53 : decode cX2_stretchBehind 53 = .ok (.getfield 21, 3) := by decide +kernel
theorem dX2_stretchBehind_56 : decode cX2_stretchBehind 56 = .ok (.iload_n 1, 1) := by decide +kernel
theorem dX2_stretchBehind_57 : decode cX2_stretchBehind 57 = .ok (.iaload, 1) := by decide +kernel
theorem dX2_stretchBehind_58 : decode cX2_stretchBehind 58 = .ok (.goto 13, 3) := by decide +kernel
theorem dX2_stretchBehind_61 : decode cX2_stretchBehind 61 = .ok (.aload_n 0, 1) := by decide +kernel
theorem dX2_stretchBehind_62 : decode cX2_stretchBehind 62 = .ok (.aload_n 0, 1) := by decide +kernel
theorem dX2_stretchBehind_63 : decode cX2_stretchBehind 63 = .ok (.getfield 21, 3) := by decide +kernel
theorem dX2_stretchBehind_66 : decode cX2_stretchBehind 66 = .ok (.iload_n 1, 1) := by decide +kernel
theorem dX2_stretchBehind_67 : decode cX2_stretchBehind 67 = .ok (.iaload, 1) := by decide +kernel
theorem dX2_stretchBehind_68 : decode cX2_stretchBehind 68 = .ok (.invokevirtual 81, 3) := by decide +kernel
theorem dX2_stretchBehind_71 : decode cX2_stretchBehind 71 = .ok (.ireturn, 1) := by decide +kernel
theorem dX2_pulpitsOn_0 : decode cX2_pulpitsOn 0 = .ok (.iconst 0, 1) := by decide +kernel
theorem dX2_pulpitsOn_1 : decode cX2_pulpitsOn 1 = .ok (.istore_n 2, 1) := by decide +kernel
theorem dX2_pulpitsOn_2 : decode cX2_pulpitsOn 2 = .ok (.iconst 0, 1) := by decide +kernel
theorem dX2_pulpitsOn_3 : decode cX2_pulpitsOn 3 = .ok (.istore_n 3, 1) := by decide +kernel
theorem dX2_pulpitsOn_4 : decode cX2_pulpitsOn 4 = .ok (.iload_n 3, 1) := by decide +kernel
theorem dX2_pulpitsOn_5 : decode cX2_pulpitsOn 5 = .ok (.aload_n 0, 1) := by decide +kernel
theorem dX2_pulpitsOn_6 : decode cX2_pulpitsOn 6 = .ok (.getfield 41, 3) := by decide +kernel
theorem dX2_pulpitsOn_9 : decode cX2_pulpitsOn 9 = .ok (.if_icmp .ge 25, 3) := by decide +kernel
theorem dX2_pulpitsOn_12 : decode cX2_pulpitsOn 12 = .ok (.aload_n 0, 1) := by decide +kernel
theorem dX2_pulpitsOn_13 : decode cX2_pulpitsOn 13 = .ok (.getfield 21, 3) := by decide +kernel
theorem dX2_pulpitsOn_16 : decode cX2_pulpitsOn 16 = .ok (.iload_n 3, 1) := by decide +kernel
theorem dX2_pulpitsOn_17 : decode cX2_pulpitsOn 17 = .ok (.iaload, 1) := by decide +kernel
theorem dX2_pulpitsOn_18 : decode cX2_pulpitsOn 18 = .ok (.iload_n 1, 1) := by decide +kernel
theorem dX2_pulpitsOn_19 : decode cX2_pulpitsOn 19 = .ok (.if_icmp .ne 9, 3) := by decide +kernel
theorem dX2_pulpitsOn_22 : decode cX2_pulpitsOn 22 = .ok (.iload_n 2, 1) := by decide +kernel
theorem dX2_pulpitsOn_23 : decode cX2_pulpitsOn 23 = .ok (.iconst 1, 1) := by decide +kernel
theorem dX2_pulpitsOn_24 : decode cX2_pulpitsOn 24 = .ok (.iload_n 3, 1) := by decide +kernel
theorem dX2_pulpitsOn_25 : decode cX2_pulpitsOn 25 = .ok (.ishl, 1) := by decide +kernel
theorem dX2_pulpitsOn_26 : decode cX2_pulpitsOn 26 = .ok (.ior, 1) := by decide +kernel
theorem dX2_pulpitsOn_27 : decode cX2_pulpitsOn 27 = .ok (.istore_n 2, 1) := by decide +kernel
theorem dX2_pulpitsOn_28 : decode cX2_pulpitsOn 28 = .ok (.iinc 3 1, 3) := by decide +kernel
theorem dX2_pulpitsOn_31 : decode cX2_pulpitsOn 31 = .ok (.goto (-27), 3) := by decide +kernel
theorem dX2_pulpitsOn_34 : decode cX2_pulpitsOn 34 = .ok (.iload_n 2, 1) := by decide +kernel
theorem dX2_pulpitsOn_35 : decode cX2_pulpitsOn 35 = .ok (.ireturn, 1) := by decide +kernel
theorem dX2_hasPulpitsAs_0 : decode cX2_hasPulpitsAs 0 = .ok (.iconst 0, 1) := by decide +kernel
theorem dX2_hasPulpitsAs_1 : decode cX2_hasPulpitsAs 1 = .ok (.istore_n 2, 1) := by decide +kernel
theorem dX2_hasPulpitsAs_2 : decode cX2_hasPulpitsAs 2 = .ok (.iload_n 2, 1) := by decide +kernel
theorem dX2_hasPulpitsAs_3 : decode cX2_hasPulpitsAs 3 = .ok (.aload_n 0, 1) := by decide +kernel
theorem dX2_hasPulpitsAs_4 : decode cX2_hasPulpitsAs 4 = .ok (.getfield 41, 3) := by decide +kernel
theorem dX2_hasPulpitsAs_7 : decode cX2_hasPulpitsAs 7 = .ok (.if_icmp .ge 41, 3) := by decide +kernel
theorem dX2_hasPulpitsAs_10 : decode cX2_hasPulpitsAs 10 = .ok (.aload_n 0, 1) := by decide +kernel
theorem dX2_hasPulpitsAs_11 : decode cX2_hasPulpitsAs 11 = .ok (.getfield 21, 3) := by decide +kernel
theorem dX2_hasPulpitsAs_14 : decode cX2_hasPulpitsAs 14 = .ok (.iload_n 2, 1) := by decide +kernel
theorem dX2_hasPulpitsAs_15 : decode cX2_hasPulpitsAs 15 = .ok (.iaload, 1) := by decide +kernel
theorem dX2_hasPulpitsAs_16 : decode cX2_hasPulpitsAs 16 = .ok (.aload_n 1, 1) := by decide +kernel
theorem dX2_hasPulpitsAs_17 : decode cX2_hasPulpitsAs 17 = .ok (.getfield 21, 3) := by decide +kernel
theorem dX2_hasPulpitsAs_20 : decode cX2_hasPulpitsAs 20 = .ok (.iload_n 2, 1) := by decide +kernel
theorem dX2_hasPulpitsAs_21 : decode cX2_hasPulpitsAs 21 = .ok (.iaload, 1) := by decide +kernel
theorem dX2_hasPulpitsAs_22 : decode cX2_hasPulpitsAs 22 = .ok (.if_icmp .ne 18, 3) := by decide +kernel
theorem dX2_hasPulpitsAs_25 : decode cX2_hasPulpitsAs 25 = .ok (.aload_n 0, 1) := by decide +kernel
theorem dX2_hasPulpitsAs_26 : decode cX2_hasPulpitsAs 26 = .ok (.getfield 24, 3) := by decide +kernel
theorem dX2_hasPulpitsAs_29 : decode cX2_hasPulpitsAs 29 = .ok (.iload_n 2, 1) := by decide +kernel
theorem dX2_hasPulpitsAs_30 : decode cX2_hasPulpitsAs 30 = .ok (.iaload, 1) := by decide +kernel
theorem dX2_hasPulpitsAs_31 : decode cX2_hasPulpitsAs 31 = .ok (.aload_n 1, 1) := by decide +kernel
theorem dX2_hasPulpitsAs_32 : decode cX2_hasPulpitsAs 32 = .ok (.getfield 24, 3) := by decide +kernel
theorem dX2_hasPulpitsAs_35 : decode cX2_hasPulpitsAs 35 = .ok (.iload_n 2, 1) := by decide +kernel
theorem dX2_hasPulpitsAs_36 : decode cX2_hasPulpitsAs 36 = .ok (.iaload, 1) := by decide +kernel
theorem dX2_hasPulpitsAs_37 : decode cX2_hasPulpitsAs 37 = .ok (.if_icmp .eq 5, 3) := by decide +kernel
theorem dX2_hasPulpitsAs_40 : decode cX2_hasPulpitsAs 40 = .ok (.iconst 0, 1) := by decide +kernel
theorem dX2_hasPulpitsAs_41 : decode cX2_hasPulpitsAs 41 = .ok (.ireturn, 1) := by decide +kernel
theorem dX2_hasPulpitsAs_42 : decode cX2_hasPulpitsAs 42 = .ok (.iinc 2 1, 3) := by decide +kernel
theorem dX2_hasPulpitsAs_45 : decode cX2_hasPulpitsAs 45 = .ok (.goto (-43), 3) := by decide +kernel
theorem dX2_hasPulpitsAs_48 : decode cX2_hasPulpitsAs 48 = .ok (.iconst 1, 1) := by decide +kernel
theorem dX2_hasPulpitsAs_49 : decode cX2_hasPulpitsAs 49 = .ok (.ireturn, 1) := by decide +kernel
set_option maxRecDepth 20000 in
theorem ggX2_wholeGates_X2_allWords : GoodIn wsX2_wholeGates wsX2_allWords := goodIn_r _ [7, 8, 9, 10, 11, 12, 13, 14, 15, 16, 17, 18, 19, 20] (by decide +kernel) (by decide +kernel)
set_option maxRecDepth 20000 in
theorem gX2_wholeGates_X2_allWords : GoodIn wsX2_wholeGates (wsV RX2 84 RX2 yX2_allWords wsX2_allWords) := goodIn_app (goodIn_of _ (by decide +kernel)) ggX2_wholeGates_X2_allWords
theorem dX2_wholeGates_0 : decode cX2_wholeGates 0 = .ok (.iconst 0, 1) := by decide +kernel
theorem dX2_wholeGates_1 : decode cX2_wholeGates 1 = .ok (.istore_n 1, 1) := by decide +kernel
theorem dX2_wholeGates_2 : decode cX2_wholeGates 2 = .ok (.iconst 0, 1) := by decide +kernel
theorem dX2_wholeGates_3 : decode cX2_wholeGates 3 = .ok (.istore_n 2, 1) := by decide +kernel
theorem dX2_wholeGates_4 : decode cX2_wholeGates 4 = .ok (.iload_n 2, 1) := by decide +kernel
theorem dX2_wholeGates_5 : decode cX2_wholeGates 5 = .ok (.aload_n 0, 1) := by decide +kernel
theorem dX2_wholeGates_6 : decode cX2_wholeGates 6 = .ok (.getfield 38, 3) := by decide +kernel
theorem dX2_wholeGates_9 : decode cX2_wholeGates 9 = .ok (.if_icmp .ge 28, 3) := by decide +kernel
theorem dX2_wholeGates_12 : decode cX2_wholeGates 12 = .ok (.aload_n 0, 1) := by decide +kernel
theorem dX2_wholeGates_13 : decode cX2_wholeGates 13 = .ok (.getfield 15, 3) := by decide +kernel
theorem dX2_wholeGates_16 : decode cX2_wholeGates 16 = .ok (.iload_n 2, 1) := by decide +kernel
theorem dX2_wholeGates_17 : decode cX2_wholeGates 17 = .ok (.iaload, 1) := by decide +kernel
theorem dX2_wholeGates_18 : decode cX2_wholeGates 18 = .ok (.aload_n 0, 1) := by decide +kernel
theorem dX2_wholeGates_19 : decode cX2_wholeGates 19 = .ok (.invokevirtual 84, 3) := by decide +kernel
theorem dX2_wholeGates_22 : decode cX2_wholeGates 22 = .ok (.if_icmp .ne 9, 3) := by decide +kernel
theorem dX2_wholeGates_25 : decode cX2_wholeGates 25 = .ok (.iload_n 1, 1) := by decide +kernel
theorem dX2_wholeGates_26 : decode cX2_wholeGates 26 = .ok (.iconst 1, 1) := by decide +kernel
theorem dX2_wholeGates_27 : decode cX2_wholeGates 27 = .ok (.iload_n 2, 1) := by decide +kernel
theorem dX2_wholeGates_28 : decode cX2_wholeGates 28 = .ok (.ishl, 1) := by decide +kernel
theorem dX2_wholeGates_29 : decode cX2_wholeGates 29 = .ok (.ior, 1) := by decide +kernel
theorem dX2_wholeGates_30 : decode cX2_wholeGates 30 = .ok (.istore_n 1, 1) := by decide +kernel
theorem dX2_wholeGates_31 : decode cX2_wholeGates 31 = .ok (.iinc 2 1, 3) := by decide +kernel
theorem dX2_wholeGates_34 : decode cX2_wholeGates 34 = .ok (.goto (-30), 3) := by decide +kernel
theorem dX2_wholeGates_37 : decode cX2_wholeGates 37 = .ok (.iload_n 1, 1) := by decide +kernel
theorem dX2_wholeGates_38 : decode cX2_wholeGates 38 = .ok (.ireturn, 1) := by decide +kernel
theorem dX2_heardAtAny_0 : decode cX2_heardAtAny 0 = .ok (.iconst 0, 1) := by decide +kernel
theorem dX2_heardAtAny_1 : decode cX2_heardAtAny 1 = .ok (.istore_n 2, 1) := by decide +kernel
theorem dX2_heardAtAny_2 : decode cX2_heardAtAny 2 = .ok (.iconst 0, 1) := by decide +kernel
theorem dX2_heardAtAny_3 : decode cX2_heardAtAny 3 = .ok (.istore_n 3, 1) := by decide +kernel
theorem dX2_heardAtAny_4 : decode cX2_heardAtAny 4 = .ok (.iload_n 3, 1) := by decide +kernel
theorem dX2_heardAtAny_5 : decode cX2_heardAtAny 5 = .ok (.aload_n 0, 1) := by decide +kernel
theorem dX2_heardAtAny_6 : decode cX2_heardAtAny 6 = .ok (.getfield 38, 3) := by decide +kernel
theorem dX2_heardAtAny_9 : decode cX2_heardAtAny 9 = .ok (.if_icmp .ge 26, 3) := by decide +kernel
theorem dX2_heardAtAny_12 : decode cX2_heardAtAny 12 = .ok (.iload_n 1, 1) := by decide +kernel
theorem dX2_heardAtAny_13 : decode cX2_heardAtAny 13 = .ok (.iload_n 3, 1) := by decide +kernel
theorem dX2_heardAtAny_14 : decode cX2_heardAtAny 14 = .ok (.ishr, 1) := by decide +kernel
theorem dX2_heardAtAny_15 : decode cX2_heardAtAny 15 = .ok (.iconst 1, 1) := by decide +kernel
theorem dX2_heardAtAny_16 : decode cX2_heardAtAny 16 = .ok (.iand, 1) := by decide +kernel
theorem dX2_heardAtAny_17 : decode cX2_heardAtAny 17 = .ok (.ifCond .eq 12, 3) := by decide +kernel
theorem dX2_heardAtAny_20 : decode cX2_heardAtAny 20 = .ok (.iload_n 2, 1) := by decide +kernel
theorem dX2_heardAtAny_21 : decode cX2_heardAtAny 21 = .ok (.aload_n 0, 1) := by decide +kernel
theorem dX2_heardAtAny_22 : decode cX2_heardAtAny 22 = .ok (.getfield 15, 3) := by decide +kernel
theorem dX2_heardAtAny_25 : decode cX2_heardAtAny 25 = .ok (.iload_n 3, 1) := by decide +kernel
theorem dX2_heardAtAny_26 : decode cX2_heardAtAny 26 = .ok (.iaload, 1) := by decide +kernel
theorem dX2_heardAtAny_27 : decode cX2_heardAtAny 27 = .ok (.ior, 1) := by decide +kernel
theorem dX2_heardAtAny_28 : decode cX2_heardAtAny 28 = .ok (.istore_n 2, 1) := by decide +kernel
theorem dX2_heardAtAny_29 : decode cX2_heardAtAny 29 = .ok (.iinc 3 1, 3) := by decide +kernel
theorem dX2_heardAtAny_32 : decode cX2_heardAtAny 32 = .ok (.goto (-28), 3) := by decide +kernel
theorem dX2_heardAtAny_35 : decode cX2_heardAtAny 35 = .ok (.iload_n 2, 1) := by decide +kernel
theorem dX2_heardAtAny_36 : decode cX2_heardAtAny 36 = .ok (.ireturn, 1) := by decide +kernel
set_option maxRecDepth 20000 in
theorem ggX2_wordsHeard_J6_bitCount_0f7a4 : GoodIn wsX2_wordsHeard wsJ6_bitCount_0f7a4 := goodIn_r _ [6, 7, 8, 9] (by decide +kernel) (by decide +kernel)
set_option maxRecDepth 20000 in
theorem gX2_wordsHeard_J6_bitCount_0f7a4 : GoodIn wsX2_wordsHeard (va_wsS RX2 87 yJ6_bitCount_0f7a4 wsJ6_bitCount_0f7a4) := goodIn_app (goodIn_of _ (by decide +kernel)) ggX2_wordsHeard_J6_bitCount_0f7a4
theorem dX2_wordsHeard_0 : decode cX2_wordsHeard 0 = .ok (.iconst 0, 1) := by decide +kernel
theorem dX2_wordsHeard_1 : decode cX2_wordsHeard 1 = .ok (.istore_n 1, 1) := by decide +kernel
theorem dX2_wordsHeard_2 : decode cX2_wordsHeard 2 = .ok (.iconst 0, 1) := by decide +kernel
theorem dX2_wordsHeard_3 : decode cX2_wordsHeard 3 = .ok (.istore_n 2, 1) := by decide +kernel
theorem dX2_wordsHeard_4 : decode cX2_wordsHeard 4 = .ok (.iload_n 2, 1) := by decide +kernel
theorem dX2_wordsHeard_5 : decode cX2_wordsHeard 5 = .ok (.aload_n 0, 1) := by decide +kernel
theorem dX2_wordsHeard_6 : decode cX2_wordsHeard 6 = .ok (.getfield 38, 3) := by decide +kernel
theorem dX2_wordsHeard_9 : decode cX2_wordsHeard 9 = .ok (.if_icmp .ge 21, 3) := by decide +kernel
theorem dX2_wordsHeard_12 : decode cX2_wordsHeard 12 = .ok (.iload_n 1, 1) := by decide +kernel
theorem dX2_wordsHeard_13 : decode cX2_wordsHeard 13 = .ok (.aload_n 0, 1) := by decide +kernel
theorem dX2_wordsHeard_14 : decode cX2_wordsHeard 14 = .ok (.getfield 15, 3) := by decide +kernel
theorem dX2_wordsHeard_17 : decode cX2_wordsHeard 17 = .ok (.iload_n 2, 1) := by decide +kernel
theorem dX2_wordsHeard_18 : decode cX2_wordsHeard 18 = .ok (.iaload, 1) := by decide +kernel
theorem dX2_wordsHeard_19 : decode cX2_wordsHeard 19 = .ok (.invokestatic 87, 3) := by decide +kernel
theorem dX2_wordsHeard_22 : decode cX2_wordsHeard 22 = .ok (.iadd, 1) := by decide +kernel
theorem dX2_wordsHeard_23 : decode cX2_wordsHeard 23 = .ok (.istore_n 1, 1) := by decide +kernel
theorem dX2_wordsHeard_24 : decode cX2_wordsHeard 24 = .ok (.iinc 2 1, 3) := by decide +kernel
theorem dX2_wordsHeard_27 : decode cX2_wordsHeard 27 = .ok (.goto (-23), 3) := by decide +kernel
theorem dX2_wordsHeard_30 : decode cX2_wordsHeard 30 = .ok (.iload_n 1, 1) := by decide +kernel
theorem dX2_wordsHeard_31 : decode cX2_wordsHeard 31 = .ok (.ireturn, 1) := by decide +kernel
theorem dX3_init_0 : decode cX3_init 0 = .ok (.aload_n 0, 1) := by decide +kernel
theorem dX3_init_1 : decode cX3_init 1 = .ok (.invokespecial 3, 3) := by decide +kernel
theorem dX3_init_4 : decode cX3_init 4 = .ok (.aload_n 0, 1) := by decide +kernel
theorem dX3_init_5 : decode cX3_init 5 = .ok (.bipush 40, 2) := by decide +kernel
theorem dX3_init_7 : decode cX3_init 7 = .ok (.newarray .int, 2) := by decide +kernel
theorem dX3_init_9 : decode cX3_init 9 = .ok (.putfield 9, 3) := by decide +kernel
theorem dX3_init_12 : decode cX3_init 12 = .ok (.aload_n 0, 1) := by decide +kernel
theorem dX3_init_13 : decode cX3_init 13 = .ok (.iconst 1, 1) := by decide +kernel
theorem dX3_init_14 : decode cX3_init 14 = .ok (.putfield 15, 3) := by decide +kernel
theorem dX3_init_17 : decode cX3_init 17 = .ok (.return_, 1) := by decide +kernel
theorem dX3_begin_0 : decode cX3_begin 0 = .ok (.aload_n 0, 1) := by decide +kernel
theorem dX3_begin_1 : decode cX3_begin 1 = .ok (.iconst 0, 1) := by decide +kernel
theorem dX3_begin_2 : decode cX3_begin 2 = .ok (.putfield 15, 3) := by decide +kernel
theorem dX3_begin_5 : decode cX3_begin 5 = .ok (.aload_n 0, 1) := by decide +kernel
theorem dX3_begin_6 : decode cX3_begin 6 = .ok (.iload_n 1, 1) := by decide +kernel
theorem dX3_begin_7 : decode cX3_begin 7 = .ok (.putfield 19, 3) := by decide +kernel
theorem dX3_begin_10 : decode cX3_begin 10 = .ok (.aload_n 0, 1) := by decide +kernel
theorem dX3_begin_11 : decode cX3_begin 11 = .ok (.iload_n 2, 1) := by decide +kernel
theorem dX3_begin_12 : decode cX3_begin 12 = .ok (.putfield 23, 3) := by decide +kernel
theorem dX3_begin_15 : decode cX3_begin 15 = .ok (.iconst 0, 1) := by decide +kernel
theorem dX3_begin_16 : decode cX3_begin 16 = .ok (.istore_n 3, 1) := by decide +kernel
theorem dX3_begin_17 : decode cX3_begin 17 = .ok (.iload_n 3, 1) := by decide +kernel
theorem dX3_begin_18 : decode cX3_begin 18 = .ok (.iload_n 2, 1) := by decide +kernel
theorem dX3_begin_19 : decode cX3_begin 19 = .ok (.if_icmp .ge 16, 3) := by decide +kernel
theorem dX3_begin_22 : decode cX3_begin 22 = .ok (.aload_n 0, 1) := by decide +kernel
theorem dX3_begin_23 : decode cX3_begin 23 = .ok (.getfield 9, 3) := by decide +kernel
theorem dX3_begin_26 : decode cX3_begin 26 = .ok (.iload_n 3, 1) := by decide +kernel
theorem dX3_begin_27 : decode cX3_begin 27 = .ok (.iconst 0, 1) := by decide +kernel
theorem dX3_begin_28 : decode cX3_begin 28 = .ok (.iastore, 1) := by decide +kernel
theorem dX3_begin_29 : decode cX3_begin 29 = .ok (.iinc 3 1, 3) := by decide +kernel
theorem dX3_begin_32 : decode cX3_begin 32 = .ok (.goto (-15), 3) := by decide +kernel
theorem dX3_begin_35 : decode cX3_begin 35 = .ok (.return_, 1) := by decide +kernel
theorem dX3_hasPlaces_0 : decode cX3_hasPlaces 0 = .ok (.iload_n 1, 1) := by decide +kernel
theorem dX3_hasPlaces_1 : decode cX3_hasPlaces 1 = .ok (.ifCond .lt 29, 3) := by decide +kernel
theorem dX3_hasPlaces_4 : decode cX3_hasPlaces 4 = .ok (.iload_n 2, 1) := by decide +kernel
theorem dX3_hasPlaces_5 : decode cX3_hasPlaces 5 = .ok (.ifCond .lt 25, 3) := by decide +kernel
theorem dX3_hasPlaces_8 : decode cX3_hasPlaces 8 = .ok (.iload_n 1, 1) := by decide +kernel
theorem dX3_hasPlaces_9 : decode cX3_hasPlaces 9 = .ok (.aload_n 0, 1) := by decide +kernel
theorem dX3_hasPlaces_10 : decode cX3_hasPlaces 10 = .ok (.getfield 23, 3) := by decide +kernel
theorem dX3_hasPlaces_13 : decode cX3_hasPlaces 13 = .ok (.if_icmp .gt 17, 3) := by decide +kernel
theorem dX3_hasPlaces_16 : decode cX3_hasPlaces 16 = .ok (.iload_n 2, 1) := by decide +kernel
theorem dX3_hasPlaces_17 : decode cX3_hasPlaces 17 = .ok (.aload_n 0, 1) := by decide +kernel
theorem dX3_hasPlaces_18 : decode cX3_hasPlaces 18 = .ok (.getfield 23, 3) := by decide +kernel
theorem dX3_hasPlaces_21 : decode cX3_hasPlaces 21 = .ok (.iload_n 1, 1) := by decide +kernel
theorem dX3_hasPlaces_22 : decode cX3_hasPlaces 22 = .ok (.isub, 1) := by decide +kernel
theorem dX3_hasPlaces_23 : decode cX3_hasPlaces 23 = .ok (.if_icmp .gt 7, 3) := by decide +kernel
theorem dX3_hasPlaces_26 : decode cX3_hasPlaces 26 = .ok (.iconst 1, 1) := by decide +kernel
theorem dX3_hasPlaces_27 : decode cX3_hasPlaces 27 = .ok (.goto 4, 3) := by decide +kernel
theorem dX3_hasPlaces_30 : decode cX3_hasPlaces 30 = .ok (.iconst 0, 1) := by decide +kernel
theorem dX3_hasPlaces_31 : decode cX3_hasPlaces 31 = .ok (.ireturn, 1) := by decide +kernel
theorem dX3_cut_0 : decode cX3_cut 0 = .ok (.aload_n 0, 1) := by decide +kernel
theorem dX3_cut_1 : decode cX3_cut 1 = .ok (.getfield 19, 3) := by decide +kernel
theorem dX3_cut_4 : decode cX3_cut 4 = .ok (.ifCond .ne 6, 3) := by decide +kernel
theorem dX3_cut_7 : decode cX3_cut 7 = .ok (.iload_n 1, 1) := by decide +kernel
theorem dX3_cut_8 : decode cX3_cut 8 = .ok (.i2b, 1) := by decide +kernel
theorem dX3_cut_9 : decode cX3_cut 9 = .ok (.ireturn, 1) := by decide +kernel
theorem dX3_cut_10 : decode cX3_cut 10 = .ok (.aload_n 0, 1) := by decide +kernel
theorem dX3_cut_11 : decode cX3_cut 11 = .ok (.getfield 19, 3) := by decide +kernel
theorem dX3_cut_14 : decode cX3_cut 14 = .ok (.iconst 1, 1) := by decide +kernel
theorem dX3_cut_15 : decode cX3_cut 15 = .ok (.if_icmp .ne 8, 3) := by decide +kernel
theorem dX3_cut_18 : decode cX3_cut 18 = .ok (.iload_n 1, 1) := by decide +kernel
theorem dX3_cut_19 : decode cX3_cut 19 = .ok (.i2s, 1) := by decide +kernel
theorem dX3_cut_20 : decode cX3_cut 20 = .ok (.goto 4, 3) := by decide +kernel
theorem dX3_cut_23 : decode cX3_cut 23 = .ok (.iload_n 1, 1) := by decide +kernel
theorem dX3_cut_24 : decode cX3_cut 24 = .ok (.ireturn, 1) := by decide +kernel
theorem dX4_init_0 : decode cX4_init 0 = .ok (.aload_n 0, 1) := by decide +kernel
theorem dX4_init_1 : decode cX4_init 1 = .ok (.invokespecial 3, 3) := by decide +kernel
theorem dX4_init_4 : decode cX4_init 4 = .ok (.aload_n 0, 1) := by decide +kernel
theorem dX4_init_5 : decode cX4_init 5 = .ok (.bipush 90, 2) := by decide +kernel
theorem dX4_init_7 : decode cX4_init 7 = .ok (.newarray .int, 2) := by decide +kernel
theorem dX4_init_9 : decode cX4_init 9 = .ok (.putfield 9, 3) := by decide +kernel
theorem dX4_init_12 : decode cX4_init 12 = .ok (.return_, 1) := by decide +kernel
theorem dX4_add_0 : decode cX4_add 0 = .ok (.aload_n 0, 1) := by decide +kernel
theorem dX4_add_1 : decode cX4_add 1 = .ok (.getfield 15, 3) := by decide +kernel
theorem dX4_add_4 : decode cX4_add 4 = .ok (.bipush 90, 2) := by decide +kernel
theorem dX4_add_6 : decode cX4_add 6 = .ok (.if_icmp .ge 23, 3) := by decide +kernel
theorem dX4_add_9 : decode cX4_add 9 = .ok (.aload_n 0, 1) := by decide +kernel
theorem dX4_add_10 : decode cX4_add 10 = .ok (.getfield 9, 3) := by decide +kernel
theorem dX4_add_13 : decode cX4_add 13 = .ok (.aload_n 0, 1) := by decide +kernel
theorem dX4_add_14 : decode cX4_add 14 = .ok (.getfield 15, 3) := by decide +kernel
theorem dX4_add_17 : decode cX4_add 17 = .ok (.iload_n 1, 1) := by decide +kernel
theorem dX4_add_18 : decode cX4_add 18 = .ok (.iastore, 1) := by decide +kernel
theorem dX4_add_19 : decode cX4_add 19 = .ok (.aload_n 0, 1) := by decide +kernel
theorem dX4_add_20 : decode cX4_add 20 = .ok (.dup, 1) := by decide +kernel
theorem dX4_add_21 : decode cX4_add 21 = .ok (.getfield 15, 3) := by decide +kernel
theorem dX4_add_24 : decode cX4_add 24 = .ok (.iconst 1, 1) := by decide +kernel
theorem dX4_add_25 : decode cX4_add 25 = .ok (.iadd, 1) := by decide +kernel
theorem dX4_add_26 : decode cX4_add 26 = .ok (.putfield 15, 3) := by decide +kernel
theorem dX4_add_29 : decode cX4_add 29 = .ok (.return_, 1) := by decide +kernel
set_option maxRecDepth 20000 in
theorem ggX4_readInto_X2_begin : GoodIn wsX4_readInto wsX2_begin := goodIn_r _ [6, 7, 8, 9, 10, 11, 63, 64, 65, 66, 67, 68, 69, 70, 71, 72, 73, 74] (by decide +kernel) (by decide +kernel)
set_option maxRecDepth 20000 in
theorem gX4_readInto_X2_begin_n19 : GoodIn wsX4_readInto (wsX2_begin) := ggX4_readInto_X2_begin
set_option maxRecDepth 20000 in
theorem ggX4_readInto_X4_readLaw : GoodIn wsX4_readInto wsX4_readLaw := goodIn_r _ [16, 2, 17, 18, 19, 15, 20, 1, 21, 22, 23, 24, 25, 26, 27, 28, 29, 30, 31, 32, 33, 34, 35, 36, 37, 38, 39, 40, 41, 42, 63, 64, 65, 66, 67, 68, 69, 70, 71, 72, 73, 74, 59, 60, 61, 62] (by decide +kernel) (by decide +kernel)
set_option maxRecDepth 20000 in
theorem gX4_readInto_X4_readLaw : GoodIn wsX4_readInto (wsV RX4 30 RX4 yX4_readLaw wsX4_readLaw) := goodIn_app (goodIn_of _ (by decide +kernel)) ggX4_readInto_X4_readLaw
set_option maxRecDepth 20000 in
theorem ggX4_readInto_X4_readStretches : GoodIn wsX4_readInto wsX4_readStretches := goodIn_r _ [46, 2, 21, 22, 23, 15, 24, 1, 25, 26, 27, 28, 29, 30, 17, 18, 19, 20, 31, 32, 33, 34, 35, 36, 37, 38, 39, 40, 41, 42, 63, 64, 65, 66, 67, 68, 69, 70, 71, 72, 73, 74, 59, 60, 61, 62] (by decide +kernel) (by decide +kernel)
set_option maxRecDepth 20000 in
theorem gX4_readInto_X4_readStretches : GoodIn wsX4_readInto (wsV RX4 34 RX4 yX4_readStretches wsX4_readStretches) := goodIn_app (goodIn_of _ (by decide +kernel)) ggX4_readInto_X4_readStretches
set_option maxRecDepth 20000 in
theorem ggX4_readInto_X4_readPulpits : GoodIn wsX4_readInto wsX4_readPulpits := goodIn_r _ [50, 1, 29, 51, 52, 53, 15, 54, 21, 22, 23, 24, 25, 26, 27, 28, 30, 31, 32, 33, 34, 2, 55, 56, 57, 58, 35, 36, 37, 38, 39, 40, 41, 42, 17, 18, 19, 20, 59, 60, 61, 62, 63, 64, 65, 66, 67, 68, 69, 70, 71, 72, 73, 74] (by decide +kernel) (by decide +kernel)
set_option maxRecDepth 20000 in
theorem gX4_readInto_X4_readPulpits : GoodIn wsX4_readInto (wsV RX4 37 RX4 yX4_readPulpits wsX4_readPulpits) := goodIn_app (goodIn_of _ (by decide +kernel)) ggX4_readInto_X4_readPulpits
theorem dX4_readInto_0 : decode cX4_readInto 0 = .ok (.aload_n 1, 1) := by decide +kernel
theorem dX4_readInto_1 : decode cX4_readInto 1 = .ok (.invokevirtual 19, 3) := by decide +kernel
theorem dX4_readInto_4 : decode cX4_readInto 4 = .ok (.aload_n 0, 1) := by decide +kernel
theorem dX4_readInto_5 : decode cX4_readInto 5 = .ok (.iconst 0, 1) := by decide +kernel
theorem dX4_readInto_6 : decode cX4_readInto 6 = .ok (.putfield 24, 3) := by decide +kernel
theorem dX4_readInto_9 : decode cX4_readInto 9 = .ok (.aload_n 0, 1) := by decide +kernel
theorem dX4_readInto_10 : decode cX4_readInto 10 = .ok (.iconst 0, 1) := by decide +kernel
theorem dX4_readInto_11 : decode cX4_readInto 11 = .ok (.putfield 27, 3) := by decide +kernel
theorem dX4_readInto_14 : decode cX4_readInto 14 = .ok (.aload_n 0, 1) := by decide +kernel
theorem dX4_readInto_15 : decode cX4_readInto 15 = .ok (.aload_n 1, 1) := by decide +kernel
theorem dX4_readInto_16 : decode cX4_readInto 16 = .ok (.invokevirtual 30, 3) := by decide +kernel
theorem dX4_readInto_19 : decode cX4_readInto 19 = .ok (.ifCond .eq 23, 3) := by decide +kernel
theorem dX4_readInto_22 : decode cX4_readInto 22 = .ok (.aload_n 0, 1) := by decide +kernel
theorem dX4_readInto_23 : decode cX4_readInto 23 = .ok (.aload_n 1, 1) := by decide +kernel
theorem dX4_readInto_24 : decode cX4_readInto 24 = .ok (.invokevirtual 34, 3) := by decide +kernel
theorem dX4_readInto_27 : decode cX4_readInto 27 = .ok (.ifCond .eq 15, 3) := by decide +kernel
theorem dX4_readInto_30 : decode cX4_readInto 30 = .ok (.aload_n 0, 1) := by decide +kernel
theorem dX4_readInto_31 : decode cX4_readInto 31 = .ok (.aload_n 1, 1) := by decide +kernel
theorem dX4_readInto_32 : decode cX4_readInto 32 = .ok (.invokevirtual 37, 3) := by decide +kernel
theorem dX4_readInto_35 : decode cX4_readInto 35 = .ok (.ifCond .eq 7, 3) := by decide +kernel
theorem dX4_readInto_38 : decode cX4_readInto 38 = .ok (.iconst 1, 1) := by decide +kernel
theorem dX4_readInto_39 : decode cX4_readInto 39 = .ok (.goto 4, 3) := by decide +kernel
theorem dX4_readInto_42 : decode cX4_readInto 42 = .ok (.iconst 0, 1) := by decide +kernel
theorem dX4_readInto_43 : decode cX4_readInto 43 = .ok (.ireturn, 1) := by decide +kernel
set_option maxRecDepth 20000 in
theorem ggX4_readLaw_X4_takeSign : GoodIn wsX4_readLaw wsX4_takeSign := goodIn_r _ [6, 7, 8, 9, 10, 5, 11, 12, 13, 14, 15, 16, 17, 18, 19, 20, 21, 1, 42, 43, 44, 45] (by decide +kernel) (by decide +kernel)
set_option maxRecDepth 20000 in
theorem gX4_readLaw_X4_takeSign : GoodIn wsX4_readLaw (wsV RX4 40 RX4 yX4_takeSign wsX4_takeSign) := goodIn_app (goodIn_of _ (by decide +kernel)) ggX4_readLaw_X4_takeSign
set_option maxRecDepth 20000 in
theorem ggX4_readLaw_X4_takeNumber : GoodIn wsX4_readLaw wsX4_takeNumber := goodIn_r _ [25, 7, 17, 26, 27, 28, 5, 29, 12, 13, 14, 15, 16, 18, 19, 20, 21, 1, 42, 43, 44, 45] (by decide +kernel) (by decide +kernel)
set_option maxRecDepth 20000 in
theorem gX4_readLaw_X4_takeNumber : GoodIn wsX4_readLaw (wsV RX4 44 RX4 yX4_takeNumber wsX4_takeNumber) := goodIn_app (goodIn_of _ (by decide +kernel)) ggX4_readLaw_X4_takeNumber
theorem dX4_readLaw_0 : decode cX4_readLaw 0 = .ok (.aload_n 0, 1) := by decide +kernel
theorem dX4_readLaw_1 : decode cX4_readLaw 1 = .ok (.bipush 112, 2) := by decide +kernel
theorem dX4_readLaw_3 : decode cX4_readLaw 3 = .ok (.invokevirtual 40, 3) := by decide +kernel
theorem dX4_readLaw_6 : decode cX4_readLaw 6 = .ok (.ifCond .ne 5, 3) := by decide +kernel
theorem dX4_readLaw_9 : decode cX4_readLaw 9 = .ok (.iconst 0, 1) := by decide +kernel
theorem dX4_readLaw_10 : decode cX4_readLaw 10 = .ok (.ireturn, 1) := by decide +kernel
theorem dX4_readLaw_11 : decode cX4_readLaw 11 = .ok (.aload_n 1, 1) := by decide +kernel
theorem dX4_readLaw_12 : decode cX4_readLaw 12 = .ok (.aload_n 0, 1) := by decide +kernel
theorem dX4_readLaw_13 : decode cX4_readLaw 13 = .ok (.iconst 4, 1) := by decide +kernel
theorem dX4_readLaw_14 : decode cX4_readLaw 14 = .ok (.bipush 16, 2) := by decide +kernel
theorem dX4_readLaw_16 : decode cX4_readLaw 16 = .ok (.invokevirtual 44, 3) := by decide +kernel
theorem dX4_readLaw_19 : decode cX4_readLaw 19 = .ok (.putfield 48, 3) := by decide +kernel
theorem dX4_readLaw_22 : decode cX4_readLaw 22 = .ok (.aload_n 0, 1) := by decide +kernel
theorem dX4_readLaw_23 : decode cX4_readLaw 23 = .ok (.getfield 27, 3) := by decide +kernel
theorem dX4_readLaw_26 : decode cX4_readLaw 26 = .ok (.ifCond .ne 12, 3) := by decide +kernel
theorem dX4_readLaw_29 : decode cX4_readLaw 29 = .ok (.aload_n 0, 1) := by decide +kernel
theorem dX4_readLaw_30 : decode cX4_readLaw 30 = .ok (.bipush 44, 2) := by decide +kernel
theorem dX4_readLaw_32 : decode cX4_readLaw 32 = .ok (.invokevirtual 40, 3) := by decide +kernel
theorem dX4_readLaw_35 : decode cX4_readLaw 35 = .ok (.ifCond .ne 5, 3) := by decide +kernel
theorem dX4_readLaw_38 : decode cX4_readLaw 38 = .ok (.iconst 0, 1) := by decide +kernel
theorem dX4_readLaw_39 : decode cX4_readLaw 39 = .ok (.ireturn, 1) := by decide +kernel
theorem dX4_readLaw_40 : decode cX4_readLaw 40 = .ok (.aload_n 1, 1) := by decide +kernel
theorem dX4_readLaw_41 : decode cX4_readLaw 41 = .ok (.aload_n 0, 1) := by decide +kernel
theorem dX4_readLaw_42 : decode cX4_readLaw 42 = .ok (.iconst 0, 1) := by decide +kernel
theorem dX4_readLaw_43 : decode cX4_readLaw 43 = .ok (.aload_n 1, 1) := by decide +kernel
theorem dX4_readLaw_44 : decode cX4_readLaw 44 = .ok (.getfield 48, 3) := by decide +kernel
theorem dX4_readLaw_47 : decode cX4_readLaw 47 = .ok (.iconst 1, 1) := by decide +kernel
theorem dX4_readLaw_48 : decode cX4_readLaw 48 = .ok (.isub, 1) := by decide +kernel
theorem dX4_readLaw_49 : decode cX4_readLaw 49 = .ok (.invokevirtual 44, 3) := by decide +kernel
theorem dX4_readLaw_52 : decode cX4_readLaw 52 = .ok (.putfield 51, 3) := by decide +kernel
theorem dX4_readLaw_55 : decode cX4_readLaw 55 = .ok (.aload_n 0, 1) := by decide +kernel
theorem dX4_readLaw_56 : decode cX4_readLaw 56 = .ok (.getfield 27, 3) := by decide +kernel
theorem dX4_readLaw_59 : decode cX4_readLaw 59 = .ok (.ifCond .ne 16, 3) := by decide +kernel
theorem dX4_readLaw_62 : decode cX4_readLaw 62 = .ok (.aload_n 0, 1) := by decide +kernel
theorem dX4_readLaw_63 : decode cX4_readLaw 63 = .ok (.bipush 59, 2) := by decide +kernel
theorem dX4_readLaw_65 : decode cX4_readLaw 65 = .ok (.invokevirtual 40, 3) := by decide +kernel
theorem dX4_readLaw_68 : decode cX4_readLaw 68 = .ok (.ifCond .eq 7, 3) := by decide +kernel
theorem dX4_readLaw_71 : decode cX4_readLaw 71 = .ok (.iconst 1, 1) := by decide +kernel
theorem dX4_readLaw_72 : decode cX4_readLaw 72 = .ok (.goto 4, 3) := by decide +kernel
theorem dX4_readLaw_75 : decode cX4_readLaw 75 = .ok (.iconst 0, 1) := by decide +kernel
theorem dX4_readLaw_76 : decode cX4_readLaw 76 = .ok (.ireturn, 1) := by decide +kernel
set_option maxRecDepth 20000 in
theorem ggX4_readStretches_X4_letterHere : GoodIn wsX4_readStretches wsX4_letterHere := goodIn_r _ [6, 7, 8, 9, 10, 5, 11, 12, 13, 42, 43, 44, 45] (by decide +kernel) (by decide +kernel)
set_option maxRecDepth 20000 in
theorem gX4_readStretches_X4_letterHere : GoodIn wsX4_readStretches (wsV RX4 54 RX4 yX4_letterHere wsX4_letterHere) := goodIn_app (goodIn_of _ (by decide +kernel)) ggX4_readStretches_X4_letterHere
set_option maxRecDepth 20000 in
theorem ggX4_readStretches_X4_takeSign : GoodIn wsX4_readStretches wsX4_takeSign := goodIn_r _ [17, 7, 2, 3, 4, 5, 6, 8, 9, 10, 11, 12, 13, 18, 19, 20, 21, 1, 42, 43, 44, 45] (by decide +kernel) (by decide +kernel)
set_option maxRecDepth 20000 in
theorem gX4_readStretches_X4_takeSign : GoodIn wsX4_readStretches (wsV RX4 40 RX4 yX4_takeSign wsX4_takeSign) := goodIn_app (goodIn_of _ (by decide +kernel)) ggX4_readStretches_X4_takeSign
set_option maxRecDepth 20000 in
theorem ggX4_readStretches_X4_takeNumber : GoodIn wsX4_readStretches wsX4_takeNumber := goodIn_r _ [25, 7, 13, 26, 27, 28, 5, 29, 8, 9, 10, 11, 12, 18, 19, 20, 21, 1, 42, 43, 44, 45] (by decide +kernel) (by decide +kernel)
set_option maxRecDepth 20000 in
theorem gX4_readStretches_X4_takeNumber : GoodIn wsX4_readStretches (wsV RX4 44 RX4 yX4_takeNumber wsX4_takeNumber) := goodIn_app (goodIn_of _ (by decide +kernel)) ggX4_readStretches_X4_takeNumber
set_option maxRecDepth 20000 in
theorem ggX4_readStretches_X4_blame : GoodIn wsX4_readStretches wsX4_blame := goodIn_r _ [21, 1, 42, 43, 44, 45] (by decide +kernel) (by decide +kernel)
set_option maxRecDepth 20000 in
theorem gX4_readStretches_X4_blame : GoodIn wsX4_readStretches (wsV RX4 64 RX4 yX4_blame wsX4_blame) := goodIn_app (goodIn_of _ (by decide +kernel)) ggX4_readStretches_X4_blame
theorem dX4_readStretches_0 : decode cX4_readStretches 0 = .ok (.iconst 0, 1) := by decide +kernel
theorem dX4_readStretches_1 : decode cX4_readStretches 1 = .ok (.istore_n 2, 1) := by decide +kernel
theorem dX4_readStretches_2 : decode cX4_readStretches 2 = .ok (.iload_n 2, 1) := by decide +kernel
theorem dX4_readStretches_3 : decode cX4_readStretches 3 = .ok (.bipush 9, 2) := by decide +kernel
theorem dX4_readStretches_5 : decode cX4_readStretches 5 = .ok (.if_icmp .ge 73, 3) := by decide +kernel
theorem dX4_readStretches_8 : decode cX4_readStretches 8 = .ok (.iload_n 2, 1) := by decide +kernel
theorem dX4_readStretches_9 : decode cX4_readStretches 9 = .ok (.iconst 3, 1) := by decide +kernel
theorem dX4_readStretches_10 : decode cX4_readStretches 10 = .ok (.if_icmp .lt 14, 3) := by decide +kernel
theorem dX4_readStretches_13 : decode cX4_readStretches 13 = .ok (.aload_n 0, 1) := by decide +kernel
theorem dX4_readStretches_14 : decode cX4_readStretches 14 = .ok (.invokevirtual 54, 3) := by decide +kernel
theorem dX4_readStretches_17 : decode cX4_readStretches 17 = .ok (.bipush 114, 2) := by decide +kernel
theorem dX4_readStretches_19 : decode cX4_readStretches 19 = .ok (.if_icmp .eq 5, 3) := by decide +kernel
theorem dX4_readStretches_22 : decode cX4_readStretches 22 = .ok (.iconst 1, 1) := by decide +kernel
theorem dX4_readStretches_23 : decode cX4_readStretches 23 = .ok (.ireturn, 1) := by decide +kernel
theorem dX4_readStretches_24 : decode cX4_readStretches 24 = .ok (.aload_n 0, 1) := by decide +kernel
theorem dX4_readStretches_25 : decode cX4_readStretches 25 = .ok (.bipush 114, 2) := by decide +kernel
theorem dX4_readStretches_27 : decode cX4_readStretches 27 = .ok (.invokevirtual 40, 3) := by decide +kernel
theorem dX4_readStretches_30 : decode cX4_readStretches 30 = .ok (.ifCond .ne 5, 3) := by decide +kernel
theorem dX4_readStretches_33 : decode cX4_readStretches 33 = .ok (.iconst 0, 1) := by decide +kernel
theorem dX4_readStretches_34 : decode cX4_readStretches 34 = .ok (.ireturn, 1) := by decide +kernel
theorem dX4_readStretches_35 : decode cX4_readStretches 35 = .ok (.aload_n 1, 1) := by decide +kernel
theorem dX4_readStretches_36 : decode cX4_readStretches 36 = .ok (.getfield 58, 3) := by decide +kernel
theorem dX4_readStretches_39 : decode cX4_readStretches 39 = .ok (.iload_n 2, 1) := by decide +kernel
theorem dX4_readStretches_40 : decode cX4_readStretches 40 = .ok (.aload_n 0, 1) := by decide +kernel
theorem dX4_readStretches_41 : decode cX4_readStretches 41 = .ok (.iconst 0, 1) := by decide +kernel
theorem dX4_readStretches_42 : decode cX4_readStretches 42 = .ok (.iconst 2, 1) := by decide +kernel
theorem dX4_readStretches_43 : decode cX4_readStretches 43 = .ok (.invokevirtual 44, 3) := by decide +kernel
theorem dX4_readStretches_46 : decode cX4_readStretches 46 = .ok (.iastore, 1) := by decide +kernel
theorem dX4_readStretches_47 : decode cX4_readStretches 47 = .ok (.aload_n 0, 1) := by decide +kernel
theorem dX4_readStretches_48 : decode cX4_readStretches 48 = .ok (.getfield 27, 3) := by decide +kernel
theorem dX4_readStretches_51 : decode cX4_readStretches 51 = .ok (.ifCond .ne 12, 3) := by decide +kernel
theorem dX4_readStretches_54 : decode cX4_readStretches 54 = .ok (.aload_n 0, 1) := by decide +kernel
theorem dX4_readStretches_55 : decode cX4_readStretches 55 = .ok (.bipush 59, 2) := by decide +kernel
theorem dX4_readStretches_57 : decode cX4_readStretches 57 = .ok (.invokevirtual 40, 3) := by decide +kernel
theorem dX4_readStretches_60 : decode cX4_readStretches 60 = .ok (.ifCond .ne 5, 3) := by decide +kernel
theorem dX4_readStretches_63 : decode cX4_readStretches 63 = .ok (.iconst 0, 1) := by decide +kernel
theorem dX4_readStretches_64 : decode cX4_readStretches 64 = .ok (.ireturn, 1) := by decide +kernel
theorem dX4_readStretches_65 : decode cX4_readStretches 65 = .ok (.aload_n 1, 1) := by decide +kernel
theorem dX4_readStretches_66 : decode cX4_readStretches 66 = .ok (.iload_n 2, 1) := by decide +kernel
theorem dX4_readStretches_67 : decode cX4_readStretches 67 = .ok (.iconst 1, 1) := by decide +kernel
theorem dX4_readStretches_68 : decode cX4_readStretches 68 = .ok (.iadd, 1) := by decide +kernel
theorem dX4_readStretches_69 : decode cX4_readStretches 69 = .ok (.putfield 61, 3) := by decide +kernel
theorem dX4_readStretches_72 : decode cX4_readStretches 72 = .ok (.iinc 2 1, 3) := by decide +kernel
theorem dX4_readStretches_75 : decode cX4_readStretches 75 = .ok (.goto (-73), 3) := by decide +kernel
theorem dX4_readStretches_78 : decode cX4_readStretches 78 = .ok (.aload_n 0, 1) := by decide +kernel
theorem dX4_readStretches_79 : decode cX4_readStretches 79 = .ok (.invokevirtual 54, 3) := by decide +kernel
theorem dX4_readStretches_82 : decode cX4_readStretches 82 = .ok (.bipush 114, 2) := by decide +kernel
theorem dX4_readStretches_84 : decode cX4_readStretches 84 = .ok (.if_icmp .ne 11, 3) := by decide +kernel
theorem dX4_readStretches_87 : decode cX4_readStretches 87 = .ok (.aload_n 0, 1) := by decide +kernel
theorem dX4_readStretches_88 : decode cX4_readStretches 88 = .ok (.iconst 3, 1) := by decide +kernel
theorem dX4_readStretches_89 : decode cX4_readStretches 89 = .ok (.invokevirtual 64, 3) := by decide +kernel
theorem dX4_readStretches_92 : decode cX4_readStretches 92 = .ok (.ifCond .eq 7, 3) := by decide +kernel
theorem dX4_readStretches_95 : decode cX4_readStretches 95 = .ok (.iconst 1, 1) := by decide +kernel
theorem dX4_readStretches_96 : decode cX4_readStretches 96 = .ok (.goto 4, 3) := by decide +kernel
theorem dX4_readStretches_99 : decode cX4_readStretches 99 = .ok (.iconst 0, 1) := by decide +kernel
theorem dX4_readStretches_100 : decode cX4_readStretches 100 = .ok (.ireturn, 1) := by decide +kernel
set_option maxRecDepth 20000 in
theorem ggX4_readPulpits_X4_kindHere : GoodIn wsX4_readPulpits wsX4_kindHere := goodIn_r _ [7, 8, 9, 10, 6, 11, 1, 12, 13, 14, 15, 2, 16, 38, 39, 40, 41] (by decide +kernel) (by decide +kernel)
set_option maxRecDepth 20000 in
theorem gX4_readPulpits_X4_kindHere : GoodIn wsX4_readPulpits (wsV RX4 67 RX4 yX4_kindHere wsX4_kindHere) := goodIn_app (goodIn_of _ (by decide +kernel)) ggX4_readPulpits_X4_kindHere
set_option maxRecDepth 20000 in
theorem ggX4_readPulpits_X4_blame : GoodIn wsX4_readPulpits wsX4_blame := goodIn_r _ [20, 21, 38, 39, 40, 41] (by decide +kernel) (by decide +kernel)
set_option maxRecDepth 20000 in
theorem gX4_readPulpits_X4_blame : GoodIn wsX4_readPulpits (wsV RX4 64 RX4 yX4_blame wsX4_blame) := goodIn_app (goodIn_of _ (by decide +kernel)) ggX4_readPulpits_X4_blame
set_option maxRecDepth 20000 in
theorem ggX4_readPulpits_X4_readPulpit : GoodIn wsX4_readPulpits wsX4_readPulpit := goodIn_r _ [25, 21, 26, 27, 28, 6, 29, 1, 16, 30, 31, 32, 33, 12, 13, 14, 15, 2, 17, 18, 19, 20, 34, 35, 36, 37, 8, 9, 10, 11, 42, 43, 44, 45, 46, 47, 48, 49, 50, 51, 52, 53, 38, 39, 40, 41] (by decide +kernel) (by decide +kernel)
set_option maxRecDepth 20000 in
theorem gX4_readPulpits_X4_readPulpit : GoodIn wsX4_readPulpits (wsV RX4 70 RX4 yX4_readPulpit wsX4_readPulpit) := goodIn_app (goodIn_of _ (by decide +kernel)) ggX4_readPulpits_X4_readPulpit
theorem dX4_readPulpits_0 : decode cX4_readPulpits 0 = .ok (.iconst 0, 1) := by decide +kernel
theorem dX4_readPulpits_1 : decode cX4_readPulpits 1 = .ok (.istore_n 2, 1) := by decide +kernel
theorem dX4_readPulpits_2 : decode cX4_readPulpits 2 = .ok (.iload_n 2, 1) := by decide +kernel
theorem dX4_readPulpits_3 : decode cX4_readPulpits 3 = .ok (.iconst 5, 1) := by decide +kernel
theorem dX4_readPulpits_4 : decode cX4_readPulpits 4 = .ok (.if_icmp .ge 72, 3) := by decide +kernel
theorem dX4_readPulpits_7 : decode cX4_readPulpits 7 = .ok (.aload_n 0, 1) := by decide +kernel
theorem dX4_readPulpits_8 : decode cX4_readPulpits 8 = .ok (.getfield 24, 3) := by decide +kernel
theorem dX4_readPulpits_11 : decode cX4_readPulpits 11 = .ok (.aload_n 0, 1) := by decide +kernel
theorem dX4_readPulpits_12 : decode cX4_readPulpits 12 = .ok (.getfield 15, 3) := by decide +kernel
theorem dX4_readPulpits_15 : decode cX4_readPulpits 15 = .ok (.if_icmp .ne 5, 3) := by decide +kernel
theorem dX4_readPulpits_18 : decode cX4_readPulpits 18 = .ok (.iconst 1, 1) := by decide +kernel
theorem dX4_readPulpits_19 : decode cX4_readPulpits 19 = .ok (.ireturn, 1) := by decide +kernel
theorem dX4_readPulpits_20 : decode cX4_readPulpits 20 = .ok (.aload_n 0, 1) := by decide +kernel
theorem dX4_readPulpits_21 : decode cX4_readPulpits 21 = .ok (.invokevirtual 67, 3) := by decide +kernel
theorem dX4_readPulpits_24 : decode cX4_readPulpits 24 = .ok (.istore_n 3, 1) := by decide +kernel
theorem dX4_readPulpits_25 : decode cX4_readPulpits 25 = .ok (.iload_n 3, 1) := by decide +kernel
theorem dX4_readPulpits_26 : decode cX4_readPulpits 26 = .ok (.ifCond .ne 9, 3) := by decide +kernel
theorem dX4_readPulpits_29 : decode cX4_readPulpits 29 = .ok (.aload_n 0, 1) := by decide +kernel
theorem dX4_readPulpits_30 : decode cX4_readPulpits 30 = .ok (.iconst 1, 1) := by decide +kernel
theorem dX4_readPulpits_31 : decode cX4_readPulpits 31 = .ok (.invokevirtual 64, 3) := by decide +kernel
theorem dX4_readPulpits_34 : decode cX4_readPulpits 34 = .ok (.ireturn, 1) := by decide +kernel
theorem dX4_readPulpits_35 : decode cX4_readPulpits 35 = .ok (.aload_n 0, 1) := by decide +kernel
theorem dX4_readPulpits_36 : decode cX4_readPulpits 36 = .ok (.dup, 1) := by decide +kernel
theorem dX4_readPulpits_37 : decode cX4_readPulpits 37 = .ok (.getfield 24, 3) := by decide +kernel
theorem dX4_readPulpits_40 : decode cX4_readPulpits 40 = .ok (.iconst 1, 1) := by decide +kernel
theorem dX4_readPulpits_41 : decode cX4_readPulpits 41 = .ok (.iadd, 1) := by decide +kernel
theorem dX4_readPulpits_42 : decode cX4_readPulpits 42 = .ok (.putfield 24, 3) := by decide +kernel
theorem dX4_readPulpits_45 : decode cX4_readPulpits 45 = .ok (.aload_n 0, 1) := by decide +kernel
theorem dX4_readPulpits_46 : decode cX4_readPulpits 46 = .ok (.aload_n 1, 1) := by decide +kernel
theorem dX4_readPulpits_47 : decode cX4_readPulpits 47 = .ok (.iload_n 2, 1) := by decide +kernel
theorem dX4_readPulpits_48 : decode cX4_readPulpits 48 = .ok (.invokevirtual 70, 3) := by decide +kernel
theorem dX4_readPulpits_51 : decode cX4_readPulpits 51 = .ok (.ifCond .ne 5, 3) := by decide +kernel
theorem dX4_readPulpits_54 : decode cX4_readPulpits 54 = .ok (.iconst 0, 1) := by decide +kernel
theorem dX4_readPulpits_55 : decode cX4_readPulpits 55 = .ok (.ireturn, 1) := by decide +kernel
theorem dX4_readPulpits_56 : decode cX4_readPulpits 56 = .ok (.aload_n 1, 1) := by decide +kernel
theorem dX4_readPulpits_57 : decode cX4_readPulpits 57 = .ok (.getfield 74, 3) := by decide +kernel
theorem dX4_readPulpits_60 : decode cX4_readPulpits 60 = .ok (.iload_n 2, 1) := by decide +kernel
theorem dX4_readPulpits_61 : decode cX4_readPulpits 61 = .ok (.iload_n 3, 1) := by decide +kernel
theorem dX4_readPulpits_62 : decode cX4_readPulpits 62 = .ok (.iastore, 1) := by decide +kernel
theorem dX4_readPulpits_63 : decode cX4_readPulpits 63 = .ok (.aload_n 1, 1) := by decide +kernel
theorem dX4_readPulpits_64 : decode cX4_readPulpits 64 = .ok (.iload_n 2, 1) := by decide +kernel
theorem dX4_readPulpits_65 : decode cX4_readPulpits 65 = .ok (.iconst 1, 1) := by decide +kernel
theorem dX4_readPulpits_66 : decode cX4_readPulpits 66 = .ok (.iadd, 1) := by decide +kernel
theorem dX4_readPulpits_67 : decode cX4_readPulpits 67 = .ok (.putfield 77, 3) := by decide +kernel
theorem dX4_readPulpits_70 : decode cX4_readPulpits 70 = .ok (.iinc 2 1, 3) := by decide +kernel
theorem dX4_readPulpits_73 : decode cX4_readPulpits 73 = .ok (.goto (-71), 3) := by decide +kernel
theorem dX4_readPulpits_76 : decode cX4_readPulpits 76 = .ok (.aload_n 0, 1) := by decide +kernel
theorem dX4_readPulpits_77 : decode cX4_readPulpits 77 = .ok (.getfield 24, 3) := by decide +kernel
theorem dX4_readPulpits_80 : decode cX4_readPulpits 80 = .ok (.aload_n 0, 1) := by decide +kernel
theorem dX4_readPulpits_81 : decode cX4_readPulpits 81 = .ok (.getfield 15, 3) := by decide +kernel
theorem dX4_readPulpits_84 : decode cX4_readPulpits 84 = .ok (.if_icmp .eq 22, 3) := by decide +kernel
theorem dX4_readPulpits_87 : decode cX4_readPulpits 87 = .ok (.aload_n 0, 1) := by decide +kernel
theorem dX4_readPulpits_88 : decode cX4_readPulpits 88 = .ok (.aload_n 0, 1) := by decide +kernel
theorem dX4_readPulpits_89 : decode cX4_readPulpits 89 = .ok (.invokevirtual 67, 3) := by decide +kernel
theorem dX4_readPulpits_92 : decode cX4_readPulpits 92 = .ok (.ifCond .ne 7, 3) := by decide +kernel
theorem dX4_readPulpits_95 : decode cX4_readPulpits 95 = .ok (.iconst 1, 1) := by decide +kernel
theorem dX4_readPulpits_96 : decode cX4_readPulpits 96 = .ok (.goto 4, 3) := by decide +kernel
theorem dX4_readPulpits_99 : decode cX4_readPulpits 99 = .ok (.iconst 3, 1) := by decide +kernel
theorem dX4_readPulpits_100 : decode cX4_readPulpits 100 = .ok (.invokevirtual 64, 3) := by decide +kernel
theorem dX4_readPulpits_103 : decode cX4_readPulpits 103 = .ok (.ifCond .eq 7, 3) := by decide +kernel
theorem dX4_readPulpits_106 : decode cX4_readPulpits 106 = .ok (.iconst 1, 1) := by decide +kernel
theorem dX4_readPulpits_107 : decode cX4_readPulpits 107 = .ok (.goto 4, 3) := by decide +kernel
theorem dX4_readPulpits_110 : decode cX4_readPulpits 110 = .ok (.iconst 0, 1) := by decide +kernel
theorem dX4_readPulpits_111 : decode cX4_readPulpits 111 = .ok (.ireturn, 1) := by decide +kernel
set_option maxRecDepth 20000 in
theorem ggX4_readPulpit_X4_takeNumber : GoodIn wsX4_readPulpit wsX4_takeNumber := goodIn_r _ [6, 7, 8, 9, 10, 11, 5, 12, 13, 14, 15, 16, 17, 18, 19, 20, 21, 1, 42, 43, 44, 45] (by decide +kernel) (by decide +kernel)
set_option maxRecDepth 20000 in
theorem gX4_readPulpit_X4_takeNumber : GoodIn wsX4_readPulpit (wsV RX4 44 RX4 yX4_takeNumber wsX4_takeNumber) := goodIn_app (goodIn_of _ (by decide +kernel)) ggX4_readPulpit_X4_takeNumber
set_option maxRecDepth 20000 in
theorem ggX4_readPulpit_X4_takeSign : GoodIn wsX4_readPulpit wsX4_takeSign := goodIn_r _ [25, 7, 26, 27, 28, 5, 29, 13, 14, 15, 16, 17, 8, 18, 19, 20, 21, 1, 42, 43, 44, 45] (by decide +kernel) (by decide +kernel)
set_option maxRecDepth 20000 in
theorem gX4_readPulpit_X4_takeSign : GoodIn wsX4_readPulpit (wsV RX4 40 RX4 yX4_takeSign wsX4_takeSign) := goodIn_app (goodIn_of _ (by decide +kernel)) ggX4_readPulpit_X4_takeSign
theorem dX4_readPulpit_0 : decode cX4_readPulpit 0 = .ok (.aload_n 1, 1) := by decide +kernel
theorem dX4_readPulpit_1 : decode cX4_readPulpit 1 = .ok (.getfield 80, 3) := by decide +kernel
theorem dX4_readPulpit_4 : decode cX4_readPulpit 4 = .ok (.iload_n 2, 1) := by decide +kernel
theorem dX4_readPulpit_5 : decode cX4_readPulpit 5 = .ok (.aload_n 0, 1) := by decide +kernel
theorem dX4_readPulpit_6 : decode cX4_readPulpit 6 = .ok (.iconst 0, 1) := by decide +kernel
theorem dX4_readPulpit_7 : decode cX4_readPulpit 7 = .ok (.aload_n 1, 1) := by decide +kernel
theorem dX4_readPulpit_8 : decode cX4_readPulpit 8 = .ok (.getfield 61, 3) := by decide +kernel
theorem dX4_readPulpit_11 : decode cX4_readPulpit 11 = .ok (.iconst 1, 1) := by decide +kernel
theorem dX4_readPulpit_12 : decode cX4_readPulpit 12 = .ok (.isub, 1) := by decide +kernel
theorem dX4_readPulpit_13 : decode cX4_readPulpit 13 = .ok (.invokevirtual 44, 3) := by decide +kernel
theorem dX4_readPulpit_16 : decode cX4_readPulpit 16 = .ok (.iastore, 1) := by decide +kernel
theorem dX4_readPulpit_17 : decode cX4_readPulpit 17 = .ok (.aload_n 0, 1) := by decide +kernel
theorem dX4_readPulpit_18 : decode cX4_readPulpit 18 = .ok (.getfield 27, 3) := by decide +kernel
theorem dX4_readPulpit_21 : decode cX4_readPulpit 21 = .ok (.ifCond .ne 12, 3) := by decide +kernel
theorem dX4_readPulpit_24 : decode cX4_readPulpit 24 = .ok (.aload_n 0, 1) := by decide +kernel
theorem dX4_readPulpit_25 : decode cX4_readPulpit 25 = .ok (.bipush 44, 2) := by decide +kernel
theorem dX4_readPulpit_27 : decode cX4_readPulpit 27 = .ok (.invokevirtual 40, 3) := by decide +kernel
theorem dX4_readPulpit_30 : decode cX4_readPulpit 30 = .ok (.ifCond .ne 5, 3) := by decide +kernel
theorem dX4_readPulpit_33 : decode cX4_readPulpit 33 = .ok (.iconst 0, 1) := by decide +kernel
theorem dX4_readPulpit_34 : decode cX4_readPulpit 34 = .ok (.ireturn, 1) := by decide +kernel
theorem dX4_readPulpit_35 : decode cX4_readPulpit 35 = .ok (.aload_n 1, 1) := by decide +kernel
theorem dX4_readPulpit_36 : decode cX4_readPulpit 36 = .ok (.getfield 83, 3) := by decide +kernel
theorem dX4_readPulpit_39 : decode cX4_readPulpit 39 = .ok (.iload_n 2, 1) := by decide +kernel
theorem dX4_readPulpit_40 : decode cX4_readPulpit 40 = .ok (.aload_n 0, 1) := by decide +kernel
theorem dX4_readPulpit_41 : decode cX4_readPulpit 41 = .ok (.iconst 0, 1) := by decide +kernel
theorem dX4_readPulpit_42 : decode cX4_readPulpit 42 = .ok (.aload_n 1, 1) := by decide +kernel
theorem dX4_readPulpit_43 : decode cX4_readPulpit 43 = .ok (.getfield 48, 3) := by decide +kernel
theorem dX4_readPulpit_46 : decode cX4_readPulpit 46 = .ok (.iconst 1, 1) := by decide +kernel
theorem dX4_readPulpit_47 : decode cX4_readPulpit 47 = .ok (.isub, 1) := by decide +kernel
theorem dX4_readPulpit_48 : decode cX4_readPulpit 48 = .ok (.invokevirtual 44, 3) := by decide +kernel
theorem dX4_readPulpit_51 : decode cX4_readPulpit 51 = .ok (.iastore, 1) := by decide +kernel
theorem dX4_readPulpit_52 : decode cX4_readPulpit 52 = .ok (.aload_n 0, 1) := by decide +kernel
theorem dX4_readPulpit_53 : decode cX4_readPulpit 53 = .ok (.getfield 27, 3) := by decide +kernel
theorem dX4_readPulpit_56 : decode cX4_readPulpit 56 = .ok (.ifCond .ne 16, 3) := by decide +kernel
theorem dX4_readPulpit_59 : decode cX4_readPulpit 59 = .ok (.aload_n 0, 1) := by decide +kernel
theorem dX4_readPulpit_60 : decode cX4_readPulpit 60 = .ok (.bipush 59, 2) := by decide +kernel
theorem dX4_readPulpit_62 : decode cX4_readPulpit 62 = .ok (.invokevirtual 40, 3) := by decide +kernel
theorem dX4_readPulpit_65 : decode cX4_readPulpit 65 = .ok (.ifCond .eq 7, 3) := by decide +kernel
theorem dX4_readPulpit_68 : decode cX4_readPulpit 68 = .ok (.iconst 1, 1) := by decide +kernel
theorem dX4_readPulpit_69 : decode cX4_readPulpit 69 = .ok (.goto 4, 3) := by decide +kernel
theorem dX4_readPulpit_72 : decode cX4_readPulpit 72 = .ok (.iconst 0, 1) := by decide +kernel
theorem dX4_readPulpit_73 : decode cX4_readPulpit 73 = .ok (.ireturn, 1) := by decide +kernel
set_option maxRecDepth 20000 in
theorem ggX4_letterHere_X4_letterAt : GoodIn wsX4_letterHere wsX4_letterAt := goodIn_r _ [6, 7, 8, 9, 10, 11, 12] (by decide +kernel) (by decide +kernel)
set_option maxRecDepth 20000 in
theorem gX4_letterHere_X4_letterAt : GoodIn wsX4_letterHere (wsV RX4 86 RX4 yX4_letterAt wsX4_letterAt) := goodIn_app (goodIn_of _ (by decide +kernel)) ggX4_letterHere_X4_letterAt
theorem dX4_letterHere_0 : decode cX4_letterHere 0 = .ok (.aload_n 0, 1) := by decide +kernel
theorem dX4_letterHere_1 : decode cX4_letterHere 1 = .ok (.aload_n 0, 1) := by decide +kernel
theorem dX4_letterHere_2 : decode cX4_letterHere 2 = .ok (.getfield 24, 3) := by decide +kernel
theorem dX4_letterHere_5 : decode cX4_letterHere 5 = .ok (.invokevirtual 86, 3) := by decide +kernel
theorem dX4_letterHere_8 : decode cX4_letterHere 8 = .ok (.ireturn, 1) := by decide +kernel
theorem dX4_letterAt_0 : decode cX4_letterAt 0 = .ok (.iload_n 1, 1) := by decide +kernel
theorem dX4_letterAt_1 : decode cX4_letterAt 1 = .ok (.ifCond .lt 20, 3) := by decide +kernel
theorem dX4_letterAt_4 : decode cX4_letterAt 4 = .ok (.iload_n 1, 1) := by decide +kernel
theorem dX4_letterAt_5 : decode cX4_letterAt 5 = .ok (.aload_n 0, 1) := by decide +kernel
theorem dX4_letterAt_6 : decode cX4_letterAt 6 = .ok (.getfield 15, 3) := by decide +kernel
theorem dX4_letterAt_9 : decode cX4_letterAt 9 = .ok (.if_icmp .ge 12, 3) := by decide +kernel
theorem dX4_letterAt_12 : decode cX4_letterAt 12 = .ok (.aload_n 0, 1) := by decide +kernel
theorem dX4_letterAt_13 : decode cX4_letterAt 13 = .ok (.getfield 9, 3) := by decide +kernel
theorem dX4_letterAt_16 : decode cX4_letterAt 16 = .ok (.iload_n 1, 1) := by decide +kernel
theorem dX4_letterAt_17 : decode cX4_letterAt 17 = .ok (.iaload, 1) := by decide +kernel
theorem dX4_letterAt_18 : decode cX4_letterAt 18 = .ok (.goto 4, 3) := by decide +kernel
theorem dX4_letterAt_21 : decode cX4_letterAt 21 = .ok (.iconst (-1), 1) := by decide +kernel
theorem dX4_letterAt_22 : decode cX4_letterAt 22 = .ok (.ireturn, 1) := by decide +kernel
set_option maxRecDepth 20000 in
theorem ggX4_isFigure_X4_letterAt : GoodIn wsX4_isFigure wsX4_letterAt := goodIn_r _ [5, 6, 7, 8, 9, 10, 11] (by decide +kernel) (by decide +kernel)
set_option maxRecDepth 20000 in
theorem gX4_isFigure_X4_letterAt : GoodIn wsX4_isFigure (wsV RX4 86 RX4 yX4_letterAt wsX4_letterAt) := goodIn_app (goodIn_of _ (by decide +kernel)) ggX4_isFigure_X4_letterAt
theorem dX4_isFigure_0 : decode cX4_isFigure 0 = .ok (.aload_n 0, 1) := by decide +kernel
theorem dX4_isFigure_1 : decode cX4_isFigure 1 = .ok (.iload_n 1, 1) := by decide +kernel
theorem dX4_isFigure_2 : decode cX4_isFigure 2 = .ok (.invokevirtual 86, 3) := by decide +kernel
theorem dX4_isFigure_5 : decode cX4_isFigure 5 = .ok (.istore_n 2, 1) := by decide +kernel
theorem dX4_isFigure_6 : decode cX4_isFigure 6 = .ok (.iload_n 2, 1) := by decide +kernel
theorem dX4_isFigure_7 : decode cX4_isFigure 7 = .ok (.bipush 48, 2) := by decide +kernel
theorem dX4_isFigure_9 : decode cX4_isFigure 9 = .ok (.if_icmp .lt 13, 3) := by decide +kernel
theorem dX4_isFigure_12 : decode cX4_isFigure 12 = .ok (.iload_n 2, 1) := by decide +kernel
theorem dX4_isFigure_13 : decode cX4_isFigure 13 = .ok (.bipush 57, 2) := by decide +kernel
theorem dX4_isFigure_15 : decode cX4_isFigure 15 = .ok (.if_icmp .gt 7, 3) := by decide +kernel
theorem dX4_isFigure_18 : decode cX4_isFigure 18 = .ok (.iconst 1, 1) := by decide +kernel
theorem dX4_isFigure_19 : decode cX4_isFigure 19 = .ok (.goto 4, 3) := by decide +kernel
theorem dX4_isFigure_22 : decode cX4_isFigure 22 = .ok (.iconst 0, 1) := by decide +kernel
theorem dX4_isFigure_23 : decode cX4_isFigure 23 = .ok (.ireturn, 1) := by decide +kernel
set_option maxRecDepth 20000 in
theorem ggX4_kindHere_X4_letterHere : GoodIn wsX4_kindHere wsX4_letterHere := goodIn_r _ [5, 6, 7, 8, 9, 4, 10, 11, 12, 13, 14, 15, 16] (by decide +kernel) (by decide +kernel)
set_option maxRecDepth 20000 in
theorem gX4_kindHere_X4_letterHere : GoodIn wsX4_kindHere (wsV RX4 54 RX4 yX4_letterHere wsX4_letterHere) := goodIn_app (goodIn_of _ (by decide +kernel)) ggX4_kindHere_X4_letterHere
theorem dX4_kindHere_0 : decode cX4_kindHere 0 = .ok (.aload_n 0, 1) := by decide +kernel
theorem dX4_kindHere_1 : decode cX4_kindHere 1 = .ok (.invokevirtual 54, 3) := by decide +kernel
theorem dX4_kindHere_4 : decode cX4_kindHere 4 = .ok (.lookupswitch 62 #[(98, 52), (100, 58), (101, 60), (107, 54), (121, 56)], 52) := by decide +kernel
theorem dX4_kindHere_56 : decode cX4_kindHere 56 = .ok (.iconst 1, 1) := by decide +kernel
theorem dX4_kindHere_57 : decode cX4_kindHere 57 = .ok (.ireturn, 1) := by decide +kernel
theorem dX4_kindHere_58 : decode cX4_kindHere 58 = .ok (.iconst 2, 1) := by decide +kernel
theorem dX4_kindHere_59 : decode cX4_kindHere 59 = .ok (.ireturn, 1) := by decide +kernel
theorem dX4_kindHere_60 : decode cX4_kindHere 60 = .ok (.iconst 3, 1) := by decide +kernel
theorem dX4_kindHere_61 : decode cX4_kindHere 61 = .ok (.ireturn, 1) := by decide +kernel
theorem dX4_kindHere_62 : decode cX4_kindHere 62 = .ok (.iconst 4, 1) := by decide +kernel
theorem dX4_kindHere_63 : decode cX4_kindHere 63 = .ok (.ireturn, 1) := by decide +kernel
theorem dX4_kindHere_64 : decode cX4_kindHere 64 = .ok (.iconst 5, 1) := by decide +kernel
theorem dX4_kindHere_65 : decode cX4_kindHere 65 = .ok (.ireturn, 1) := by decide +kernel
theorem dX4_kindHere_66 : decode cX4_kindHere 66 = .ok (.iconst 0, 1) := by decide +kernel
theorem dX4_kindHere_67 : decode cX4_kindHere 67 = .ok (.ireturn, 1) := by decide +kernel
set_option maxRecDepth 20000 in
theorem ggX4_takeSign_X4_letterHere : GoodIn wsX4_takeSign wsX4_letterHere := goodIn_r _ [6, 1, 7, 8, 9, 5, 10, 11, 12, 18, 19, 20, 21] (by decide +kernel) (by decide +kernel)
set_option maxRecDepth 20000 in
theorem gX4_takeSign_X4_letterHere : GoodIn wsX4_takeSign (wsV RX4 54 RX4 yX4_letterHere wsX4_letterHere) := goodIn_app (goodIn_of _ (by decide +kernel)) ggX4_takeSign_X4_letterHere
set_option maxRecDepth 20000 in
theorem ggX4_takeSign_X4_blame : GoodIn wsX4_takeSign wsX4_blame := goodIn_r _ [16, 17, 18, 19, 20, 21] (by decide +kernel) (by decide +kernel)
set_option maxRecDepth 20000 in
theorem gX4_takeSign_X4_blame : GoodIn wsX4_takeSign (wsV RX4 64 RX4 yX4_blame wsX4_blame) := goodIn_app (goodIn_of _ (by decide +kernel)) ggX4_takeSign_X4_blame
theorem dX4_takeSign_0 : decode cX4_takeSign 0 = .ok (.aload_n 0, 1) := by decide +kernel
theorem dX4_takeSign_1 : decode cX4_takeSign 1 = .ok (.invokevirtual 54, 3) := by decide +kernel
theorem dX4_takeSign_4 : decode cX4_takeSign 4 = .ok (.iload_n 1, 1) := by decide +kernel
theorem dX4_takeSign_5 : decode cX4_takeSign 5 = .ok (.if_icmp .eq 9, 3) := by decide +kernel
theorem dX4_takeSign_8 : decode cX4_takeSign 8 = .ok (.aload_n 0, 1) := by decide +kernel
theorem dX4_takeSign_9 : decode cX4_takeSign 9 = .ok (.iconst 1, 1) := by decide +kernel
theorem dX4_takeSign_10 : decode cX4_takeSign 10 = .ok (.invokevirtual 64, 3) := by decide +kernel
theorem dX4_takeSign_13 : decode cX4_takeSign 13 = .ok (.ireturn, 1) := by decide +kernel
theorem dX4_takeSign_14 : decode cX4_takeSign 14 = .ok (.aload_n 0, 1) := by decide +kernel
theorem dX4_takeSign_15 : decode cX4_takeSign 15 = .ok (.dup, 1) := by decide +kernel
theorem dX4_takeSign_16 : decode cX4_takeSign 16 = .ok (.getfield 24, 3) := by decide +kernel
theorem dX4_takeSign_19 : decode cX4_takeSign 19 = .ok (.iconst 1, 1) := by decide +kernel
theorem dX4_takeSign_20 : decode cX4_takeSign 20 = .ok (.iadd, 1) := by decide +kernel
theorem dX4_takeSign_21 : decode cX4_takeSign 21 = .ok (.putfield 24, 3) := by decide +kernel
theorem dX4_takeSign_24 : decode cX4_takeSign 24 = .ok (.iconst 1, 1) := by decide +kernel
theorem dX4_takeSign_25 : decode cX4_takeSign 25 = .ok (.ireturn, 1) := by decide +kernel
set_option maxRecDepth 20000 in
theorem ggX4_takeNumber_X4_isFigure : GoodIn wsX4_takeNumber wsX4_isFigure := goodIn_r _ [7, 8, 9, 10, 6, 11, 12, 2, 18, 19, 20, 21] (by decide +kernel) (by decide +kernel)
set_option maxRecDepth 20000 in
theorem gX4_takeNumber_X4_isFigure : GoodIn wsX4_takeNumber (wsV RX4 90 RX4 yX4_isFigure wsX4_isFigure) := goodIn_app (goodIn_of _ (by decide +kernel)) ggX4_takeNumber_X4_isFigure
set_option maxRecDepth 20000 in
theorem ggX4_takeNumber_X4_blame : GoodIn wsX4_takeNumber wsX4_blame := goodIn_r _ [16, 17, 18, 19, 20, 21] (by decide +kernel) (by decide +kernel)
set_option maxRecDepth 20000 in
theorem gX4_takeNumber_X4_blame : GoodIn wsX4_takeNumber (wsV RX4 64 RX4 yX4_blame wsX4_blame) := goodIn_app (goodIn_of _ (by decide +kernel)) ggX4_takeNumber_X4_blame
theorem dX4_takeNumber_0 : decode cX4_takeNumber 0 = .ok (.aload_n 0, 1) := by decide +kernel
theorem dX4_takeNumber_1 : decode cX4_takeNumber 1 = .ok (.aload_n 0, 1) := by decide +kernel
theorem dX4_takeNumber_2 : decode cX4_takeNumber 2 = .ok (.getfield 24, 3) := by decide +kernel
theorem dX4_takeNumber_5 : decode cX4_takeNumber 5 = .ok (.invokevirtual 90, 3) := by decide +kernel
theorem dX4_takeNumber_8 : decode cX4_takeNumber 8 = .ok (.ifCond .eq 29, 3) := by decide +kernel
theorem dX4_takeNumber_11 : decode cX4_takeNumber 11 = .ok (.aload_n 0, 1) := by decide +kernel
theorem dX4_takeNumber_12 : decode cX4_takeNumber 12 = .ok (.aload_n 0, 1) := by decide +kernel
theorem dX4_takeNumber_13 : decode cX4_takeNumber 13 = .ok (.getfield 24, 3) := by decide +kernel
theorem dX4_takeNumber_16 : decode cX4_takeNumber 16 = .ok (.iconst 1, 1) := by decide +kernel
theorem dX4_takeNumber_17 : decode cX4_takeNumber 17 = .ok (.iadd, 1) := by decide +kernel
theorem dX4_takeNumber_18 : decode cX4_takeNumber 18 = .ok (.invokevirtual 90, 3) := by decide +kernel
theorem dX4_takeNumber_21 : decode cX4_takeNumber 21 = .ok (.ifCond .eq 24, 3) := by decide +kernel
theorem dX4_takeNumber_24 : decode cX4_takeNumber 24 = .ok (.aload_n 0, 1) := by decide +kernel
theorem dX4_takeNumber_25 : decode cX4_takeNumber 25 = .ok (.aload_n 0, 1) := by decide +kernel
theorem dX4_takeNumber_26 : decode cX4_takeNumber 26 = .ok (.getfield 24, 3) := by decide +kernel
theorem dX4_takeNumber_29 : decode cX4_takeNumber 29 = .ok (.iconst 2, 1) := by decide +kernel
theorem dX4_takeNumber_30 : decode cX4_takeNumber 30 = .ok (.iadd, 1) := by decide +kernel
theorem dX4_takeNumber_31 : decode cX4_takeNumber 31 = .ok (.invokevirtual 90, 3) := by decide +kernel
theorem dX4_takeNumber_34 : decode cX4_takeNumber 34 = .ok (.ifCond .eq 11, 3) := by decide +kernel
theorem dX4_takeNumber_37 : decode cX4_takeNumber 37 = .ok (.aload_n 0, 1) := by decide +kernel
theorem dX4_takeNumber_38 : decode cX4_takeNumber 38 = .ok (.iconst 1, 1) := by decide +kernel
theorem dX4_takeNumber_39 : decode cX4_takeNumber 39 = .ok (.invokevirtual 64, 3) := by decide +kernel
theorem dX4_takeNumber_42 : decode cX4_takeNumber 42 = .ok (.pop, 1) := by decide +kernel
theorem dX4_takeNumber_43 : decode cX4_takeNumber 43 = .ok (.iload_n 1, 1) := by decide +kernel
theorem dX4_takeNumber_44 : decode cX4_takeNumber 44 = .ok (.ireturn, 1) := by decide +kernel
theorem dX4_takeNumber_45 : decode cX4_takeNumber 45 = .ok (.aload_n 0, 1) := by decide +kernel
theorem dX4_takeNumber_46 : decode cX4_takeNumber 46 = .ok (.getfield 9, 3) := by decide +kernel
theorem dX4_takeNumber_49 : decode cX4_takeNumber 49 = .ok (.aload_n 0, 1) := by decide +kernel
theorem dX4_takeNumber_50 : decode cX4_takeNumber 50 = .ok (.getfield 24, 3) := by decide +kernel
theorem dX4_takeNumber_53 : decode cX4_takeNumber 53 = .ok (.iaload, 1) := by decide +kernel
theorem dX4_takeNumber_54 : decode cX4_takeNumber 54 = .ok (.bipush 48, 2) := by decide +kernel
theorem dX4_takeNumber_56 : decode cX4_takeNumber 56 = .ok (.isub, 1) := by decide +kernel
theorem dX4_takeNumber_57 : decode cX4_takeNumber 57 = .ok (.istore_n 3, 1) := by decide +kernel
theorem dX4_takeNumber_58 : decode cX4_takeNumber 58 = .ok (.aload_n 0, 1) := by decide +kernel
theorem dX4_takeNumber_59 : decode cX4_takeNumber 59 = .ok (.getfield 24, 3) := by decide +kernel
theorem dX4_takeNumber_62 : decode cX4_takeNumber 62 = .ok (.iconst 1, 1) := by decide +kernel
theorem dX4_takeNumber_63 : decode cX4_takeNumber 63 = .ok (.iadd, 1) := by decide +kernel
theorem dX4_takeNumber_64 : decode cX4_takeNumber 64 = .ok (.istore 4, 2) := by decide +kernel
theorem dX4_takeNumber_66 : decode cX4_takeNumber 66 = .ok (.aload_n 0, 1) := by decide +kernel
theorem dX4_takeNumber_67 : decode cX4_takeNumber 67 = .ok (.iload 4, 2) := by decide +kernel
theorem dX4_takeNumber_69 : decode cX4_takeNumber 69 = .ok (.invokevirtual 90, 3) := by decide +kernel
theorem dX4_takeNumber_72 : decode cX4_takeNumber 72 = .ok (.ifCond .eq 22, 3) := by decide +kernel
theorem dX4_takeNumber_75 : decode cX4_takeNumber 75 = .ok (.iload_n 3, 1) := by decide +kernel
theorem dX4_takeNumber_76 : decode cX4_takeNumber 76 = .ok (.bipush 10, 2) := by decide +kernel
theorem dX4_takeNumber_78 : decode cX4_takeNumber 78 = .ok (.imul, 1) := by decide +kernel
theorem dX4_takeNumber_79 : decode cX4_takeNumber 79 = .ok (.aload_n 0, 1) := by decide +kernel
theorem dX4_takeNumber_80 : decode cX4_takeNumber 80 = .ok (.getfield 9, 3) := by decide +kernel
theorem dX4_takeNumber_83 : decode cX4_takeNumber 83 = .ok (.iload 4, 2) := by decide +kernel
theorem dX4_takeNumber_85 : decode cX4_takeNumber 85 = .ok (.iaload, 1) := by decide +kernel
theorem dX4_takeNumber_86 : decode cX4_takeNumber 86 = .ok (.iadd, 1) := by decide +kernel
theorem dX4_takeNumber_87 : decode cX4_takeNumber 87 = .ok (.bipush 48, 2) := by decide +kernel
theorem dX4_takeNumber_89 : decode cX4_takeNumber 89 = .ok (.isub, 1) := by decide +kernel
theorem dX4_takeNumber_90 : decode cX4_takeNumber 90 = .ok (.istore_n 3, 1) := by decide +kernel
theorem dX4_takeNumber_91 : decode cX4_takeNumber 91 = .ok (.iinc 4 1, 3) := by decide +kernel
theorem dX4_takeNumber_94 : decode cX4_takeNumber 94 = .ok (.iload_n 3, 1) := by decide +kernel
theorem dX4_takeNumber_95 : decode cX4_takeNumber 95 = .ok (.iload_n 1, 1) := by decide +kernel
theorem dX4_takeNumber_96 : decode cX4_takeNumber 96 = .ok (.if_icmp .lt 8, 3) := by decide +kernel
theorem dX4_takeNumber_99 : decode cX4_takeNumber 99 = .ok (.iload_n 3, 1) := by decide +kernel
theorem dX4_takeNumber_100 : decode cX4_takeNumber 100 = .ok (.iload_n 2, 1) := by decide +kernel
theorem dX4_takeNumber_101 : decode cX4_takeNumber 101 = .ok (.if_icmp .le 11, 3) := by decide +kernel
theorem dX4_takeNumber_104 : decode cX4_takeNumber 104 = .ok (.aload_n 0, 1) := by decide +kernel
theorem dX4_takeNumber_105 : decode cX4_takeNumber 105 = .ok (.iconst 2, 1) := by decide +kernel
theorem dX4_takeNumber_106 : decode cX4_takeNumber 106 = .ok (.invokevirtual 64, 3) := by decide +kernel
theorem dX4_takeNumber_109 : decode cX4_takeNumber 109 = .ok (.pop, 1) := by decide +kernel
theorem dX4_takeNumber_110 : decode cX4_takeNumber 110 = .ok (.iload_n 1, 1) := by decide +kernel
theorem dX4_takeNumber_111 : decode cX4_takeNumber 111 = .ok (.ireturn, 1) := by decide +kernel
theorem dX4_takeNumber_112 : decode cX4_takeNumber 112 = .ok (.aload_n 0, 1) := by decide +kernel
theorem dX4_takeNumber_113 : decode cX4_takeNumber 113 = .ok (.iload 4, 2) := by decide +kernel
theorem dX4_takeNumber_115 : decode cX4_takeNumber 115 = .ok (.putfield 24, 3) := by decide +kernel
theorem dX4_takeNumber_118 : decode cX4_takeNumber 118 = .ok (.iload_n 3, 1) := by decide +kernel
theorem dX4_takeNumber_119 : decode cX4_takeNumber 119 = .ok (.ireturn, 1) := by decide +kernel
theorem dX4_blame_0 : decode cX4_blame 0 = .ok (.aload_n 0, 1) := by decide +kernel
theorem dX4_blame_1 : decode cX4_blame 1 = .ok (.iload_n 1, 1) := by decide +kernel
theorem dX4_blame_2 : decode cX4_blame 2 = .ok (.putfield 27, 3) := by decide +kernel
theorem dX4_blame_5 : decode cX4_blame 5 = .ok (.iconst 0, 1) := by decide +kernel
theorem dX4_blame_6 : decode cX4_blame 6 = .ok (.ireturn, 1) := by decide +kernel
end
section
theorem inlX5 : ∀ w ∈ wsX50, w ∈ wsL_law := fun _ h => List.mem_append_left _ (List.mem_append_left _ (List.mem_append_left _ (List.mem_append_left _ (List.mem_append_left _ (List.mem_append_left _ (List.mem_append_left _ (List.mem_append_right _ h)))))))
set_option maxRecDepth 20000 in
theorem ggX5_init_X4_init : GoodIn wsX5_init wsX4_init := goodIn_r _ [29, 30, 2, 3, 15, 31, 64, 65, 66, 67] (by decide +kernel) (by decide +kernel)
set_option maxRecDepth 20000 in
theorem gX5_init_X4_init_n17 : GoodIn wsX5_init (wsX4_init) := ggX5_init_X4_init
set_option maxRecDepth 20000 in
theorem ggX5_init_X2_init : GoodIn wsX5_init wsX2_init := goodIn_r _ [33, 34, 2, 3, 15, 35, 36, 37, 38, 39, 40, 68, 69, 70, 71, 72, 73, 74, 75, 76, 77, 78, 79] (by decide +kernel) (by decide +kernel)
set_option maxRecDepth 20000 in
theorem gX5_init_X2_init_n24 : GoodIn wsX5_init (wsX2_init) := ggX5_init_X2_init
set_option maxRecDepth 20000 in
theorem ggX5_init_X0_init : GoodIn wsX5_init wsX0_init := goodIn_r _ [42, 43, 2, 3, 15, 44, 80, 81, 82] (by decide +kernel) (by decide +kernel)
set_option maxRecDepth 20000 in
theorem gX5_init_X0_init_n42 : GoodIn wsX5_init (wsX0_init) := ggX5_init_X0_init
set_option maxRecDepth 20000 in
theorem ggX5_init_X1_init : GoodIn wsX5_init wsX1_init := goodIn_r _ [46, 47, 2, 3, 15, 48, 83, 84] (by decide +kernel) (by decide +kernel)
set_option maxRecDepth 20000 in
theorem gX5_init_X1_init_n49 : GoodIn wsX5_init (wsX1_init) := ggX5_init_X1_init
set_option maxRecDepth 20000 in
theorem ggX5_init_X3_init : GoodIn wsX5_init wsX3_init := goodIn_r _ [50, 51, 2, 3, 15, 52, 53, 85, 86, 87, 88] (by decide +kernel) (by decide +kernel)
set_option maxRecDepth 20000 in
theorem gX5_init_X3_init_n54 : GoodIn wsX5_init (wsX3_init) := ggX5_init_X3_init
theorem dX5_init_0 : decode cX5_init 0 = .ok (.aload_n 0, 1) := by decide +kernel
theorem dX5_init_1 : decode cX5_init 1 = .ok (.invokespecial 1, 3) := by decide +kernel
theorem dX5_init_4 : decode cX5_init 4 = .ok (.aload_n 0, 1) := by decide +kernel
theorem dX5_init_5 : decode cX5_init 5 = .ok (.bipush 8, 2) := by decide +kernel
theorem dX5_init_7 : decode cX5_init 7 = .ok (.anewarray 9, 3) := by decide +kernel
theorem dX5_init_10 : decode cX5_init 10 = .ok (.putfield 11, 3) := by decide +kernel
theorem dX5_init_13 : decode cX5_init 13 = .ok (.aload_n 0, 1) := by decide +kernel
theorem dX5_init_14 : decode cX5_init 14 = .ok (.new 15, 3) := by decide +kernel
theorem dX5_init_17 : decode cX5_init 17 = .ok (.dup, 1) := by decide +kernel
theorem dX5_init_18 : decode cX5_init 18 = .ok (.invokespecial 17, 3) := by decide +kernel
theorem dX5_init_21 : decode cX5_init 21 = .ok (.putfield 18, 3) := by decide +kernel
theorem dX5_init_24 : decode cX5_init 24 = .ok (.aload_n 0, 1) := by decide +kernel
theorem dX5_init_25 : decode cX5_init 25 = .ok (.new 22, 3) := by decide +kernel
theorem dX5_init_28 : decode cX5_init 28 = .ok (.dup, 1) := by decide +kernel
theorem dX5_init_29 : decode cX5_init 29 = .ok (.invokespecial 24, 3) := by decide +kernel
theorem dX5_init_32 : decode cX5_init 32 = .ok (.putfield 25, 3) := by decide +kernel
theorem dX5_init_35 : decode cX5_init 35 = .ok (.aload_n 0, 1) := by decide +kernel
theorem dX5_init_36 : decode cX5_init 36 = .ok (.new 22, 3) := by decide +kernel
theorem dX5_init_39 : decode cX5_init 39 = .ok (.dup, 1) := by decide +kernel
theorem dX5_init_40 : decode cX5_init 40 = .ok (.invokespecial 24, 3) := by decide +kernel
theorem dX5_init_43 : decode cX5_init 43 = .ok (.putfield 29, 3) := by decide +kernel
theorem dX5_init_46 : decode cX5_init 46 = .ok (.aload_n 0, 1) := by decide +kernel
theorem dX5_init_47 : decode cX5_init 47 = .ok (.bipush 72, 2) := by decide +kernel
theorem dX5_init_49 : decode cX5_init 49 = .ok (.newarray .int, 2) := by decide +kernel
theorem dX5_init_51 : decode cX5_init 51 = .ok (.putfield 32, 3) := by decide +kernel
theorem dX5_init_54 : decode cX5_init 54 = .ok (.aload_n 0, 1) := by decide +kernel
theorem dX5_init_55 : decode cX5_init 55 = .ok (.iconst 2, 1) := by decide +kernel
theorem dX5_init_56 : decode cX5_init 56 = .ok (.anewarray 22, 3) := by decide +kernel
theorem dX5_init_59 : decode cX5_init 59 = .ok (.putfield 36, 3) := by decide +kernel
theorem dX5_init_62 : decode cX5_init 62 = .ok (.aload_n 0, 1) := by decide +kernel
theorem dX5_init_63 : decode cX5_init 63 = .ok (.new 40, 3) := by decide +kernel
theorem dX5_init_66 : decode cX5_init 66 = .ok (.dup, 1) := by decide +kernel
theorem dX5_init_67 : decode cX5_init 67 = .ok (.invokespecial 42, 3) := by decide +kernel
theorem dX5_init_70 : decode cX5_init 70 = .ok (.putfield 43, 3) := by decide +kernel
theorem dX5_init_73 : decode cX5_init 73 = .ok (.aload_n 0, 1) := by decide +kernel
theorem dX5_init_74 : decode cX5_init 74 = .ok (.new 47, 3) := by decide +kernel
theorem dX5_init_77 : decode cX5_init 77 = .ok (.dup, 1) := by decide +kernel
theorem dX5_init_78 : decode cX5_init 78 = .ok (.invokespecial 49, 3) := by decide +kernel
theorem dX5_init_81 : decode cX5_init 81 = .ok (.putfield 50, 3) := by decide +kernel
theorem dX5_init_84 : decode cX5_init 84 = .ok (.iconst 0, 1) := by decide +kernel
theorem dX5_init_85 : decode cX5_init 85 = .ok (.istore_n 1, 1) := by decide +kernel
theorem dX5_init_86 : decode cX5_init 86 = .ok (.iload_n 1, 1) := by decide +kernel
theorem dX5_init_87 : decode cX5_init 87 = .ok (.bipush 8, 2) := by decide +kernel
theorem dX5_init_89 : decode cX5_init 89 = .ok (.if_icmp .ge 22, 3) := by decide +kernel
theorem dX5_init_92 : decode cX5_init 92 = .ok (.aload_n 0, 1) := by decide +kernel
theorem dX5_init_93 : decode cX5_init 93 = .ok (.getfield 11, 3) := by decide +kernel
theorem dX5_init_96 : decode cX5_init 96 = .ok (.iload_n 1, 1) := by decide +kernel
theorem dX5_init_97 : decode cX5_init 97 = .ok (.new 9, 3) := by decide +kernel
theorem dX5_init_100 : decode cX5_init 100 = .ok (.dup, 1) := by decide +kernel
theorem dX5_init_101 : decode cX5_init 101 = .ok (.invokespecial 54, 3) := by decide +kernel
theorem dX5_init_104 : decode cX5_init 104 = .ok (.aastore, 1) := by decide +kernel
theorem dX5_init_105 : decode cX5_init 105 = .ok (.iinc 1 1, 3) := by decide +kernel
theorem dX5_init_108 : decode cX5_init 108 = .ok (.goto (-22), 3) := by decide +kernel
theorem dX5_init_111 : decode cX5_init 111 = .ok (.iconst 0, 1) := by decide +kernel
theorem dX5_init_112 : decode cX5_init 112 = .ok (.istore_n 1, 1) := by decide +kernel
theorem dX5_init_113 : decode cX5_init 113 = .ok (.iload_n 1, 1) := by decide +kernel
theorem dX5_init_114 : decode cX5_init 114 = .ok (.iconst 2, 1) := by decide +kernel
theorem dX5_init_115 : decode cX5_init 115 = .ok (.if_icmp .ge 22, 3) := by decide +kernel
theorem dX5_init_118 : decode cX5_init 118 = .ok (.aload_n 0, 1) := by decide +kernel
theorem dX5_init_119 : decode cX5_init 119 = .ok (.getfield 36, 3) := by decide +kernel
theorem dX5_init_122 : decode cX5_init 122 = .ok (.iload_n 1, 1) := by decide +kernel
theorem dX5_init_123 : decode cX5_init 123 = .ok (.new 22, 3) := by decide +kernel
theorem dX5_init_126 : decode cX5_init 126 = .ok (.dup, 1) := by decide +kernel
theorem dX5_init_127 : decode cX5_init 127 = .ok (.invokespecial 24, 3) := by decide +kernel
theorem dX5_init_130 : decode cX5_init 130 = .ok (.aastore, 1) := by decide +kernel
theorem dX5_init_131 : decode cX5_init 131 = .ok (.iinc 1 1, 3) := by decide +kernel
theorem dX5_init_134 : decode cX5_init 134 = .ok (.goto (-21), 3) := by decide +kernel
theorem dX5_init_137 : decode cX5_init 137 = .ok (.return_, 1) := by decide +kernel
set_option maxRecDepth 20000 in
theorem ggX5_row_X5_isRow : GoodIn wsX5_row wsX5_isRow := goodIn_r _ [6] (by decide +kernel) (by decide +kernel)
set_option maxRecDepth 20000 in
theorem gX5_row_X5_isRow : GoodIn wsX5_row (va_wsS RX5 55 yX5_isRow wsX5_isRow) := goodIn_app (goodIn_of _ (by decide +kernel)) ggX5_row_X5_isRow
set_option maxRecDepth 20000 in
theorem ggX5_row_X5_found : GoodIn wsX5_row wsX5_found := goodIn_r _ [10, 11, 12, 25, 26, 27, 28, 29, 30, 31, 32, 33, 34] (by decide +kernel) (by decide +kernel)
set_option maxRecDepth 20000 in
theorem gX5_row_X5_found : GoodIn wsX5_row (wsV RX5 60 RX5 yX5_found wsX5_found) := goodIn_app (goodIn_of _ (by decide +kernel)) ggX5_row_X5_found
set_option maxRecDepth 20000 in
theorem ggX5_row_X3_begin : GoodIn wsX5_row wsX3_begin := goodIn_r _ [16, 17, 18, 19, 20, 35, 36, 37, 38] (by decide +kernel) (by decide +kernel)
set_option maxRecDepth 20000 in
theorem gX5_row_X3_begin_n64 : GoodIn wsX5_row (wsX3_begin) := ggX5_row_X3_begin
set_option maxRecDepth 20000 in
theorem ggX5_row_X5_foundNothing : GoodIn wsX5_row wsX5_foundNothing := goodIn_r _ [24, 11, 25, 26, 27, 28, 29, 30, 31, 32, 33, 34] (by decide +kernel) (by decide +kernel)
set_option maxRecDepth 20000 in
theorem gX5_row_X5_foundNothing : GoodIn wsX5_row (wsV RX5 68 RX5 yX5_foundNothing wsX5_foundNothing) := goodIn_app (goodIn_of _ (by decide +kernel)) ggX5_row_X5_foundNothing
theorem dX5_row_0 : decode cX5_row 0 = .ok (.iload_n 1, 1) := by decide +kernel
theorem dX5_row_1 : decode cX5_row 1 = .ok (.invokestatic 55, 3) := by decide +kernel
theorem dX5_row_4 : decode cX5_row 4 = .ok (.ifCond .eq 18, 3) := by decide +kernel
theorem dX5_row_7 : decode cX5_row 7 = .ok (.iload_n 2, 1) := by decide +kernel
theorem dX5_row_8 : decode cX5_row 8 = .ok (.ifCond .lt 14, 3) := by decide +kernel
theorem dX5_row_11 : decode cX5_row 11 = .ok (.iload_n 2, 1) := by decide +kernel
theorem dX5_row_12 : decode cX5_row 12 = .ok (.iconst 3, 1) := by decide +kernel
theorem dX5_row_13 : decode cX5_row 13 = .ok (.if_icmp .ge 9, 3) := by decide +kernel
theorem dX5_row_16 : decode cX5_row 16 = .ok (.iload_n 3, 1) := by decide +kernel
theorem dX5_row_17 : decode cX5_row 17 = .ok (.bipush 40, 2) := by decide +kernel
theorem dX5_row_19 : decode cX5_row 19 = .ok (.if_icmp .le 6, 3) := by decide +kernel
theorem dX5_row_22 : decode cX5_row 22 = .ok (.ldc 59, 2) := by decide +kernel
theorem dX5_row_24 : decode cX5_row 24 = .ok (.ireturn, 1) := by decide +kernel
theorem dX5_row_25 : decode cX5_row 25 = .ok (.iload_n 3, 1) := by decide +kernel
theorem dX5_row_26 : decode cX5_row 26 = .ok (.ifCond .ge 9, 3) := by decide +kernel
theorem dX5_row_29 : decode cX5_row 29 = .ok (.aload_n 0, 1) := by decide +kernel
theorem dX5_row_30 : decode cX5_row 30 = .ok (.iconst 4, 1) := by decide +kernel
theorem dX5_row_31 : decode cX5_row 31 = .ok (.invokevirtual 60, 3) := by decide +kernel
theorem dX5_row_34 : decode cX5_row 34 = .ok (.ireturn, 1) := by decide +kernel
theorem dX5_row_35 : decode cX5_row 35 = .ok (.aload_n 0, 1) := by decide +kernel
theorem dX5_row_36 : decode cX5_row 36 = .ok (.getfield 11, 3) := by decide +kernel
theorem dX5_row_39 : decode cX5_row 39 = .ok (.iload_n 1, 1) := by decide +kernel
theorem dX5_row_40 : decode cX5_row 40 = .ok (.aaload, 1) := by decide +kernel
theorem dX5_row_41 : decode cX5_row 41 = .ok (.iload_n 2, 1) := by decide +kernel
theorem dX5_row_42 : decode cX5_row 42 = .ok (.iload_n 3, 1) := by decide +kernel
theorem dX5_row_43 : decode cX5_row 43 = .ok (.invokevirtual 64, 3) := by decide +kernel
theorem dX5_row_46 : decode cX5_row 46 = .ok (.aload_n 0, 1) := by decide +kernel
theorem dX5_row_47 : decode cX5_row 47 = .ok (.iload_n 3, 1) := by decide +kernel
theorem dX5_row_48 : decode cX5_row 48 = .ok (.invokevirtual 68, 3) := by decide +kernel
theorem dX5_row_51 : decode cX5_row 51 = .ok (.ireturn, 1) := by decide +kernel
set_option maxRecDepth 20000 in
theorem ggX5_set_X5_isRow : GoodIn wsX5_set wsX5_isRow := goodIn_r _ [6] (by decide +kernel) (by decide +kernel)
set_option maxRecDepth 20000 in
theorem gX5_set_X5_isRow : GoodIn wsX5_set (va_wsS RX5 55 yX5_isRow wsX5_isRow) := goodIn_app (goodIn_of _ (by decide +kernel)) ggX5_set_X5_isRow
set_option maxRecDepth 20000 in
theorem ggX5_set_X5_found : GoodIn wsX5_set wsX5_found := goodIn_r _ [10, 11, 12, 26, 27, 28, 29, 30, 31, 32, 33, 34, 35] (by decide +kernel) (by decide +kernel)
set_option maxRecDepth 20000 in
theorem gX5_set_X5_found : GoodIn wsX5_set (wsV RX5 60 RX5 yX5_found wsX5_found) := goodIn_app (goodIn_of _ (by decide +kernel)) ggX5_set_X5_found
set_option maxRecDepth 20000 in
theorem ggX5_set_X3_hasPlaces : GoodIn wsX5_set wsX3_hasPlaces := goodIn_r _ [16, 17, 36, 37, 38, 39] (by decide +kernel) (by decide +kernel)
set_option maxRecDepth 20000 in
theorem gX5_set_X3_hasPlaces_n75 : GoodIn wsX5_set (wsX3_hasPlaces) := ggX5_set_X3_hasPlaces
set_option maxRecDepth 20000 in
theorem ggX5_set_X3_cut : GoodIn wsX5_set wsX3_cut := goodIn_r _ [20, 21, 36, 37, 38, 39] (by decide +kernel) (by decide +kernel)
set_option maxRecDepth 20000 in
theorem gX5_set_X3_cut_n82 : GoodIn wsX5_set (wsX3_cut) := ggX5_set_X3_cut
set_option maxRecDepth 20000 in
theorem ggX5_set_X5_foundNothing : GoodIn wsX5_set wsX5_foundNothing := goodIn_r _ [25, 11, 26, 27, 28, 29, 30, 31, 32, 33, 34, 35] (by decide +kernel) (by decide +kernel)
set_option maxRecDepth 20000 in
theorem gX5_set_X5_foundNothing : GoodIn wsX5_set (wsV RX5 68 RX5 yX5_foundNothing wsX5_foundNothing) := goodIn_app (goodIn_of _ (by decide +kernel)) ggX5_set_X5_foundNothing
theorem dX5_set_0 : decode cX5_set 0 = .ok (.iload_n 1, 1) := by decide +kernel
theorem dX5_set_1 : decode cX5_set 1 = .ok (.invokestatic 55, 3) := by decide +kernel
theorem dX5_set_4 : decode cX5_set 4 = .ok (.ifCond .ne 6, 3) := by decide +kernel
theorem dX5_set_7 : decode cX5_set 7 = .ok (.ldc 59, 2) := by decide +kernel
theorem dX5_set_9 : decode cX5_set 9 = .ok (.ireturn, 1) := by decide +kernel
theorem dX5_set_10 : decode cX5_set 10 = .ok (.aload_n 0, 1) := by decide +kernel
theorem dX5_set_11 : decode cX5_set 11 = .ok (.getfield 11, 3) := by decide +kernel
theorem dX5_set_14 : decode cX5_set 14 = .ok (.iload_n 1, 1) := by decide +kernel
theorem dX5_set_15 : decode cX5_set 15 = .ok (.aaload, 1) := by decide +kernel
theorem dX5_set_16 : decode cX5_set 16 = .ok (.astore 4, 2) := by decide +kernel
theorem dX5_set_18 : decode cX5_set 18 = .ok (.aload 4, 2) := by decide +kernel
theorem dX5_set_20 : decode cX5_set 20 = .ok (.getfield 71, 3) := by decide +kernel
theorem dX5_set_23 : decode cX5_set 23 = .ok (.ifCond .eq 9, 3) := by decide +kernel
theorem dX5_set_26 : decode cX5_set 26 = .ok (.aload_n 0, 1) := by decide +kernel
theorem dX5_set_27 : decode cX5_set 27 = .ok (.iconst 1, 1) := by decide +kernel
theorem dX5_set_28 : decode cX5_set 28 = .ok (.invokevirtual 60, 3) := by decide +kernel
theorem dX5_set_31 : decode cX5_set 31 = .ok (.ireturn, 1) := by decide +kernel
theorem dX5_set_32 : decode cX5_set 32 = .ok (.aload 4, 2) := by decide +kernel
theorem dX5_set_34 : decode cX5_set 34 = .ok (.iload_n 2, 1) := by decide +kernel
theorem dX5_set_35 : decode cX5_set 35 = .ok (.iconst 1, 1) := by decide +kernel
theorem dX5_set_36 : decode cX5_set 36 = .ok (.invokevirtual 75, 3) := by decide +kernel
theorem dX5_set_39 : decode cX5_set 39 = .ok (.ifCond .ne 9, 3) := by decide +kernel
theorem dX5_set_42 : decode cX5_set 42 = .ok (.aload_n 0, 1) := by decide +kernel
theorem dX5_set_43 : decode cX5_set 43 = .ok (.iconst 2, 1) := by decide +kernel
theorem dX5_set_44 : decode cX5_set 44 = .ok (.invokevirtual 60, 3) := by decide +kernel
theorem dX5_set_47 : decode cX5_set 47 = .ok (.ireturn, 1) := by decide +kernel
theorem dX5_set_48 : decode cX5_set 48 = .ok (.aload 4, 2) := by decide +kernel
theorem dX5_set_50 : decode cX5_set 50 = .ok (.getfield 79, 3) := by decide +kernel
theorem dX5_set_53 : decode cX5_set 53 = .ok (.iload_n 2, 1) := by decide +kernel
theorem dX5_set_54 : decode cX5_set 54 = .ok (.aload 4, 2) := by decide +kernel
theorem dX5_set_56 : decode cX5_set 56 = .ok (.iload_n 3, 1) := by decide +kernel
theorem dX5_set_57 : decode cX5_set 57 = .ok (.invokevirtual 82, 3) := by decide +kernel
theorem dX5_set_60 : decode cX5_set 60 = .ok (.iastore, 1) := by decide +kernel
theorem dX5_set_61 : decode cX5_set 61 = .ok (.aload_n 0, 1) := by decide +kernel
theorem dX5_set_62 : decode cX5_set 62 = .ok (.aload 4, 2) := by decide +kernel
theorem dX5_set_64 : decode cX5_set 64 = .ok (.getfield 79, 3) := by decide +kernel
theorem dX5_set_67 : decode cX5_set 67 = .ok (.iload_n 2, 1) := by decide +kernel
theorem dX5_set_68 : decode cX5_set 68 = .ok (.iaload, 1) := by decide +kernel
theorem dX5_set_69 : decode cX5_set 69 = .ok (.invokevirtual 68, 3) := by decide +kernel
theorem dX5_set_72 : decode cX5_set 72 = .ok (.ireturn, 1) := by decide +kernel
set_option maxRecDepth 20000 in
theorem ggX5_copy_X5_isRow : GoodIn wsX5_copy wsX5_isRow := goodIn_r _ [10] (by decide +kernel) (by decide +kernel)
set_option maxRecDepth 20000 in
theorem gX5_copy_X5_isRow : GoodIn wsX5_copy (va_wsS RX5 55 yX5_isRow wsX5_isRow) := goodIn_app (goodIn_of _ (by decide +kernel)) ggX5_copy_X5_isRow
set_option maxRecDepth 20000 in
theorem ggX5_copy_X5_found : GoodIn wsX5_copy wsX5_found := goodIn_r _ [14, 15, 16, 26, 27, 28, 29, 30, 31, 32, 33, 34, 35] (by decide +kernel) (by decide +kernel)
set_option maxRecDepth 20000 in
theorem gX5_copy_X5_found : GoodIn wsX5_copy (wsV RX5 60 RX5 yX5_found wsX5_found) := goodIn_app (goodIn_of _ (by decide +kernel)) ggX5_copy_X5_found
set_option maxRecDepth 20000 in
theorem ggX5_copy_X3_hasPlaces : GoodIn wsX5_copy wsX3_hasPlaces := goodIn_r _ [20, 21, 36, 37, 38, 39] (by decide +kernel) (by decide +kernel)
set_option maxRecDepth 20000 in
theorem gX5_copy_X3_hasPlaces_n75 : GoodIn wsX5_copy (wsX3_hasPlaces) := ggX5_copy_X3_hasPlaces
set_option maxRecDepth 20000 in
theorem ggX5_copy_X5_foundNothing : GoodIn wsX5_copy wsX5_foundNothing := goodIn_r _ [25, 15, 26, 27, 28, 29, 30, 31, 32, 33, 34, 35] (by decide +kernel) (by decide +kernel)
set_option maxRecDepth 20000 in
theorem gX5_copy_X5_foundNothing : GoodIn wsX5_copy (wsV RX5 68 RX5 yX5_foundNothing wsX5_foundNothing) := goodIn_app (goodIn_of _ (by decide +kernel)) ggX5_copy_X5_foundNothing
theorem dX5_copy_0 : decode cX5_copy 0 = .ok (.iload_n 1, 1) := by decide +kernel
theorem dX5_copy_1 : decode cX5_copy 1 = .ok (.invokestatic 55, 3) := by decide +kernel
theorem dX5_copy_4 : decode cX5_copy 4 = .ok (.ifCond .eq 10, 3) := by decide +kernel
theorem dX5_copy_7 : decode cX5_copy 7 = .ok (.iload_n 3, 1) := by decide +kernel
theorem dX5_copy_8 : decode cX5_copy 8 = .ok (.invokestatic 55, 3) := by decide +kernel
theorem dX5_copy_11 : decode cX5_copy 11 = .ok (.ifCond .ne 6, 3) := by decide +kernel
theorem dX5_copy_14 : decode cX5_copy 14 = .ok (.ldc 59, 2) := by decide +kernel
theorem dX5_copy_16 : decode cX5_copy 16 = .ok (.ireturn, 1) := by decide +kernel
theorem dX5_copy_17 : decode cX5_copy 17 = .ok (.aload_n 0, 1) := by decide +kernel
theorem dX5_copy_18 : decode cX5_copy 18 = .ok (.getfield 11, 3) := by decide +kernel
theorem dX5_copy_21 : decode cX5_copy 21 = .ok (.iload_n 1, 1) := by decide +kernel
theorem dX5_copy_22 : decode cX5_copy 22 = .ok (.aaload, 1) := by decide +kernel
theorem dX5_copy_23 : decode cX5_copy 23 = .ok (.astore 6, 2) := by decide +kernel
theorem dX5_copy_25 : decode cX5_copy 25 = .ok (.aload_n 0, 1) := by decide +kernel
theorem dX5_copy_26 : decode cX5_copy 26 = .ok (.getfield 11, 3) := by decide +kernel
theorem dX5_copy_29 : decode cX5_copy 29 = .ok (.iload_n 3, 1) := by decide +kernel
theorem dX5_copy_30 : decode cX5_copy 30 = .ok (.aaload, 1) := by decide +kernel
theorem dX5_copy_31 : decode cX5_copy 31 = .ok (.astore 7, 2) := by decide +kernel
theorem dX5_copy_33 : decode cX5_copy 33 = .ok (.aload 6, 2) := by decide +kernel
theorem dX5_copy_35 : decode cX5_copy 35 = .ok (.getfield 71, 3) := by decide +kernel
theorem dX5_copy_38 : decode cX5_copy 38 = .ok (.ifCond .ne 11, 3) := by decide +kernel
theorem dX5_copy_41 : decode cX5_copy 41 = .ok (.aload 7, 2) := by decide +kernel
theorem dX5_copy_43 : decode cX5_copy 43 = .ok (.getfield 71, 3) := by decide +kernel
theorem dX5_copy_46 : decode cX5_copy 46 = .ok (.ifCond .eq 9, 3) := by decide +kernel
theorem dX5_copy_49 : decode cX5_copy 49 = .ok (.aload_n 0, 1) := by decide +kernel
theorem dX5_copy_50 : decode cX5_copy 50 = .ok (.iconst 1, 1) := by decide +kernel
theorem dX5_copy_51 : decode cX5_copy 51 = .ok (.invokevirtual 60, 3) := by decide +kernel
theorem dX5_copy_54 : decode cX5_copy 54 = .ok (.ireturn, 1) := by decide +kernel
theorem dX5_copy_55 : decode cX5_copy 55 = .ok (.aload 6, 2) := by decide +kernel
theorem dX5_copy_57 : decode cX5_copy 57 = .ok (.getfield 85, 3) := by decide +kernel
theorem dX5_copy_60 : decode cX5_copy 60 = .ok (.aload 7, 2) := by decide +kernel
theorem dX5_copy_62 : decode cX5_copy 62 = .ok (.getfield 85, 3) := by decide +kernel
theorem dX5_copy_65 : decode cX5_copy 65 = .ok (.if_icmp .eq 9, 3) := by decide +kernel
theorem dX5_copy_68 : decode cX5_copy 68 = .ok (.aload_n 0, 1) := by decide +kernel
theorem dX5_copy_69 : decode cX5_copy 69 = .ok (.iconst 5, 1) := by decide +kernel
theorem dX5_copy_70 : decode cX5_copy 70 = .ok (.invokevirtual 60, 3) := by decide +kernel
theorem dX5_copy_73 : decode cX5_copy 73 = .ok (.ireturn, 1) := by decide +kernel
theorem dX5_copy_74 : decode cX5_copy 74 = .ok (.aload 6, 2) := by decide +kernel
theorem dX5_copy_76 : decode cX5_copy 76 = .ok (.iload_n 2, 1) := by decide +kernel
theorem dX5_copy_77 : decode cX5_copy 77 = .ok (.iload 5, 2) := by decide +kernel
theorem dX5_copy_79 : decode cX5_copy 79 = .ok (.invokevirtual 75, 3) := by decide +kernel
theorem dX5_copy_82 : decode cX5_copy 82 = .ok (.ifCond .eq 15, 3) := by decide +kernel
theorem dX5_copy_85 : decode cX5_copy 85 = .ok (.aload 7, 2) := by decide +kernel
theorem dX5_copy_87 : decode cX5_copy 87 = .ok (.iload 4, 2) := by decide +kernel
theorem dX5_copy_89 : decode cX5_copy 89 = .ok (.iload 5, 2) := by decide +kernel
theorem dX5_copy_91 : decode cX5_copy 91 = .ok (.invokevirtual 75, 3) := by decide +kernel
theorem dX5_copy_94 : decode cX5_copy 94 = .ok (.ifCond .ne 9, 3) := by decide +kernel
theorem dX5_copy_97 : decode cX5_copy 97 = .ok (.aload_n 0, 1) := by decide +kernel
theorem dX5_copy_98 : decode cX5_copy 98 = .ok (.iconst 2, 1) := by decide +kernel
theorem dX5_copy_99 : decode cX5_copy 99 = .ok (.invokevirtual 60, 3) := by decide +kernel
theorem dX5_copy_102 : decode cX5_copy 102 = .ok (.ireturn, 1) := by decide +kernel
theorem dX5_copy_103 : decode cX5_copy 103 = .ok (.aload 6, 2) := by decide +kernel
theorem dX5_copy_105 : decode cX5_copy 105 = .ok (.getfield 79, 3) := by decide +kernel
theorem dX5_copy_108 : decode cX5_copy 108 = .ok (.iload_n 2, 1) := by decide +kernel
theorem dX5_copy_109 : decode cX5_copy 109 = .ok (.aload 7, 2) := by decide +kernel
theorem dX5_copy_111 : decode cX5_copy 111 = .ok (.getfield 79, 3) := by decide +kernel
theorem dX5_copy_114 : decode cX5_copy 114 = .ok (.iload 4, 2) := by decide +kernel
theorem dX5_copy_116 : decode cX5_copy 116 = .ok (.iload 5, 2) := by decide +kernel
theorem dX5_copy_118 : decode cX5_copy 118 = .ok (.invokestatic 89, 3) := by decide +kernel
theorem dX5_copy_121 : decode cX5_copy 121 = .ok (.aload_n 0, 1) := by decide +kernel
theorem dX5_copy_122 : decode cX5_copy 122 = .ok (.iload 5, 2) := by decide +kernel
theorem dX5_copy_124 : decode cX5_copy 124 = .ok (.invokevirtual 68, 3) := by decide +kernel
theorem dX5_copy_127 : decode cX5_copy 127 = .ok (.ireturn, 1) := by decide +kernel
set_option maxRecDepth 20000 in
theorem ggX5_drop_X5_isRow : GoodIn wsX5_drop wsX5_isRow := goodIn_r _ [6] (by decide +kernel) (by decide +kernel)
set_option maxRecDepth 20000 in
theorem gX5_drop_X5_isRow : GoodIn wsX5_drop (va_wsS RX5 55 yX5_isRow wsX5_isRow) := goodIn_app (goodIn_of _ (by decide +kernel)) ggX5_drop_X5_isRow
set_option maxRecDepth 20000 in
theorem ggX5_drop_X5_found : GoodIn wsX5_drop wsX5_found := goodIn_r _ [10, 11, 12, 17, 18, 19, 20, 21, 22, 23, 24, 25, 26] (by decide +kernel) (by decide +kernel)
set_option maxRecDepth 20000 in
theorem gX5_drop_X5_found : GoodIn wsX5_drop (wsV RX5 60 RX5 yX5_found wsX5_found) := goodIn_app (goodIn_of _ (by decide +kernel)) ggX5_drop_X5_found
set_option maxRecDepth 20000 in
theorem ggX5_drop_X5_foundNothing : GoodIn wsX5_drop wsX5_foundNothing := goodIn_r _ [16, 11, 17, 18, 19, 20, 21, 22, 23, 24, 25, 26] (by decide +kernel) (by decide +kernel)
set_option maxRecDepth 20000 in
theorem gX5_drop_X5_foundNothing : GoodIn wsX5_drop (wsV RX5 68 RX5 yX5_foundNothing wsX5_foundNothing) := goodIn_app (goodIn_of _ (by decide +kernel)) ggX5_drop_X5_foundNothing
theorem dX5_drop_0 : decode cX5_drop 0 = .ok (.iload_n 1, 1) := by decide +kernel
theorem dX5_drop_1 : decode cX5_drop 1 = .ok (.invokestatic 55, 3) := by decide +kernel
theorem dX5_drop_4 : decode cX5_drop 4 = .ok (.ifCond .ne 6, 3) := by decide +kernel
theorem dX5_drop_7 : decode cX5_drop 7 = .ok (.ldc 59, 2) := by decide +kernel
theorem dX5_drop_9 : decode cX5_drop 9 = .ok (.ireturn, 1) := by decide +kernel
theorem dX5_drop_10 : decode cX5_drop 10 = .ok (.aload_n 0, 1) := by decide +kernel
theorem dX5_drop_11 : decode cX5_drop 11 = .ok (.getfield 11, 3) := by decide +kernel
theorem dX5_drop_14 : decode cX5_drop 14 = .ok (.iload_n 1, 1) := by decide +kernel
theorem dX5_drop_15 : decode cX5_drop 15 = .ok (.aaload, 1) := by decide +kernel
theorem dX5_drop_16 : decode cX5_drop 16 = .ok (.astore_n 2, 1) := by decide +kernel
theorem dX5_drop_17 : decode cX5_drop 17 = .ok (.aload_n 2, 1) := by decide +kernel
theorem dX5_drop_18 : decode cX5_drop 18 = .ok (.getfield 71, 3) := by decide +kernel
theorem dX5_drop_21 : decode cX5_drop 21 = .ok (.ifCond .eq 9, 3) := by decide +kernel
theorem dX5_drop_24 : decode cX5_drop 24 = .ok (.aload_n 0, 1) := by decide +kernel
theorem dX5_drop_25 : decode cX5_drop 25 = .ok (.iconst 1, 1) := by decide +kernel
theorem dX5_drop_26 : decode cX5_drop 26 = .ok (.invokevirtual 60, 3) := by decide +kernel
theorem dX5_drop_29 : decode cX5_drop 29 = .ok (.ireturn, 1) := by decide +kernel
theorem dX5_drop_30 : decode cX5_drop 30 = .ok (.aload_n 2, 1) := by decide +kernel
theorem dX5_drop_31 : decode cX5_drop 31 = .ok (.iconst 1, 1) := by decide +kernel
theorem dX5_drop_32 : decode cX5_drop 32 = .ok (.putfield 71, 3) := by decide +kernel
theorem dX5_drop_35 : decode cX5_drop 35 = .ok (.aload_n 0, 1) := by decide +kernel
theorem dX5_drop_36 : decode cX5_drop 36 = .ok (.aload_n 2, 1) := by decide +kernel
theorem dX5_drop_37 : decode cX5_drop 37 = .ok (.getfield 95, 3) := by decide +kernel
theorem dX5_drop_40 : decode cX5_drop 40 = .ok (.invokevirtual 68, 3) := by decide +kernel
theorem dX5_drop_43 : decode cX5_drop 43 = .ok (.ireturn, 1) := by decide +kernel
set_option maxRecDepth 20000 in
theorem ggX5_feed_X4_add : GoodIn wsX5_feed wsX4_add := goodIn_r _ [7, 8, 9, 20, 21, 22, 23] (by decide +kernel) (by decide +kernel)
set_option maxRecDepth 20000 in
theorem gX5_feed_X4_add_n100 : GoodIn wsX5_feed (wsX4_add) := ggX5_feed_X4_add
theorem dX5_feed_0 : decode cX5_feed 0 = .ok (.iload_n 1, 1) := by decide +kernel
theorem dX5_feed_1 : decode cX5_feed 1 = .ok (.ifCond .lt 10, 3) := by decide +kernel
theorem dX5_feed_4 : decode cX5_feed 4 = .ok (.iload_n 1, 1) := by decide +kernel
theorem dX5_feed_5 : decode cX5_feed 5 = .ok (.sipush 255, 3) := by decide +kernel
theorem dX5_feed_8 : decode cX5_feed 8 = .ok (.if_icmp .le 6, 3) := by decide +kernel
theorem dX5_feed_11 : decode cX5_feed 11 = .ok (.ldc 59, 2) := by decide +kernel
theorem dX5_feed_13 : decode cX5_feed 13 = .ok (.ireturn, 1) := by decide +kernel
theorem dX5_feed_14 : decode cX5_feed 14 = .ok (.aload_n 0, 1) := by decide +kernel
theorem dX5_feed_15 : decode cX5_feed 15 = .ok (.getfield 18, 3) := by decide +kernel
theorem dX5_feed_18 : decode cX5_feed 18 = .ok (.getfield 98, 3) := by decide +kernel
theorem dX5_feed_21 : decode cX5_feed 21 = .ok (.bipush 90, 2) := by decide +kernel
theorem dX5_feed_23 : decode cX5_feed 23 = .ok (.if_icmp .lt 6, 3) := by decide +kernel
theorem dX5_feed_26 : decode cX5_feed 26 = .ok (.ldc 99, 2) := by decide +kernel
theorem dX5_feed_28 : decode cX5_feed 28 = .ok (.ireturn, 1) := by decide +kernel
theorem dX5_feed_29 : decode cX5_feed 29 = .ok (.aload_n 0, 1) := by decide +kernel
theorem dX5_feed_30 : decode cX5_feed 30 = .ok (.getfield 18, 3) := by decide +kernel
theorem dX5_feed_33 : decode cX5_feed 33 = .ok (.iload_n 1, 1) := by decide +kernel
theorem dX5_feed_34 : decode cX5_feed 34 = .ok (.invokevirtual 100, 3) := by decide +kernel
theorem dX5_feed_37 : decode cX5_feed 37 = .ok (.aload_n 0, 1) := by decide +kernel
theorem dX5_feed_38 : decode cX5_feed 38 = .ok (.getfield 18, 3) := by decide +kernel
theorem dX5_feed_41 : decode cX5_feed 41 = .ok (.getfield 98, 3) := by decide +kernel
theorem dX5_feed_44 : decode cX5_feed 44 = .ok (.ireturn, 1) := by decide +kernel
set_option maxRecDepth 20000 in
theorem ggX5_road_X4_readInto : GoodIn wsX5_road wsX4_readInto := goodIn_r _ [10, 11, 12, 13, 14, 15, 16, 17, 18, 19, 20, 21, 22, 23, 24, 8, 25, 26, 27, 28, 29, 30, 31, 32, 33, 34, 35, 36, 37, 38, 39, 40, 41, 42, 43, 44, 45, 46, 47, 48, 49, 50, 51, 52, 53, 54, 55, 56, 57, 58, 59, 60, 61, 62, 63, 64, 65, 66, 67, 87, 88, 89, 90, 94, 95, 96, 97, 98, 99, 100, 101, 102, 103, 104, 105] (by decide +kernel) (by decide +kernel)
set_option maxRecDepth 20000 in
theorem gX5_road_X4_readInto_n104 : GoodIn wsX5_road (wsX4_readInto) := ggX5_road_X4_readInto
set_option maxRecDepth 20000 in
theorem ggX5_road_X2_take : GoodIn wsX5_road wsX2_take := goodIn_r _ [70, 17, 71, 72, 18, 19, 20, 73, 21, 74, 75, 76, 94, 95, 96, 97, 98, 99, 100, 101, 102, 103, 104, 105] (by decide +kernel) (by decide +kernel)
set_option maxRecDepth 20000 in
theorem gX5_road_X2_take_n118 : GoodIn wsX5_road (wsX2_take) := ggX5_road_X2_take
theorem dX5_road_0 : decode cX5_road 0 = .ok (.aload_n 0, 1) := by decide +kernel
theorem dX5_road_1 : decode cX5_road 1 = .ok (.getfield 18, 3) := by decide +kernel
theorem dX5_road_4 : decode cX5_road 4 = .ok (.aload_n 0, 1) := by decide +kernel
theorem dX5_road_5 : decode cX5_road 5 = .ok (.getfield 29, 3) := by decide +kernel
theorem dX5_road_8 : decode cX5_road 8 = .ok (.invokevirtual 104, 3) := by decide +kernel
theorem dX5_road_11 : decode cX5_road 11 = .ok (.istore_n 1, 1) := by decide +kernel
theorem dX5_road_12 : decode cX5_road 12 = .ok (.aload_n 0, 1) := by decide +kernel
theorem dX5_road_13 : decode cX5_road 13 = .ok (.getfield 18, 3) := by decide +kernel
theorem dX5_road_16 : decode cX5_road 16 = .ok (.iconst 0, 1) := by decide +kernel
theorem dX5_road_17 : decode cX5_road 17 = .ok (.putfield 98, 3) := by decide +kernel
theorem dX5_road_20 : decode cX5_road 20 = .ok (.iload_n 1, 1) := by decide +kernel
theorem dX5_road_21 : decode cX5_road 21 = .ok (.ifCond .ne 25, 3) := by decide +kernel
theorem dX5_road_24 : decode cX5_road 24 = .ok (.aload_n 0, 1) := by decide +kernel
theorem dX5_road_25 : decode cX5_road 25 = .ok (.aload_n 0, 1) := by decide +kernel
theorem dX5_road_26 : decode cX5_road 26 = .ok (.getfield 18, 3) := by decide +kernel
theorem dX5_road_29 : decode cX5_road 29 = .ok (.getfield 108, 3) := by decide +kernel
theorem dX5_road_32 : decode cX5_road 32 = .ok (.putfield 111, 3) := by decide +kernel
theorem dX5_road_35 : decode cX5_road 35 = .ok (.ldc 114, 2) := by decide +kernel
theorem dX5_road_37 : decode cX5_road 37 = .ok (.aload_n 0, 1) := by decide +kernel
theorem dX5_road_38 : decode cX5_road 38 = .ok (.getfield 18, 3) := by decide +kernel
theorem dX5_road_41 : decode cX5_road 41 = .ok (.getfield 115, 3) := by decide +kernel
theorem dX5_road_44 : decode cX5_road 44 = .ok (.isub, 1) := by decide +kernel
theorem dX5_road_45 : decode cX5_road 45 = .ok (.ireturn, 1) := by decide +kernel
theorem dX5_road_46 : decode cX5_road 46 = .ok (.aload_n 0, 1) := by decide +kernel
theorem dX5_road_47 : decode cX5_road 47 = .ok (.getfield 25, 3) := by decide +kernel
theorem dX5_road_50 : decode cX5_road 50 = .ok (.aload_n 0, 1) := by decide +kernel
theorem dX5_road_51 : decode cX5_road 51 = .ok (.getfield 29, 3) := by decide +kernel
theorem dX5_road_54 : decode cX5_road 54 = .ok (.invokevirtual 118, 3) := by decide +kernel
theorem dX5_road_57 : decode cX5_road 57 = .ok (.aload_n 0, 1) := by decide +kernel
theorem dX5_road_58 : decode cX5_road 58 = .ok (.getfield 43, 3) := by decide +kernel
theorem dX5_road_61 : decode cX5_road 61 = .ok (.iconst 0, 1) := by decide +kernel
theorem dX5_road_62 : decode cX5_road 62 = .ok (.putfield 122, 3) := by decide +kernel
theorem dX5_road_65 : decode cX5_road 65 = .ok (.aload_n 0, 1) := by decide +kernel
theorem dX5_road_66 : decode cX5_road 66 = .ok (.getfield 25, 3) := by decide +kernel
theorem dX5_road_69 : decode cX5_road 69 = .ok (.getfield 125, 3) := by decide +kernel
theorem dX5_road_72 : decode cX5_road 72 = .ok (.ireturn, 1) := by decide +kernel
theorem dX5_fault_0 : decode cX5_fault 0 = .ok (.aload_n 0, 1) := by decide +kernel
theorem dX5_fault_1 : decode cX5_fault 1 = .ok (.getfield 111, 3) := by decide +kernel
theorem dX5_fault_4 : decode cX5_fault 4 = .ok (.ireturn, 1) := by decide +kernel
set_option maxRecDepth 20000 in
theorem ggX5_hours_X0_keep : GoodIn wsX5_hours wsX0_keep := goodIn_r _ [9, 10, 11, 12, 13, 14, 15, 16, 93, 94, 95, 81, 82, 83, 84, 85, 86, 87, 88, 89, 90, 91, 92] (by decide +kernel) (by decide +kernel)
set_option maxRecDepth 20000 in
theorem gX5_hours_X0_keep_n135 : GoodIn wsX5_hours (wsX0_keep) := ggX5_hours_X0_keep
set_option maxRecDepth 20000 in
theorem ggX5_hours_X2_goHour : GoodIn wsX5_hours wsX2_goHour := goodIn_r _ [20, 21, 22, 23, 24, 25, 26, 27, 18, 28, 29, 30, 31, 32, 33, 34, 35, 36, 37, 38, 39, 40, 41, 42, 43, 44, 45, 46, 47, 48, 49, 50, 51, 52, 53, 54, 55, 56, 57, 58, 59, 60, 61, 62, 63, 81, 82, 83, 84, 85, 86, 87, 88, 89, 90, 91, 92] (by decide +kernel) (by decide +kernel)
set_option maxRecDepth 20000 in
theorem gX5_hours_X2_goHour_n138 : GoodIn wsX5_hours (wsX2_goHour) := ggX5_hours_X2_goHour
set_option maxRecDepth 20000 in
theorem ggX5_hours_X2_wholeGates : GoodIn wsX5_hours wsX2_wholeGates := goodIn_r _ [66, 21, 34, 67, 68, 69, 18, 70, 46, 81, 82, 83, 84, 85, 86, 87, 88, 89, 90, 91, 92] (by decide +kernel) (by decide +kernel)
set_option maxRecDepth 20000 in
theorem gX5_hours_X2_wholeGates_n141 : GoodIn wsX5_hours (wsX2_wholeGates) := ggX5_hours_X2_wholeGates
theorem dX5_hours_0 : decode cX5_hours 0 = .ok (.aload_n 0, 1) := by decide +kernel
theorem dX5_hours_1 : decode cX5_hours 1 = .ok (.getfield 25, 3) := by decide +kernel
theorem dX5_hours_4 : decode cX5_hours 4 = .ok (.getfield 128, 3) := by decide +kernel
theorem dX5_hours_7 : decode cX5_hours 7 = .ok (.ifCond .ne 6, 3) := by decide +kernel
theorem dX5_hours_10 : decode cX5_hours 10 = .ok (.ldc 131, 2) := by decide +kernel
theorem dX5_hours_12 : decode cX5_hours 12 = .ok (.ireturn, 1) := by decide +kernel
theorem dX5_hours_13 : decode cX5_hours 13 = .ok (.iload_n 1, 1) := by decide +kernel
theorem dX5_hours_14 : decode cX5_hours 14 = .ok (.iconst 1, 1) := by decide +kernel
theorem dX5_hours_15 : decode cX5_hours 15 = .ok (.if_icmp .lt 9, 3) := by decide +kernel
theorem dX5_hours_18 : decode cX5_hours 18 = .ok (.iload_n 1, 1) := by decide +kernel
theorem dX5_hours_19 : decode cX5_hours 19 = .ok (.bipush 24, 2) := by decide +kernel
theorem dX5_hours_21 : decode cX5_hours 21 = .ok (.if_icmp .le 6, 3) := by decide +kernel
theorem dX5_hours_24 : decode cX5_hours 24 = .ok (.ldc 59, 2) := by decide +kernel
theorem dX5_hours_26 : decode cX5_hours 26 = .ok (.ireturn, 1) := by decide +kernel
theorem dX5_hours_27 : decode cX5_hours 27 = .ok (.aload_n 0, 1) := by decide +kernel
theorem dX5_hours_28 : decode cX5_hours 28 = .ok (.getfield 25, 3) := by decide +kernel
theorem dX5_hours_31 : decode cX5_hours 31 = .ok (.getfield 132, 3) := by decide +kernel
theorem dX5_hours_34 : decode cX5_hours 34 = .ok (.iload_n 1, 1) := by decide +kernel
theorem dX5_hours_35 : decode cX5_hours 35 = .ok (.iadd, 1) := by decide +kernel
theorem dX5_hours_36 : decode cX5_hours 36 = .ok (.sipush 9999, 3) := by decide +kernel
theorem dX5_hours_39 : decode cX5_hours 39 = .ok (.if_icmp .le 6, 3) := by decide +kernel
theorem dX5_hours_42 : decode cX5_hours 42 = .ok (.ldc 99, 2) := by decide +kernel
theorem dX5_hours_44 : decode cX5_hours 44 = .ok (.ireturn, 1) := by decide +kernel
theorem dX5_hours_45 : decode cX5_hours 45 = .ok (.iconst 0, 1) := by decide +kernel
theorem dX5_hours_46 : decode cX5_hours 46 = .ok (.istore_n 2, 1) := by decide +kernel
theorem dX5_hours_47 : decode cX5_hours 47 = .ok (.iload_n 2, 1) := by decide +kernel
theorem dX5_hours_48 : decode cX5_hours 48 = .ok (.iload_n 1, 1) := by decide +kernel
theorem dX5_hours_49 : decode cX5_hours 49 = .ok (.if_icmp .ge 27, 3) := by decide +kernel
theorem dX5_hours_52 : decode cX5_hours 52 = .ok (.aload_n 0, 1) := by decide +kernel
theorem dX5_hours_53 : decode cX5_hours 53 = .ok (.getfield 43, 3) := by decide +kernel
theorem dX5_hours_56 : decode cX5_hours 56 = .ok (.aload_n 0, 1) := by decide +kernel
theorem dX5_hours_57 : decode cX5_hours 57 = .ok (.getfield 25, 3) := by decide +kernel
theorem dX5_hours_60 : decode cX5_hours 60 = .ok (.invokevirtual 135, 3) := by decide +kernel
theorem dX5_hours_63 : decode cX5_hours 63 = .ok (.aload_n 0, 1) := by decide +kernel
theorem dX5_hours_64 : decode cX5_hours 64 = .ok (.getfield 25, 3) := by decide +kernel
theorem dX5_hours_67 : decode cX5_hours 67 = .ok (.invokevirtual 138, 3) := by decide +kernel
theorem dX5_hours_70 : decode cX5_hours 70 = .ok (.iinc 2 1, 3) := by decide +kernel
theorem dX5_hours_73 : decode cX5_hours 73 = .ok (.goto (-26), 3) := by decide +kernel
theorem dX5_hours_76 : decode cX5_hours 76 = .ok (.aload_n 0, 1) := by decide +kernel
theorem dX5_hours_77 : decode cX5_hours 77 = .ok (.getfield 25, 3) := by decide +kernel
theorem dX5_hours_80 : decode cX5_hours 80 = .ok (.invokevirtual 141, 3) := by decide +kernel
theorem dX5_hours_83 : decode cX5_hours 83 = .ok (.ireturn, 1) := by decide +kernel
set_option maxRecDepth 20000 in
theorem ggX5_put_X5_isPulpit : GoodIn wsX5_put wsX5_isPulpit := goodIn_r _ [9, 2, 25, 26, 27, 28, 29, 30, 31, 32, 33, 34, 35, 36, 37, 38, 39, 40, 41, 42, 43, 44, 45, 46] (by decide +kernel) (by decide +kernel)
set_option maxRecDepth 20000 in
theorem gX5_put_X5_isPulpit : GoodIn wsX5_put (wsV RX5 145 RX5 yX5_isPulpit wsX5_isPulpit) := goodIn_app (goodIn_of _ (by decide +kernel)) ggX5_put_X5_isPulpit
set_option maxRecDepth 20000 in
theorem ggX5_put_X5_isStretch : GoodIn wsX5_put wsX5_isStretch := goodIn_r _ [13, 2, 25, 26, 27, 28, 29, 30, 31, 32, 33, 34, 35, 36, 37, 38, 39, 40, 41, 42, 43, 44, 45, 46] (by decide +kernel) (by decide +kernel)
set_option maxRecDepth 20000 in
theorem gX5_put_X5_isStretch : GoodIn wsX5_put (wsV RX5 148 RX5 yX5_isStretch wsX5_isStretch) := goodIn_app (goodIn_of _ (by decide +kernel)) ggX5_put_X5_isStretch
set_option maxRecDepth 20000 in
theorem ggX5_put_X0_keep : GoodIn wsX5_put wsX0_keep := goodIn_r _ [17, 18, 19, 20, 21, 22, 23, 24, 47, 48, 49, 35, 36, 37, 38, 39, 40, 41, 42, 43, 44, 45, 46] (by decide +kernel) (by decide +kernel)
set_option maxRecDepth 20000 in
theorem gX5_put_X0_keep_n135 : GoodIn wsX5_put (wsX0_keep) := ggX5_put_X0_keep
theorem dX5_put_0 : decode cX5_put 0 = .ok (.aload_n 0, 1) := by decide +kernel
theorem dX5_put_1 : decode cX5_put 1 = .ok (.iload_n 1, 1) := by decide +kernel
theorem dX5_put_2 : decode cX5_put 2 = .ok (.invokevirtual 145, 3) := by decide +kernel
theorem dX5_put_5 : decode cX5_put 5 = .ok (.ifCond .eq 11, 3) := by decide +kernel
theorem dX5_put_8 : decode cX5_put 8 = .ok (.aload_n 0, 1) := by decide +kernel
theorem dX5_put_9 : decode cX5_put 9 = .ok (.iload_n 2, 1) := by decide +kernel
theorem dX5_put_10 : decode cX5_put 10 = .ok (.invokevirtual 148, 3) := by decide +kernel
theorem dX5_put_13 : decode cX5_put 13 = .ok (.ifCond .ne 6, 3) := by decide +kernel
theorem dX5_put_16 : decode cX5_put 16 = .ok (.ldc 59, 2) := by decide +kernel
theorem dX5_put_18 : decode cX5_put 18 = .ok (.ireturn, 1) := by decide +kernel
theorem dX5_put_19 : decode cX5_put 19 = .ok (.aload_n 0, 1) := by decide +kernel
theorem dX5_put_20 : decode cX5_put 20 = .ok (.getfield 25, 3) := by decide +kernel
theorem dX5_put_23 : decode cX5_put 23 = .ok (.getfield 151, 3) := by decide +kernel
theorem dX5_put_26 : decode cX5_put 26 = .ok (.iload_n 1, 1) := by decide +kernel
theorem dX5_put_27 : decode cX5_put 27 = .ok (.iaload, 1) := by decide +kernel
theorem dX5_put_28 : decode cX5_put 28 = .ok (.istore_n 3, 1) := by decide +kernel
theorem dX5_put_29 : decode cX5_put 29 = .ok (.iload_n 3, 1) := by decide +kernel
theorem dX5_put_30 : decode cX5_put 30 = .ok (.iload_n 2, 1) := by decide +kernel
theorem dX5_put_31 : decode cX5_put 31 = .ok (.if_icmp .ne 6, 3) := by decide +kernel
theorem dX5_put_34 : decode cX5_put 34 = .ok (.ldc 131, 2) := by decide +kernel
theorem dX5_put_36 : decode cX5_put 36 = .ok (.ireturn, 1) := by decide +kernel
theorem dX5_put_37 : decode cX5_put 37 = .ok (.aload_n 0, 1) := by decide +kernel
theorem dX5_put_38 : decode cX5_put 38 = .ok (.getfield 43, 3) := by decide +kernel
theorem dX5_put_41 : decode cX5_put 41 = .ok (.aload_n 0, 1) := by decide +kernel
theorem dX5_put_42 : decode cX5_put 42 = .ok (.getfield 25, 3) := by decide +kernel
theorem dX5_put_45 : decode cX5_put 45 = .ok (.invokevirtual 135, 3) := by decide +kernel
theorem dX5_put_48 : decode cX5_put 48 = .ok (.aload_n 0, 1) := by decide +kernel
theorem dX5_put_49 : decode cX5_put 49 = .ok (.getfield 25, 3) := by decide +kernel
theorem dX5_put_52 : decode cX5_put 52 = .ok (.getfield 151, 3) := by decide +kernel
theorem dX5_put_55 : decode cX5_put 55 = .ok (.iload_n 1, 1) := by decide +kernel
theorem dX5_put_56 : decode cX5_put 56 = .ok (.iload_n 2, 1) := by decide +kernel
theorem dX5_put_57 : decode cX5_put 57 = .ok (.iastore, 1) := by decide +kernel
theorem dX5_put_58 : decode cX5_put 58 = .ok (.iload_n 3, 1) := by decide +kernel
theorem dX5_put_59 : decode cX5_put 59 = .ok (.ireturn, 1) := by decide +kernel
set_option maxRecDepth 20000 in
theorem ggX5_skip_X5_isPulpit : GoodIn wsX5_skip wsX5_isPulpit := goodIn_r _ [8, 2, 24, 25, 26, 27, 28, 29, 30, 31, 32, 33, 34, 35, 36, 37, 38, 39, 40, 41, 42, 43, 44, 45] (by decide +kernel) (by decide +kernel)
set_option maxRecDepth 20000 in
theorem gX5_skip_X5_isPulpit : GoodIn wsX5_skip (wsV RX5 145 RX5 yX5_isPulpit wsX5_isPulpit) := goodIn_app (goodIn_of _ (by decide +kernel)) ggX5_skip_X5_isPulpit
set_option maxRecDepth 20000 in
theorem ggX5_skip_X5_isWord : GoodIn wsX5_skip wsX5_isWord := goodIn_r _ [12, 2, 24, 25, 26, 27, 28, 29, 30, 31, 32, 33, 34, 35, 36, 37, 38, 39, 40, 41, 42, 43, 44, 45] (by decide +kernel) (by decide +kernel)
set_option maxRecDepth 20000 in
theorem gX5_skip_X5_isWord : GoodIn wsX5_skip (wsV RX5 154 RX5 yX5_isWord wsX5_isWord) := goodIn_app (goodIn_of _ (by decide +kernel)) ggX5_skip_X5_isWord
set_option maxRecDepth 20000 in
theorem ggX5_skip_X0_keep : GoodIn wsX5_skip wsX0_keep := goodIn_r _ [16, 17, 18, 19, 20, 21, 22, 23, 46, 47, 48, 34, 35, 36, 37, 38, 39, 40, 41, 42, 43, 44, 45] (by decide +kernel) (by decide +kernel)
set_option maxRecDepth 20000 in
theorem gX5_skip_X0_keep_n135 : GoodIn wsX5_skip (wsX0_keep) := ggX5_skip_X0_keep
theorem dX5_skip_0 : decode cX5_skip 0 = .ok (.aload_n 0, 1) := by decide +kernel
theorem dX5_skip_1 : decode cX5_skip 1 = .ok (.iload_n 1, 1) := by decide +kernel
theorem dX5_skip_2 : decode cX5_skip 2 = .ok (.invokevirtual 145, 3) := by decide +kernel
theorem dX5_skip_5 : decode cX5_skip 5 = .ok (.ifCond .eq 11, 3) := by decide +kernel
theorem dX5_skip_8 : decode cX5_skip 8 = .ok (.aload_n 0, 1) := by decide +kernel
theorem dX5_skip_9 : decode cX5_skip 9 = .ok (.iload_n 2, 1) := by decide +kernel
theorem dX5_skip_10 : decode cX5_skip 10 = .ok (.invokevirtual 154, 3) := by decide +kernel
theorem dX5_skip_13 : decode cX5_skip 13 = .ok (.ifCond .ne 6, 3) := by decide +kernel
theorem dX5_skip_16 : decode cX5_skip 16 = .ok (.ldc 59, 2) := by decide +kernel
theorem dX5_skip_18 : decode cX5_skip 18 = .ok (.ireturn, 1) := by decide +kernel
theorem dX5_skip_19 : decode cX5_skip 19 = .ok (.aload_n 0, 1) := by decide +kernel
theorem dX5_skip_20 : decode cX5_skip 20 = .ok (.getfield 25, 3) := by decide +kernel
theorem dX5_skip_23 : decode cX5_skip 23 = .ok (.getfield 157, 3) := by decide +kernel
theorem dX5_skip_26 : decode cX5_skip 26 = .ok (.iload_n 1, 1) := by decide +kernel
theorem dX5_skip_27 : decode cX5_skip 27 = .ok (.iaload, 1) := by decide +kernel
theorem dX5_skip_28 : decode cX5_skip 28 = .ok (.istore_n 3, 1) := by decide +kernel
theorem dX5_skip_29 : decode cX5_skip 29 = .ok (.aload_n 0, 1) := by decide +kernel
theorem dX5_skip_30 : decode cX5_skip 30 = .ok (.getfield 43, 3) := by decide +kernel
theorem dX5_skip_33 : decode cX5_skip 33 = .ok (.aload_n 0, 1) := by decide +kernel
theorem dX5_skip_34 : decode cX5_skip 34 = .ok (.getfield 25, 3) := by decide +kernel
theorem dX5_skip_37 : decode cX5_skip 37 = .ok (.invokevirtual 135, 3) := by decide +kernel
theorem dX5_skip_40 : decode cX5_skip 40 = .ok (.aload_n 0, 1) := by decide +kernel
theorem dX5_skip_41 : decode cX5_skip 41 = .ok (.getfield 25, 3) := by decide +kernel
theorem dX5_skip_44 : decode cX5_skip 44 = .ok (.getfield 157, 3) := by decide +kernel
theorem dX5_skip_47 : decode cX5_skip 47 = .ok (.iload_n 1, 1) := by decide +kernel
theorem dX5_skip_48 : decode cX5_skip 48 = .ok (.iload_n 2, 1) := by decide +kernel
theorem dX5_skip_49 : decode cX5_skip 49 = .ok (.iastore, 1) := by decide +kernel
theorem dX5_skip_50 : decode cX5_skip 50 = .ok (.iload_n 3, 1) := by decide +kernel
theorem dX5_skip_51 : decode cX5_skip 51 = .ok (.ireturn, 1) := by decide +kernel
set_option maxRecDepth 20000 in
theorem ggX5_forget_X5_isStretch : GoodIn wsX5_forget wsX5_isStretch := goodIn_r _ [9, 2, 28, 29, 30, 31, 32, 33, 34, 35, 36, 37, 38, 39, 40, 41, 42, 43, 44, 45, 46, 47, 48, 49] (by decide +kernel) (by decide +kernel)
set_option maxRecDepth 20000 in
theorem gX5_forget_X5_isStretch : GoodIn wsX5_forget (wsV RX5 148 RX5 yX5_isStretch wsX5_isStretch) := goodIn_app (goodIn_of _ (by decide +kernel)) ggX5_forget_X5_isStretch
set_option maxRecDepth 20000 in
theorem ggX5_forget_J6_bitCount_0f7a4 : GoodIn wsX5_forget wsJ6_bitCount_0f7a4 := goodIn_r _ [13, 14, 15, 16] (by decide +kernel) (by decide +kernel)
set_option maxRecDepth 20000 in
theorem gX5_forget_J6_bitCount_0f7a4 : GoodIn wsX5_forget (va_wsS RX5 163 yJ6_bitCount_0f7a4 wsJ6_bitCount_0f7a4) := goodIn_app (goodIn_of _ (by decide +kernel)) ggX5_forget_J6_bitCount_0f7a4
set_option maxRecDepth 20000 in
theorem ggX5_forget_X0_keep : GoodIn wsX5_forget wsX0_keep := goodIn_r _ [20, 21, 22, 23, 24, 25, 26, 27, 50, 51, 52, 38, 39, 40, 41, 42, 43, 44, 45, 46, 47, 48, 49] (by decide +kernel) (by decide +kernel)
set_option maxRecDepth 20000 in
theorem gX5_forget_X0_keep_n135 : GoodIn wsX5_forget (wsX0_keep) := ggX5_forget_X0_keep
theorem dX5_forget_0 : decode cX5_forget 0 = .ok (.aload_n 0, 1) := by decide +kernel
theorem dX5_forget_1 : decode cX5_forget 1 = .ok (.iload_n 1, 1) := by decide +kernel
theorem dX5_forget_2 : decode cX5_forget 2 = .ok (.invokevirtual 148, 3) := by decide +kernel
theorem dX5_forget_5 : decode cX5_forget 5 = .ok (.ifCond .ne 6, 3) := by decide +kernel
theorem dX5_forget_8 : decode cX5_forget 8 = .ok (.ldc 59, 2) := by decide +kernel
theorem dX5_forget_10 : decode cX5_forget 10 = .ok (.ireturn, 1) := by decide +kernel
theorem dX5_forget_11 : decode cX5_forget 11 = .ok (.aload_n 0, 1) := by decide +kernel
theorem dX5_forget_12 : decode cX5_forget 12 = .ok (.getfield 25, 3) := by decide +kernel
theorem dX5_forget_15 : decode cX5_forget 15 = .ok (.getfield 160, 3) := by decide +kernel
theorem dX5_forget_18 : decode cX5_forget 18 = .ok (.iload_n 1, 1) := by decide +kernel
theorem dX5_forget_19 : decode cX5_forget 19 = .ok (.iaload, 1) := by decide +kernel
theorem dX5_forget_20 : decode cX5_forget 20 = .ok (.invokestatic 163, 3) := by decide +kernel
theorem dX5_forget_23 : decode cX5_forget 23 = .ok (.istore_n 2, 1) := by decide +kernel
theorem dX5_forget_24 : decode cX5_forget 24 = .ok (.iload_n 2, 1) := by decide +kernel
theorem dX5_forget_25 : decode cX5_forget 25 = .ok (.ifCond .ne 6, 3) := by decide +kernel
theorem dX5_forget_28 : decode cX5_forget 28 = .ok (.ldc 131, 2) := by decide +kernel
theorem dX5_forget_30 : decode cX5_forget 30 = .ok (.ireturn, 1) := by decide +kernel
theorem dX5_forget_31 : decode cX5_forget 31 = .ok (.aload_n 0, 1) := by decide +kernel
theorem dX5_forget_32 : decode cX5_forget 32 = .ok (.getfield 43, 3) := by decide +kernel
theorem dX5_forget_35 : decode cX5_forget 35 = .ok (.aload_n 0, 1) := by decide +kernel
theorem dX5_forget_36 : decode cX5_forget 36 = .ok (.getfield 25, 3) := by decide +kernel
theorem dX5_forget_39 : decode cX5_forget 39 = .ok (.invokevirtual 135, 3) := by decide +kernel
theorem dX5_forget_42 : decode cX5_forget 42 = .ok (.aload_n 0, 1) := by decide +kernel
theorem dX5_forget_43 : decode cX5_forget 43 = .ok (.getfield 25, 3) := by decide +kernel
theorem dX5_forget_46 : decode cX5_forget 46 = .ok (.getfield 160, 3) := by decide +kernel
theorem dX5_forget_49 : decode cX5_forget 49 = .ok (.iload_n 1, 1) := by decide +kernel
theorem dX5_forget_50 : decode cX5_forget 50 = .ok (.iconst 0, 1) := by decide +kernel
theorem dX5_forget_51 : decode cX5_forget 51 = .ok (.iastore, 1) := by decide +kernel
theorem dX5_forget_52 : decode cX5_forget 52 = .ok (.iload_n 2, 1) := by decide +kernel
theorem dX5_forget_53 : decode cX5_forget 53 = .ok (.ireturn, 1) := by decide +kernel
set_option maxRecDepth 20000 in
theorem ggX5_undo_X0_giveBack : GoodIn wsX5_undo wsX0_giveBack := goodIn_r _ [7, 8, 9, 10, 21, 22, 23, 24, 25, 26, 27, 28, 29, 30, 31, 32, 33, 34, 35] (by decide +kernel) (by decide +kernel)
set_option maxRecDepth 20000 in
theorem gX5_undo_X0_giveBack_n168 : GoodIn wsX5_undo (wsX0_giveBack) := ggX5_undo_X0_giveBack
theorem dX5_undo_0 : decode cX5_undo 0 = .ok (.aload_n 0, 1) := by decide +kernel
theorem dX5_undo_1 : decode cX5_undo 1 = .ok (.getfield 43, 3) := by decide +kernel
theorem dX5_undo_4 : decode cX5_undo 4 = .ok (.getfield 122, 3) := by decide +kernel
theorem dX5_undo_7 : decode cX5_undo 7 = .ok (.ifCond .ne 6, 3) := by decide +kernel
theorem dX5_undo_10 : decode cX5_undo 10 = .ok (.ldc 131, 2) := by decide +kernel
theorem dX5_undo_12 : decode cX5_undo 12 = .ok (.ireturn, 1) := by decide +kernel
theorem dX5_undo_13 : decode cX5_undo 13 = .ok (.aload_n 0, 1) := by decide +kernel
theorem dX5_undo_14 : decode cX5_undo 14 = .ok (.getfield 43, 3) := by decide +kernel
theorem dX5_undo_17 : decode cX5_undo 17 = .ok (.aload_n 0, 1) := by decide +kernel
theorem dX5_undo_18 : decode cX5_undo 18 = .ok (.getfield 25, 3) := by decide +kernel
theorem dX5_undo_21 : decode cX5_undo 21 = .ok (.invokevirtual 168, 3) := by decide +kernel
theorem dX5_undo_24 : decode cX5_undo 24 = .ok (.aload_n 0, 1) := by decide +kernel
theorem dX5_undo_25 : decode cX5_undo 25 = .ok (.getfield 43, 3) := by decide +kernel
theorem dX5_undo_28 : decode cX5_undo 28 = .ok (.getfield 122, 3) := by decide +kernel
theorem dX5_undo_31 : decode cX5_undo 31 = .ok (.ireturn, 1) := by decide +kernel
set_option maxRecDepth 20000 in
theorem ggX5_pulpit_X5_isPulpit : GoodIn wsX5_pulpit wsX5_isPulpit := goodIn_r _ [7, 2, 25, 26, 27, 28, 29, 30, 31, 32, 33, 34, 35, 36, 37, 38, 39, 40, 41, 42, 43, 44, 45, 46] (by decide +kernel) (by decide +kernel)
set_option maxRecDepth 20000 in
theorem gX5_pulpit_X5_isPulpit : GoodIn wsX5_pulpit (wsV RX5 145 RX5 yX5_isPulpit wsX5_isPulpit) := goodIn_app (goodIn_of _ (by decide +kernel)) ggX5_pulpit_X5_isPulpit
set_option maxRecDepth 20000 in
theorem ggX5_pulpit_X2_councils : GoodIn wsX5_pulpit wsX2_councils := goodIn_r _ [11, 12, 13, 35, 36, 37, 38, 39, 40, 41, 42, 43, 44, 45, 46] (by decide +kernel) (by decide +kernel)
set_option maxRecDepth 20000 in
theorem gX5_pulpit_X2_councils_n171 : GoodIn wsX5_pulpit (wsX2_councils) := ggX5_pulpit_X2_councils
set_option maxRecDepth 20000 in
theorem ggX5_pulpit_X2_sayings : GoodIn wsX5_pulpit wsX2_sayings := goodIn_r _ [16, 17, 18, 19, 13, 20, 21, 22, 9, 23, 24, 35, 36, 37, 38, 39, 40, 41, 42, 43, 44, 45, 46] (by decide +kernel) (by decide +kernel)
set_option maxRecDepth 20000 in
theorem gX5_pulpit_X2_sayings_n174 : GoodIn wsX5_pulpit (wsX2_sayings) := ggX5_pulpit_X2_sayings
theorem dX5_pulpit_0 : decode cX5_pulpit 0 = .ok (.aload_n 0, 1) := by decide +kernel
theorem dX5_pulpit_1 : decode cX5_pulpit 1 = .ok (.iload_n 1, 1) := by decide +kernel
theorem dX5_pulpit_2 : decode cX5_pulpit 2 = .ok (.invokevirtual 145, 3) := by decide +kernel
theorem dX5_pulpit_5 : decode cX5_pulpit 5 = .ok (.ifCond .ne 6, 3) := by decide +kernel
theorem dX5_pulpit_8 : decode cX5_pulpit 8 = .ok (.ldc 59, 2) := by decide +kernel
theorem dX5_pulpit_10 : decode cX5_pulpit 10 = .ok (.ireturn, 1) := by decide +kernel
theorem dX5_pulpit_11 : decode cX5_pulpit 11 = .ok (.iload_n 2, 1) := by decide +kernel
theorem dX5_pulpit_12 : decode cX5_pulpit 12 = .ok (.tableswitch 73 0 3 #[32, 42, 52, 64], 32) := by decide +kernel
theorem dX5_pulpit_44 : decode cX5_pulpit 44 = .ok (.aload_n 0, 1) := by decide +kernel
theorem dX5_pulpit_45 : decode cX5_pulpit 45 = .ok (.getfield 25, 3) := by decide +kernel
theorem dX5_pulpit_48 : decode cX5_pulpit 48 = .ok (.getfield 151, 3) := by decide +kernel
theorem dX5_pulpit_51 : decode cX5_pulpit 51 = .ok (.iload_n 1, 1) := by decide +kernel
theorem dX5_pulpit_52 : decode cX5_pulpit 52 = .ok (.iaload, 1) := by decide +kernel
theorem dX5_pulpit_53 : decode cX5_pulpit 53 = .ok (.ireturn, 1) := by decide +kernel
theorem dX5_pulpit_54 : decode cX5_pulpit 54 = .ok (.aload_n 0, 1) := by decide +kernel
theorem dX5_pulpit_55 : decode cX5_pulpit 55 = .ok (.getfield 25, 3) := by decide +kernel
theorem dX5_pulpit_58 : decode cX5_pulpit 58 = .ok (.getfield 157, 3) := by decide +kernel
theorem dX5_pulpit_61 : decode cX5_pulpit 61 = .ok (.iload_n 1, 1) := by decide +kernel
theorem dX5_pulpit_62 : decode cX5_pulpit 62 = .ok (.iaload, 1) := by decide +kernel
theorem dX5_pulpit_63 : decode cX5_pulpit 63 = .ok (.ireturn, 1) := by decide +kernel
theorem dX5_pulpit_64 : decode cX5_pulpit 64 = .ok (.aload_n 0, 1) := by decide +kernel
theorem dX5_pulpit_65 : decode cX5_pulpit 65 = .ok (.getfield 25, 3) := by decide +kernel
theorem dX5_pulpit_68 : decode cX5_pulpit 68 = .ok (.invokevirtual 171, 3) := by decide +kernel
theorem dX5_pulpit_71 : decode cX5_pulpit 71 = .ok (.iload_n 1, 1) := by decide +kernel
theorem dX5_pulpit_72 : decode cX5_pulpit 72 = .ok (.ishr, 1) := by decide +kernel
theorem dX5_pulpit_73 : decode cX5_pulpit 73 = .ok (.iconst 1, 1) := by decide +kernel
theorem dX5_pulpit_74 : decode cX5_pulpit 74 = .ok (.iand, 1) := by decide +kernel
theorem dX5_pulpit_75 : decode cX5_pulpit 75 = .ok (.ireturn, 1) := by decide +kernel
theorem dX5_pulpit_76 : decode cX5_pulpit 76 = .ok (.aload_n 0, 1) := by decide +kernel
theorem dX5_pulpit_77 : decode cX5_pulpit 77 = .ok (.getfield 25, 3) := by decide +kernel
theorem dX5_pulpit_80 : decode cX5_pulpit 80 = .ok (.iload_n 1, 1) := by decide +kernel
theorem dX5_pulpit_81 : decode cX5_pulpit 81 = .ok (.invokevirtual 174, 3) := by decide +kernel
theorem dX5_pulpit_84 : decode cX5_pulpit 84 = .ok (.ireturn, 1) := by decide +kernel
theorem dX5_pulpit_85 : decode cX5_pulpit 85 = .ok (.ldc 59, 2) := by decide +kernel
theorem dX5_pulpit_87 : decode cX5_pulpit 87 = .ok (.ireturn, 1) := by decide +kernel
set_option maxRecDepth 20000 in
theorem ggX5_stretch_X5_isStretch : GoodIn wsX5_stretch wsX5_isStretch := goodIn_r _ [7, 2, 14, 15, 16, 17, 18, 19, 20, 21, 22, 23, 24, 25, 26, 27, 28, 29, 30, 31, 32, 33, 34, 35] (by decide +kernel) (by decide +kernel)
set_option maxRecDepth 20000 in
theorem gX5_stretch_X5_isStretch : GoodIn wsX5_stretch (wsV RX5 148 RX5 yX5_isStretch wsX5_isStretch) := goodIn_app (goodIn_of _ (by decide +kernel)) ggX5_stretch_X5_isStretch
set_option maxRecDepth 20000 in
theorem ggX5_stretch_X2_pulpitsOn : GoodIn wsX5_stretch wsX2_pulpitsOn := goodIn_r _ [11, 12, 13, 24, 25, 26, 27, 28, 29, 30, 31, 32, 33, 34, 35] (by decide +kernel) (by decide +kernel)
set_option maxRecDepth 20000 in
theorem gX5_stretch_X2_pulpitsOn_n180 : GoodIn wsX5_stretch (wsX2_pulpitsOn) := ggX5_stretch_X2_pulpitsOn
theorem dX5_stretch_0 : decode cX5_stretch 0 = .ok (.aload_n 0, 1) := by decide +kernel
theorem dX5_stretch_1 : decode cX5_stretch 1 = .ok (.iload_n 1, 1) := by decide +kernel
theorem dX5_stretch_2 : decode cX5_stretch 2 = .ok (.invokevirtual 148, 3) := by decide +kernel
theorem dX5_stretch_5 : decode cX5_stretch 5 = .ok (.ifCond .ne 6, 3) := by decide +kernel
theorem dX5_stretch_8 : decode cX5_stretch 8 = .ok (.ldc 59, 2) := by decide +kernel
theorem dX5_stretch_10 : decode cX5_stretch 10 = .ok (.ireturn, 1) := by decide +kernel
theorem dX5_stretch_11 : decode cX5_stretch 11 = .ok (.iload_n 2, 1) := by decide +kernel
theorem dX5_stretch_12 : decode cX5_stretch 12 = .ok (.tableswitch 57 0 2 #[28, 38, 48], 28) := by decide +kernel
theorem dX5_stretch_40 : decode cX5_stretch 40 = .ok (.aload_n 0, 1) := by decide +kernel
theorem dX5_stretch_41 : decode cX5_stretch 41 = .ok (.getfield 25, 3) := by decide +kernel
theorem dX5_stretch_44 : decode cX5_stretch 44 = .ok (.getfield 177, 3) := by decide +kernel
theorem dX5_stretch_47 : decode cX5_stretch 47 = .ok (.iload_n 1, 1) := by decide +kernel
theorem dX5_stretch_48 : decode cX5_stretch 48 = .ok (.iaload, 1) := by decide +kernel
theorem dX5_stretch_49 : decode cX5_stretch 49 = .ok (.ireturn, 1) := by decide +kernel
theorem dX5_stretch_50 : decode cX5_stretch 50 = .ok (.aload_n 0, 1) := by decide +kernel
theorem dX5_stretch_51 : decode cX5_stretch 51 = .ok (.getfield 25, 3) := by decide +kernel
theorem dX5_stretch_54 : decode cX5_stretch 54 = .ok (.getfield 160, 3) := by decide +kernel
theorem dX5_stretch_57 : decode cX5_stretch 57 = .ok (.iload_n 1, 1) := by decide +kernel
theorem dX5_stretch_58 : decode cX5_stretch 58 = .ok (.iaload, 1) := by decide +kernel
theorem dX5_stretch_59 : decode cX5_stretch 59 = .ok (.ireturn, 1) := by decide +kernel
theorem dX5_stretch_60 : decode cX5_stretch 60 = .ok (.aload_n 0, 1) := by decide +kernel
theorem dX5_stretch_61 : decode cX5_stretch 61 = .ok (.getfield 25, 3) := by decide +kernel
theorem dX5_stretch_64 : decode cX5_stretch 64 = .ok (.iload_n 1, 1) := by decide +kernel
theorem dX5_stretch_65 : decode cX5_stretch 65 = .ok (.invokevirtual 180, 3) := by decide +kernel
theorem dX5_stretch_68 : decode cX5_stretch 68 = .ok (.ireturn, 1) := by decide +kernel
theorem dX5_stretch_69 : decode cX5_stretch 69 = .ok (.ldc 59, 2) := by decide +kernel
theorem dX5_stretch_71 : decode cX5_stretch 71 = .ok (.ireturn, 1) := by decide +kernel
set_option maxRecDepth 20000 in
theorem ggX5_ahead_X5_isPulpit : GoodIn wsX5_ahead wsX5_isPulpit := goodIn_r _ [7, 8, 71, 72, 73, 74, 75, 76, 77, 78, 79, 80, 81, 82, 83, 84, 85, 86, 87, 88, 89, 90, 91, 92] (by decide +kernel) (by decide +kernel)
set_option maxRecDepth 20000 in
theorem gX5_ahead_X5_isPulpit : GoodIn wsX5_ahead (wsV RX5 145 RX5 yX5_isPulpit wsX5_isPulpit) := goodIn_app (goodIn_of _ (by decide +kernel)) ggX5_ahead_X5_isPulpit
set_option maxRecDepth 20000 in
theorem ggX5_ahead_X5_isWithin : GoodIn wsX5_ahead wsX5_isWithin := goodIn_r _ [11] (by decide +kernel) (by decide +kernel)
set_option maxRecDepth 20000 in
theorem gX5_ahead_X5_isWithin : GoodIn wsX5_ahead (va_wsS RX5 183 yX5_isWithin wsX5_isWithin) := goodIn_app (goodIn_of _ (by decide +kernel)) ggX5_ahead_X5_isWithin
set_option maxRecDepth 20000 in
theorem ggX5_ahead_X5_foretell : GoodIn wsX5_ahead wsX5_foretell := goodIn_r _ [15, 2, 8, 16, 17, 18, 19, 20, 21, 22, 23, 24, 25, 26, 27, 28, 29, 30, 31, 32, 33, 34, 35, 36, 37, 38, 39, 40, 41, 42, 43, 44, 45, 46, 47, 48, 49, 50, 51, 52, 53, 54, 55, 56, 57, 58, 59, 60, 61, 62, 63, 64, 65, 66, 67, 68, 69, 70, 71, 72, 73, 74, 75, 76, 77, 78, 79, 80, 81, 82, 83, 84, 85, 86, 87, 88, 89, 90, 91, 92] (by decide +kernel) (by decide +kernel)
set_option maxRecDepth 20000 in
theorem gX5_ahead_X5_foretell : GoodIn wsX5_ahead (wsV RX5 187 RX5 yX5_foretell wsX5_foretell) := goodIn_app (goodIn_of _ (by decide +kernel)) ggX5_ahead_X5_foretell
theorem dX5_ahead_0 : decode cX5_ahead 0 = .ok (.aload_n 0, 1) := by decide +kernel
theorem dX5_ahead_1 : decode cX5_ahead 1 = .ok (.iload_n 1, 1) := by decide +kernel
theorem dX5_ahead_2 : decode cX5_ahead 2 = .ok (.invokevirtual 145, 3) := by decide +kernel
theorem dX5_ahead_5 : decode cX5_ahead 5 = .ok (.ifCond .eq 22, 3) := by decide +kernel
theorem dX5_ahead_8 : decode cX5_ahead 8 = .ok (.iload_n 2, 1) := by decide +kernel
theorem dX5_ahead_9 : decode cX5_ahead 9 = .ok (.iconst 0, 1) := by decide +kernel
theorem dX5_ahead_10 : decode cX5_ahead 10 = .ok (.bipush 60, 2) := by decide +kernel
theorem dX5_ahead_12 : decode cX5_ahead 12 = .ok (.invokestatic 183, 3) := by decide +kernel
theorem dX5_ahead_15 : decode cX5_ahead 15 = .ok (.ifCond .eq 12, 3) := by decide +kernel
theorem dX5_ahead_18 : decode cX5_ahead 18 = .ok (.iload_n 3, 1) := by decide +kernel
theorem dX5_ahead_19 : decode cX5_ahead 19 = .ok (.iconst 0, 1) := by decide +kernel
theorem dX5_ahead_20 : decode cX5_ahead 20 = .ok (.iconst 1, 1) := by decide +kernel
theorem dX5_ahead_21 : decode cX5_ahead 21 = .ok (.invokestatic 183, 3) := by decide +kernel
theorem dX5_ahead_24 : decode cX5_ahead 24 = .ok (.ifCond .ne 6, 3) := by decide +kernel
theorem dX5_ahead_27 : decode cX5_ahead 27 = .ok (.ldc 59, 2) := by decide +kernel
theorem dX5_ahead_29 : decode cX5_ahead 29 = .ok (.ireturn, 1) := by decide +kernel
theorem dX5_ahead_30 : decode cX5_ahead 30 = .ok (.aload_n 0, 1) := by decide +kernel
theorem dX5_ahead_31 : decode cX5_ahead 31 = .ok (.iload_n 2, 1) := by decide +kernel
theorem dX5_ahead_32 : decode cX5_ahead 32 = .ok (.invokevirtual 187, 3) := by decide +kernel
theorem dX5_ahead_35 : decode cX5_ahead 35 = .ok (.iload_n 3, 1) := by decide +kernel
theorem dX5_ahead_36 : decode cX5_ahead 36 = .ok (.ifCond .ne 15, 3) := by decide +kernel
theorem dX5_ahead_39 : decode cX5_ahead 39 = .ok (.aload_n 0, 1) := by decide +kernel
theorem dX5_ahead_40 : decode cX5_ahead 40 = .ok (.getfield 29, 3) := by decide +kernel
theorem dX5_ahead_43 : decode cX5_ahead 43 = .ok (.getfield 151, 3) := by decide +kernel
theorem dX5_ahead_46 : decode cX5_ahead 46 = .ok (.iload_n 1, 1) := by decide +kernel
theorem dX5_ahead_47 : decode cX5_ahead 47 = .ok (.iaload, 1) := by decide +kernel
theorem dX5_ahead_48 : decode cX5_ahead 48 = .ok (.goto 12, 3) := by decide +kernel
theorem dX5_ahead_51 : decode cX5_ahead 51 = .ok (.aload_n 0, 1) := by decide +kernel
theorem dX5_ahead_52 : decode cX5_ahead 52 = .ok (.getfield 29, 3) := by decide +kernel
theorem dX5_ahead_55 : decode cX5_ahead 55 = .ok (.getfield 157, 3) := by decide +kernel
theorem dX5_ahead_58 : decode cX5_ahead 58 = .ok (.iload_n 1, 1) := by decide +kernel
theorem dX5_ahead_59 : decode cX5_ahead 59 = .ok (.iaload, 1) := by decide +kernel
theorem dX5_ahead_60 : decode cX5_ahead 60 = .ok (.ireturn, 1) := by decide +kernel
set_option maxRecDepth 20000 in
theorem ggX5_heard_X5_isStretch : GoodIn wsX5_heard wsX5_isStretch := goodIn_r _ [7, 8, 71, 72, 73, 74, 75, 76, 77, 78, 79, 80, 81, 82, 83, 84, 85, 86, 87, 88, 89, 90, 91, 92] (by decide +kernel) (by decide +kernel)
set_option maxRecDepth 20000 in
theorem gX5_heard_X5_isStretch : GoodIn wsX5_heard (wsV RX5 148 RX5 yX5_isStretch wsX5_isStretch) := goodIn_app (goodIn_of _ (by decide +kernel)) ggX5_heard_X5_isStretch
set_option maxRecDepth 20000 in
theorem ggX5_heard_X5_isWithin : GoodIn wsX5_heard wsX5_isWithin := goodIn_r _ [11] (by decide +kernel) (by decide +kernel)
set_option maxRecDepth 20000 in
theorem gX5_heard_X5_isWithin : GoodIn wsX5_heard (va_wsS RX5 183 yX5_isWithin wsX5_isWithin) := goodIn_app (goodIn_of _ (by decide +kernel)) ggX5_heard_X5_isWithin
set_option maxRecDepth 20000 in
theorem ggX5_heard_X5_foretell : GoodIn wsX5_heard wsX5_foretell := goodIn_r _ [15, 2, 8, 16, 17, 18, 19, 20, 21, 22, 23, 24, 25, 26, 27, 28, 29, 30, 31, 32, 33, 34, 35, 36, 37, 38, 39, 40, 41, 42, 43, 44, 45, 46, 47, 48, 49, 50, 51, 52, 53, 54, 55, 56, 57, 58, 59, 60, 61, 62, 63, 64, 65, 66, 67, 68, 69, 70, 71, 72, 73, 74, 75, 76, 77, 78, 79, 80, 81, 82, 83, 84, 85, 86, 87, 88, 89, 90, 91, 92] (by decide +kernel) (by decide +kernel)
set_option maxRecDepth 20000 in
theorem gX5_heard_X5_foretell : GoodIn wsX5_heard (wsV RX5 187 RX5 yX5_foretell wsX5_foretell) := goodIn_app (goodIn_of _ (by decide +kernel)) ggX5_heard_X5_foretell
theorem dX5_heard_0 : decode cX5_heard 0 = .ok (.aload_n 0, 1) := by decide +kernel
theorem dX5_heard_1 : decode cX5_heard 1 = .ok (.iload_n 1, 1) := by decide +kernel
theorem dX5_heard_2 : decode cX5_heard 2 = .ok (.invokevirtual 148, 3) := by decide +kernel
theorem dX5_heard_5 : decode cX5_heard 5 = .ok (.ifCond .eq 13, 3) := by decide +kernel
theorem dX5_heard_8 : decode cX5_heard 8 = .ok (.iload_n 2, 1) := by decide +kernel
theorem dX5_heard_9 : decode cX5_heard 9 = .ok (.iconst 0, 1) := by decide +kernel
theorem dX5_heard_10 : decode cX5_heard 10 = .ok (.bipush 60, 2) := by decide +kernel
theorem dX5_heard_12 : decode cX5_heard 12 = .ok (.invokestatic 183, 3) := by decide +kernel
theorem dX5_heard_15 : decode cX5_heard 15 = .ok (.ifCond .ne 6, 3) := by decide +kernel
theorem dX5_heard_18 : decode cX5_heard 18 = .ok (.ldc 59, 2) := by decide +kernel
theorem dX5_heard_20 : decode cX5_heard 20 = .ok (.ireturn, 1) := by decide +kernel
theorem dX5_heard_21 : decode cX5_heard 21 = .ok (.aload_n 0, 1) := by decide +kernel
theorem dX5_heard_22 : decode cX5_heard 22 = .ok (.iload_n 2, 1) := by decide +kernel
theorem dX5_heard_23 : decode cX5_heard 23 = .ok (.invokevirtual 187, 3) := by decide +kernel
theorem dX5_heard_26 : decode cX5_heard 26 = .ok (.aload_n 0, 1) := by decide +kernel
theorem dX5_heard_27 : decode cX5_heard 27 = .ok (.getfield 29, 3) := by decide +kernel
theorem dX5_heard_30 : decode cX5_heard 30 = .ok (.getfield 160, 3) := by decide +kernel
theorem dX5_heard_33 : decode cX5_heard 33 = .ok (.iload_n 1, 1) := by decide +kernel
theorem dX5_heard_34 : decode cX5_heard 34 = .ok (.iaload, 1) := by decide +kernel
theorem dX5_heard_35 : decode cX5_heard 35 = .ok (.ireturn, 1) := by decide +kernel
set_option maxRecDepth 20000 in
theorem ggX5_whole_X5_isStretch : GoodIn wsX5_whole wsX5_isStretch := goodIn_r _ [6, 7, 80, 81, 82, 83, 84, 85, 86, 87, 88, 89, 90, 91, 92, 93, 94, 95, 96, 97, 98, 99, 100, 101] (by decide +kernel) (by decide +kernel)
set_option maxRecDepth 20000 in
theorem gX5_whole_X5_isStretch : GoodIn wsX5_whole (wsV RX5 148 RX5 yX5_isStretch wsX5_isStretch) := goodIn_app (goodIn_of _ (by decide +kernel)) ggX5_whole_X5_isStretch
set_option maxRecDepth 20000 in
theorem ggX5_whole_X5_hoursToWhole : GoodIn wsX5_whole wsX5_hoursToWhole := goodIn_r _ [11, 12, 13, 14, 15, 16, 5, 17, 7, 18, 19, 20, 21, 22, 23, 24, 25, 26, 27, 28, 29, 30, 31, 32, 33, 34, 35, 36, 37, 38, 39, 40, 41, 42, 43, 44, 45, 46, 47, 48, 49, 50, 51, 52, 53, 54, 55, 56, 57, 58, 59, 60, 61, 62, 63, 64, 65, 66, 67, 68, 69, 70, 71, 72, 73, 74, 75, 76, 77, 78, 79, 80, 81, 82, 83, 84, 85, 86, 87, 88, 89, 90, 91, 92, 93, 94, 95, 96, 97, 98, 99, 100, 101] (by decide +kernel) (by decide +kernel)
set_option maxRecDepth 20000 in
theorem gX5_whole_X5_hoursToWhole : GoodIn wsX5_whole (wsV RX5 190 RX5 yX5_hoursToWhole wsX5_hoursToWhole) := goodIn_app (goodIn_of _ (by decide +kernel)) ggX5_whole_X5_hoursToWhole
theorem dX5_whole_0 : decode cX5_whole 0 = .ok (.aload_n 0, 1) := by decide +kernel
theorem dX5_whole_1 : decode cX5_whole 1 = .ok (.iload_n 1, 1) := by decide +kernel
theorem dX5_whole_2 : decode cX5_whole 2 = .ok (.invokevirtual 148, 3) := by decide +kernel
theorem dX5_whole_5 : decode cX5_whole 5 = .ok (.ifCond .ne 6, 3) := by decide +kernel
theorem dX5_whole_8 : decode cX5_whole 8 = .ok (.ldc 59, 2) := by decide +kernel
theorem dX5_whole_10 : decode cX5_whole 10 = .ok (.ireturn, 1) := by decide +kernel
theorem dX5_whole_11 : decode cX5_whole 11 = .ok (.aload_n 0, 1) := by decide +kernel
theorem dX5_whole_12 : decode cX5_whole 12 = .ok (.iconst 1, 1) := by decide +kernel
theorem dX5_whole_13 : decode cX5_whole 13 = .ok (.iload_n 1, 1) := by decide +kernel
theorem dX5_whole_14 : decode cX5_whole 14 = .ok (.ishl, 1) := by decide +kernel
theorem dX5_whole_15 : decode cX5_whole 15 = .ok (.invokevirtual 190, 3) := by decide +kernel
theorem dX5_whole_18 : decode cX5_whole 18 = .ok (.ireturn, 1) := by decide +kernel
set_option maxRecDepth 20000 in
theorem ggX5_first_X5_isWithin : GoodIn wsX5_first wsX5_isWithin := goodIn_r _ [9] (by decide +kernel) (by decide +kernel)
set_option maxRecDepth 20000 in
theorem gX5_first_X5_isWithin : GoodIn wsX5_first (va_wsS RX5 183 yX5_isWithin wsX5_isWithin) := goodIn_app (goodIn_of _ (by decide +kernel)) ggX5_first_X5_isWithin
set_option maxRecDepth 20000 in
theorem ggX5_first_X5_hoursToWhole : GoodIn wsX5_first wsX5_hoursToWhole := goodIn_r _ [13, 5, 4, 14, 15, 16, 8, 17, 1, 18, 19, 20, 21, 22, 23, 24, 25, 26, 27, 28, 29, 30, 31, 32, 33, 34, 35, 36, 37, 38, 39, 40, 41, 42, 43, 44, 45, 46, 47, 48, 49, 50, 51, 52, 53, 54, 55, 56, 57, 58, 59, 60, 61, 62, 63, 64, 65, 66, 67, 68, 69, 70, 71, 72, 73, 74, 75, 76, 77, 78, 79, 83, 84, 85, 86, 87, 88, 89, 90, 91, 92, 93, 94, 95, 96, 97, 98, 99, 100, 101, 102, 103, 104] (by decide +kernel) (by decide +kernel)
set_option maxRecDepth 20000 in
theorem gX5_first_X5_hoursToWhole : GoodIn wsX5_first (wsV RX5 190 RX5 yX5_hoursToWhole wsX5_hoursToWhole) := goodIn_app (goodIn_of _ (by decide +kernel)) ggX5_first_X5_hoursToWhole
set_option maxRecDepth 20000 in
theorem ggX5_first_X2_wholeGates : GoodIn wsX5_first wsX2_wholeGates := goodIn_r _ [75, 26, 29, 76, 77, 78, 19, 79, 23, 93, 94, 95, 96, 97, 98, 99, 100, 101, 102, 103, 104] (by decide +kernel) (by decide +kernel)
set_option maxRecDepth 20000 in
theorem gX5_first_X2_wholeGates_n141 : GoodIn wsX5_first (wsX2_wholeGates) := ggX5_first_X2_wholeGates
set_option maxRecDepth 20000 in
theorem ggX5_first_X5_leastOf : GoodIn wsX5_first wsX5_leastOf := goodIn_r _ [82, 4] (by decide +kernel) (by decide +kernel)
set_option maxRecDepth 20000 in
theorem gX5_first_X5_leastOf : GoodIn wsX5_first (va_wsS RX5 197 yX5_leastOf wsX5_leastOf) := goodIn_app (goodIn_of _ (by decide +kernel)) ggX5_first_X5_leastOf
theorem dX5_first_0 : decode cX5_first 0 = .ok (.aload_n 0, 1) := by decide +kernel
theorem dX5_first_1 : decode cX5_first 1 = .ok (.getfield 25, 3) := by decide +kernel
theorem dX5_first_4 : decode cX5_first 4 = .ok (.getfield 128, 3) := by decide +kernel
theorem dX5_first_7 : decode cX5_first 7 = .ok (.ifCond .ne 6, 3) := by decide +kernel
theorem dX5_first_10 : decode cX5_first 10 = .ok (.ldc 131, 2) := by decide +kernel
theorem dX5_first_12 : decode cX5_first 12 = .ok (.ireturn, 1) := by decide +kernel
theorem dX5_first_13 : decode cX5_first 13 = .ok (.iload_n 1, 1) := by decide +kernel
theorem dX5_first_14 : decode cX5_first 14 = .ok (.iconst 0, 1) := by decide +kernel
theorem dX5_first_15 : decode cX5_first 15 = .ok (.iconst 1, 1) := by decide +kernel
theorem dX5_first_16 : decode cX5_first 16 = .ok (.invokestatic 183, 3) := by decide +kernel
theorem dX5_first_19 : decode cX5_first 19 = .ok (.ifCond .ne 6, 3) := by decide +kernel
theorem dX5_first_22 : decode cX5_first 22 = .ok (.ldc 59, 2) := by decide +kernel
theorem dX5_first_24 : decode cX5_first 24 = .ok (.ireturn, 1) := by decide +kernel
theorem dX5_first_25 : decode cX5_first 25 = .ok (.aload_n 0, 1) := by decide +kernel
theorem dX5_first_26 : decode cX5_first 26 = .ok (.iconst 1, 1) := by decide +kernel
theorem dX5_first_27 : decode cX5_first 27 = .ok (.aload_n 0, 1) := by decide +kernel
theorem dX5_first_28 : decode cX5_first 28 = .ok (.getfield 25, 3) := by decide +kernel
theorem dX5_first_31 : decode cX5_first 31 = .ok (.getfield 193, 3) := by decide +kernel
theorem dX5_first_34 : decode cX5_first 34 = .ok (.ishl, 1) := by decide +kernel
theorem dX5_first_35 : decode cX5_first 35 = .ok (.iconst 1, 1) := by decide +kernel
theorem dX5_first_36 : decode cX5_first 36 = .ok (.isub, 1) := by decide +kernel
theorem dX5_first_37 : decode cX5_first 37 = .ok (.invokevirtual 190, 3) := by decide +kernel
theorem dX5_first_40 : decode cX5_first 40 = .ok (.istore_n 2, 1) := by decide +kernel
theorem dX5_first_41 : decode cX5_first 41 = .ok (.iload_n 2, 1) := by decide +kernel
theorem dX5_first_42 : decode cX5_first 42 = .ok (.ldc 196, 2) := by decide +kernel
theorem dX5_first_44 : decode cX5_first 44 = .ok (.if_icmp .eq 8, 3) := by decide +kernel
theorem dX5_first_47 : decode cX5_first 47 = .ok (.iload_n 1, 1) := by decide +kernel
theorem dX5_first_48 : decode cX5_first 48 = .ok (.iconst 1, 1) := by decide +kernel
theorem dX5_first_49 : decode cX5_first 49 = .ok (.if_icmp .ne 5, 3) := by decide +kernel
theorem dX5_first_52 : decode cX5_first 52 = .ok (.iload_n 2, 1) := by decide +kernel
theorem dX5_first_53 : decode cX5_first 53 = .ok (.ireturn, 1) := by decide +kernel
theorem dX5_first_54 : decode cX5_first 54 = .ok (.aload_n 0, 1) := by decide +kernel
theorem dX5_first_55 : decode cX5_first 55 = .ok (.getfield 29, 3) := by decide +kernel
theorem dX5_first_58 : decode cX5_first 58 = .ok (.invokevirtual 141, 3) := by decide +kernel
theorem dX5_first_61 : decode cX5_first 61 = .ok (.invokestatic 197, 3) := by decide +kernel
theorem dX5_first_64 : decode cX5_first 64 = .ok (.ireturn, 1) := by decide +kernel
set_option maxRecDepth 20000 in
theorem ggX5_left_X5_isWithin : GoodIn wsX5_left wsX5_isWithin := goodIn_r _ [8] (by decide +kernel) (by decide +kernel)
set_option maxRecDepth 20000 in
theorem gX5_left_X5_isWithin : GoodIn wsX5_left (va_wsS RX5 183 yX5_isWithin wsX5_isWithin) := goodIn_app (goodIn_of _ (by decide +kernel)) ggX5_left_X5_isWithin
set_option maxRecDepth 20000 in
theorem ggX5_left_X5_foretell : GoodIn wsX5_left wsX5_foretell := goodIn_r _ [12, 4, 1, 13, 14, 15, 16, 17, 18, 19, 20, 21, 22, 23, 24, 25, 26, 27, 28, 29, 30, 31, 32, 33, 34, 35, 36, 37, 38, 39, 40, 41, 42, 43, 44, 45, 46, 47, 48, 49, 50, 51, 52, 53, 54, 55, 56, 57, 58, 59, 60, 61, 62, 63, 64, 65, 66, 67, 74, 75, 76, 77, 78, 79, 80, 81, 82, 83, 84, 85, 86, 87, 88, 89, 90, 91, 92, 93, 94, 95] (by decide +kernel) (by decide +kernel)
set_option maxRecDepth 20000 in
theorem gX5_left_X5_foretell : GoodIn wsX5_left (wsV RX5 187 RX5 yX5_foretell wsX5_foretell) := goodIn_app (goodIn_of _ (by decide +kernel)) ggX5_left_X5_foretell
set_option maxRecDepth 20000 in
theorem ggX5_left_X2_allWords : GoodIn wsX5_left wsX2_allWords := goodIn_r _ [70, 18, 84, 85, 86, 87, 88, 89, 90, 91, 92, 93, 94, 95] (by decide +kernel) (by decide +kernel)
set_option maxRecDepth 20000 in
theorem gX5_left_X2_allWords_n200 : GoodIn wsX5_left (wsX2_allWords) := ggX5_left_X2_allWords
set_option maxRecDepth 20000 in
theorem ggX5_left_X2_heardAtAny : GoodIn wsX5_left wsX2_heardAtAny := goodIn_r _ [73, 21, 24, 84, 85, 86, 87, 88, 89, 90, 91, 92, 93, 94, 95] (by decide +kernel) (by decide +kernel)
set_option maxRecDepth 20000 in
theorem gX5_left_X2_heardAtAny_n203 : GoodIn wsX5_left (wsX2_heardAtAny) := ggX5_left_X2_heardAtAny
theorem dX5_left_0 : decode cX5_left 0 = .ok (.aload_n 0, 1) := by decide +kernel
theorem dX5_left_1 : decode cX5_left 1 = .ok (.getfield 25, 3) := by decide +kernel
theorem dX5_left_4 : decode cX5_left 4 = .ok (.getfield 128, 3) := by decide +kernel
theorem dX5_left_7 : decode cX5_left 7 = .ok (.ifCond .ne 6, 3) := by decide +kernel
theorem dX5_left_10 : decode cX5_left 10 = .ok (.ldc 131, 2) := by decide +kernel
theorem dX5_left_12 : decode cX5_left 12 = .ok (.ireturn, 1) := by decide +kernel
theorem dX5_left_13 : decode cX5_left 13 = .ok (.iload_n 1, 1) := by decide +kernel
theorem dX5_left_14 : decode cX5_left 14 = .ok (.iconst 0, 1) := by decide +kernel
theorem dX5_left_15 : decode cX5_left 15 = .ok (.bipush 60, 2) := by decide +kernel
theorem dX5_left_17 : decode cX5_left 17 = .ok (.invokestatic 183, 3) := by decide +kernel
theorem dX5_left_20 : decode cX5_left 20 = .ok (.ifCond .ne 6, 3) := by decide +kernel
theorem dX5_left_23 : decode cX5_left 23 = .ok (.ldc 59, 2) := by decide +kernel
theorem dX5_left_25 : decode cX5_left 25 = .ok (.ireturn, 1) := by decide +kernel
theorem dX5_left_26 : decode cX5_left 26 = .ok (.aload_n 0, 1) := by decide +kernel
theorem dX5_left_27 : decode cX5_left 27 = .ok (.iload_n 1, 1) := by decide +kernel
theorem dX5_left_28 : decode cX5_left 28 = .ok (.invokevirtual 187, 3) := by decide +kernel
theorem dX5_left_31 : decode cX5_left 31 = .ok (.aload_n 0, 1) := by decide +kernel
theorem dX5_left_32 : decode cX5_left 32 = .ok (.getfield 29, 3) := by decide +kernel
theorem dX5_left_35 : decode cX5_left 35 = .ok (.invokevirtual 200, 3) := by decide +kernel
theorem dX5_left_38 : decode cX5_left 38 = .ok (.aload_n 0, 1) := by decide +kernel
theorem dX5_left_39 : decode cX5_left 39 = .ok (.getfield 29, 3) := by decide +kernel
theorem dX5_left_42 : decode cX5_left 42 = .ok (.iconst 1, 1) := by decide +kernel
theorem dX5_left_43 : decode cX5_left 43 = .ok (.aload_n 0, 1) := by decide +kernel
theorem dX5_left_44 : decode cX5_left 44 = .ok (.getfield 29, 3) := by decide +kernel
theorem dX5_left_47 : decode cX5_left 47 = .ok (.getfield 193, 3) := by decide +kernel
theorem dX5_left_50 : decode cX5_left 50 = .ok (.ishl, 1) := by decide +kernel
theorem dX5_left_51 : decode cX5_left 51 = .ok (.iconst 1, 1) := by decide +kernel
theorem dX5_left_52 : decode cX5_left 52 = .ok (.isub, 1) := by decide +kernel
theorem dX5_left_53 : decode cX5_left 53 = .ok (.invokevirtual 203, 3) := by decide +kernel
theorem dX5_left_56 : decode cX5_left 56 = .ok (.iconst (-1), 1) := by decide +kernel
theorem dX5_left_57 : decode cX5_left 57 = .ok (.ixor, 1) := by decide +kernel
theorem dX5_left_58 : decode cX5_left 58 = .ok (.iand, 1) := by decide +kernel
theorem dX5_left_59 : decode cX5_left 59 = .ok (.ireturn, 1) := by decide +kernel
set_option maxRecDepth 20000 in
theorem ggX5_meet_X5_isPulpit : GoodIn wsX5_meet wsX5_isPulpit := goodIn_r _ [8, 9, 69, 70, 71, 72, 73, 74, 75, 76, 77, 78, 79, 80, 81, 82, 83, 84, 85, 86, 87, 88, 89, 90] (by decide +kernel) (by decide +kernel)
set_option maxRecDepth 20000 in
theorem gX5_meet_X5_isPulpit : GoodIn wsX5_meet (wsV RX5 145 RX5 yX5_isPulpit wsX5_isPulpit) := goodIn_app (goodIn_of _ (by decide +kernel)) ggX5_meet_X5_isPulpit
set_option maxRecDepth 20000 in
theorem ggX5_meet_X5_foretell : GoodIn wsX5_meet wsX5_foretell := goodIn_r _ [13, 2, 9, 14, 15, 16, 17, 18, 19, 20, 21, 22, 23, 24, 25, 26, 27, 28, 29, 30, 31, 32, 33, 34, 35, 36, 37, 38, 39, 40, 41, 42, 43, 44, 45, 46, 47, 48, 49, 50, 51, 52, 53, 54, 55, 56, 57, 58, 59, 60, 61, 62, 63, 64, 65, 66, 67, 68, 69, 70, 71, 72, 73, 74, 75, 76, 77, 78, 79, 80, 81, 82, 83, 84, 85, 86, 87, 88, 89, 90] (by decide +kernel) (by decide +kernel)
set_option maxRecDepth 20000 in
theorem gX5_meet_X5_foretell : GoodIn wsX5_meet (wsV RX5 187 RX5 yX5_foretell wsX5_foretell) := goodIn_app (goodIn_of _ (by decide +kernel)) ggX5_meet_X5_foretell
set_option maxRecDepth 20000 in
theorem ggX5_meet_X2_goHour : GoodIn wsX5_meet wsX2_goHour := goodIn_r _ [35, 22, 36, 23, 21, 37, 38, 39, 15, 40, 27, 41, 42, 43, 44, 25, 28, 45, 46, 47, 48, 26, 24, 49, 50, 51, 52, 19, 53, 54, 55, 56, 57, 58, 59, 60, 20, 61, 62, 63, 64, 65, 66, 67, 68, 79, 80, 81, 82, 83, 84, 85, 86, 87, 88, 89, 90] (by decide +kernel) (by decide +kernel)
set_option maxRecDepth 20000 in
theorem gX5_meet_X2_goHour_n138 : GoodIn wsX5_meet (wsX2_goHour) := ggX5_meet_X2_goHour
theorem dX5_meet_0 : decode cX5_meet 0 = .ok (.aload_n 0, 1) := by decide +kernel
theorem dX5_meet_1 : decode cX5_meet 1 = .ok (.iload_n 1, 1) := by decide +kernel
theorem dX5_meet_2 : decode cX5_meet 2 = .ok (.invokevirtual 145, 3) := by decide +kernel
theorem dX5_meet_5 : decode cX5_meet 5 = .ok (.ifCond .eq 16, 3) := by decide +kernel
theorem dX5_meet_8 : decode cX5_meet 8 = .ok (.aload_n 0, 1) := by decide +kernel
theorem dX5_meet_9 : decode cX5_meet 9 = .ok (.iload_n 2, 1) := by decide +kernel
theorem dX5_meet_10 : decode cX5_meet 10 = .ok (.invokevirtual 145, 3) := by decide +kernel
theorem dX5_meet_13 : decode cX5_meet 13 = .ok (.ifCond .eq 8, 3) := by decide +kernel
theorem dX5_meet_16 : decode cX5_meet 16 = .ok (.iload_n 1, 1) := by decide +kernel
theorem dX5_meet_17 : decode cX5_meet 17 = .ok (.iload_n 2, 1) := by decide +kernel
theorem dX5_meet_18 : decode cX5_meet 18 = .ok (.if_icmp .ne 6, 3) := by decide +kernel
theorem dX5_meet_21 : decode cX5_meet 21 = .ok (.ldc 59, 2) := by decide +kernel
theorem dX5_meet_23 : decode cX5_meet 23 = .ok (.ireturn, 1) := by decide +kernel
theorem dX5_meet_24 : decode cX5_meet 24 = .ok (.aload_n 0, 1) := by decide +kernel
theorem dX5_meet_25 : decode cX5_meet 25 = .ok (.iconst 0, 1) := by decide +kernel
theorem dX5_meet_26 : decode cX5_meet 26 = .ok (.invokevirtual 187, 3) := by decide +kernel
theorem dX5_meet_29 : decode cX5_meet 29 = .ok (.iconst 0, 1) := by decide +kernel
theorem dX5_meet_30 : decode cX5_meet 30 = .ok (.istore_n 3, 1) := by decide +kernel
theorem dX5_meet_31 : decode cX5_meet 31 = .ok (.iload_n 3, 1) := by decide +kernel
theorem dX5_meet_32 : decode cX5_meet 32 = .ok (.bipush 60, 2) := by decide +kernel
theorem dX5_meet_34 : decode cX5_meet 34 = .ok (.if_icmp .gt 39, 3) := by decide +kernel
theorem dX5_meet_37 : decode cX5_meet 37 = .ok (.aload_n 0, 1) := by decide +kernel
theorem dX5_meet_38 : decode cX5_meet 38 = .ok (.getfield 29, 3) := by decide +kernel
theorem dX5_meet_41 : decode cX5_meet 41 = .ok (.getfield 151, 3) := by decide +kernel
theorem dX5_meet_44 : decode cX5_meet 44 = .ok (.iload_n 1, 1) := by decide +kernel
theorem dX5_meet_45 : decode cX5_meet 45 = .ok (.iaload, 1) := by decide +kernel
theorem dX5_meet_46 : decode cX5_meet 46 = .ok (.aload_n 0, 1) := by decide +kernel
theorem dX5_meet_47 : decode cX5_meet 47 = .ok (.getfield 29, 3) := by decide +kernel
theorem dX5_meet_50 : decode cX5_meet 50 = .ok (.getfield 151, 3) := by decide +kernel
theorem dX5_meet_53 : decode cX5_meet 53 = .ok (.iload_n 2, 1) := by decide +kernel
theorem dX5_meet_54 : decode cX5_meet 54 = .ok (.iaload, 1) := by decide +kernel
theorem dX5_meet_55 : decode cX5_meet 55 = .ok (.if_icmp .ne 5, 3) := by decide +kernel
theorem dX5_meet_58 : decode cX5_meet 58 = .ok (.iload_n 3, 1) := by decide +kernel
theorem dX5_meet_59 : decode cX5_meet 59 = .ok (.ireturn, 1) := by decide +kernel
theorem dX5_meet_60 : decode cX5_meet 60 = .ok (.aload_n 0, 1) := by decide +kernel
theorem dX5_meet_61 : decode cX5_meet 61 = .ok (.getfield 29, 3) := by decide +kernel
theorem dX5_meet_64 : decode cX5_meet 64 = .ok (.invokevirtual 138, 3) := by decide +kernel
theorem dX5_meet_67 : decode cX5_meet 67 = .ok (.iinc 3 1, 3) := by decide +kernel
theorem dX5_meet_70 : decode cX5_meet 70 = .ok (.goto (-39), 3) := by decide +kernel
theorem dX5_meet_73 : decode cX5_meet 73 = .ok (.ldc 196, 2) := by decide +kernel
theorem dX5_meet_75 : decode cX5_meet 75 = .ok (.ireturn, 1) := by decide +kernel
set_option maxRecDepth 20000 in
theorem ggX5_round_X5_foretell : GoodIn wsX5_round wsX5_foretell := goodIn_r _ [9, 3, 1, 10, 11, 12, 13, 14, 15, 16, 17, 18, 19, 20, 21, 22, 23, 24, 25, 26, 27, 28, 29, 30, 31, 32, 33, 34, 35, 36, 37, 38, 39, 40, 41, 42, 43, 44, 45, 46, 47, 48, 49, 50, 51, 52, 53, 54, 55, 56, 57, 58, 59, 60, 61, 62, 63, 64, 68, 69, 70, 71, 72, 73, 74, 75, 76, 77, 78, 79, 80, 81, 82, 83, 84, 85, 86, 87, 88, 89] (by decide +kernel) (by decide +kernel)
set_option maxRecDepth 20000 in
theorem gX5_round_X5_foretell : GoodIn wsX5_round (wsV RX5 187 RX5 yX5_foretell wsX5_foretell) := goodIn_app (goodIn_of _ (by decide +kernel)) ggX5_round_X5_foretell
set_option maxRecDepth 20000 in
theorem ggX5_round_X2_goHour : GoodIn wsX5_round wsX2_goHour := goodIn_r _ [31, 18, 32, 19, 17, 33, 34, 35, 11, 36, 23, 37, 38, 39, 40, 21, 24, 41, 42, 43, 44, 22, 20, 45, 46, 47, 48, 15, 49, 50, 51, 52, 53, 54, 55, 56, 16, 57, 58, 59, 60, 61, 62, 63, 64, 78, 79, 80, 81, 82, 83, 84, 85, 86, 87, 88, 89] (by decide +kernel) (by decide +kernel)
set_option maxRecDepth 20000 in
theorem gX5_round_X2_goHour_n138 : GoodIn wsX5_round (wsX2_goHour) := ggX5_round_X2_goHour
set_option maxRecDepth 20000 in
theorem ggX5_round_X2_hasPulpitsAs : GoodIn wsX5_round wsX2_hasPulpitsAs := goodIn_r _ [67, 19, 23, 24, 78, 79, 80, 81, 82, 83, 84, 85, 86, 87, 88, 89] (by decide +kernel) (by decide +kernel)
set_option maxRecDepth 20000 in
theorem gX5_round_X2_hasPulpitsAs_n206 : GoodIn wsX5_round (wsX2_hasPulpitsAs) := ggX5_round_X2_hasPulpitsAs
theorem dX5_round_0 : decode cX5_round 0 = .ok (.aload_n 0, 1) := by decide +kernel
theorem dX5_round_1 : decode cX5_round 1 = .ok (.getfield 25, 3) := by decide +kernel
theorem dX5_round_4 : decode cX5_round 4 = .ok (.getfield 128, 3) := by decide +kernel
theorem dX5_round_7 : decode cX5_round 7 = .ok (.ifCond .ne 6, 3) := by decide +kernel
theorem dX5_round_10 : decode cX5_round 10 = .ok (.ldc 131, 2) := by decide +kernel
theorem dX5_round_12 : decode cX5_round 12 = .ok (.ireturn, 1) := by decide +kernel
theorem dX5_round_13 : decode cX5_round 13 = .ok (.aload_n 0, 1) := by decide +kernel
theorem dX5_round_14 : decode cX5_round 14 = .ok (.iconst 0, 1) := by decide +kernel
theorem dX5_round_15 : decode cX5_round 15 = .ok (.invokevirtual 187, 3) := by decide +kernel
theorem dX5_round_18 : decode cX5_round 18 = .ok (.iconst 1, 1) := by decide +kernel
theorem dX5_round_19 : decode cX5_round 19 = .ok (.istore_n 1, 1) := by decide +kernel
theorem dX5_round_20 : decode cX5_round 20 = .ok (.iload_n 1, 1) := by decide +kernel
theorem dX5_round_21 : decode cX5_round 21 = .ok (.sipush 200, 3) := by decide +kernel
theorem dX5_round_24 : decode cX5_round 24 = .ok (.if_icmp .gt 32, 3) := by decide +kernel
theorem dX5_round_27 : decode cX5_round 27 = .ok (.aload_n 0, 1) := by decide +kernel
theorem dX5_round_28 : decode cX5_round 28 = .ok (.getfield 29, 3) := by decide +kernel
theorem dX5_round_31 : decode cX5_round 31 = .ok (.invokevirtual 138, 3) := by decide +kernel
theorem dX5_round_34 : decode cX5_round 34 = .ok (.aload_n 0, 1) := by decide +kernel
theorem dX5_round_35 : decode cX5_round 35 = .ok (.getfield 29, 3) := by decide +kernel
theorem dX5_round_38 : decode cX5_round 38 = .ok (.aload_n 0, 1) := by decide +kernel
theorem dX5_round_39 : decode cX5_round 39 = .ok (.getfield 25, 3) := by decide +kernel
theorem dX5_round_42 : decode cX5_round 42 = .ok (.invokevirtual 206, 3) := by decide +kernel
theorem dX5_round_45 : decode cX5_round 45 = .ok (.ifCond .eq 5, 3) := by decide +kernel
theorem dX5_round_48 : decode cX5_round 48 = .ok (.iload_n 1, 1) := by decide +kernel
theorem dX5_round_49 : decode cX5_round 49 = .ok (.ireturn, 1) := by decide +kernel
theorem dX5_round_50 : decode cX5_round 50 = .ok (.iinc 1 1, 3) := by decide +kernel
theorem dX5_round_53 : decode cX5_round 53 = .ok (.goto (-33), 3) := by decide +kernel
theorem dX5_round_56 : decode cX5_round 56 = .ok (.ldc 196, 2) := by decide +kernel
theorem dX5_round_58 : decode cX5_round 58 = .ok (.ireturn, 1) := by decide +kernel
set_option maxRecDepth 20000 in
theorem ggX5_best_X5_isPulpit : GoodIn wsX5_best wsX5_isPulpit := goodIn_r _ [8, 2, 78, 79, 80, 81, 82, 83, 84, 85, 86, 87, 88, 89, 90, 91, 92, 93, 94, 95, 96, 97, 98, 99] (by decide +kernel) (by decide +kernel)
set_option maxRecDepth 20000 in
theorem gX5_best_X5_isPulpit : GoodIn wsX5_best (wsV RX5 145 RX5 yX5_isPulpit wsX5_isPulpit) := goodIn_app (goodIn_of _ (by decide +kernel)) ggX5_best_X5_isPulpit
set_option maxRecDepth 20000 in
theorem ggX5_best_X5_isStretch : GoodIn wsX5_best wsX5_isStretch := goodIn_r _ [12, 2, 78, 79, 80, 81, 82, 83, 84, 85, 86, 87, 88, 89, 90, 91, 92, 93, 94, 95, 96, 97, 98, 99] (by decide +kernel) (by decide +kernel)
set_option maxRecDepth 20000 in
theorem gX5_best_X5_isStretch : GoodIn wsX5_best (wsV RX5 148 RX5 yX5_isStretch wsX5_isStretch) := goodIn_app (goodIn_of _ (by decide +kernel)) ggX5_best_X5_isStretch
set_option maxRecDepth 20000 in
theorem ggX5_best_X5_isWithin : GoodIn wsX5_best wsX5_isWithin := goodIn_r _ [15] (by decide +kernel) (by decide +kernel)
set_option maxRecDepth 20000 in
theorem gX5_best_X5_isWithin : GoodIn wsX5_best (va_wsS RX5 183 yX5_isWithin wsX5_isWithin) := goodIn_app (goodIn_of _ (by decide +kernel)) ggX5_best_X5_isWithin
set_option maxRecDepth 20000 in
theorem ggX5_best_X2_take : GoodIn wsX5_best wsX2_take := goodIn_r _ [19, 20, 21, 22, 23, 24, 25, 26, 27, 28, 29, 30, 88, 89, 90, 91, 92, 93, 94, 95, 96, 97, 98, 99] (by decide +kernel) (by decide +kernel)
set_option maxRecDepth 20000 in
theorem gX5_best_X2_take_n118 : GoodIn wsX5_best (wsX2_take) := ggX5_best_X2_take
set_option maxRecDepth 20000 in
theorem ggX5_best_X2_goHours : GoodIn wsX5_best wsX2_goHours := goodIn_r _ [33, 34, 35, 36, 17, 37, 24, 38, 25, 23, 39, 40, 41, 42, 29, 43, 44, 45, 46, 27, 30, 47, 48, 49, 50, 28, 26, 51, 52, 53, 54, 21, 55, 56, 57, 58, 59, 60, 61, 62, 22, 63, 64, 65, 66, 67, 68, 69, 70, 88, 89, 90, 91, 92, 93, 94, 95, 96, 97, 98, 99] (by decide +kernel) (by decide +kernel)
set_option maxRecDepth 20000 in
theorem gX5_best_X2_goHours_n209 : GoodIn wsX5_best (wsX2_goHours) := ggX5_best_X2_goHours
set_option maxRecDepth 20000 in
theorem ggX5_best_J6_bitCount_0f7a4 : GoodIn wsX5_best wsJ6_bitCount_0f7a4 := goodIn_r _ [74, 75, 76, 77] (by decide +kernel) (by decide +kernel)
set_option maxRecDepth 20000 in
theorem gX5_best_J6_bitCount_0f7a4 : GoodIn wsX5_best (va_wsS RX5 163 yJ6_bitCount_0f7a4 wsJ6_bitCount_0f7a4) := goodIn_app (goodIn_of _ (by decide +kernel)) ggX5_best_J6_bitCount_0f7a4
theorem dX5_best_0 : decode cX5_best 0 = .ok (.aload_n 0, 1) := by decide +kernel
theorem dX5_best_1 : decode cX5_best 1 = .ok (.iload_n 1, 1) := by decide +kernel
theorem dX5_best_2 : decode cX5_best 2 = .ok (.invokevirtual 145, 3) := by decide +kernel
theorem dX5_best_5 : decode cX5_best 5 = .ok (.ifCond .eq 31, 3) := by decide +kernel
theorem dX5_best_8 : decode cX5_best 8 = .ok (.aload_n 0, 1) := by decide +kernel
theorem dX5_best_9 : decode cX5_best 9 = .ok (.iload_n 2, 1) := by decide +kernel
theorem dX5_best_10 : decode cX5_best 10 = .ok (.invokevirtual 148, 3) := by decide +kernel
theorem dX5_best_13 : decode cX5_best 13 = .ok (.ifCond .eq 23, 3) := by decide +kernel
theorem dX5_best_16 : decode cX5_best 16 = .ok (.iload_n 3, 1) := by decide +kernel
theorem dX5_best_17 : decode cX5_best 17 = .ok (.iconst 1, 1) := by decide +kernel
theorem dX5_best_18 : decode cX5_best 18 = .ok (.bipush 30, 2) := by decide +kernel
theorem dX5_best_20 : decode cX5_best 20 = .ok (.invokestatic 183, 3) := by decide +kernel
theorem dX5_best_23 : decode cX5_best 23 = .ok (.ifCond .eq 13, 3) := by decide +kernel
theorem dX5_best_26 : decode cX5_best 26 = .ok (.iload 4, 2) := by decide +kernel
theorem dX5_best_28 : decode cX5_best 28 = .ok (.iconst 0, 1) := by decide +kernel
theorem dX5_best_29 : decode cX5_best 29 = .ok (.iconst 1, 1) := by decide +kernel
theorem dX5_best_30 : decode cX5_best 30 = .ok (.invokestatic 183, 3) := by decide +kernel
theorem dX5_best_33 : decode cX5_best 33 = .ok (.ifCond .ne 6, 3) := by decide +kernel
theorem dX5_best_36 : decode cX5_best 36 = .ok (.ldc 59, 2) := by decide +kernel
theorem dX5_best_38 : decode cX5_best 38 = .ok (.ireturn, 1) := by decide +kernel
theorem dX5_best_39 : decode cX5_best 39 = .ok (.iconst (-1), 1) := by decide +kernel
theorem dX5_best_40 : decode cX5_best 40 = .ok (.istore 5, 2) := by decide +kernel
theorem dX5_best_42 : decode cX5_best 42 = .ok (.iconst 0, 1) := by decide +kernel
theorem dX5_best_43 : decode cX5_best 43 = .ok (.istore 6, 2) := by decide +kernel
theorem dX5_best_45 : decode cX5_best 45 = .ok (.iconst 0, 1) := by decide +kernel
theorem dX5_best_46 : decode cX5_best 46 = .ok (.istore 7, 2) := by decide +kernel
theorem dX5_best_48 : decode cX5_best 48 = .ok (.iload 7, 2) := by decide +kernel
theorem dX5_best_50 : decode cX5_best 50 = .ok (.aload_n 0, 1) := by decide +kernel
theorem dX5_best_51 : decode cX5_best 51 = .ok (.getfield 25, 3) := by decide +kernel
theorem dX5_best_54 : decode cX5_best 54 = .ok (.getfield 193, 3) := by decide +kernel
theorem dX5_best_57 : decode cX5_best 57 = .ok (.if_icmp .ge 68, 3) := by decide +kernel
theorem dX5_best_60 : decode cX5_best 60 = .ok (.aload_n 0, 1) := by decide +kernel
theorem dX5_best_61 : decode cX5_best 61 = .ok (.getfield 29, 3) := by decide +kernel
theorem dX5_best_64 : decode cX5_best 64 = .ok (.aload_n 0, 1) := by decide +kernel
theorem dX5_best_65 : decode cX5_best 65 = .ok (.getfield 25, 3) := by decide +kernel
theorem dX5_best_68 : decode cX5_best 68 = .ok (.invokevirtual 118, 3) := by decide +kernel
theorem dX5_best_71 : decode cX5_best 71 = .ok (.aload_n 0, 1) := by decide +kernel
theorem dX5_best_72 : decode cX5_best 72 = .ok (.getfield 29, 3) := by decide +kernel
theorem dX5_best_75 : decode cX5_best 75 = .ok (.getfield 151, 3) := by decide +kernel
theorem dX5_best_78 : decode cX5_best 78 = .ok (.iload_n 1, 1) := by decide +kernel
theorem dX5_best_79 : decode cX5_best 79 = .ok (.iload 7, 2) := by decide +kernel
theorem dX5_best_81 : decode cX5_best 81 = .ok (.iastore, 1) := by decide +kernel
theorem dX5_best_82 : decode cX5_best 82 = .ok (.aload_n 0, 1) := by decide +kernel
theorem dX5_best_83 : decode cX5_best 83 = .ok (.getfield 29, 3) := by decide +kernel
theorem dX5_best_86 : decode cX5_best 86 = .ok (.iload_n 3, 1) := by decide +kernel
theorem dX5_best_87 : decode cX5_best 87 = .ok (.invokevirtual 209, 3) := by decide +kernel
theorem dX5_best_90 : decode cX5_best 90 = .ok (.aload_n 0, 1) := by decide +kernel
theorem dX5_best_91 : decode cX5_best 91 = .ok (.getfield 29, 3) := by decide +kernel
theorem dX5_best_94 : decode cX5_best 94 = .ok (.getfield 160, 3) := by decide +kernel
theorem dX5_best_97 : decode cX5_best 97 = .ok (.iload_n 2, 1) := by decide +kernel
theorem dX5_best_98 : decode cX5_best 98 = .ok (.iaload, 1) := by decide +kernel
theorem dX5_best_99 : decode cX5_best 99 = .ok (.invokestatic 163, 3) := by decide +kernel
theorem dX5_best_102 : decode cX5_best 102 = .ok (.istore 8, 2) := by decide +kernel
theorem dX5_best_104 : decode cX5_best 104 = .ok (.iload 8, 2) := by decide +kernel
theorem dX5_best_106 : decode cX5_best 106 = .ok (.iload 5, 2) := by decide +kernel
theorem dX5_best_108 : decode cX5_best 108 = .ok (.if_icmp .le 11, 3) := by decide +kernel
theorem dX5_best_111 : decode cX5_best 111 = .ok (.iload 8, 2) := by decide +kernel
theorem dX5_best_113 : decode cX5_best 113 = .ok (.istore 5, 2) := by decide +kernel
theorem dX5_best_115 : decode cX5_best 115 = .ok (.iload 7, 2) := by decide +kernel
theorem dX5_best_117 : decode cX5_best 117 = .ok (.istore 6, 2) := by decide +kernel
theorem dX5_best_119 : decode cX5_best 119 = .ok (.iinc 7 1, 3) := by decide +kernel
theorem dX5_best_122 : decode cX5_best 122 = .ok (.goto (-74), 3) := by decide +kernel
theorem dX5_best_125 : decode cX5_best 125 = .ok (.iload 4, 2) := by decide +kernel
theorem dX5_best_127 : decode cX5_best 127 = .ok (.ifCond .ne 8, 3) := by decide +kernel
theorem dX5_best_130 : decode cX5_best 130 = .ok (.iload 6, 2) := by decide +kernel
theorem dX5_best_132 : decode cX5_best 132 = .ok (.goto 5, 3) := by decide +kernel
theorem dX5_best_135 : decode cX5_best 135 = .ok (.iload 5, 2) := by decide +kernel
theorem dX5_best_137 : decode cX5_best 137 = .ok (.ireturn, 1) := by decide +kernel
set_option maxRecDepth 20000 in
theorem ggX5_piece_X5_isWithin : GoodIn wsX5_piece wsX5_isWithin := goodIn_r _ [8] (by decide +kernel) (by decide +kernel)
set_option maxRecDepth 20000 in
theorem gX5_piece_X5_isWithin : GoodIn wsX5_piece (va_wsS RX5 183 yX5_isWithin wsX5_isWithin) := goodIn_app (goodIn_of _ (by decide +kernel)) ggX5_piece_X5_isWithin
set_option maxRecDepth 20000 in
theorem ggX5_piece_J6_bitCount_0f7a4 : GoodIn wsX5_piece wsJ6_bitCount_0f7a4 := goodIn_r _ [12, 13, 14, 15] (by decide +kernel) (by decide +kernel)
set_option maxRecDepth 20000 in
theorem gX5_piece_J6_bitCount_0f7a4 : GoodIn wsX5_piece (va_wsS RX5 163 yJ6_bitCount_0f7a4 wsJ6_bitCount_0f7a4) := goodIn_app (goodIn_of _ (by decide +kernel)) ggX5_piece_J6_bitCount_0f7a4
set_option maxRecDepth 20000 in
theorem ggX5_piece_X2_heardAtAny : GoodIn wsX5_piece wsX2_heardAtAny := goodIn_r _ [19, 20, 21, 36, 37, 38, 39, 40, 41, 42, 43, 44, 45, 46, 47] (by decide +kernel) (by decide +kernel)
set_option maxRecDepth 20000 in
theorem gX5_piece_X2_heardAtAny_n203 : GoodIn wsX5_piece (wsX2_heardAtAny) := ggX5_piece_X2_heardAtAny
set_option maxRecDepth 20000 in
theorem ggX5_piece_X2_allWords : GoodIn wsX5_piece wsX2_allWords := goodIn_r _ [24, 25, 36, 37, 38, 39, 40, 41, 42, 43, 44, 45, 46, 47] (by decide +kernel) (by decide +kernel)
set_option maxRecDepth 20000 in
theorem gX5_piece_X2_allWords_n200 : GoodIn wsX5_piece (wsX2_allWords) := ggX5_piece_X2_allWords
theorem dX5_piece_0 : decode cX5_piece 0 = .ok (.aload_n 0, 1) := by decide +kernel
theorem dX5_piece_1 : decode cX5_piece 1 = .ok (.getfield 25, 3) := by decide +kernel
theorem dX5_piece_4 : decode cX5_piece 4 = .ok (.getfield 128, 3) := by decide +kernel
theorem dX5_piece_7 : decode cX5_piece 7 = .ok (.ifCond .ne 6, 3) := by decide +kernel
theorem dX5_piece_10 : decode cX5_piece 10 = .ok (.ldc 131, 2) := by decide +kernel
theorem dX5_piece_12 : decode cX5_piece 12 = .ok (.ireturn, 1) := by decide +kernel
theorem dX5_piece_13 : decode cX5_piece 13 = .ok (.iload_n 1, 1) := by decide +kernel
theorem dX5_piece_14 : decode cX5_piece 14 = .ok (.iconst 0, 1) := by decide +kernel
theorem dX5_piece_15 : decode cX5_piece 15 = .ok (.iconst 1, 1) := by decide +kernel
theorem dX5_piece_16 : decode cX5_piece 16 = .ok (.invokestatic 183, 3) := by decide +kernel
theorem dX5_piece_19 : decode cX5_piece 19 = .ok (.ifCond .ne 6, 3) := by decide +kernel
theorem dX5_piece_22 : decode cX5_piece 22 = .ok (.ldc 59, 2) := by decide +kernel
theorem dX5_piece_24 : decode cX5_piece 24 = .ok (.ireturn, 1) := by decide +kernel
theorem dX5_piece_25 : decode cX5_piece 25 = .ok (.ldc 196, 2) := by decide +kernel
theorem dX5_piece_27 : decode cX5_piece 27 = .ok (.istore_n 2, 1) := by decide +kernel
theorem dX5_piece_28 : decode cX5_piece 28 = .ok (.ldc 196, 2) := by decide +kernel
theorem dX5_piece_30 : decode cX5_piece 30 = .ok (.istore_n 3, 1) := by decide +kernel
theorem dX5_piece_31 : decode cX5_piece 31 = .ok (.iconst 1, 1) := by decide +kernel
theorem dX5_piece_32 : decode cX5_piece 32 = .ok (.istore 4, 2) := by decide +kernel
theorem dX5_piece_34 : decode cX5_piece 34 = .ok (.iload 4, 2) := by decide +kernel
theorem dX5_piece_36 : decode cX5_piece 36 = .ok (.iconst 1, 1) := by decide +kernel
theorem dX5_piece_37 : decode cX5_piece 37 = .ok (.aload_n 0, 1) := by decide +kernel
theorem dX5_piece_38 : decode cX5_piece 38 = .ok (.getfield 25, 3) := by decide +kernel
theorem dX5_piece_41 : decode cX5_piece 41 = .ok (.getfield 193, 3) := by decide +kernel
theorem dX5_piece_44 : decode cX5_piece 44 = .ok (.ishl, 1) := by decide +kernel
theorem dX5_piece_45 : decode cX5_piece 45 = .ok (.if_icmp .ge 53, 3) := by decide +kernel
theorem dX5_piece_48 : decode cX5_piece 48 = .ok (.iload 4, 2) := by decide +kernel
theorem dX5_piece_50 : decode cX5_piece 50 = .ok (.invokestatic 163, 3) := by decide +kernel
theorem dX5_piece_53 : decode cX5_piece 53 = .ok (.istore 5, 2) := by decide +kernel
theorem dX5_piece_55 : decode cX5_piece 55 = .ok (.iload_n 2, 1) := by decide +kernel
theorem dX5_piece_56 : decode cX5_piece 56 = .ok (.ldc 196, 2) := by decide +kernel
theorem dX5_piece_58 : decode cX5_piece 58 = .ok (.if_icmp .eq 9, 3) := by decide +kernel
theorem dX5_piece_61 : decode cX5_piece 61 = .ok (.iload 5, 2) := by decide +kernel
theorem dX5_piece_63 : decode cX5_piece 63 = .ok (.iload_n 2, 1) := by decide +kernel
theorem dX5_piece_64 : decode cX5_piece 64 = .ok (.if_icmp .ge 28, 3) := by decide +kernel
theorem dX5_piece_67 : decode cX5_piece 67 = .ok (.aload_n 0, 1) := by decide +kernel
theorem dX5_piece_68 : decode cX5_piece 68 = .ok (.getfield 25, 3) := by decide +kernel
theorem dX5_piece_71 : decode cX5_piece 71 = .ok (.iload 4, 2) := by decide +kernel
theorem dX5_piece_73 : decode cX5_piece 73 = .ok (.invokevirtual 203, 3) := by decide +kernel
theorem dX5_piece_76 : decode cX5_piece 76 = .ok (.aload_n 0, 1) := by decide +kernel
theorem dX5_piece_77 : decode cX5_piece 77 = .ok (.getfield 25, 3) := by decide +kernel
theorem dX5_piece_80 : decode cX5_piece 80 = .ok (.invokevirtual 200, 3) := by decide +kernel
theorem dX5_piece_83 : decode cX5_piece 83 = .ok (.if_icmp .ne 9, 3) := by decide +kernel
theorem dX5_piece_86 : decode cX5_piece 86 = .ok (.iload 5, 2) := by decide +kernel
theorem dX5_piece_88 : decode cX5_piece 88 = .ok (.istore_n 2, 1) := by decide +kernel
theorem dX5_piece_89 : decode cX5_piece 89 = .ok (.iload 4, 2) := by decide +kernel
theorem dX5_piece_91 : decode cX5_piece 91 = .ok (.istore_n 3, 1) := by decide +kernel
theorem dX5_piece_92 : decode cX5_piece 92 = .ok (.iinc 4 1, 3) := by decide +kernel
theorem dX5_piece_95 : decode cX5_piece 95 = .ok (.goto (-61), 3) := by decide +kernel
theorem dX5_piece_98 : decode cX5_piece 98 = .ok (.iload_n 1, 1) := by decide +kernel
theorem dX5_piece_99 : decode cX5_piece 99 = .ok (.ifCond .ne 7, 3) := by decide +kernel
theorem dX5_piece_102 : decode cX5_piece 102 = .ok (.iload_n 2, 1) := by decide +kernel
theorem dX5_piece_103 : decode cX5_piece 103 = .ok (.goto 4, 3) := by decide +kernel
theorem dX5_piece_106 : decode cX5_piece 106 = .ok (.iload_n 3, 1) := by decide +kernel
theorem dX5_piece_107 : decode cX5_piece 107 = .ok (.ireturn, 1) := by decide +kernel
set_option maxRecDepth 20000 in
theorem ggX5_walk_X5_isStretch : GoodIn wsX5_walk wsX5_isStretch := goodIn_r _ [6, 7, 87, 88, 89, 90, 91, 92, 93, 94, 95, 96, 97, 98, 99, 100, 101, 102, 103, 104, 105, 106, 107, 108] (by decide +kernel) (by decide +kernel)
set_option maxRecDepth 20000 in
theorem gX5_walk_X5_isStretch : GoodIn wsX5_walk (wsV RX5 148 RX5 yX5_isStretch wsX5_isStretch) := goodIn_app (goodIn_of _ (by decide +kernel)) ggX5_walk_X5_isStretch
set_option maxRecDepth 20000 in
theorem ggX5_walk_X5_isWithin : GoodIn wsX5_walk wsX5_isWithin := goodIn_r _ [10] (by decide +kernel) (by decide +kernel)
set_option maxRecDepth 20000 in
theorem gX5_walk_X5_isWithin : GoodIn wsX5_walk (va_wsS RX5 183 yX5_isWithin wsX5_isWithin) := goodIn_app (goodIn_of _ (by decide +kernel)) ggX5_walk_X5_isWithin
set_option maxRecDepth 20000 in
theorem ggX5_walk_X5_foretellSayings : GoodIn wsX5_walk wsX5_foretellSayings := goodIn_r _ [14, 15, 16, 17, 18, 19, 5, 20, 7, 21, 22, 23, 24, 25, 26, 27, 28, 29, 30, 31, 32, 33, 34, 35, 36, 37, 38, 39, 40, 41, 42, 43, 44, 45, 46, 47, 48, 49, 50, 51, 52, 53, 54, 55, 56, 57, 58, 59, 60, 61, 62, 63, 64, 65, 66, 67, 68, 69, 70, 71, 72, 73, 74, 75, 87, 88, 89, 90, 91, 92, 93, 94, 95, 96, 97, 98, 99, 100, 101, 102, 103, 104, 105, 106, 107, 108] (by decide +kernel) (by decide +kernel)
set_option maxRecDepth 20000 in
theorem gX5_walk_X5_foretellSayings : GoodIn wsX5_walk (wsV RX5 212 RX5 yX5_foretellSayings wsX5_foretellSayings) := goodIn_app (goodIn_of _ (by decide +kernel)) ggX5_walk_X5_foretellSayings
set_option maxRecDepth 20000 in
theorem ggX5_walk_X5_heardOnWay : GoodIn wsX5_walk wsX5_heardOnWay := goodIn_r _ [79, 15, 16, 73, 22, 74, 75, 29, 87, 88, 89, 90, 91, 92, 93, 94, 95, 96, 97, 98, 99, 100, 101, 102, 103, 104, 105, 106, 107, 108] (by decide +kernel) (by decide +kernel)
set_option maxRecDepth 20000 in
theorem gX5_walk_X5_heardOnWay : GoodIn wsX5_walk (wsV RX5 215 RX5 yX5_heardOnWay wsX5_heardOnWay) := goodIn_app (goodIn_of _ (by decide +kernel)) ggX5_walk_X5_heardOnWay
set_option maxRecDepth 20000 in
theorem ggX5_walk_J6_bitCount_0f7a4 : GoodIn wsX5_walk wsJ6_bitCount_0f7a4 := goodIn_r _ [83, 84, 85, 86] (by decide +kernel) (by decide +kernel)
set_option maxRecDepth 20000 in
theorem gX5_walk_J6_bitCount_0f7a4 : GoodIn wsX5_walk (va_wsS RX5 163 yJ6_bitCount_0f7a4 wsJ6_bitCount_0f7a4) := goodIn_app (goodIn_of _ (by decide +kernel)) ggX5_walk_J6_bitCount_0f7a4
theorem dX5_walk_0 : decode cX5_walk 0 = .ok (.aload_n 0, 1) := by decide +kernel
theorem dX5_walk_1 : decode cX5_walk 1 = .ok (.iload_n 1, 1) := by decide +kernel
theorem dX5_walk_2 : decode cX5_walk 2 = .ok (.invokevirtual 148, 3) := by decide +kernel
theorem dX5_walk_5 : decode cX5_walk 5 = .ok (.ifCond .eq 22, 3) := by decide +kernel
theorem dX5_walk_8 : decode cX5_walk 8 = .ok (.iload_n 2, 1) := by decide +kernel
theorem dX5_walk_9 : decode cX5_walk 9 = .ok (.iconst 1, 1) := by decide +kernel
theorem dX5_walk_10 : decode cX5_walk 10 = .ok (.bipush 8, 2) := by decide +kernel
theorem dX5_walk_12 : decode cX5_walk 12 = .ok (.invokestatic 183, 3) := by decide +kernel
theorem dX5_walk_15 : decode cX5_walk 15 = .ok (.ifCond .eq 12, 3) := by decide +kernel
theorem dX5_walk_18 : decode cX5_walk 18 = .ok (.iload_n 3, 1) := by decide +kernel
theorem dX5_walk_19 : decode cX5_walk 19 = .ok (.iconst 0, 1) := by decide +kernel
theorem dX5_walk_20 : decode cX5_walk 20 = .ok (.iconst 1, 1) := by decide +kernel
theorem dX5_walk_21 : decode cX5_walk 21 = .ok (.invokestatic 183, 3) := by decide +kernel
theorem dX5_walk_24 : decode cX5_walk 24 = .ok (.ifCond .ne 6, 3) := by decide +kernel
theorem dX5_walk_27 : decode cX5_walk 27 = .ok (.ldc 59, 2) := by decide +kernel
theorem dX5_walk_29 : decode cX5_walk 29 = .ok (.ireturn, 1) := by decide +kernel
theorem dX5_walk_30 : decode cX5_walk 30 = .ok (.aload_n 0, 1) := by decide +kernel
theorem dX5_walk_31 : decode cX5_walk 31 = .ok (.iload_n 2, 1) := by decide +kernel
theorem dX5_walk_32 : decode cX5_walk 32 = .ok (.invokevirtual 212, 3) := by decide +kernel
theorem dX5_walk_35 : decode cX5_walk 35 = .ok (.iconst (-1), 1) := by decide +kernel
theorem dX5_walk_36 : decode cX5_walk 36 = .ok (.istore 4, 2) := by decide +kernel
theorem dX5_walk_38 : decode cX5_walk 38 = .ok (.iconst 0, 1) := by decide +kernel
theorem dX5_walk_39 : decode cX5_walk 39 = .ok (.istore 5, 2) := by decide +kernel
theorem dX5_walk_41 : decode cX5_walk 41 = .ok (.iconst 0, 1) := by decide +kernel
theorem dX5_walk_42 : decode cX5_walk 42 = .ok (.istore 6, 2) := by decide +kernel
theorem dX5_walk_44 : decode cX5_walk 44 = .ok (.iload 6, 2) := by decide +kernel
theorem dX5_walk_46 : decode cX5_walk 46 = .ok (.iconst 1, 1) := by decide +kernel
theorem dX5_walk_47 : decode cX5_walk 47 = .ok (.iload_n 2, 1) := by decide +kernel
theorem dX5_walk_48 : decode cX5_walk 48 = .ok (.ishl, 1) := by decide +kernel
theorem dX5_walk_49 : decode cX5_walk 49 = .ok (.if_icmp .ge 37, 3) := by decide +kernel
theorem dX5_walk_52 : decode cX5_walk 52 = .ok (.aload_n 0, 1) := by decide +kernel
theorem dX5_walk_53 : decode cX5_walk 53 = .ok (.iload_n 1, 1) := by decide +kernel
theorem dX5_walk_54 : decode cX5_walk 54 = .ok (.iload_n 2, 1) := by decide +kernel
theorem dX5_walk_55 : decode cX5_walk 55 = .ok (.iload 6, 2) := by decide +kernel
theorem dX5_walk_57 : decode cX5_walk 57 = .ok (.invokevirtual 215, 3) := by decide +kernel
theorem dX5_walk_60 : decode cX5_walk 60 = .ok (.invokestatic 163, 3) := by decide +kernel
theorem dX5_walk_63 : decode cX5_walk 63 = .ok (.istore 7, 2) := by decide +kernel
theorem dX5_walk_65 : decode cX5_walk 65 = .ok (.iload 7, 2) := by decide +kernel
theorem dX5_walk_67 : decode cX5_walk 67 = .ok (.iload 4, 2) := by decide +kernel
theorem dX5_walk_69 : decode cX5_walk 69 = .ok (.if_icmp .le 11, 3) := by decide +kernel
theorem dX5_walk_72 : decode cX5_walk 72 = .ok (.iload 7, 2) := by decide +kernel
theorem dX5_walk_74 : decode cX5_walk 74 = .ok (.istore 4, 2) := by decide +kernel
theorem dX5_walk_76 : decode cX5_walk 76 = .ok (.iload 6, 2) := by decide +kernel
theorem dX5_walk_78 : decode cX5_walk 78 = .ok (.istore 5, 2) := by decide +kernel
theorem dX5_walk_80 : decode cX5_walk 80 = .ok (.iinc 6 1, 3) := by decide +kernel
theorem dX5_walk_83 : decode cX5_walk 83 = .ok (.goto (-39), 3) := by decide +kernel
theorem dX5_walk_86 : decode cX5_walk 86 = .ok (.iload_n 3, 1) := by decide +kernel
theorem dX5_walk_87 : decode cX5_walk 87 = .ok (.ifCond .ne 8, 3) := by decide +kernel
theorem dX5_walk_90 : decode cX5_walk 90 = .ok (.iload 4, 2) := by decide +kernel
theorem dX5_walk_92 : decode cX5_walk 92 = .ok (.goto 5, 3) := by decide +kernel
theorem dX5_walk_95 : decode cX5_walk 95 = .ok (.iload 5, 2) := by decide +kernel
theorem dX5_walk_97 : decode cX5_walk 97 = .ok (.ireturn, 1) := by decide +kernel
set_option maxRecDepth 20000 in
theorem ggX5_fits_X5_isPulpit : GoodIn wsX5_fits wsX5_isPulpit := goodIn_r _ [9, 4, 94, 95, 96, 97, 98, 99, 100, 101, 102, 103, 108, 109, 110, 111, 112, 113, 114, 115, 116, 117, 118, 119] (by decide +kernel) (by decide +kernel)
set_option maxRecDepth 20000 in
theorem gX5_fits_X5_isPulpit : GoodIn wsX5_fits (wsV RX5 145 RX5 yX5_isPulpit wsX5_isPulpit) := goodIn_app (goodIn_of _ (by decide +kernel)) ggX5_fits_X5_isPulpit
set_option maxRecDepth 20000 in
theorem ggX5_fits_X5_isRow : GoodIn wsX5_fits wsX5_isRow := goodIn_r _ [12] (by decide +kernel) (by decide +kernel)
set_option maxRecDepth 20000 in
theorem gX5_fits_X5_isRow : GoodIn wsX5_fits (va_wsS RX5 55 yX5_isRow wsX5_isRow) := goodIn_app (goodIn_of _ (by decide +kernel)) ggX5_fits_X5_isRow
set_option maxRecDepth 20000 in
theorem ggX5_fits_X5_isWithin : GoodIn wsX5_fits wsX5_isWithin := goodIn_r _ [15] (by decide +kernel) (by decide +kernel)
set_option maxRecDepth 20000 in
theorem gX5_fits_X5_isWithin : GoodIn wsX5_fits (va_wsS RX5 183 yX5_isWithin wsX5_isWithin) := goodIn_app (goodIn_of _ (by decide +kernel)) ggX5_fits_X5_isWithin
set_option maxRecDepth 20000 in
theorem ggX5_fits_X5_found : GoodIn wsX5_fits wsX5_found := goodIn_r _ [19, 20, 21, 94, 95, 96, 97, 98, 99, 100, 101, 102, 103] (by decide +kernel) (by decide +kernel)
set_option maxRecDepth 20000 in
theorem gX5_fits_X5_found : GoodIn wsX5_fits (wsV RX5 60 RX5 yX5_found wsX5_found) := goodIn_app (goodIn_of _ (by decide +kernel)) ggX5_fits_X5_found
set_option maxRecDepth 20000 in
theorem ggX5_fits_X3_hasPlaces : GoodIn wsX5_fits wsX3_hasPlaces := goodIn_r _ [25, 26, 104, 105, 106, 107] (by decide +kernel) (by decide +kernel)
set_option maxRecDepth 20000 in
theorem gX5_fits_X3_hasPlaces_n75 : GoodIn wsX5_fits (wsX3_hasPlaces) := ggX5_fits_X3_hasPlaces
set_option maxRecDepth 20000 in
theorem ggX5_fits_X5_guessEnd : GoodIn wsX5_fits wsX5_guessEnd := goodIn_r _ [30, 4, 94, 95, 96, 97, 98, 99, 100, 101, 102, 103, 108, 109, 110, 111, 112, 113, 114, 115, 116, 117, 118, 119] (by decide +kernel) (by decide +kernel)
set_option maxRecDepth 20000 in
theorem gX5_fits_X5_guessEnd : GoodIn wsX5_fits (wsV RX5 219 RX5 yX5_guessEnd wsX5_guessEnd) := goodIn_app (goodIn_of _ (by decide +kernel)) ggX5_fits_X5_guessEnd
set_option maxRecDepth 20000 in
theorem ggX5_fits_X2_take : GoodIn wsX5_fits wsX2_take := goodIn_r _ [34, 35, 36, 37, 38, 39, 40, 41, 42, 43, 44, 45, 108, 109, 110, 111, 112, 113, 114, 115, 116, 117, 118, 119] (by decide +kernel) (by decide +kernel)
set_option maxRecDepth 20000 in
theorem gX5_fits_X2_take_n118 : GoodIn wsX5_fits (wsX2_take) := ggX5_fits_X2_take
set_option maxRecDepth 20000 in
theorem ggX5_fits_X5_suppose : GoodIn wsX5_fits wsX5_suppose := goodIn_r _ [49, 3, 94, 95, 96, 97, 98, 99, 100, 101, 102, 103, 108, 109, 110, 111, 112, 113, 114, 115, 116, 117, 118, 119] (by decide +kernel) (by decide +kernel)
set_option maxRecDepth 20000 in
theorem gX5_fits_X5_suppose : GoodIn wsX5_fits (wsV RX5 222 RX5 yX5_suppose wsX5_suppose) := goodIn_app (goodIn_of _ (by decide +kernel)) ggX5_fits_X5_suppose
set_option maxRecDepth 20000 in
theorem ggX5_fits_X5_goesAsTold : GoodIn wsX5_fits wsX5_goesAsTold := goodIn_r _ [53, 3, 54, 32, 55, 56, 39, 57, 40, 38, 58, 59, 60, 61, 44, 62, 63, 64, 65, 42, 45, 66, 67, 68, 69, 43, 41, 70, 71, 72, 73, 36, 74, 75, 76, 77, 78, 79, 80, 81, 37, 82, 83, 84, 85, 86, 87, 88, 89, 94, 95, 96, 97, 98, 99, 100, 101, 102, 103, 108, 109, 110, 111, 112, 113, 114, 115, 116, 117, 118, 119, 104, 105, 106, 107] (by decide +kernel) (by decide +kernel)
set_option maxRecDepth 20000 in
theorem gX5_fits_X5_goesAsTold : GoodIn wsX5_fits (wsV RX5 226 RX5 yX5_goesAsTold wsX5_goesAsTold) := goodIn_app (goodIn_of _ (by decide +kernel)) ggX5_fits_X5_goesAsTold
set_option maxRecDepth 20000 in
theorem ggX5_fits_X5_foundNothing : GoodIn wsX5_fits wsX5_foundNothing := goodIn_r _ [93, 20, 94, 95, 96, 97, 98, 99, 100, 101, 102, 103] (by decide +kernel) (by decide +kernel)
set_option maxRecDepth 20000 in
theorem gX5_fits_X5_foundNothing : GoodIn wsX5_fits (wsV RX5 68 RX5 yX5_foundNothing wsX5_foundNothing) := goodIn_app (goodIn_of _ (by decide +kernel)) ggX5_fits_X5_foundNothing
theorem dX5_fits_0 : decode cX5_fits 0 = .ok (.aload_n 0, 1) := by decide +kernel
theorem dX5_fits_1 : decode cX5_fits 1 = .ok (.iload_n 1, 1) := by decide +kernel
theorem dX5_fits_2 : decode cX5_fits 2 = .ok (.invokevirtual 145, 3) := by decide +kernel
theorem dX5_fits_5 : decode cX5_fits 5 = .ok (.ifCond .eq 31, 3) := by decide +kernel
theorem dX5_fits_8 : decode cX5_fits 8 = .ok (.iload_n 2, 1) := by decide +kernel
theorem dX5_fits_9 : decode cX5_fits 9 = .ok (.invokestatic 55, 3) := by decide +kernel
theorem dX5_fits_12 : decode cX5_fits 12 = .ok (.ifCond .eq 24, 3) := by decide +kernel
theorem dX5_fits_15 : decode cX5_fits 15 = .ok (.iload 4, 2) := by decide +kernel
theorem dX5_fits_17 : decode cX5_fits 17 = .ok (.iconst 1, 1) := by decide +kernel
theorem dX5_fits_18 : decode cX5_fits 18 = .ok (.bipush 12, 2) := by decide +kernel
theorem dX5_fits_20 : decode cX5_fits 20 = .ok (.invokestatic 183, 3) := by decide +kernel
theorem dX5_fits_23 : decode cX5_fits 23 = .ok (.ifCond .eq 13, 3) := by decide +kernel
theorem dX5_fits_26 : decode cX5_fits 26 = .ok (.iload 5, 2) := by decide +kernel
theorem dX5_fits_28 : decode cX5_fits 28 = .ok (.iconst 0, 1) := by decide +kernel
theorem dX5_fits_29 : decode cX5_fits 29 = .ok (.iconst 3, 1) := by decide +kernel
theorem dX5_fits_30 : decode cX5_fits 30 = .ok (.invokestatic 183, 3) := by decide +kernel
theorem dX5_fits_33 : decode cX5_fits 33 = .ok (.ifCond .ne 6, 3) := by decide +kernel
theorem dX5_fits_36 : decode cX5_fits 36 = .ok (.ldc 59, 2) := by decide +kernel
theorem dX5_fits_38 : decode cX5_fits 38 = .ok (.ireturn, 1) := by decide +kernel
theorem dX5_fits_39 : decode cX5_fits 39 = .ok (.aload_n 0, 1) := by decide +kernel
theorem dX5_fits_40 : decode cX5_fits 40 = .ok (.getfield 11, 3) := by decide +kernel
theorem dX5_fits_43 : decode cX5_fits 43 = .ok (.iload_n 2, 1) := by decide +kernel
theorem dX5_fits_44 : decode cX5_fits 44 = .ok (.aaload, 1) := by decide +kernel
theorem dX5_fits_45 : decode cX5_fits 45 = .ok (.astore 6, 2) := by decide +kernel
theorem dX5_fits_47 : decode cX5_fits 47 = .ok (.aload 6, 2) := by decide +kernel
theorem dX5_fits_49 : decode cX5_fits 49 = .ok (.getfield 71, 3) := by decide +kernel
theorem dX5_fits_52 : decode cX5_fits 52 = .ok (.ifCond .eq 9, 3) := by decide +kernel
theorem dX5_fits_55 : decode cX5_fits 55 = .ok (.aload_n 0, 1) := by decide +kernel
theorem dX5_fits_56 : decode cX5_fits 56 = .ok (.iconst 1, 1) := by decide +kernel
theorem dX5_fits_57 : decode cX5_fits 57 = .ok (.invokevirtual 60, 3) := by decide +kernel
theorem dX5_fits_60 : decode cX5_fits 60 = .ok (.ireturn, 1) := by decide +kernel
theorem dX5_fits_61 : decode cX5_fits 61 = .ok (.aload 6, 2) := by decide +kernel
theorem dX5_fits_63 : decode cX5_fits 63 = .ok (.iload_n 3, 1) := by decide +kernel
theorem dX5_fits_64 : decode cX5_fits 64 = .ok (.iload 4, 2) := by decide +kernel
theorem dX5_fits_66 : decode cX5_fits 66 = .ok (.invokevirtual 75, 3) := by decide +kernel
theorem dX5_fits_69 : decode cX5_fits 69 = .ok (.ifCond .ne 9, 3) := by decide +kernel
theorem dX5_fits_72 : decode cX5_fits 72 = .ok (.aload_n 0, 1) := by decide +kernel
theorem dX5_fits_73 : decode cX5_fits 73 = .ok (.iconst 2, 1) := by decide +kernel
theorem dX5_fits_74 : decode cX5_fits 74 = .ok (.invokevirtual 60, 3) := by decide +kernel
theorem dX5_fits_77 : decode cX5_fits 77 = .ok (.ireturn, 1) := by decide +kernel
theorem dX5_fits_78 : decode cX5_fits 78 = .ok (.iconst 0, 1) := by decide +kernel
theorem dX5_fits_79 : decode cX5_fits 79 = .ok (.istore 7, 2) := by decide +kernel
theorem dX5_fits_81 : decode cX5_fits 81 = .ok (.aload_n 0, 1) := by decide +kernel
theorem dX5_fits_82 : decode cX5_fits 82 = .ok (.iload 5, 2) := by decide +kernel
theorem dX5_fits_84 : decode cX5_fits 84 = .ok (.invokevirtual 219, 3) := by decide +kernel
theorem dX5_fits_87 : decode cX5_fits 87 = .ok (.istore 8, 2) := by decide +kernel
theorem dX5_fits_89 : decode cX5_fits 89 = .ok (.iload 5, 2) := by decide +kernel
theorem dX5_fits_91 : decode cX5_fits 91 = .ok (.ifCond .ne 7, 3) := by decide +kernel
theorem dX5_fits_94 : decode cX5_fits 94 = .ok (.iconst 1, 1) := by decide +kernel
theorem dX5_fits_95 : decode cX5_fits 95 = .ok (.goto 4, 3) := by decide +kernel
theorem dX5_fits_98 : decode cX5_fits 98 = .ok (.iconst 0, 1) := by decide +kernel
theorem dX5_fits_99 : decode cX5_fits 99 = .ok (.istore 9, 2) := by decide +kernel
theorem dX5_fits_101 : decode cX5_fits 101 = .ok (.iload 9, 2) := by decide +kernel
theorem dX5_fits_103 : decode cX5_fits 103 = .ok (.iload 8, 2) := by decide +kernel
theorem dX5_fits_105 : decode cX5_fits 105 = .ok (.if_icmp .ge 51, 3) := by decide +kernel
theorem dX5_fits_108 : decode cX5_fits 108 = .ok (.aload_n 0, 1) := by decide +kernel
theorem dX5_fits_109 : decode cX5_fits 109 = .ok (.getfield 29, 3) := by decide +kernel
theorem dX5_fits_112 : decode cX5_fits 112 = .ok (.aload_n 0, 1) := by decide +kernel
theorem dX5_fits_113 : decode cX5_fits 113 = .ok (.getfield 25, 3) := by decide +kernel
theorem dX5_fits_116 : decode cX5_fits 116 = .ok (.invokevirtual 118, 3) := by decide +kernel
theorem dX5_fits_119 : decode cX5_fits 119 = .ok (.aload_n 0, 1) := by decide +kernel
theorem dX5_fits_120 : decode cX5_fits 120 = .ok (.iload_n 1, 1) := by decide +kernel
theorem dX5_fits_121 : decode cX5_fits 121 = .ok (.iload 5, 2) := by decide +kernel
theorem dX5_fits_123 : decode cX5_fits 123 = .ok (.iload 9, 2) := by decide +kernel
theorem dX5_fits_125 : decode cX5_fits 125 = .ok (.invokevirtual 222, 3) := by decide +kernel
theorem dX5_fits_128 : decode cX5_fits 128 = .ok (.aload_n 0, 1) := by decide +kernel
theorem dX5_fits_129 : decode cX5_fits 129 = .ok (.iload_n 1, 1) := by decide +kernel
theorem dX5_fits_130 : decode cX5_fits 130 = .ok (.aload 6, 2) := by decide +kernel
theorem dX5_fits_132 : decode cX5_fits 132 = .ok (.iload_n 3, 1) := by decide +kernel
theorem dX5_fits_133 : decode cX5_fits 133 = .ok (.iload 4, 2) := by decide +kernel
theorem dX5_fits_135 : decode cX5_fits 135 = .ok (.invokevirtual 226, 3) := by decide +kernel
theorem dX5_fits_138 : decode cX5_fits 138 = .ok (.ifCond .eq 12, 3) := by decide +kernel
theorem dX5_fits_141 : decode cX5_fits 141 = .ok (.iload 7, 2) := by decide +kernel
theorem dX5_fits_143 : decode cX5_fits 143 = .ok (.iconst 1, 1) := by decide +kernel
theorem dX5_fits_144 : decode cX5_fits 144 = .ok (.iload 9, 2) := by decide +kernel
theorem dX5_fits_146 : decode cX5_fits 146 = .ok (.ishl, 1) := by decide +kernel
theorem dX5_fits_147 : decode cX5_fits 147 = .ok (.ior, 1) := by decide +kernel
theorem dX5_fits_148 : decode cX5_fits 148 = .ok (.istore 7, 2) := by decide +kernel
theorem dX5_fits_150 : decode cX5_fits 150 = .ok (.iinc 9 1, 3) := by decide +kernel
theorem dX5_fits_153 : decode cX5_fits 153 = .ok (.goto (-52), 3) := by decide +kernel
theorem dX5_fits_156 : decode cX5_fits 156 = .ok (.aload_n 0, 1) := by decide +kernel
theorem dX5_fits_157 : decode cX5_fits 157 = .ok (.iload 7, 2) := by decide +kernel
theorem dX5_fits_159 : decode cX5_fits 159 = .ok (.invokevirtual 68, 3) := by decide +kernel
theorem dX5_fits_162 : decode cX5_fits 162 = .ok (.ireturn, 1) := by decide +kernel
set_option maxRecDepth 20000 in
theorem ggX5_axles_X5_isStretch : GoodIn wsX5_axles wsX5_isStretch := goodIn_r _ [6, 7, 39, 40, 41, 42, 43, 44, 45, 46, 47, 48, 49, 50, 51, 52, 53, 54, 55, 56, 57, 58, 59, 60] (by decide +kernel) (by decide +kernel)
set_option maxRecDepth 20000 in
theorem gX5_axles_X5_isStretch : GoodIn wsX5_axles (wsV RX5 148 RX5 yX5_isStretch wsX5_isStretch) := goodIn_app (goodIn_of _ (by decide +kernel)) ggX5_axles_X5_isStretch
set_option maxRecDepth 20000 in
theorem ggX5_axles_X5_isWord : GoodIn wsX5_axles wsX5_isWord := goodIn_r _ [11, 7, 39, 40, 41, 42, 43, 44, 45, 46, 47, 48, 49, 50, 51, 52, 53, 54, 55, 56, 57, 58, 59, 60] (by decide +kernel) (by decide +kernel)
set_option maxRecDepth 20000 in
theorem gX5_axles_X5_isWord : GoodIn wsX5_axles (wsV RX5 154 RX5 yX5_isWord wsX5_isWord) := goodIn_app (goodIn_of _ (by decide +kernel)) ggX5_axles_X5_isWord
set_option maxRecDepth 20000 in
theorem ggX5_axles_X5_isWithin : GoodIn wsX5_axles wsX5_isWithin := goodIn_r _ [14] (by decide +kernel) (by decide +kernel)
set_option maxRecDepth 20000 in
theorem gX5_axles_X5_isWithin : GoodIn wsX5_axles (va_wsS RX5 183 yX5_isWithin wsX5_isWithin) := goodIn_app (goodIn_of _ (by decide +kernel)) ggX5_axles_X5_isWithin
set_option maxRecDepth 20000 in
theorem ggX5_axles_X5_tenthsOfHearing : GoodIn wsX5_axles wsX5_tenthsOfHearing := goodIn_r _ [18, 7, 19, 20, 21, 22, 23, 24, 25, 26, 27, 28, 29, 30, 31, 32, 33, 34, 35, 39, 40, 41, 42, 43, 44, 45, 46, 47, 48, 49, 50, 51, 52, 53, 54, 55, 56, 57, 58, 59, 60] (by decide +kernel) (by decide +kernel)
set_option maxRecDepth 20000 in
theorem gX5_axles_X5_tenthsOfHearing : GoodIn wsX5_axles (wsV RX5 230 RX5 yX5_tenthsOfHearing wsX5_tenthsOfHearing) := goodIn_app (goodIn_of _ (by decide +kernel)) ggX5_axles_X5_tenthsOfHearing
set_option maxRecDepth 20000 in
theorem ggX5_axles_X5_commonDivisor : GoodIn wsX5_axles wsX5_commonDivisor := goodIn_r _ [38] (by decide +kernel) (by decide +kernel)
set_option maxRecDepth 20000 in
theorem gX5_axles_X5_commonDivisor : GoodIn wsX5_axles (va_wsS RX5 233 yX5_commonDivisor wsX5_commonDivisor) := goodIn_app (goodIn_of _ (by decide +kernel)) ggX5_axles_X5_commonDivisor
theorem dX5_axles_0 : decode cX5_axles 0 = .ok (.aload_n 0, 1) := by decide +kernel
theorem dX5_axles_1 : decode cX5_axles 1 = .ok (.iload_n 1, 1) := by decide +kernel
theorem dX5_axles_2 : decode cX5_axles 2 = .ok (.invokevirtual 148, 3) := by decide +kernel
theorem dX5_axles_5 : decode cX5_axles 5 = .ok (.ifCond .eq 31, 3) := by decide +kernel
theorem dX5_axles_8 : decode cX5_axles 8 = .ok (.aload_n 0, 1) := by decide +kernel
theorem dX5_axles_9 : decode cX5_axles 9 = .ok (.iload_n 2, 1) := by decide +kernel
theorem dX5_axles_10 : decode cX5_axles 10 = .ok (.invokevirtual 154, 3) := by decide +kernel
theorem dX5_axles_13 : decode cX5_axles 13 = .ok (.ifCond .eq 23, 3) := by decide +kernel
theorem dX5_axles_16 : decode cX5_axles 16 = .ok (.iload_n 3, 1) := by decide +kernel
theorem dX5_axles_17 : decode cX5_axles 17 = .ok (.iconst 0, 1) := by decide +kernel
theorem dX5_axles_18 : decode cX5_axles 18 = .ok (.bipush 10, 2) := by decide +kernel
theorem dX5_axles_20 : decode cX5_axles 20 = .ok (.invokestatic 183, 3) := by decide +kernel
theorem dX5_axles_23 : decode cX5_axles 23 = .ok (.ifCond .eq 13, 3) := by decide +kernel
theorem dX5_axles_26 : decode cX5_axles 26 = .ok (.iload 4, 2) := by decide +kernel
theorem dX5_axles_28 : decode cX5_axles 28 = .ok (.iconst 0, 1) := by decide +kernel
theorem dX5_axles_29 : decode cX5_axles 29 = .ok (.iconst 1, 1) := by decide +kernel
theorem dX5_axles_30 : decode cX5_axles 30 = .ok (.invokestatic 183, 3) := by decide +kernel
theorem dX5_axles_33 : decode cX5_axles 33 = .ok (.ifCond .ne 6, 3) := by decide +kernel
theorem dX5_axles_36 : decode cX5_axles 36 = .ok (.ldc 59, 2) := by decide +kernel
theorem dX5_axles_38 : decode cX5_axles 38 = .ok (.ireturn, 1) := by decide +kernel
theorem dX5_axles_39 : decode cX5_axles 39 = .ok (.aload_n 0, 1) := by decide +kernel
theorem dX5_axles_40 : decode cX5_axles 40 = .ok (.iload_n 1, 1) := by decide +kernel
theorem dX5_axles_41 : decode cX5_axles 41 = .ok (.iload_n 2, 1) := by decide +kernel
theorem dX5_axles_42 : decode cX5_axles 42 = .ok (.iload_n 3, 1) := by decide +kernel
theorem dX5_axles_43 : decode cX5_axles 43 = .ok (.invokevirtual 230, 3) := by decide +kernel
theorem dX5_axles_46 : decode cX5_axles 46 = .ok (.istore 5, 2) := by decide +kernel
theorem dX5_axles_48 : decode cX5_axles 48 = .ok (.iload 5, 2) := by decide +kernel
theorem dX5_axles_50 : decode cX5_axles 50 = .ok (.bipush 10, 2) := by decide +kernel
theorem dX5_axles_52 : decode cX5_axles 52 = .ok (.invokestatic 233, 3) := by decide +kernel
theorem dX5_axles_55 : decode cX5_axles 55 = .ok (.istore 6, 2) := by decide +kernel
theorem dX5_axles_57 : decode cX5_axles 57 = .ok (.iload 4, 2) := by decide +kernel
theorem dX5_axles_59 : decode cX5_axles 59 = .ok (.ifCond .ne 8, 3) := by decide +kernel
theorem dX5_axles_62 : decode cX5_axles 62 = .ok (.iload 5, 2) := by decide +kernel
theorem dX5_axles_64 : decode cX5_axles 64 = .ok (.goto 5, 3) := by decide +kernel
theorem dX5_axles_67 : decode cX5_axles 67 = .ok (.bipush 10, 2) := by decide +kernel
theorem dX5_axles_69 : decode cX5_axles 69 = .ok (.iload 6, 2) := by decide +kernel
theorem dX5_axles_71 : decode cX5_axles 71 = .ok (.idiv, 1) := by decide +kernel
theorem dX5_axles_72 : decode cX5_axles 72 = .ok (.ireturn, 1) := by decide +kernel
set_option maxRecDepth 20000 in
theorem ggX5_drawn_X5_isWithin : GoodIn wsX5_drawn wsX5_isWithin := goodIn_r _ [11] (by decide +kernel) (by decide +kernel)
set_option maxRecDepth 20000 in
theorem gX5_drawn_X5_isWithin : GoodIn wsX5_drawn (va_wsS RX5 183 yX5_isWithin wsX5_isWithin) := goodIn_app (goodIn_of _ (by decide +kernel)) ggX5_drawn_X5_isWithin
set_option maxRecDepth 20000 in
theorem ggX5_drawn_X5_foretell : GoodIn wsX5_drawn wsX5_foretell := goodIn_r _ [15, 7, 1, 16, 17, 18, 19, 20, 21, 22, 23, 24, 25, 26, 27, 28, 29, 30, 31, 32, 33, 34, 35, 36, 37, 38, 39, 40, 41, 42, 43, 44, 45, 46, 47, 48, 49, 50, 51, 52, 53, 54, 55, 56, 57, 58, 59, 60, 61, 62, 63, 64, 65, 66, 67, 68, 69, 70, 94, 95, 96, 97, 98, 99, 100, 101, 102, 103, 104, 105, 106, 107, 108, 109, 110, 111, 112, 113, 114, 115] (by decide +kernel) (by decide +kernel)
set_option maxRecDepth 20000 in
theorem gX5_drawn_X5_foretell : GoodIn wsX5_drawn (wsV RX5 187 RX5 yX5_foretell wsX5_foretell) := goodIn_app (goodIn_of _ (by decide +kernel)) ggX5_drawn_X5_foretell
set_option maxRecDepth 20000 in
theorem ggX5_drawn_X5_putByDraw : GoodIn wsX5_drawn wsX5_putByDraw := goodIn_r _ [74, 75, 7, 94, 95, 96, 97, 98, 99, 100, 101, 102, 103, 104, 105, 106, 107, 108, 109, 110, 111, 112, 113, 114, 115] (by decide +kernel) (by decide +kernel)
set_option maxRecDepth 20000 in
theorem gX5_drawn_X5_putByDraw : GoodIn wsX5_drawn (wsV RX5 242 RX5 yX5_putByDraw wsX5_putByDraw) := goodIn_app (goodIn_of _ (by decide +kernel)) ggX5_drawn_X5_putByDraw
set_option maxRecDepth 20000 in
theorem ggX5_drawn_X2_goHour : GoodIn wsX5_drawn wsX2_goHour := goodIn_r _ [37, 24, 38, 25, 23, 39, 40, 41, 17, 42, 29, 43, 44, 45, 46, 27, 30, 47, 48, 49, 50, 28, 26, 51, 52, 53, 54, 21, 55, 56, 57, 58, 59, 60, 61, 62, 22, 63, 64, 65, 66, 67, 68, 69, 70, 104, 105, 106, 107, 108, 109, 110, 111, 112, 113, 114, 115] (by decide +kernel) (by decide +kernel)
set_option maxRecDepth 20000 in
theorem gX5_drawn_X2_goHour_n138 : GoodIn wsX5_drawn (wsX2_goHour) := ggX5_drawn_X2_goHour
set_option maxRecDepth 20000 in
theorem ggX5_drawn_X2_wordsHeard : GoodIn wsX5_drawn wsX2_wordsHeard := goodIn_r _ [78, 24, 27, 79, 80, 81, 82, 83, 84, 85, 104, 105, 106, 107, 108, 109, 110, 111, 112, 113, 114, 115] (by decide +kernel) (by decide +kernel)
set_option maxRecDepth 20000 in
theorem gX5_drawn_X2_wordsHeard_n246 : GoodIn wsX5_drawn (wsX2_wordsHeard) := ggX5_drawn_X2_wordsHeard
set_option maxRecDepth 20000 in
theorem ggX5_drawn_X2_wholeGates : GoodIn wsX5_drawn wsX2_wholeGates := goodIn_r _ [88, 24, 27, 89, 90, 91, 17, 92, 21, 104, 105, 106, 107, 108, 109, 110, 111, 112, 113, 114, 115] (by decide +kernel) (by decide +kernel)
set_option maxRecDepth 20000 in
theorem gX5_drawn_X2_wholeGates_n141 : GoodIn wsX5_drawn (wsX2_wholeGates) := ggX5_drawn_X2_wholeGates
set_option maxRecDepth 20000 in
theorem ggX5_drawn_J6_bitCount_0f7a4 : GoodIn wsX5_drawn wsJ6_bitCount_0f7a4 := goodIn_r _ [82, 83, 84, 85] (by decide +kernel) (by decide +kernel)
set_option maxRecDepth 20000 in
theorem gX5_drawn_J6_bitCount_0f7a4 : GoodIn wsX5_drawn (va_wsS RX5 163 yJ6_bitCount_0f7a4 wsJ6_bitCount_0f7a4) := goodIn_app (goodIn_of _ (by decide +kernel)) ggX5_drawn_J6_bitCount_0f7a4
theorem dX5_drawn_0 : decode cX5_drawn 0 = .ok (.aload_n 0, 1) := by decide +kernel
theorem dX5_drawn_1 : decode cX5_drawn 1 = .ok (.getfield 25, 3) := by decide +kernel
theorem dX5_drawn_4 : decode cX5_drawn 4 = .ok (.getfield 128, 3) := by decide +kernel
theorem dX5_drawn_7 : decode cX5_drawn 7 = .ok (.ifCond .ne 6, 3) := by decide +kernel
theorem dX5_drawn_10 : decode cX5_drawn 10 = .ok (.ldc 131, 2) := by decide +kernel
theorem dX5_drawn_12 : decode cX5_drawn 12 = .ok (.ireturn, 1) := by decide +kernel
theorem dX5_drawn_13 : decode cX5_drawn 13 = .ok (.iload_n 1, 1) := by decide +kernel
theorem dX5_drawn_14 : decode cX5_drawn 14 = .ok (.iconst 0, 1) := by decide +kernel
theorem dX5_drawn_15 : decode cX5_drawn 15 = .ok (.bipush 60, 2) := by decide +kernel
theorem dX5_drawn_17 : decode cX5_drawn 17 = .ok (.invokestatic 183, 3) := by decide +kernel
theorem dX5_drawn_20 : decode cX5_drawn 20 = .ok (.ifCond .eq 22, 3) := by decide +kernel
theorem dX5_drawn_23 : decode cX5_drawn 23 = .ok (.iload_n 2, 1) := by decide +kernel
theorem dX5_drawn_24 : decode cX5_drawn 24 = .ok (.iconst 1, 1) := by decide +kernel
theorem dX5_drawn_25 : decode cX5_drawn 25 = .ok (.ldc 237, 2) := by decide +kernel
theorem dX5_drawn_27 : decode cX5_drawn 27 = .ok (.invokestatic 183, 3) := by decide +kernel
theorem dX5_drawn_30 : decode cX5_drawn 30 = .ok (.ifCond .eq 12, 3) := by decide +kernel
theorem dX5_drawn_33 : decode cX5_drawn 33 = .ok (.iload_n 3, 1) := by decide +kernel
theorem dX5_drawn_34 : decode cX5_drawn 34 = .ok (.iconst 0, 1) := by decide +kernel
theorem dX5_drawn_35 : decode cX5_drawn 35 = .ok (.iconst 1, 1) := by decide +kernel
theorem dX5_drawn_36 : decode cX5_drawn 36 = .ok (.invokestatic 183, 3) := by decide +kernel
theorem dX5_drawn_39 : decode cX5_drawn 39 = .ok (.ifCond .ne 6, 3) := by decide +kernel
theorem dX5_drawn_42 : decode cX5_drawn 42 = .ok (.ldc 59, 2) := by decide +kernel
theorem dX5_drawn_44 : decode cX5_drawn 44 = .ok (.ireturn, 1) := by decide +kernel
theorem dX5_drawn_45 : decode cX5_drawn 45 = .ok (.aload_n 0, 1) := by decide +kernel
theorem dX5_drawn_46 : decode cX5_drawn 46 = .ok (.iconst 0, 1) := by decide +kernel
theorem dX5_drawn_47 : decode cX5_drawn 47 = .ok (.invokevirtual 187, 3) := by decide +kernel
theorem dX5_drawn_50 : decode cX5_drawn 50 = .ok (.iload_n 2, 1) := by decide +kernel
theorem dX5_drawn_51 : decode cX5_drawn 51 = .ok (.i2l, 1) := by decide +kernel
theorem dX5_drawn_52 : decode cX5_drawn 52 = .ok (.lstore 4, 2) := by decide +kernel
theorem dX5_drawn_54 : decode cX5_drawn 54 = .ok (.iconst 0, 1) := by decide +kernel
theorem dX5_drawn_55 : decode cX5_drawn 55 = .ok (.istore 6, 2) := by decide +kernel
theorem dX5_drawn_57 : decode cX5_drawn 57 = .ok (.iload 6, 2) := by decide +kernel
theorem dX5_drawn_59 : decode cX5_drawn 59 = .ok (.iload_n 1, 1) := by decide +kernel
theorem dX5_drawn_60 : decode cX5_drawn 60 = .ok (.if_icmp .ge 34, 3) := by decide +kernel
theorem dX5_drawn_63 : decode cX5_drawn 63 = .ok (.lload 4, 2) := by decide +kernel
theorem dX5_drawn_65 : decode cX5_drawn 65 = .ok (.ldc2_w 238, 3) := by decide +kernel
theorem dX5_drawn_68 : decode cX5_drawn 68 = .ok (.lmul, 1) := by decide +kernel
theorem dX5_drawn_69 : decode cX5_drawn 69 = .ok (.ldc2_w 240, 3) := by decide +kernel
theorem dX5_drawn_72 : decode cX5_drawn 72 = .ok (.lrem, 1) := by decide +kernel
theorem dX5_drawn_73 : decode cX5_drawn 73 = .ok (.lstore 4, 2) := by decide +kernel
theorem dX5_drawn_75 : decode cX5_drawn 75 = .ok (.aload_n 0, 1) := by decide +kernel
theorem dX5_drawn_76 : decode cX5_drawn 76 = .ok (.lload 4, 2) := by decide +kernel
theorem dX5_drawn_78 : decode cX5_drawn 78 = .ok (.invokevirtual 242, 3) := by decide +kernel
theorem dX5_drawn_81 : decode cX5_drawn 81 = .ok (.aload_n 0, 1) := by decide +kernel
theorem dX5_drawn_82 : decode cX5_drawn 82 = .ok (.getfield 29, 3) := by decide +kernel
theorem dX5_drawn_85 : decode cX5_drawn 85 = .ok (.invokevirtual 138, 3) := by decide +kernel
theorem dX5_drawn_88 : decode cX5_drawn 88 = .ok (.iinc 6 1, 3) := by decide +kernel
theorem dX5_drawn_91 : decode cX5_drawn 91 = .ok (.goto (-34), 3) := by decide +kernel
theorem dX5_drawn_94 : decode cX5_drawn 94 = .ok (.iload_n 3, 1) := by decide +kernel
theorem dX5_drawn_95 : decode cX5_drawn 95 = .ok (.ifCond .ne 13, 3) := by decide +kernel
theorem dX5_drawn_98 : decode cX5_drawn 98 = .ok (.aload_n 0, 1) := by decide +kernel
theorem dX5_drawn_99 : decode cX5_drawn 99 = .ok (.getfield 29, 3) := by decide +kernel
theorem dX5_drawn_102 : decode cX5_drawn 102 = .ok (.invokevirtual 246, 3) := by decide +kernel
theorem dX5_drawn_105 : decode cX5_drawn 105 = .ok (.goto 13, 3) := by decide +kernel
theorem dX5_drawn_108 : decode cX5_drawn 108 = .ok (.aload_n 0, 1) := by decide +kernel
theorem dX5_drawn_109 : decode cX5_drawn 109 = .ok (.getfield 29, 3) := by decide +kernel
theorem dX5_drawn_112 : decode cX5_drawn 112 = .ok (.invokevirtual 141, 3) := by decide +kernel
theorem dX5_drawn_115 : decode cX5_drawn 115 = .ok (.invokestatic 163, 3) := by decide +kernel
theorem dX5_drawn_118 : decode cX5_drawn 118 = .ok (.ireturn, 1) := by decide +kernel
set_option maxRecDepth 20000 in
theorem ggX5_image_X5_isWithin : GoodIn wsX5_image wsX5_isWithin := goodIn_r _ [8] (by decide +kernel) (by decide +kernel)
set_option maxRecDepth 20000 in
theorem gX5_image_X5_isWithin : GoodIn wsX5_image (va_wsS RX5 183 yX5_isWithin wsX5_isWithin) := goodIn_app (goodIn_of _ (by decide +kernel)) ggX5_image_X5_isWithin
set_option maxRecDepth 20000 in
theorem ggX5_image_X2_take : GoodIn wsX5_image wsX2_take := goodIn_r _ [12, 13, 14, 15, 16, 17, 18, 19, 20, 21, 22, 23, 34, 35, 36, 37, 38, 39, 40, 41, 42, 43, 44, 45] (by decide +kernel) (by decide +kernel)
set_option maxRecDepth 20000 in
theorem gX5_image_X2_take_n118 : GoodIn wsX5_image (wsX2_take) := ggX5_image_X2_take
theorem dX5_image_0 : decode cX5_image 0 = .ok (.iload_n 1, 1) := by decide +kernel
theorem dX5_image_1 : decode cX5_image 1 = .ok (.iconst 0, 1) := by decide +kernel
theorem dX5_image_2 : decode cX5_image 2 = .ok (.iconst 1, 1) := by decide +kernel
theorem dX5_image_3 : decode cX5_image 3 = .ok (.invokestatic 183, 3) := by decide +kernel
theorem dX5_image_6 : decode cX5_image 6 = .ok (.ifCond .ne 6, 3) := by decide +kernel
theorem dX5_image_9 : decode cX5_image 9 = .ok (.ldc 59, 2) := by decide +kernel
theorem dX5_image_11 : decode cX5_image 11 = .ok (.ireturn, 1) := by decide +kernel
theorem dX5_image_12 : decode cX5_image 12 = .ok (.aload_n 0, 1) := by decide +kernel
theorem dX5_image_13 : decode cX5_image 13 = .ok (.getfield 25, 3) := by decide +kernel
theorem dX5_image_16 : decode cX5_image 16 = .ok (.getfield 128, 3) := by decide +kernel
theorem dX5_image_19 : decode cX5_image 19 = .ok (.ifCond .ne 6, 3) := by decide +kernel
theorem dX5_image_22 : decode cX5_image 22 = .ok (.ldc 131, 2) := by decide +kernel
theorem dX5_image_24 : decode cX5_image 24 = .ok (.ireturn, 1) := by decide +kernel
theorem dX5_image_25 : decode cX5_image 25 = .ok (.aload_n 0, 1) := by decide +kernel
theorem dX5_image_26 : decode cX5_image 26 = .ok (.getfield 36, 3) := by decide +kernel
theorem dX5_image_29 : decode cX5_image 29 = .ok (.iload_n 1, 1) := by decide +kernel
theorem dX5_image_30 : decode cX5_image 30 = .ok (.aaload, 1) := by decide +kernel
theorem dX5_image_31 : decode cX5_image 31 = .ok (.aload_n 0, 1) := by decide +kernel
theorem dX5_image_32 : decode cX5_image 32 = .ok (.getfield 25, 3) := by decide +kernel
theorem dX5_image_35 : decode cX5_image 35 = .ok (.invokevirtual 118, 3) := by decide +kernel
theorem dX5_image_38 : decode cX5_image 38 = .ok (.iconst 1, 1) := by decide +kernel
theorem dX5_image_39 : decode cX5_image 39 = .ok (.ireturn, 1) := by decide +kernel
set_option maxRecDepth 20000 in
theorem ggX5_restore_X5_isWithin : GoodIn wsX5_restore wsX5_isWithin := goodIn_r _ [9] (by decide +kernel) (by decide +kernel)
set_option maxRecDepth 20000 in
theorem gX5_restore_X5_isWithin : GoodIn wsX5_restore (va_wsS RX5 183 yX5_isWithin wsX5_isWithin) := goodIn_app (goodIn_of _ (by decide +kernel)) ggX5_restore_X5_isWithin
set_option maxRecDepth 20000 in
theorem ggX5_restore_X2_take : GoodIn wsX5_restore wsX2_take := goodIn_r _ [13, 14, 15, 16, 17, 18, 19, 20, 21, 22, 23, 24, 35, 36, 37, 38, 39, 40, 41, 42, 43, 44, 45, 46] (by decide +kernel) (by decide +kernel)
set_option maxRecDepth 20000 in
theorem gX5_restore_X2_take_n118 : GoodIn wsX5_restore (wsX2_take) := ggX5_restore_X2_take
theorem dX5_restore_0 : decode cX5_restore 0 = .ok (.iload_n 1, 1) := by decide +kernel
theorem dX5_restore_1 : decode cX5_restore 1 = .ok (.iconst 0, 1) := by decide +kernel
theorem dX5_restore_2 : decode cX5_restore 2 = .ok (.iconst 1, 1) := by decide +kernel
theorem dX5_restore_3 : decode cX5_restore 3 = .ok (.invokestatic 183, 3) := by decide +kernel
theorem dX5_restore_6 : decode cX5_restore 6 = .ok (.ifCond .ne 6, 3) := by decide +kernel
theorem dX5_restore_9 : decode cX5_restore 9 = .ok (.ldc 59, 2) := by decide +kernel
theorem dX5_restore_11 : decode cX5_restore 11 = .ok (.ireturn, 1) := by decide +kernel
theorem dX5_restore_12 : decode cX5_restore 12 = .ok (.aload_n 0, 1) := by decide +kernel
theorem dX5_restore_13 : decode cX5_restore 13 = .ok (.getfield 36, 3) := by decide +kernel
theorem dX5_restore_16 : decode cX5_restore 16 = .ok (.iload_n 1, 1) := by decide +kernel
theorem dX5_restore_17 : decode cX5_restore 17 = .ok (.aaload, 1) := by decide +kernel
theorem dX5_restore_18 : decode cX5_restore 18 = .ok (.getfield 128, 3) := by decide +kernel
theorem dX5_restore_21 : decode cX5_restore 21 = .ok (.ifCond .ne 6, 3) := by decide +kernel
theorem dX5_restore_24 : decode cX5_restore 24 = .ok (.ldc 131, 2) := by decide +kernel
theorem dX5_restore_26 : decode cX5_restore 26 = .ok (.ireturn, 1) := by decide +kernel
theorem dX5_restore_27 : decode cX5_restore 27 = .ok (.aload_n 0, 1) := by decide +kernel
theorem dX5_restore_28 : decode cX5_restore 28 = .ok (.getfield 25, 3) := by decide +kernel
theorem dX5_restore_31 : decode cX5_restore 31 = .ok (.aload_n 0, 1) := by decide +kernel
theorem dX5_restore_32 : decode cX5_restore 32 = .ok (.getfield 36, 3) := by decide +kernel
theorem dX5_restore_35 : decode cX5_restore 35 = .ok (.iload_n 1, 1) := by decide +kernel
theorem dX5_restore_36 : decode cX5_restore 36 = .ok (.aaload, 1) := by decide +kernel
theorem dX5_restore_37 : decode cX5_restore 37 = .ok (.invokevirtual 118, 3) := by decide +kernel
theorem dX5_restore_40 : decode cX5_restore 40 = .ok (.aload_n 0, 1) := by decide +kernel
theorem dX5_restore_41 : decode cX5_restore 41 = .ok (.getfield 43, 3) := by decide +kernel
theorem dX5_restore_44 : decode cX5_restore 44 = .ok (.iconst 0, 1) := by decide +kernel
theorem dX5_restore_45 : decode cX5_restore 45 = .ok (.putfield 122, 3) := by decide +kernel
theorem dX5_restore_48 : decode cX5_restore 48 = .ok (.iconst 1, 1) := by decide +kernel
theorem dX5_restore_49 : decode cX5_restore 49 = .ok (.ireturn, 1) := by decide +kernel
set_option maxRecDepth 20000 in
theorem ggX5_kind_X5_isPulpit : GoodIn wsX5_kind wsX5_isPulpit := goodIn_r _ [7, 1, 8, 9, 10, 11, 12, 13, 14, 15, 16, 17, 18, 19, 20, 21, 22, 23, 24, 25, 26, 27, 28, 29] (by decide +kernel) (by decide +kernel)
set_option maxRecDepth 20000 in
theorem gX5_kind_X5_isPulpit : GoodIn wsX5_kind (wsV RX5 145 RX5 yX5_isPulpit wsX5_isPulpit) := goodIn_app (goodIn_of _ (by decide +kernel)) ggX5_kind_X5_isPulpit
theorem dX5_kind_0 : decode cX5_kind 0 = .ok (.aload_n 0, 1) := by decide +kernel
theorem dX5_kind_1 : decode cX5_kind 1 = .ok (.iload_n 1, 1) := by decide +kernel
theorem dX5_kind_2 : decode cX5_kind 2 = .ok (.invokevirtual 145, 3) := by decide +kernel
theorem dX5_kind_5 : decode cX5_kind 5 = .ok (.ifCond .eq 15, 3) := by decide +kernel
theorem dX5_kind_8 : decode cX5_kind 8 = .ok (.aload_n 0, 1) := by decide +kernel
theorem dX5_kind_9 : decode cX5_kind 9 = .ok (.getfield 25, 3) := by decide +kernel
theorem dX5_kind_12 : decode cX5_kind 12 = .ok (.getfield 249, 3) := by decide +kernel
theorem dX5_kind_15 : decode cX5_kind 15 = .ok (.iload_n 1, 1) := by decide +kernel
theorem dX5_kind_16 : decode cX5_kind 16 = .ok (.iaload, 1) := by decide +kernel
theorem dX5_kind_17 : decode cX5_kind 17 = .ok (.goto 5, 3) := by decide +kernel
theorem dX5_kind_20 : decode cX5_kind 20 = .ok (.ldc 59, 2) := by decide +kernel
theorem dX5_kind_22 : decode cX5_kind 22 = .ok (.ireturn, 1) := by decide +kernel
set_option maxRecDepth 20000 in
theorem ggX5_as_X5_isPulpit : GoodIn wsX5_as wsX5_isPulpit := goodIn_r _ [7, 2, 25, 26, 27, 28, 29, 30, 31, 32, 33, 34, 35, 36, 37, 38, 39, 40, 41, 42, 43, 44, 45, 46] (by decide +kernel) (by decide +kernel)
set_option maxRecDepth 20000 in
theorem gX5_as_X5_isPulpit : GoodIn wsX5_as (wsV RX5 145 RX5 yX5_isPulpit wsX5_isPulpit) := goodIn_app (goodIn_of _ (by decide +kernel)) ggX5_as_X5_isPulpit
set_option maxRecDepth 20000 in
theorem ggX5_as_X5_isWithin : GoodIn wsX5_as wsX5_isWithin := goodIn_r _ [10] (by decide +kernel) (by decide +kernel)
set_option maxRecDepth 20000 in
theorem gX5_as_X5_isWithin : GoodIn wsX5_as (va_wsS RX5 183 yX5_isWithin wsX5_isWithin) := goodIn_app (goodIn_of _ (by decide +kernel)) ggX5_as_X5_isWithin
set_option maxRecDepth 20000 in
theorem ggX5_as_X5_isSuch : GoodIn wsX5_as wsX5_isSuch := goodIn_r _ [13, 14] (by decide +kernel) (by decide +kernel)
set_option maxRecDepth 20000 in
theorem gX5_as_X5_isSuch : GoodIn wsX5_as (va_wsS RX5 252 yX5_isSuch wsX5_isSuch) := goodIn_app (goodIn_of _ (by decide +kernel)) ggX5_as_X5_isSuch
set_option maxRecDepth 20000 in
theorem ggX5_as_X5_foundNothing : GoodIn wsX5_as wsX5_foundNothing := goodIn_r _ [18, 19, 25, 26, 27, 28, 29, 30, 31, 32, 33, 34] (by decide +kernel) (by decide +kernel)
set_option maxRecDepth 20000 in
theorem gX5_as_X5_foundNothing : GoodIn wsX5_as (wsV RX5 68 RX5 yX5_foundNothing wsX5_foundNothing) := goodIn_app (goodIn_of _ (by decide +kernel)) ggX5_as_X5_foundNothing
set_option maxRecDepth 20000 in
theorem ggX5_as_X5_found : GoodIn wsX5_as wsX5_found := goodIn_r _ [23, 19, 24, 25, 26, 27, 28, 29, 30, 31, 32, 33, 34] (by decide +kernel) (by decide +kernel)
set_option maxRecDepth 20000 in
theorem gX5_as_X5_found : GoodIn wsX5_as (wsV RX5 60 RX5 yX5_found wsX5_found) := goodIn_app (goodIn_of _ (by decide +kernel)) ggX5_as_X5_found
theorem dX5_as_0 : decode cX5_as 0 = .ok (.aload_n 0, 1) := by decide +kernel
theorem dX5_as_1 : decode cX5_as 1 = .ok (.iload_n 1, 1) := by decide +kernel
theorem dX5_as_2 : decode cX5_as 2 = .ok (.invokevirtual 145, 3) := by decide +kernel
theorem dX5_as_5 : decode cX5_as 5 = .ok (.ifCond .eq 12, 3) := by decide +kernel
theorem dX5_as_8 : decode cX5_as 8 = .ok (.iload_n 2, 1) := by decide +kernel
theorem dX5_as_9 : decode cX5_as 9 = .ok (.iconst 0, 1) := by decide +kernel
theorem dX5_as_10 : decode cX5_as 10 = .ok (.iconst 5, 1) := by decide +kernel
theorem dX5_as_11 : decode cX5_as 11 = .ok (.invokestatic 183, 3) := by decide +kernel
theorem dX5_as_14 : decode cX5_as 14 = .ok (.ifCond .ne 6, 3) := by decide +kernel
theorem dX5_as_17 : decode cX5_as 17 = .ok (.ldc 59, 2) := by decide +kernel
theorem dX5_as_19 : decode cX5_as 19 = .ok (.ireturn, 1) := by decide +kernel
theorem dX5_as_20 : decode cX5_as 20 = .ok (.aload_n 0, 1) := by decide +kernel
theorem dX5_as_21 : decode cX5_as 21 = .ok (.getfield 25, 3) := by decide +kernel
theorem dX5_as_24 : decode cX5_as 24 = .ok (.getfield 249, 3) := by decide +kernel
theorem dX5_as_27 : decode cX5_as 27 = .ok (.iload_n 1, 1) := by decide +kernel
theorem dX5_as_28 : decode cX5_as 28 = .ok (.iaload, 1) := by decide +kernel
theorem dX5_as_29 : decode cX5_as 29 = .ok (.iload_n 2, 1) := by decide +kernel
theorem dX5_as_30 : decode cX5_as 30 = .ok (.invokestatic 252, 3) := by decide +kernel
theorem dX5_as_33 : decode cX5_as 33 = .ok (.ifCond .eq 11, 3) := by decide +kernel
theorem dX5_as_36 : decode cX5_as 36 = .ok (.aload_n 0, 1) := by decide +kernel
theorem dX5_as_37 : decode cX5_as 37 = .ok (.iload_n 1, 1) := by decide +kernel
theorem dX5_as_38 : decode cX5_as 38 = .ok (.invokevirtual 68, 3) := by decide +kernel
theorem dX5_as_41 : decode cX5_as 41 = .ok (.goto 8, 3) := by decide +kernel
theorem dX5_as_44 : decode cX5_as 44 = .ok (.aload_n 0, 1) := by decide +kernel
theorem dX5_as_45 : decode cX5_as 45 = .ok (.iconst 3, 1) := by decide +kernel
theorem dX5_as_46 : decode cX5_as 46 = .ok (.invokevirtual 60, 3) := by decide +kernel
theorem dX5_as_49 : decode cX5_as 49 = .ok (.ireturn, 1) := by decide +kernel
set_option maxRecDepth 20000 in
theorem ggX5_ask_X5_isPulpit : GoodIn wsX5_ask wsX5_isPulpit := goodIn_r _ [8, 3, 30, 31, 32, 33, 34, 35, 36, 37, 38, 39, 42, 43, 44, 45, 46, 47, 48, 49, 50, 51, 52, 53] (by decide +kernel) (by decide +kernel)
set_option maxRecDepth 20000 in
theorem gX5_ask_X5_isPulpit : GoodIn wsX5_ask (wsV RX5 145 RX5 yX5_isPulpit wsX5_isPulpit) := goodIn_app (goodIn_of _ (by decide +kernel)) ggX5_ask_X5_isPulpit
set_option maxRecDepth 20000 in
theorem ggX5_ask_X5_isWithin : GoodIn wsX5_ask wsX5_isWithin := goodIn_r _ [11] (by decide +kernel) (by decide +kernel)
set_option maxRecDepth 20000 in
theorem gX5_ask_X5_isWithin : GoodIn wsX5_ask (va_wsS RX5 183 yX5_isWithin wsX5_isWithin) := goodIn_app (goodIn_of _ (by decide +kernel)) ggX5_ask_X5_isWithin
set_option maxRecDepth 20000 in
theorem ggX5_ask_X1_begin : GoodIn wsX5_ask wsX1_begin := goodIn_r _ [15, 16, 17, 13, 18, 19, 20, 21, 22, 23, 24, 25, 26, 27, 28, 29, 12, 14, 42, 43, 44, 45, 46, 47, 48, 49, 50, 51, 52, 53, 40, 41] (by decide +kernel) (by decide +kernel)
set_option maxRecDepth 20000 in
theorem gX5_ask_X1_begin_n258 : GoodIn wsX5_ask (wsX1_begin) := ggX5_ask_X1_begin
theorem dX5_ask_0 : decode cX5_ask 0 = .ok (.aload_n 0, 1) := by decide +kernel
theorem dX5_ask_1 : decode cX5_ask 1 = .ok (.iload_n 1, 1) := by decide +kernel
theorem dX5_ask_2 : decode cX5_ask 2 = .ok (.invokevirtual 145, 3) := by decide +kernel
theorem dX5_ask_5 : decode cX5_ask 5 = .ok (.ifCond .eq 12, 3) := by decide +kernel
theorem dX5_ask_8 : decode cX5_ask 8 = .ok (.iload_n 2, 1) := by decide +kernel
theorem dX5_ask_9 : decode cX5_ask 9 = .ok (.iconst 0, 1) := by decide +kernel
theorem dX5_ask_10 : decode cX5_ask 10 = .ok (.iconst 1, 1) := by decide +kernel
theorem dX5_ask_11 : decode cX5_ask 11 = .ok (.invokestatic 183, 3) := by decide +kernel
theorem dX5_ask_14 : decode cX5_ask 14 = .ok (.ifCond .ne 6, 3) := by decide +kernel
theorem dX5_ask_17 : decode cX5_ask 17 = .ok (.ldc 59, 2) := by decide +kernel
theorem dX5_ask_19 : decode cX5_ask 19 = .ok (.ireturn, 1) := by decide +kernel
theorem dX5_ask_20 : decode cX5_ask 20 = .ok (.aload_n 0, 1) := by decide +kernel
theorem dX5_ask_21 : decode cX5_ask 21 = .ok (.getfield 50, 3) := by decide +kernel
theorem dX5_ask_24 : decode cX5_ask 24 = .ok (.iconst 0, 1) := by decide +kernel
theorem dX5_ask_25 : decode cX5_ask 25 = .ok (.putfield 255, 3) := by decide +kernel
theorem dX5_ask_28 : decode cX5_ask 28 = .ok (.aload_n 0, 1) := by decide +kernel
theorem dX5_ask_29 : decode cX5_ask 29 = .ok (.getfield 50, 3) := by decide +kernel
theorem dX5_ask_32 : decode cX5_ask 32 = .ok (.aload_n 0, 1) := by decide +kernel
theorem dX5_ask_33 : decode cX5_ask 33 = .ok (.getfield 25, 3) := by decide +kernel
theorem dX5_ask_36 : decode cX5_ask 36 = .ok (.iload_n 1, 1) := by decide +kernel
theorem dX5_ask_37 : decode cX5_ask 37 = .ok (.iload_n 2, 1) := by decide +kernel
theorem dX5_ask_38 : decode cX5_ask 38 = .ok (.iconst 0, 1) := by decide +kernel
theorem dX5_ask_39 : decode cX5_ask 39 = .ok (.invokevirtual 258, 3) := by decide +kernel
theorem dX5_ask_42 : decode cX5_ask 42 = .ok (.ireturn, 1) := by decide +kernel
theorem dX5_trace_0 : decode cX5_trace 0 = .ok (.iload_n 1, 1) := by decide +kernel
theorem dX5_trace_1 : decode cX5_trace 1 = .ok (.ifCond .lt 26, 3) := by decide +kernel
theorem dX5_trace_4 : decode cX5_trace 4 = .ok (.iload_n 1, 1) := by decide +kernel
theorem dX5_trace_5 : decode cX5_trace 5 = .ok (.aload_n 0, 1) := by decide +kernel
theorem dX5_trace_6 : decode cX5_trace 6 = .ok (.getfield 50, 3) := by decide +kernel
theorem dX5_trace_9 : decode cX5_trace 9 = .ok (.getfield 255, 3) := by decide +kernel
theorem dX5_trace_12 : decode cX5_trace 12 = .ok (.if_icmp .ge 15, 3) := by decide +kernel
theorem dX5_trace_15 : decode cX5_trace 15 = .ok (.aload_n 0, 1) := by decide +kernel
theorem dX5_trace_16 : decode cX5_trace 16 = .ok (.getfield 50, 3) := by decide +kernel
theorem dX5_trace_19 : decode cX5_trace 19 = .ok (.getfield 261, 3) := by decide +kernel
theorem dX5_trace_22 : decode cX5_trace 22 = .ok (.iload_n 1, 1) := by decide +kernel
theorem dX5_trace_23 : decode cX5_trace 23 = .ok (.iaload, 1) := by decide +kernel
theorem dX5_trace_24 : decode cX5_trace 24 = .ok (.goto 5, 3) := by decide +kernel
theorem dX5_trace_27 : decode cX5_trace 27 = .ok (.ldc 196, 2) := by decide +kernel
theorem dX5_trace_29 : decode cX5_trace 29 = .ok (.ireturn, 1) := by decide +kernel
set_option maxRecDepth 20000 in
theorem ggX5_count_X5_rowsThere : GoodIn wsX5_count wsX5_rowsThere := goodIn_r _ [9, 10, 32, 33, 34, 35, 36, 37, 38, 39, 40, 41, 61, 62, 63, 64] (by decide +kernel) (by decide +kernel)
set_option maxRecDepth 20000 in
theorem gX5_count_X5_rowsThere : GoodIn wsX5_count (wsV RX5 264 RX5 yX5_rowsThere wsX5_rowsThere) := goodIn_app (goodIn_of _ (by decide +kernel)) ggX5_count_X5_rowsThere
set_option maxRecDepth 20000 in
theorem ggX5_count_X2_wholeGates : GoodIn wsX5_count wsX2_wholeGates := goodIn_r _ [14, 15, 16, 17, 18, 19, 12, 20, 21, 42, 43, 44, 45, 46, 47, 48, 49, 50, 51, 52, 53] (by decide +kernel) (by decide +kernel)
set_option maxRecDepth 20000 in
theorem gX5_count_X2_wholeGates_n141 : GoodIn wsX5_count (wsX2_wholeGates) := ggX5_count_X2_wholeGates
set_option maxRecDepth 20000 in
theorem ggX5_count_X2_wordsHeard : GoodIn wsX5_count wsX2_wordsHeard := goodIn_r _ [24, 15, 16, 25, 26, 27, 28, 29, 30, 31, 42, 43, 44, 45, 46, 47, 48, 49, 50, 51, 52, 53] (by decide +kernel) (by decide +kernel)
set_option maxRecDepth 20000 in
theorem gX5_count_X2_wordsHeard_n246 : GoodIn wsX5_count (wsX2_wordsHeard) := ggX5_count_X2_wordsHeard
theorem dX5_count_0 : decode cX5_count 0 = .ok (.iload_n 1, 1) := by decide +kernel
theorem dX5_count_1 : decode cX5_count 1 = .ok (.tableswitch 132 0 9 #[55, 60, 68, 76, 84, 92, 100, 108, 116, 124], 55) := by decide +kernel
theorem dX5_count_56 : decode cX5_count 56 = .ok (.aload_n 0, 1) := by decide +kernel
theorem dX5_count_57 : decode cX5_count 57 = .ok (.invokevirtual 264, 3) := by decide +kernel
theorem dX5_count_60 : decode cX5_count 60 = .ok (.ireturn, 1) := by decide +kernel
theorem dX5_count_61 : decode cX5_count 61 = .ok (.aload_n 0, 1) := by decide +kernel
theorem dX5_count_62 : decode cX5_count 62 = .ok (.getfield 25, 3) := by decide +kernel
theorem dX5_count_65 : decode cX5_count 65 = .ok (.getfield 193, 3) := by decide +kernel
theorem dX5_count_68 : decode cX5_count 68 = .ok (.ireturn, 1) := by decide +kernel
theorem dX5_count_69 : decode cX5_count 69 = .ok (.aload_n 0, 1) := by decide +kernel
theorem dX5_count_70 : decode cX5_count 70 = .ok (.getfield 25, 3) := by decide +kernel
theorem dX5_count_73 : decode cX5_count 73 = .ok (.getfield 125, 3) := by decide +kernel
theorem dX5_count_76 : decode cX5_count 76 = .ok (.ireturn, 1) := by decide +kernel
theorem dX5_count_77 : decode cX5_count 77 = .ok (.aload_n 0, 1) := by decide +kernel
theorem dX5_count_78 : decode cX5_count 78 = .ok (.getfield 25, 3) := by decide +kernel
theorem dX5_count_81 : decode cX5_count 81 = .ok (.getfield 132, 3) := by decide +kernel
theorem dX5_count_84 : decode cX5_count 84 = .ok (.ireturn, 1) := by decide +kernel
theorem dX5_count_85 : decode cX5_count 85 = .ok (.aload_n 0, 1) := by decide +kernel
theorem dX5_count_86 : decode cX5_count 86 = .ok (.getfield 25, 3) := by decide +kernel
theorem dX5_count_89 : decode cX5_count 89 = .ok (.getfield 267, 3) := by decide +kernel
theorem dX5_count_92 : decode cX5_count 92 = .ok (.ireturn, 1) := by decide +kernel
theorem dX5_count_93 : decode cX5_count 93 = .ok (.aload_n 0, 1) := by decide +kernel
theorem dX5_count_94 : decode cX5_count 94 = .ok (.getfield 25, 3) := by decide +kernel
theorem dX5_count_97 : decode cX5_count 97 = .ok (.getfield 270, 3) := by decide +kernel
theorem dX5_count_100 : decode cX5_count 100 = .ok (.ireturn, 1) := by decide +kernel
theorem dX5_count_101 : decode cX5_count 101 = .ok (.aload_n 0, 1) := by decide +kernel
theorem dX5_count_102 : decode cX5_count 102 = .ok (.getfield 43, 3) := by decide +kernel
theorem dX5_count_105 : decode cX5_count 105 = .ok (.getfield 122, 3) := by decide +kernel
theorem dX5_count_108 : decode cX5_count 108 = .ok (.ireturn, 1) := by decide +kernel
theorem dX5_count_109 : decode cX5_count 109 = .ok (.aload_n 0, 1) := by decide +kernel
theorem dX5_count_110 : decode cX5_count 110 = .ok (.getfield 18, 3) := by decide +kernel
theorem dX5_count_113 : decode cX5_count 113 = .ok (.getfield 98, 3) := by decide +kernel
theorem dX5_count_116 : decode cX5_count 116 = .ok (.ireturn, 1) := by decide +kernel
theorem dX5_count_117 : decode cX5_count 117 = .ok (.aload_n 0, 1) := by decide +kernel
theorem dX5_count_118 : decode cX5_count 118 = .ok (.getfield 25, 3) := by decide +kernel
theorem dX5_count_121 : decode cX5_count 121 = .ok (.invokevirtual 141, 3) := by decide +kernel
theorem dX5_count_124 : decode cX5_count 124 = .ok (.ireturn, 1) := by decide +kernel
theorem dX5_count_125 : decode cX5_count 125 = .ok (.aload_n 0, 1) := by decide +kernel
theorem dX5_count_126 : decode cX5_count 126 = .ok (.getfield 25, 3) := by decide +kernel
theorem dX5_count_129 : decode cX5_count 129 = .ok (.invokevirtual 246, 3) := by decide +kernel
theorem dX5_count_132 : decode cX5_count 132 = .ok (.ireturn, 1) := by decide +kernel
theorem dX5_count_133 : decode cX5_count 133 = .ok (.ldc 59, 2) := by decide +kernel
theorem dX5_count_135 : decode cX5_count 135 = .ok (.ireturn, 1) := by decide +kernel
theorem dX5_status_0 : decode cX5_status 0 = .ok (.aload_n 0, 1) := by decide +kernel
theorem dX5_status_1 : decode cX5_status 1 = .ok (.getfield 273, 3) := by decide +kernel
theorem dX5_status_4 : decode cX5_status 4 = .ok (.ireturn, 1) := by decide +kernel
theorem dX5_isWithin_0 : decode cX5_isWithin 0 = .ok (.iload_n 0, 1) := by decide +kernel
theorem dX5_isWithin_1 : decode cX5_isWithin 1 = .ok (.iload_n 1, 1) := by decide +kernel
theorem dX5_isWithin_2 : decode cX5_isWithin 2 = .ok (.if_icmp .lt 12, 3) := by decide +kernel
theorem dX5_isWithin_5 : decode cX5_isWithin 5 = .ok (.iload_n 0, 1) := by decide +kernel
theorem dX5_isWithin_6 : decode cX5_isWithin 6 = .ok (.iload_n 2, 1) := by decide +kernel
theorem dX5_isWithin_7 : decode cX5_isWithin 7 = .ok (.if_icmp .gt 7, 3) := by decide +kernel
theorem dX5_isWithin_10 : decode cX5_isWithin 10 = .ok (.iconst 1, 1) := by decide +kernel
theorem dX5_isWithin_11 : decode cX5_isWithin 11 = .ok (.goto 4, 3) := by decide +kernel
theorem dX5_isWithin_14 : decode cX5_isWithin 14 = .ok (.iconst 0, 1) := by decide +kernel
theorem dX5_isWithin_15 : decode cX5_isWithin 15 = .ok (.ireturn, 1) := by decide +kernel
theorem dX5_isRow_0 : decode cX5_isRow 0 = .ok (.iload_n 0, 1) := by decide +kernel
theorem dX5_isRow_1 : decode cX5_isRow 1 = .ok (.ifCond .lt 13, 3) := by decide +kernel
theorem dX5_isRow_4 : decode cX5_isRow 4 = .ok (.iload_n 0, 1) := by decide +kernel
theorem dX5_isRow_5 : decode cX5_isRow 5 = .ok (.bipush 8, 2) := by decide +kernel
theorem dX5_isRow_7 : decode cX5_isRow 7 = .ok (.if_icmp .ge 7, 3) := by decide +kernel
theorem dX5_isRow_10 : decode cX5_isRow 10 = .ok (.iconst 1, 1) := by decide +kernel
theorem dX5_isRow_11 : decode cX5_isRow 11 = .ok (.goto 4, 3) := by decide +kernel
theorem dX5_isRow_14 : decode cX5_isRow 14 = .ok (.iconst 0, 1) := by decide +kernel
theorem dX5_isRow_15 : decode cX5_isRow 15 = .ok (.ireturn, 1) := by decide +kernel
theorem dX5_isPulpit_0 : decode cX5_isPulpit 0 = .ok (.iload_n 1, 1) := by decide +kernel
theorem dX5_isPulpit_1 : decode cX5_isPulpit 1 = .ok (.ifCond .lt 18, 3) := by decide +kernel
theorem dX5_isPulpit_4 : decode cX5_isPulpit 4 = .ok (.iload_n 1, 1) := by decide +kernel
theorem dX5_isPulpit_5 : decode cX5_isPulpit 5 = .ok (.aload_n 0, 1) := by decide +kernel
theorem dX5_isPulpit_6 : decode cX5_isPulpit 6 = .ok (.getfield 25, 3) := by decide +kernel
theorem dX5_isPulpit_9 : decode cX5_isPulpit 9 = .ok (.getfield 125, 3) := by decide +kernel
theorem dX5_isPulpit_12 : decode cX5_isPulpit 12 = .ok (.if_icmp .ge 7, 3) := by decide +kernel
theorem dX5_isPulpit_15 : decode cX5_isPulpit 15 = .ok (.iconst 1, 1) := by decide +kernel
theorem dX5_isPulpit_16 : decode cX5_isPulpit 16 = .ok (.goto 4, 3) := by decide +kernel
theorem dX5_isPulpit_19 : decode cX5_isPulpit 19 = .ok (.iconst 0, 1) := by decide +kernel
theorem dX5_isPulpit_20 : decode cX5_isPulpit 20 = .ok (.ireturn, 1) := by decide +kernel
theorem dX5_isStretch_0 : decode cX5_isStretch 0 = .ok (.iload_n 1, 1) := by decide +kernel
theorem dX5_isStretch_1 : decode cX5_isStretch 1 = .ok (.ifCond .lt 18, 3) := by decide +kernel
theorem dX5_isStretch_4 : decode cX5_isStretch 4 = .ok (.iload_n 1, 1) := by decide +kernel
theorem dX5_isStretch_5 : decode cX5_isStretch 5 = .ok (.aload_n 0, 1) := by decide +kernel
theorem dX5_isStretch_6 : decode cX5_isStretch 6 = .ok (.getfield 25, 3) := by decide +kernel
theorem dX5_isStretch_9 : decode cX5_isStretch 9 = .ok (.getfield 193, 3) := by decide +kernel
theorem dX5_isStretch_12 : decode cX5_isStretch 12 = .ok (.if_icmp .ge 7, 3) := by decide +kernel
theorem dX5_isStretch_15 : decode cX5_isStretch 15 = .ok (.iconst 1, 1) := by decide +kernel
theorem dX5_isStretch_16 : decode cX5_isStretch 16 = .ok (.goto 4, 3) := by decide +kernel
theorem dX5_isStretch_19 : decode cX5_isStretch 19 = .ok (.iconst 0, 1) := by decide +kernel
theorem dX5_isStretch_20 : decode cX5_isStretch 20 = .ok (.ireturn, 1) := by decide +kernel
theorem dX5_isWord_0 : decode cX5_isWord 0 = .ok (.iload_n 1, 1) := by decide +kernel
theorem dX5_isWord_1 : decode cX5_isWord 1 = .ok (.ifCond .lt 18, 3) := by decide +kernel
theorem dX5_isWord_4 : decode cX5_isWord 4 = .ok (.iload_n 1, 1) := by decide +kernel
theorem dX5_isWord_5 : decode cX5_isWord 5 = .ok (.aload_n 0, 1) := by decide +kernel
theorem dX5_isWord_6 : decode cX5_isWord 6 = .ok (.getfield 25, 3) := by decide +kernel
theorem dX5_isWord_9 : decode cX5_isWord 9 = .ok (.getfield 267, 3) := by decide +kernel
theorem dX5_isWord_12 : decode cX5_isWord 12 = .ok (.if_icmp .ge 7, 3) := by decide +kernel
theorem dX5_isWord_15 : decode cX5_isWord 15 = .ok (.iconst 1, 1) := by decide +kernel
theorem dX5_isWord_16 : decode cX5_isWord 16 = .ok (.goto 4, 3) := by decide +kernel
theorem dX5_isWord_19 : decode cX5_isWord 19 = .ok (.iconst 0, 1) := by decide +kernel
theorem dX5_isWord_20 : decode cX5_isWord 20 = .ok (.ireturn, 1) := by decide +kernel
theorem dX5_found_0 : decode cX5_found 0 = .ok (.aload_n 0, 1) := by decide +kernel
theorem dX5_found_1 : decode cX5_found 1 = .ok (.iload_n 1, 1) := by decide +kernel
theorem dX5_found_2 : decode cX5_found 2 = .ok (.putfield 273, 3) := by decide +kernel
theorem dX5_found_5 : decode cX5_found 5 = .ok (.ldc_w 276, 3) := by decide +kernel
theorem dX5_found_8 : decode cX5_found 8 = .ok (.iload_n 1, 1) := by decide +kernel
theorem dX5_found_9 : decode cX5_found 9 = .ok (.isub, 1) := by decide +kernel
theorem dX5_found_10 : decode cX5_found 10 = .ok (.ireturn, 1) := by decide +kernel
theorem dX5_foundNothing_0 : decode cX5_foundNothing 0 = .ok (.aload_n 0, 1) := by decide +kernel
theorem dX5_foundNothing_1 : decode cX5_foundNothing 1 = .ok (.iconst 0, 1) := by decide +kernel
theorem dX5_foundNothing_2 : decode cX5_foundNothing 2 = .ok (.putfield 273, 3) := by decide +kernel
theorem dX5_foundNothing_5 : decode cX5_foundNothing 5 = .ok (.iload_n 1, 1) := by decide +kernel
theorem dX5_foundNothing_6 : decode cX5_foundNothing 6 = .ok (.ireturn, 1) := by decide +kernel
theorem dX5_rowsThere_0 : decode cX5_rowsThere 0 = .ok (.iconst 0, 1) := by decide +kernel
theorem dX5_rowsThere_1 : decode cX5_rowsThere 1 = .ok (.istore_n 1, 1) := by decide +kernel
theorem dX5_rowsThere_2 : decode cX5_rowsThere 2 = .ok (.iconst 0, 1) := by decide +kernel
theorem dX5_rowsThere_3 : decode cX5_rowsThere 3 = .ok (.istore_n 2, 1) := by decide +kernel
theorem dX5_rowsThere_4 : decode cX5_rowsThere 4 = .ok (.iload_n 2, 1) := by decide +kernel
theorem dX5_rowsThere_5 : decode cX5_rowsThere 5 = .ok (.bipush 8, 2) := by decide +kernel
theorem dX5_rowsThere_7 : decode cX5_rowsThere 7 = .ok (.if_icmp .ge 24, 3) := by decide +kernel
theorem dX5_rowsThere_10 : decode cX5_rowsThere 10 = .ok (.aload_n 0, 1) := by decide +kernel
theorem dX5_rowsThere_11 : decode cX5_rowsThere 11 = .ok (.getfield 11, 3) := by decide +kernel
theorem dX5_rowsThere_14 : decode cX5_rowsThere 14 = .ok (.iload_n 2, 1) := by decide +kernel
theorem dX5_rowsThere_15 : decode cX5_rowsThere 15 = .ok (.aaload, 1) := by decide +kernel
theorem dX5_rowsThere_16 : decode cX5_rowsThere 16 = .ok (.getfield 71, 3) := by decide +kernel
theorem dX5_rowsThere_19 : decode cX5_rowsThere 19 = .ok (.ifCond .ne 6, 3) := by decide +kernel
theorem dX5_rowsThere_22 : decode cX5_rowsThere 22 = .ok (.iinc 1 1, 3) := by decide +kernel
theorem dX5_rowsThere_25 : decode cX5_rowsThere 25 = .ok (.iinc 2 1, 3) := by decide +kernel
theorem dX5_rowsThere_28 : decode cX5_rowsThere 28 = .ok (.goto (-24), 3) := by decide +kernel
theorem dX5_rowsThere_31 : decode cX5_rowsThere 31 = .ok (.iload_n 1, 1) := by decide +kernel
theorem dX5_rowsThere_32 : decode cX5_rowsThere 32 = .ok (.ireturn, 1) := by decide +kernel
set_option maxRecDepth 20000 in
theorem ggX5_foretell_X2_take : GoodIn wsX5_foretell wsX2_take := goodIn_r _ [6, 7, 8, 9, 10, 11, 12, 13, 14, 15, 16, 17, 68, 69, 70, 71, 72, 73, 74, 75, 76, 77, 78, 79] (by decide +kernel) (by decide +kernel)
set_option maxRecDepth 20000 in
theorem gX5_foretell_X2_take_n118 : GoodIn wsX5_foretell (wsX2_take) := ggX5_foretell_X2_take
set_option maxRecDepth 20000 in
theorem ggX5_foretell_X2_goHours : GoodIn wsX5_foretell wsX2_goHours := goodIn_r _ [20, 21, 22, 23, 4, 24, 11, 25, 12, 10, 26, 27, 28, 29, 16, 30, 31, 32, 33, 14, 17, 34, 35, 36, 37, 15, 13, 38, 39, 40, 41, 8, 42, 43, 44, 45, 46, 47, 48, 49, 9, 50, 51, 52, 53, 54, 55, 56, 57, 68, 69, 70, 71, 72, 73, 74, 75, 76, 77, 78, 79] (by decide +kernel) (by decide +kernel)
set_option maxRecDepth 20000 in
theorem gX5_foretell_X2_goHours_n209 : GoodIn wsX5_foretell (wsX2_goHours) := ggX5_foretell_X2_goHours
theorem dX5_foretell_0 : decode cX5_foretell 0 = .ok (.aload_n 0, 1) := by decide +kernel
theorem dX5_foretell_1 : decode cX5_foretell 1 = .ok (.getfield 29, 3) := by decide +kernel
theorem dX5_foretell_4 : decode cX5_foretell 4 = .ok (.aload_n 0, 1) := by decide +kernel
theorem dX5_foretell_5 : decode cX5_foretell 5 = .ok (.getfield 25, 3) := by decide +kernel
theorem dX5_foretell_8 : decode cX5_foretell 8 = .ok (.invokevirtual 118, 3) := by decide +kernel
theorem dX5_foretell_11 : decode cX5_foretell 11 = .ok (.aload_n 0, 1) := by decide +kernel
theorem dX5_foretell_12 : decode cX5_foretell 12 = .ok (.getfield 29, 3) := by decide +kernel
theorem dX5_foretell_15 : decode cX5_foretell 15 = .ok (.iload_n 1, 1) := by decide +kernel
theorem dX5_foretell_16 : decode cX5_foretell 16 = .ok (.invokevirtual 209, 3) := by decide +kernel
theorem dX5_foretell_19 : decode cX5_foretell 19 = .ok (.return_, 1) := by decide +kernel
set_option maxRecDepth 20000 in
theorem ggX5_hoursToWhole_X5_foretell : GoodIn wsX5_hoursToWhole wsX5_foretell := goodIn_r _ [7, 1, 8, 9, 10, 11, 12, 13, 14, 15, 16, 17, 18, 19, 20, 21, 22, 23, 24, 25, 26, 27, 28, 29, 30, 31, 32, 33, 34, 35, 36, 37, 38, 39, 40, 41, 42, 43, 44, 45, 46, 47, 48, 49, 50, 51, 52, 53, 54, 55, 56, 57, 58, 59, 60, 61, 62, 63, 71, 72, 73, 74, 75, 76, 77, 78, 79, 80, 81, 82, 83, 84, 85, 86, 87, 88, 89, 90, 91, 92] (by decide +kernel) (by decide +kernel)
set_option maxRecDepth 20000 in
theorem gX5_hoursToWhole_X5_foretell : GoodIn wsX5_hoursToWhole (wsV RX5 187 RX5 yX5_foretell wsX5_foretell) := goodIn_app (goodIn_of _ (by decide +kernel)) ggX5_hoursToWhole_X5_foretell
set_option maxRecDepth 20000 in
theorem ggX5_hoursToWhole_X2_wholeGates : GoodIn wsX5_hoursToWhole wsX2_wholeGates := goodIn_r _ [66, 17, 20, 67, 68, 69, 10, 70, 14, 81, 82, 83, 84, 85, 86, 87, 88, 89, 90, 91, 92] (by decide +kernel) (by decide +kernel)
set_option maxRecDepth 20000 in
theorem gX5_hoursToWhole_X2_wholeGates_n141 : GoodIn wsX5_hoursToWhole (wsX2_wholeGates) := ggX5_hoursToWhole_X2_wholeGates
set_option maxRecDepth 20000 in
theorem ggX5_hoursToWhole_X2_goHour : GoodIn wsX5_hoursToWhole wsX2_goHour := goodIn_r _ [30, 17, 31, 18, 16, 32, 33, 34, 10, 35, 22, 36, 37, 38, 39, 20, 23, 40, 41, 42, 43, 21, 19, 44, 45, 46, 47, 14, 48, 49, 50, 51, 52, 53, 54, 55, 15, 56, 57, 58, 59, 60, 61, 62, 63, 81, 82, 83, 84, 85, 86, 87, 88, 89, 90, 91, 92] (by decide +kernel) (by decide +kernel)
set_option maxRecDepth 20000 in
theorem gX5_hoursToWhole_X2_goHour_n138 : GoodIn wsX5_hoursToWhole (wsX2_goHour) := ggX5_hoursToWhole_X2_goHour
theorem dX5_hoursToWhole_0 : decode cX5_hoursToWhole 0 = .ok (.aload_n 0, 1) := by decide +kernel
theorem dX5_hoursToWhole_1 : decode cX5_hoursToWhole 1 = .ok (.iconst 0, 1) := by decide +kernel
theorem dX5_hoursToWhole_2 : decode cX5_hoursToWhole 2 = .ok (.invokevirtual 187, 3) := by decide +kernel
theorem dX5_hoursToWhole_5 : decode cX5_hoursToWhole 5 = .ok (.iconst 0, 1) := by decide +kernel
theorem dX5_hoursToWhole_6 : decode cX5_hoursToWhole 6 = .ok (.istore_n 2, 1) := by decide +kernel
theorem dX5_hoursToWhole_7 : decode cX5_hoursToWhole 7 = .ok (.iload_n 2, 1) := by decide +kernel
theorem dX5_hoursToWhole_8 : decode cX5_hoursToWhole 8 = .ok (.bipush 60, 2) := by decide +kernel
theorem dX5_hoursToWhole_10 : decode cX5_hoursToWhole 10 = .ok (.if_icmp .gt 30, 3) := by decide +kernel
theorem dX5_hoursToWhole_13 : decode cX5_hoursToWhole 13 = .ok (.aload_n 0, 1) := by decide +kernel
theorem dX5_hoursToWhole_14 : decode cX5_hoursToWhole 14 = .ok (.getfield 29, 3) := by decide +kernel
theorem dX5_hoursToWhole_17 : decode cX5_hoursToWhole 17 = .ok (.invokevirtual 141, 3) := by decide +kernel
theorem dX5_hoursToWhole_20 : decode cX5_hoursToWhole 20 = .ok (.iload_n 1, 1) := by decide +kernel
theorem dX5_hoursToWhole_21 : decode cX5_hoursToWhole 21 = .ok (.iand, 1) := by decide +kernel
theorem dX5_hoursToWhole_22 : decode cX5_hoursToWhole 22 = .ok (.ifCond .eq 5, 3) := by decide +kernel
theorem dX5_hoursToWhole_25 : decode cX5_hoursToWhole 25 = .ok (.iload_n 2, 1) := by decide +kernel
theorem dX5_hoursToWhole_26 : decode cX5_hoursToWhole 26 = .ok (.ireturn, 1) := by decide +kernel
theorem dX5_hoursToWhole_27 : decode cX5_hoursToWhole 27 = .ok (.aload_n 0, 1) := by decide +kernel
theorem dX5_hoursToWhole_28 : decode cX5_hoursToWhole 28 = .ok (.getfield 29, 3) := by decide +kernel
theorem dX5_hoursToWhole_31 : decode cX5_hoursToWhole 31 = .ok (.invokevirtual 138, 3) := by decide +kernel
theorem dX5_hoursToWhole_34 : decode cX5_hoursToWhole 34 = .ok (.iinc 2 1, 3) := by decide +kernel
theorem dX5_hoursToWhole_37 : decode cX5_hoursToWhole 37 = .ok (.goto (-30), 3) := by decide +kernel
theorem dX5_hoursToWhole_40 : decode cX5_hoursToWhole 40 = .ok (.ldc 196, 2) := by decide +kernel
theorem dX5_hoursToWhole_42 : decode cX5_hoursToWhole 42 = .ok (.ireturn, 1) := by decide +kernel
theorem dX5_leastOf_0 : decode cX5_leastOf 0 = .ok (.iconst 0, 1) := by decide +kernel
theorem dX5_leastOf_1 : decode cX5_leastOf 1 = .ok (.istore_n 1, 1) := by decide +kernel
theorem dX5_leastOf_2 : decode cX5_leastOf 2 = .ok (.iload_n 1, 1) := by decide +kernel
theorem dX5_leastOf_3 : decode cX5_leastOf 3 = .ok (.bipush 9, 2) := by decide +kernel
theorem dX5_leastOf_5 : decode cX5_leastOf 5 = .ok (.if_icmp .ge 19, 3) := by decide +kernel
theorem dX5_leastOf_8 : decode cX5_leastOf 8 = .ok (.iload_n 0, 1) := by decide +kernel
theorem dX5_leastOf_9 : decode cX5_leastOf 9 = .ok (.iload_n 1, 1) := by decide +kernel
theorem dX5_leastOf_10 : decode cX5_leastOf 10 = .ok (.ishr, 1) := by decide +kernel
theorem dX5_leastOf_11 : decode cX5_leastOf 11 = .ok (.iconst 1, 1) := by decide +kernel
theorem dX5_leastOf_12 : decode cX5_leastOf 12 = .ok (.iand, 1) := by decide +kernel
theorem dX5_leastOf_13 : decode cX5_leastOf 13 = .ok (.ifCond .eq 5, 3) := by decide +kernel
theorem dX5_leastOf_16 : decode cX5_leastOf 16 = .ok (.iload_n 1, 1) := by decide +kernel
theorem dX5_leastOf_17 : decode cX5_leastOf 17 = .ok (.ireturn, 1) := by decide +kernel
theorem dX5_leastOf_18 : decode cX5_leastOf 18 = .ok (.iinc 1 1, 3) := by decide +kernel
theorem dX5_leastOf_21 : decode cX5_leastOf 21 = .ok (.goto (-19), 3) := by decide +kernel
theorem dX5_leastOf_24 : decode cX5_leastOf 24 = .ok (.ldc 196, 2) := by decide +kernel
theorem dX5_leastOf_26 : decode cX5_leastOf 26 = .ok (.ireturn, 1) := by decide +kernel
set_option maxRecDepth 20000 in
theorem ggX5_foretellSayings_X5_foretell : GoodIn wsX5_foretellSayings wsX5_foretell := goodIn_r _ [7, 1, 8, 9, 10, 11, 12, 13, 14, 15, 16, 17, 18, 19, 20, 21, 22, 23, 24, 25, 26, 27, 28, 29, 30, 31, 32, 33, 34, 35, 36, 37, 38, 39, 40, 41, 42, 43, 44, 45, 46, 47, 48, 49, 50, 51, 52, 53, 54, 55, 56, 57, 58, 59, 60, 61, 62, 63, 64, 65, 66, 67, 68, 69, 70, 71, 72, 73, 74, 75, 76, 77, 78, 79, 80, 81, 82, 83, 84, 85] (by decide +kernel) (by decide +kernel)
set_option maxRecDepth 20000 in
theorem gX5_foretellSayings_X5_foretell : GoodIn wsX5_foretellSayings (wsV RX5 187 RX5 yX5_foretell wsX5_foretell) := goodIn_app (goodIn_of _ (by decide +kernel)) ggX5_foretellSayings_X5_foretell
set_option maxRecDepth 20000 in
theorem ggX5_foretellSayings_X2_goHour : GoodIn wsX5_foretellSayings wsX2_goHour := goodIn_r _ [30, 17, 31, 18, 16, 32, 33, 34, 10, 35, 22, 36, 37, 38, 39, 20, 23, 40, 41, 42, 43, 21, 19, 44, 45, 46, 47, 14, 48, 49, 50, 51, 52, 53, 54, 55, 15, 56, 57, 58, 59, 60, 61, 62, 63, 74, 75, 76, 77, 78, 79, 80, 81, 82, 83, 84, 85] (by decide +kernel) (by decide +kernel)
set_option maxRecDepth 20000 in
theorem gX5_foretellSayings_X2_goHour_n138 : GoodIn wsX5_foretellSayings (wsX2_goHour) := ggX5_foretellSayings_X2_goHour
theorem dX5_foretellSayings_0 : decode cX5_foretellSayings 0 = .ok (.aload_n 0, 1) := by decide +kernel
theorem dX5_foretellSayings_1 : decode cX5_foretellSayings 1 = .ok (.iconst 0, 1) := by decide +kernel
theorem dX5_foretellSayings_2 : decode cX5_foretellSayings 2 = .ok (.invokevirtual 187, 3) := by decide +kernel
theorem dX5_foretellSayings_5 : decode cX5_foretellSayings 5 = .ok (.iconst 0, 1) := by decide +kernel
theorem dX5_foretellSayings_6 : decode cX5_foretellSayings 6 = .ok (.istore_n 2, 1) := by decide +kernel
theorem dX5_foretellSayings_7 : decode cX5_foretellSayings 7 = .ok (.iload_n 2, 1) := by decide +kernel
theorem dX5_foretellSayings_8 : decode cX5_foretellSayings 8 = .ok (.iload_n 1, 1) := by decide +kernel
theorem dX5_foretellSayings_9 : decode cX5_foretellSayings 9 = .ok (.if_icmp .ge 55, 3) := by decide +kernel
theorem dX5_foretellSayings_12 : decode cX5_foretellSayings 12 = .ok (.aload_n 0, 1) := by decide +kernel
theorem dX5_foretellSayings_13 : decode cX5_foretellSayings 13 = .ok (.getfield 29, 3) := by decide +kernel
theorem dX5_foretellSayings_16 : decode cX5_foretellSayings 16 = .ok (.invokevirtual 138, 3) := by decide +kernel
theorem dX5_foretellSayings_19 : decode cX5_foretellSayings 19 = .ok (.iconst 0, 1) := by decide +kernel
theorem dX5_foretellSayings_20 : decode cX5_foretellSayings 20 = .ok (.istore_n 3, 1) := by decide +kernel
theorem dX5_foretellSayings_21 : decode cX5_foretellSayings 21 = .ok (.iload_n 3, 1) := by decide +kernel
theorem dX5_foretellSayings_22 : decode cX5_foretellSayings 22 = .ok (.aload_n 0, 1) := by decide +kernel
theorem dX5_foretellSayings_23 : decode cX5_foretellSayings 23 = .ok (.getfield 29, 3) := by decide +kernel
theorem dX5_foretellSayings_26 : decode cX5_foretellSayings 26 = .ok (.getfield 193, 3) := by decide +kernel
theorem dX5_foretellSayings_29 : decode cX5_foretellSayings 29 = .ok (.if_icmp .ge 29, 3) := by decide +kernel
theorem dX5_foretellSayings_32 : decode cX5_foretellSayings 32 = .ok (.aload_n 0, 1) := by decide +kernel
theorem dX5_foretellSayings_33 : decode cX5_foretellSayings 33 = .ok (.getfield 32, 3) := by decide +kernel
theorem dX5_foretellSayings_36 : decode cX5_foretellSayings 36 = .ok (.iload_n 2, 1) := by decide +kernel
theorem dX5_foretellSayings_37 : decode cX5_foretellSayings 37 = .ok (.bipush 9, 2) := by decide +kernel
theorem dX5_foretellSayings_39 : decode cX5_foretellSayings 39 = .ok (.imul, 1) := by decide +kernel
theorem dX5_foretellSayings_40 : decode cX5_foretellSayings 40 = .ok (.iload_n 3, 1) := by decide +kernel
theorem dX5_foretellSayings_41 : decode cX5_foretellSayings 41 = .ok (.iadd, 1) := by decide +kernel
theorem dX5_foretellSayings_42 : decode cX5_foretellSayings 42 = .ok (.aload_n 0, 1) := by decide +kernel
theorem dX5_foretellSayings_43 : decode cX5_foretellSayings 43 = .ok (.getfield 29, 3) := by decide +kernel
theorem dX5_foretellSayings_46 : decode cX5_foretellSayings 46 = .ok (.getfield 277, 3) := by decide +kernel
theorem dX5_foretellSayings_49 : decode cX5_foretellSayings 49 = .ok (.iload_n 3, 1) := by decide +kernel
theorem dX5_foretellSayings_50 : decode cX5_foretellSayings 50 = .ok (.iaload, 1) := by decide +kernel
theorem dX5_foretellSayings_51 : decode cX5_foretellSayings 51 = .ok (.iastore, 1) := by decide +kernel
theorem dX5_foretellSayings_52 : decode cX5_foretellSayings 52 = .ok (.iinc 3 1, 3) := by decide +kernel
theorem dX5_foretellSayings_55 : decode cX5_foretellSayings 55 = .ok (.goto (-34), 3) := by decide +kernel
theorem dX5_foretellSayings_58 : decode cX5_foretellSayings 58 = .ok (.iinc 2 1, 3) := by decide +kernel
theorem dX5_foretellSayings_61 : decode cX5_foretellSayings 61 = .ok (.goto (-54), 3) := by decide +kernel
theorem dX5_foretellSayings_64 : decode cX5_foretellSayings 64 = .ok (.return_, 1) := by decide +kernel
set_option maxRecDepth 20000 in
theorem ggX5_heardOnWay_X2_nextOf : GoodIn wsX5_heardOnWay wsX2_nextOf := goodIn_r _ [6, 7, 18, 19, 20, 21, 22, 23, 24, 25, 26, 27, 28, 29] (by decide +kernel) (by decide +kernel)
set_option maxRecDepth 20000 in
theorem gX5_heardOnWay_X2_nextOf_n280 : GoodIn wsX5_heardOnWay (wsX2_nextOf) := ggX5_heardOnWay_X2_nextOf
theorem dX5_heardOnWay_0 : decode cX5_heardOnWay 0 = .ok (.iload_n 1, 1) := by decide +kernel
theorem dX5_heardOnWay_1 : decode cX5_heardOnWay 1 = .ok (.istore 4, 2) := by decide +kernel
theorem dX5_heardOnWay_3 : decode cX5_heardOnWay 3 = .ok (.iconst 0, 1) := by decide +kernel
theorem dX5_heardOnWay_4 : decode cX5_heardOnWay 4 = .ok (.istore 5, 2) := by decide +kernel
theorem dX5_heardOnWay_6 : decode cX5_heardOnWay 6 = .ok (.iconst 0, 1) := by decide +kernel
theorem dX5_heardOnWay_7 : decode cX5_heardOnWay 7 = .ok (.istore 6, 2) := by decide +kernel
theorem dX5_heardOnWay_9 : decode cX5_heardOnWay 9 = .ok (.iload 6, 2) := by decide +kernel
theorem dX5_heardOnWay_11 : decode cX5_heardOnWay 11 = .ok (.iload_n 2, 1) := by decide +kernel
theorem dX5_heardOnWay_12 : decode cX5_heardOnWay 12 = .ok (.if_icmp .ge 47, 3) := by decide +kernel
theorem dX5_heardOnWay_15 : decode cX5_heardOnWay 15 = .ok (.iload_n 3, 1) := by decide +kernel
theorem dX5_heardOnWay_16 : decode cX5_heardOnWay 16 = .ok (.iload 6, 2) := by decide +kernel
theorem dX5_heardOnWay_18 : decode cX5_heardOnWay 18 = .ok (.ishr, 1) := by decide +kernel
theorem dX5_heardOnWay_19 : decode cX5_heardOnWay 19 = .ok (.iconst 1, 1) := by decide +kernel
theorem dX5_heardOnWay_20 : decode cX5_heardOnWay 20 = .ok (.iand, 1) := by decide +kernel
theorem dX5_heardOnWay_21 : decode cX5_heardOnWay 21 = .ok (.ifCond .eq 14, 3) := by decide +kernel
theorem dX5_heardOnWay_24 : decode cX5_heardOnWay 24 = .ok (.aload_n 0, 1) := by decide +kernel
theorem dX5_heardOnWay_25 : decode cX5_heardOnWay 25 = .ok (.getfield 29, 3) := by decide +kernel
theorem dX5_heardOnWay_28 : decode cX5_heardOnWay 28 = .ok (.iload 4, 2) := by decide +kernel
theorem dX5_heardOnWay_30 : decode cX5_heardOnWay 30 = .ok (.invokevirtual 280, 3) := by decide +kernel
theorem dX5_heardOnWay_33 : decode cX5_heardOnWay 33 = .ok (.istore 4, 2) := by decide +kernel
theorem dX5_heardOnWay_35 : decode cX5_heardOnWay 35 = .ok (.iload 5, 2) := by decide +kernel
theorem dX5_heardOnWay_37 : decode cX5_heardOnWay 37 = .ok (.aload_n 0, 1) := by decide +kernel
theorem dX5_heardOnWay_38 : decode cX5_heardOnWay 38 = .ok (.getfield 32, 3) := by decide +kernel
theorem dX5_heardOnWay_41 : decode cX5_heardOnWay 41 = .ok (.iload 6, 2) := by decide +kernel
theorem dX5_heardOnWay_43 : decode cX5_heardOnWay 43 = .ok (.bipush 9, 2) := by decide +kernel
theorem dX5_heardOnWay_45 : decode cX5_heardOnWay 45 = .ok (.imul, 1) := by decide +kernel
theorem dX5_heardOnWay_46 : decode cX5_heardOnWay 46 = .ok (.iload 4, 2) := by decide +kernel
theorem dX5_heardOnWay_48 : decode cX5_heardOnWay 48 = .ok (.iadd, 1) := by decide +kernel
theorem dX5_heardOnWay_49 : decode cX5_heardOnWay 49 = .ok (.iaload, 1) := by decide +kernel
theorem dX5_heardOnWay_50 : decode cX5_heardOnWay 50 = .ok (.ior, 1) := by decide +kernel
theorem dX5_heardOnWay_51 : decode cX5_heardOnWay 51 = .ok (.istore 5, 2) := by decide +kernel
theorem dX5_heardOnWay_53 : decode cX5_heardOnWay 53 = .ok (.iinc 6 1, 3) := by decide +kernel
theorem dX5_heardOnWay_56 : decode cX5_heardOnWay 56 = .ok (.goto (-47), 3) := by decide +kernel
theorem dX5_heardOnWay_59 : decode cX5_heardOnWay 59 = .ok (.iload 5, 2) := by decide +kernel
theorem dX5_heardOnWay_61 : decode cX5_heardOnWay 61 = .ok (.ireturn, 1) := by decide +kernel
theorem dX5_guessEnd_0 : decode cX5_guessEnd 0 = .ok (.iload_n 1, 1) := by decide +kernel
theorem dX5_guessEnd_1 : decode cX5_guessEnd 1 = .ok (.ifCond .ne 6, 3) := by decide +kernel
theorem dX5_guessEnd_4 : decode cX5_guessEnd 4 = .ok (.bipush 6, 2) := by decide +kernel
theorem dX5_guessEnd_6 : decode cX5_guessEnd 6 = .ok (.ireturn, 1) := by decide +kernel
theorem dX5_guessEnd_7 : decode cX5_guessEnd 7 = .ok (.iload_n 1, 1) := by decide +kernel
theorem dX5_guessEnd_8 : decode cX5_guessEnd 8 = .ok (.iconst 1, 1) := by decide +kernel
theorem dX5_guessEnd_9 : decode cX5_guessEnd 9 = .ok (.if_icmp .ne 13, 3) := by decide +kernel
theorem dX5_guessEnd_12 : decode cX5_guessEnd 12 = .ok (.aload_n 0, 1) := by decide +kernel
theorem dX5_guessEnd_13 : decode cX5_guessEnd 13 = .ok (.getfield 25, 3) := by decide +kernel
theorem dX5_guessEnd_16 : decode cX5_guessEnd 16 = .ok (.getfield 193, 3) := by decide +kernel
theorem dX5_guessEnd_19 : decode cX5_guessEnd 19 = .ok (.goto 10, 3) := by decide +kernel
theorem dX5_guessEnd_22 : decode cX5_guessEnd 22 = .ok (.aload_n 0, 1) := by decide +kernel
theorem dX5_guessEnd_23 : decode cX5_guessEnd 23 = .ok (.getfield 25, 3) := by decide +kernel
theorem dX5_guessEnd_26 : decode cX5_guessEnd 26 = .ok (.getfield 267, 3) := by decide +kernel
theorem dX5_guessEnd_29 : decode cX5_guessEnd 29 = .ok (.ireturn, 1) := by decide +kernel
theorem dX5_suppose_0 : decode cX5_suppose 0 = .ok (.iload_n 2, 1) := by decide +kernel
theorem dX5_suppose_1 : decode cX5_suppose 1 = .ok (.ifCond .ne 16, 3) := by decide +kernel
theorem dX5_suppose_4 : decode cX5_suppose 4 = .ok (.aload_n 0, 1) := by decide +kernel
theorem dX5_suppose_5 : decode cX5_suppose 5 = .ok (.getfield 29, 3) := by decide +kernel
theorem dX5_suppose_8 : decode cX5_suppose 8 = .ok (.getfield 249, 3) := by decide +kernel
theorem dX5_suppose_11 : decode cX5_suppose 11 = .ok (.iload_n 1, 1) := by decide +kernel
theorem dX5_suppose_12 : decode cX5_suppose 12 = .ok (.iload_n 3, 1) := by decide +kernel
theorem dX5_suppose_13 : decode cX5_suppose 13 = .ok (.iastore, 1) := by decide +kernel
theorem dX5_suppose_14 : decode cX5_suppose 14 = .ok (.goto 47, 3) := by decide +kernel
theorem dX5_suppose_17 : decode cX5_suppose 17 = .ok (.iload_n 2, 1) := by decide +kernel
theorem dX5_suppose_18 : decode cX5_suppose 18 = .ok (.iconst 1, 1) := by decide +kernel
theorem dX5_suppose_19 : decode cX5_suppose 19 = .ok (.if_icmp .ne 16, 3) := by decide +kernel
theorem dX5_suppose_22 : decode cX5_suppose 22 = .ok (.aload_n 0, 1) := by decide +kernel
theorem dX5_suppose_23 : decode cX5_suppose 23 = .ok (.getfield 29, 3) := by decide +kernel
theorem dX5_suppose_26 : decode cX5_suppose 26 = .ok (.getfield 151, 3) := by decide +kernel
theorem dX5_suppose_29 : decode cX5_suppose 29 = .ok (.iload_n 1, 1) := by decide +kernel
theorem dX5_suppose_30 : decode cX5_suppose 30 = .ok (.iload_n 3, 1) := by decide +kernel
theorem dX5_suppose_31 : decode cX5_suppose 31 = .ok (.iastore, 1) := by decide +kernel
theorem dX5_suppose_32 : decode cX5_suppose 32 = .ok (.goto 29, 3) := by decide +kernel
theorem dX5_suppose_35 : decode cX5_suppose 35 = .ok (.iload_n 2, 1) := by decide +kernel
theorem dX5_suppose_36 : decode cX5_suppose 36 = .ok (.iconst 2, 1) := by decide +kernel
theorem dX5_suppose_37 : decode cX5_suppose 37 = .ok (.if_icmp .ne 14, 3) := by decide +kernel
theorem dX5_suppose_40 : decode cX5_suppose 40 = .ok (.aload_n 0, 1) := by decide +kernel
theorem dX5_suppose_41 : decode cX5_suppose 41 = .ok (.getfield 29, 3) := by decide +kernel
theorem dX5_suppose_44 : decode cX5_suppose 44 = .ok (.iload_n 3, 1) := by decide +kernel
theorem dX5_suppose_45 : decode cX5_suppose 45 = .ok (.putfield 270, 3) := by decide +kernel
theorem dX5_suppose_48 : decode cX5_suppose 48 = .ok (.goto 13, 3) := by decide +kernel
theorem dX5_suppose_51 : decode cX5_suppose 51 = .ok (.aload_n 0, 1) := by decide +kernel
theorem dX5_suppose_52 : decode cX5_suppose 52 = .ok (.getfield 29, 3) := by decide +kernel
theorem dX5_suppose_55 : decode cX5_suppose 55 = .ok (.getfield 157, 3) := by decide +kernel
theorem dX5_suppose_58 : decode cX5_suppose 58 = .ok (.iload_n 1, 1) := by decide +kernel
theorem dX5_suppose_59 : decode cX5_suppose 59 = .ok (.iload_n 3, 1) := by decide +kernel
theorem dX5_suppose_60 : decode cX5_suppose 60 = .ok (.iastore, 1) := by decide +kernel
theorem dX5_suppose_61 : decode cX5_suppose 61 = .ok (.return_, 1) := by decide +kernel
set_option maxRecDepth 20000 in
theorem ggX5_goesAsTold_X2_goHour : GoodIn wsX5_goesAsTold wsX2_goHour := goodIn_r _ [5, 6, 7, 8, 9, 10, 11, 12, 3, 13, 14, 15, 16, 17, 18, 19, 20, 21, 22, 23, 24, 25, 26, 27, 28, 29, 30, 31, 32, 33, 34, 35, 36, 37, 38, 39, 40, 41, 42, 43, 44, 45, 46, 47, 48, 59, 60, 61, 62, 63, 64, 65, 66, 67, 68, 69, 70] (by decide +kernel) (by decide +kernel)
set_option maxRecDepth 20000 in
theorem gX5_goesAsTold_X2_goHour_n138 : GoodIn wsX5_goesAsTold (wsX2_goHour) := ggX5_goesAsTold_X2_goHour
theorem dX5_goesAsTold_0 : decode cX5_goesAsTold 0 = .ok (.iconst 0, 1) := by decide +kernel
theorem dX5_goesAsTold_1 : decode cX5_goesAsTold 1 = .ok (.istore 5, 2) := by decide +kernel
theorem dX5_goesAsTold_3 : decode cX5_goesAsTold 3 = .ok (.iload 5, 2) := by decide +kernel
theorem dX5_goesAsTold_5 : decode cX5_goesAsTold 5 = .ok (.iload 4, 2) := by decide +kernel
theorem dX5_goesAsTold_7 : decode cX5_goesAsTold 7 = .ok (.if_icmp .ge 39, 3) := by decide +kernel
theorem dX5_goesAsTold_10 : decode cX5_goesAsTold 10 = .ok (.aload_n 0, 1) := by decide +kernel
theorem dX5_goesAsTold_11 : decode cX5_goesAsTold 11 = .ok (.getfield 29, 3) := by decide +kernel
theorem dX5_goesAsTold_14 : decode cX5_goesAsTold 14 = .ok (.invokevirtual 138, 3) := by decide +kernel
theorem dX5_goesAsTold_17 : decode cX5_goesAsTold 17 = .ok (.aload_n 0, 1) := by decide +kernel
theorem dX5_goesAsTold_18 : decode cX5_goesAsTold 18 = .ok (.getfield 29, 3) := by decide +kernel
theorem dX5_goesAsTold_21 : decode cX5_goesAsTold 21 = .ok (.getfield 151, 3) := by decide +kernel
theorem dX5_goesAsTold_24 : decode cX5_goesAsTold 24 = .ok (.iload_n 1, 1) := by decide +kernel
theorem dX5_goesAsTold_25 : decode cX5_goesAsTold 25 = .ok (.iaload, 1) := by decide +kernel
theorem dX5_goesAsTold_26 : decode cX5_goesAsTold 26 = .ok (.aload_n 2, 1) := by decide +kernel
theorem dX5_goesAsTold_27 : decode cX5_goesAsTold 27 = .ok (.getfield 79, 3) := by decide +kernel
theorem dX5_goesAsTold_30 : decode cX5_goesAsTold 30 = .ok (.iload_n 3, 1) := by decide +kernel
theorem dX5_goesAsTold_31 : decode cX5_goesAsTold 31 = .ok (.iload 5, 2) := by decide +kernel
theorem dX5_goesAsTold_33 : decode cX5_goesAsTold 33 = .ok (.iadd, 1) := by decide +kernel
theorem dX5_goesAsTold_34 : decode cX5_goesAsTold 34 = .ok (.iaload, 1) := by decide +kernel
theorem dX5_goesAsTold_35 : decode cX5_goesAsTold 35 = .ok (.if_icmp .eq 5, 3) := by decide +kernel
theorem dX5_goesAsTold_38 : decode cX5_goesAsTold 38 = .ok (.iconst 0, 1) := by decide +kernel
theorem dX5_goesAsTold_39 : decode cX5_goesAsTold 39 = .ok (.ireturn, 1) := by decide +kernel
theorem dX5_goesAsTold_40 : decode cX5_goesAsTold 40 = .ok (.iinc 5 1, 3) := by decide +kernel
theorem dX5_goesAsTold_43 : decode cX5_goesAsTold 43 = .ok (.goto (-40), 3) := by decide +kernel
theorem dX5_goesAsTold_46 : decode cX5_goesAsTold 46 = .ok (.iconst 1, 1) := by decide +kernel
theorem dX5_goesAsTold_47 : decode cX5_goesAsTold 47 = .ok (.ireturn, 1) := by decide +kernel
set_option maxRecDepth 20000 in
theorem ggX5_tenthsOfHearing_X2_councils : GoodIn wsX5_tenthsOfHearing wsX2_councils := goodIn_r _ [5, 6, 7, 29, 30, 31, 32, 33, 34, 35, 36, 37, 38, 39, 40] (by decide +kernel) (by decide +kernel)
set_option maxRecDepth 20000 in
theorem gX5_tenthsOfHearing_X2_councils_n171 : GoodIn wsX5_tenthsOfHearing (wsX2_councils) := ggX5_tenthsOfHearing_X2_councils
set_option maxRecDepth 20000 in
theorem ggX5_tenthsOfHearing_X2_sayings : GoodIn wsX5_tenthsOfHearing wsX2_sayings := goodIn_r _ [10, 11, 12, 13, 7, 14, 15, 16, 3, 17, 18, 29, 30, 31, 32, 33, 34, 35, 36, 37, 38, 39, 40] (by decide +kernel) (by decide +kernel)
set_option maxRecDepth 20000 in
theorem gX5_tenthsOfHearing_X2_sayings_n174 : GoodIn wsX5_tenthsOfHearing (wsX2_sayings) := ggX5_tenthsOfHearing_X2_sayings
theorem dX5_tenthsOfHearing_0 : decode cX5_tenthsOfHearing 0 = .ok (.aload_n 0, 1) := by decide +kernel
theorem dX5_tenthsOfHearing_1 : decode cX5_tenthsOfHearing 1 = .ok (.getfield 25, 3) := by decide +kernel
theorem dX5_tenthsOfHearing_4 : decode cX5_tenthsOfHearing 4 = .ok (.getfield 160, 3) := by decide +kernel
theorem dX5_tenthsOfHearing_7 : decode cX5_tenthsOfHearing 7 = .ok (.iload_n 1, 1) := by decide +kernel
theorem dX5_tenthsOfHearing_8 : decode cX5_tenthsOfHearing 8 = .ok (.iaload, 1) := by decide +kernel
theorem dX5_tenthsOfHearing_9 : decode cX5_tenthsOfHearing 9 = .ok (.iload_n 2, 1) := by decide +kernel
theorem dX5_tenthsOfHearing_10 : decode cX5_tenthsOfHearing 10 = .ok (.ishr, 1) := by decide +kernel
theorem dX5_tenthsOfHearing_11 : decode cX5_tenthsOfHearing 11 = .ok (.iconst 1, 1) := by decide +kernel
theorem dX5_tenthsOfHearing_12 : decode cX5_tenthsOfHearing 12 = .ok (.iand, 1) := by decide +kernel
theorem dX5_tenthsOfHearing_13 : decode cX5_tenthsOfHearing 13 = .ok (.ifCond .eq 6, 3) := by decide +kernel
theorem dX5_tenthsOfHearing_16 : decode cX5_tenthsOfHearing 16 = .ok (.bipush 10, 2) := by decide +kernel
theorem dX5_tenthsOfHearing_18 : decode cX5_tenthsOfHearing 18 = .ok (.ireturn, 1) := by decide +kernel
theorem dX5_tenthsOfHearing_19 : decode cX5_tenthsOfHearing 19 = .ok (.aload_n 0, 1) := by decide +kernel
theorem dX5_tenthsOfHearing_20 : decode cX5_tenthsOfHearing 20 = .ok (.getfield 25, 3) := by decide +kernel
theorem dX5_tenthsOfHearing_23 : decode cX5_tenthsOfHearing 23 = .ok (.invokevirtual 171, 3) := by decide +kernel
theorem dX5_tenthsOfHearing_26 : decode cX5_tenthsOfHearing 26 = .ok (.istore 4, 2) := by decide +kernel
theorem dX5_tenthsOfHearing_28 : decode cX5_tenthsOfHearing 28 = .ok (.iconst 0, 1) := by decide +kernel
theorem dX5_tenthsOfHearing_29 : decode cX5_tenthsOfHearing 29 = .ok (.istore 5, 2) := by decide +kernel
theorem dX5_tenthsOfHearing_31 : decode cX5_tenthsOfHearing 31 = .ok (.iload 5, 2) := by decide +kernel
theorem dX5_tenthsOfHearing_33 : decode cX5_tenthsOfHearing 33 = .ok (.aload_n 0, 1) := by decide +kernel
theorem dX5_tenthsOfHearing_34 : decode cX5_tenthsOfHearing 34 = .ok (.getfield 25, 3) := by decide +kernel
theorem dX5_tenthsOfHearing_37 : decode cX5_tenthsOfHearing 37 = .ok (.getfield 125, 3) := by decide +kernel
theorem dX5_tenthsOfHearing_40 : decode cX5_tenthsOfHearing 40 = .ok (.if_icmp .ge 66, 3) := by decide +kernel
theorem dX5_tenthsOfHearing_43 : decode cX5_tenthsOfHearing 43 = .ok (.aload_n 0, 1) := by decide +kernel
theorem dX5_tenthsOfHearing_44 : decode cX5_tenthsOfHearing 44 = .ok (.getfield 25, 3) := by decide +kernel
theorem dX5_tenthsOfHearing_47 : decode cX5_tenthsOfHearing 47 = .ok (.getfield 151, 3) := by decide +kernel
theorem dX5_tenthsOfHearing_50 : decode cX5_tenthsOfHearing 50 = .ok (.iload 5, 2) := by decide +kernel
theorem dX5_tenthsOfHearing_52 : decode cX5_tenthsOfHearing 52 = .ok (.iaload, 1) := by decide +kernel
theorem dX5_tenthsOfHearing_53 : decode cX5_tenthsOfHearing 53 = .ok (.iload_n 1, 1) := by decide +kernel
theorem dX5_tenthsOfHearing_54 : decode cX5_tenthsOfHearing 54 = .ok (.if_icmp .ne 17, 3) := by decide +kernel
theorem dX5_tenthsOfHearing_57 : decode cX5_tenthsOfHearing 57 = .ok (.iload 4, 2) := by decide +kernel
theorem dX5_tenthsOfHearing_59 : decode cX5_tenthsOfHearing 59 = .ok (.iload 5, 2) := by decide +kernel
theorem dX5_tenthsOfHearing_61 : decode cX5_tenthsOfHearing 61 = .ok (.ishr, 1) := by decide +kernel
theorem dX5_tenthsOfHearing_62 : decode cX5_tenthsOfHearing 62 = .ok (.iconst 1, 1) := by decide +kernel
theorem dX5_tenthsOfHearing_63 : decode cX5_tenthsOfHearing 63 = .ok (.iand, 1) := by decide +kernel
theorem dX5_tenthsOfHearing_64 : decode cX5_tenthsOfHearing 64 = .ok (.ifCond .ne 7, 3) := by decide +kernel
theorem dX5_tenthsOfHearing_67 : decode cX5_tenthsOfHearing 67 = .ok (.iconst 1, 1) := by decide +kernel
theorem dX5_tenthsOfHearing_68 : decode cX5_tenthsOfHearing 68 = .ok (.goto 4, 3) := by decide +kernel
theorem dX5_tenthsOfHearing_71 : decode cX5_tenthsOfHearing 71 = .ok (.iconst 0, 1) := by decide +kernel
theorem dX5_tenthsOfHearing_72 : decode cX5_tenthsOfHearing 72 = .ok (.istore 6, 2) := by decide +kernel
theorem dX5_tenthsOfHearing_74 : decode cX5_tenthsOfHearing 74 = .ok (.iload 6, 2) := by decide +kernel
theorem dX5_tenthsOfHearing_76 : decode cX5_tenthsOfHearing 76 = .ok (.ifCond .eq 24, 3) := by decide +kernel
theorem dX5_tenthsOfHearing_79 : decode cX5_tenthsOfHearing 79 = .ok (.aload_n 0, 1) := by decide +kernel
theorem dX5_tenthsOfHearing_80 : decode cX5_tenthsOfHearing 80 = .ok (.getfield 25, 3) := by decide +kernel
theorem dX5_tenthsOfHearing_83 : decode cX5_tenthsOfHearing 83 = .ok (.iload 5, 2) := by decide +kernel
theorem dX5_tenthsOfHearing_85 : decode cX5_tenthsOfHearing 85 = .ok (.invokevirtual 174, 3) := by decide +kernel
theorem dX5_tenthsOfHearing_88 : decode cX5_tenthsOfHearing 88 = .ok (.iload_n 2, 1) := by decide +kernel
theorem dX5_tenthsOfHearing_89 : decode cX5_tenthsOfHearing 89 = .ok (.ishr, 1) := by decide +kernel
theorem dX5_tenthsOfHearing_90 : decode cX5_tenthsOfHearing 90 = .ok (.iconst 1, 1) := by decide +kernel
theorem dX5_tenthsOfHearing_91 : decode cX5_tenthsOfHearing 91 = .ok (.iand, 1) := by decide +kernel
theorem dX5_tenthsOfHearing_92 : decode cX5_tenthsOfHearing 92 = .ok (.ifCond .eq 8, 3) := by decide +kernel
theorem dX5_tenthsOfHearing_95 : decode cX5_tenthsOfHearing 95 = .ok (.bipush 10, 2) := by decide +kernel
theorem dX5_tenthsOfHearing_97 : decode cX5_tenthsOfHearing 97 = .ok (.iload_n 3, 1) := by decide +kernel
theorem dX5_tenthsOfHearing_98 : decode cX5_tenthsOfHearing 98 = .ok (.isub, 1) := by decide +kernel
theorem dX5_tenthsOfHearing_99 : decode cX5_tenthsOfHearing 99 = .ok (.ireturn, 1) := by decide +kernel
theorem dX5_tenthsOfHearing_100 : decode cX5_tenthsOfHearing 100 = .ok (.iinc 5 1, 3) := by decide +kernel
theorem dX5_tenthsOfHearing_103 : decode cX5_tenthsOfHearing 103 = .ok (.goto (-72), 3) := by decide +kernel
theorem dX5_tenthsOfHearing_106 : decode cX5_tenthsOfHearing 106 = .ok (.iconst 0, 1) := by decide +kernel
theorem dX5_tenthsOfHearing_107 : decode cX5_tenthsOfHearing 107 = .ok (.ireturn, 1) := by decide +kernel
theorem dX5_commonDivisor_0 : decode cX5_commonDivisor 0 = .ok (.bipush 10, 2) := by decide +kernel
theorem dX5_commonDivisor_2 : decode cX5_commonDivisor 2 = .ok (.istore_n 2, 1) := by decide +kernel
theorem dX5_commonDivisor_3 : decode cX5_commonDivisor 3 = .ok (.iload_n 2, 1) := by decide +kernel
theorem dX5_commonDivisor_4 : decode cX5_commonDivisor 4 = .ok (.iconst 1, 1) := by decide +kernel
theorem dX5_commonDivisor_5 : decode cX5_commonDivisor 5 = .ok (.if_icmp .le 23, 3) := by decide +kernel
theorem dX5_commonDivisor_8 : decode cX5_commonDivisor 8 = .ok (.iload_n 0, 1) := by decide +kernel
theorem dX5_commonDivisor_9 : decode cX5_commonDivisor 9 = .ok (.iload_n 2, 1) := by decide +kernel
theorem dX5_commonDivisor_10 : decode cX5_commonDivisor 10 = .ok (.irem, 1) := by decide +kernel
theorem dX5_commonDivisor_11 : decode cX5_commonDivisor 11 = .ok (.ifCond .ne 11, 3) := by decide +kernel
theorem dX5_commonDivisor_14 : decode cX5_commonDivisor 14 = .ok (.iload_n 1, 1) := by decide +kernel
theorem dX5_commonDivisor_15 : decode cX5_commonDivisor 15 = .ok (.iload_n 2, 1) := by decide +kernel
theorem dX5_commonDivisor_16 : decode cX5_commonDivisor 16 = .ok (.irem, 1) := by decide +kernel
theorem dX5_commonDivisor_17 : decode cX5_commonDivisor 17 = .ok (.ifCond .ne 5, 3) := by decide +kernel
theorem dX5_commonDivisor_20 : decode cX5_commonDivisor 20 = .ok (.iload_n 2, 1) := by decide +kernel
theorem dX5_commonDivisor_21 : decode cX5_commonDivisor 21 = .ok (.ireturn, 1) := by decide +kernel
theorem dX5_commonDivisor_22 : decode cX5_commonDivisor 22 = .ok (.iinc 2 (-1), 3) := by decide +kernel
theorem dX5_commonDivisor_25 : decode cX5_commonDivisor 25 = .ok (.goto (-22), 3) := by decide +kernel
theorem dX5_commonDivisor_28 : decode cX5_commonDivisor 28 = .ok (.iconst 1, 1) := by decide +kernel
theorem dX5_commonDivisor_29 : decode cX5_commonDivisor 29 = .ok (.ireturn, 1) := by decide +kernel
theorem dX5_putByDraw_0 : decode cX5_putByDraw 0 = .ok (.lload_n 1, 1) := by decide +kernel
theorem dX5_putByDraw_1 : decode cX5_putByDraw 1 = .ok (.ldc2_w 283, 3) := by decide +kernel
theorem dX5_putByDraw_4 : decode cX5_putByDraw 4 = .ok (.lrem, 1) := by decide +kernel
theorem dX5_putByDraw_5 : decode cX5_putByDraw 5 = .ok (.lconst 0, 1) := by decide +kernel
theorem dX5_putByDraw_6 : decode cX5_putByDraw 6 = .ok (.lcmp, 1) := by decide +kernel
theorem dX5_putByDraw_7 : decode cX5_putByDraw 7 = .ok (.ifCond .ne 55, 3) := by decide +kernel
theorem dX5_putByDraw_10 : decode cX5_putByDraw 10 = .ok (.aload_n 0, 1) := by decide +kernel
theorem dX5_putByDraw_11 : decode cX5_putByDraw 11 = .ok (.getfield 29, 3) := by decide +kernel
theorem dX5_putByDraw_14 : decode cX5_putByDraw 14 = .ok (.getfield 125, 3) := by decide +kernel
theorem dX5_putByDraw_17 : decode cX5_putByDraw 17 = .ok (.ifCond .le 45, 3) := by decide +kernel
theorem dX5_putByDraw_20 : decode cX5_putByDraw 20 = .ok (.aload_n 0, 1) := by decide +kernel
theorem dX5_putByDraw_21 : decode cX5_putByDraw 21 = .ok (.getfield 29, 3) := by decide +kernel
theorem dX5_putByDraw_24 : decode cX5_putByDraw 24 = .ok (.getfield 193, 3) := by decide +kernel
theorem dX5_putByDraw_27 : decode cX5_putByDraw 27 = .ok (.ifCond .le 35, 3) := by decide +kernel
theorem dX5_putByDraw_30 : decode cX5_putByDraw 30 = .ok (.lload_n 1, 1) := by decide +kernel
theorem dX5_putByDraw_31 : decode cX5_putByDraw 31 = .ok (.aload_n 0, 1) := by decide +kernel
theorem dX5_putByDraw_32 : decode cX5_putByDraw 32 = .ok (.getfield 29, 3) := by decide +kernel
theorem dX5_putByDraw_35 : decode cX5_putByDraw 35 = .ok (.getfield 125, 3) := by decide +kernel
theorem dX5_putByDraw_38 : decode cX5_putByDraw 38 = .ok (.i2l, 1) := by decide +kernel
theorem dX5_putByDraw_39 : decode cX5_putByDraw 39 = .ok (.lrem, 1) := by decide +kernel
theorem dX5_putByDraw_40 : decode cX5_putByDraw 40 = .ok (.l2i, 1) := by decide +kernel
theorem dX5_putByDraw_41 : decode cX5_putByDraw 41 = .ok (.istore_n 3, 1) := by decide +kernel
theorem dX5_putByDraw_42 : decode cX5_putByDraw 42 = .ok (.aload_n 0, 1) := by decide +kernel
theorem dX5_putByDraw_43 : decode cX5_putByDraw 43 = .ok (.getfield 29, 3) := by decide +kernel
theorem dX5_putByDraw_46 : decode cX5_putByDraw 46 = .ok (.getfield 151, 3) := by decide +kernel
theorem dX5_putByDraw_49 : decode cX5_putByDraw 49 = .ok (.iload_n 3, 1) := by decide +kernel
theorem dX5_putByDraw_50 : decode cX5_putByDraw 50 = .ok (.lload_n 1, 1) := by decide +kernel
theorem dX5_putByDraw_51 : decode cX5_putByDraw 51 = .ok (.aload_n 0, 1) := by decide +kernel
theorem dX5_putByDraw_52 : decode cX5_putByDraw 52 = .ok (.getfield 29, 3) := by decide +kernel
theorem dX5_putByDraw_55 : decode cX5_putByDraw 55 = .ok (.getfield 193, 3) := by decide +kernel
theorem dX5_putByDraw_58 : decode cX5_putByDraw 58 = .ok (.i2l, 1) := by decide +kernel
theorem dX5_putByDraw_59 : decode cX5_putByDraw 59 = .ok (.lrem, 1) := by decide +kernel
theorem dX5_putByDraw_60 : decode cX5_putByDraw 60 = .ok (.l2i, 1) := by decide +kernel
theorem dX5_putByDraw_61 : decode cX5_putByDraw 61 = .ok (.iastore, 1) := by decide +kernel
theorem dX5_putByDraw_62 : decode cX5_putByDraw 62 = .ok (.return_, 1) := by decide +kernel
theorem dX5_isSuch_0 : decode cX5_isSuch 0 = .ok (.iload_n 0, 1) := by decide +kernel
theorem dX5_isSuch_1 : decode cX5_isSuch 1 = .ok (.istore_n 2, 1) := by decide +kernel
theorem dX5_isSuch_2 : decode cX5_isSuch 2 = .ok (.iconst 0, 1) := by decide +kernel
theorem dX5_isSuch_3 : decode cX5_isSuch 3 = .ok (.istore_n 3, 1) := by decide +kernel
theorem dX5_isSuch_4 : decode cX5_isSuch 4 = .ok (.iload_n 3, 1) := by decide +kernel
theorem dX5_isSuch_5 : decode cX5_isSuch 5 = .ok (.bipush 6, 2) := by decide +kernel
theorem dX5_isSuch_7 : decode cX5_isSuch 7 = .ok (.if_icmp .ge 22, 3) := by decide +kernel
theorem dX5_isSuch_10 : decode cX5_isSuch 10 = .ok (.iload_n 2, 1) := by decide +kernel
theorem dX5_isSuch_11 : decode cX5_isSuch 11 = .ok (.iload_n 1, 1) := by decide +kernel
theorem dX5_isSuch_12 : decode cX5_isSuch 12 = .ok (.if_icmp .ne 5, 3) := by decide +kernel
theorem dX5_isSuch_15 : decode cX5_isSuch 15 = .ok (.iconst 1, 1) := by decide +kernel
theorem dX5_isSuch_16 : decode cX5_isSuch 16 = .ok (.ireturn, 1) := by decide +kernel
theorem dX5_isSuch_17 : decode cX5_isSuch 17 = .ok (.getstatic 285, 3) := by decide +kernel
theorem dX5_isSuch_20 : decode cX5_isSuch 20 = .ok (.iload_n 2, 1) := by decide +kernel
theorem dX5_isSuch_21 : decode cX5_isSuch 21 = .ok (.iaload, 1) := by decide +kernel
theorem dX5_isSuch_22 : decode cX5_isSuch 22 = .ok (.istore_n 2, 1) := by decide +kernel
theorem dX5_isSuch_23 : decode cX5_isSuch 23 = .ok (.iinc 3 1, 3) := by decide +kernel
theorem dX5_isSuch_26 : decode cX5_isSuch 26 = .ok (.goto (-22), 3) := by decide +kernel
theorem dX5_isSuch_29 : decode cX5_isSuch 29 = .ok (.iconst 0, 1) := by decide +kernel
theorem dX5_isSuch_30 : decode cX5_isSuch 30 = .ok (.ireturn, 1) := by decide +kernel
end
section
theorem inlX6 : ∀ w ∈ wsX60, w ∈ wsL_law := fun _ h => List.mem_append_left _ (List.mem_append_left _ (List.mem_append_left _ (List.mem_append_left _ (List.mem_append_left _ (List.mem_append_left _ (List.mem_append_right _ h))))))
theorem dX6_init_0 : decode cX6_init 0 = .ok (.aload_n 0, 1) := by decide +kernel
theorem dX6_init_1 : decode cX6_init 1 = .ok (.invokespecial 1, 3) := by decide +kernel
theorem dX6_init_4 : decode cX6_init 4 = .ok (.aload_n 0, 1) := by decide +kernel
theorem dX6_init_5 : decode cX6_init 5 = .ok (.sipush 670, 3) := by decide +kernel
theorem dX6_init_8 : decode cX6_init 8 = .ok (.newarray .int, 2) := by decide +kernel
theorem dX6_init_10 : decode cX6_init 10 = .ok (.putfield 7, 3) := by decide +kernel
theorem dX6_init_13 : decode cX6_init 13 = .ok (.aload_n 0, 1) := by decide +kernel
theorem dX6_init_14 : decode cX6_init 14 = .ok (.bipush 90, 2) := by decide +kernel
theorem dX6_init_16 : decode cX6_init 16 = .ok (.newarray .int, 2) := by decide +kernel
theorem dX6_init_18 : decode cX6_init 18 = .ok (.putfield 13, 3) := by decide +kernel
theorem dX6_init_21 : decode cX6_init 21 = .ok (.aload_n 0, 1) := by decide +kernel
theorem dX6_init_22 : decode cX6_init 22 = .ok (.bipush 8, 2) := by decide +kernel
theorem dX6_init_24 : decode cX6_init 24 = .ok (.newarray .int, 2) := by decide +kernel
theorem dX6_init_26 : decode cX6_init 26 = .ok (.putfield 16, 3) := by decide +kernel
theorem dX6_init_29 : decode cX6_init 29 = .ok (.aload_n 0, 1) := by decide +kernel
theorem dX6_init_30 : decode cX6_init 30 = .ok (.bipush 8, 2) := by decide +kernel
theorem dX6_init_32 : decode cX6_init 32 = .ok (.newarray .int, 2) := by decide +kernel
theorem dX6_init_34 : decode cX6_init 34 = .ok (.putfield 19, 3) := by decide +kernel
theorem dX6_init_37 : decode cX6_init 37 = .ok (.aload_n 0, 1) := by decide +kernel
theorem dX6_init_38 : decode cX6_init 38 = .ok (.sipush 320, 3) := by decide +kernel
theorem dX6_init_41 : decode cX6_init 41 = .ok (.newarray .int, 2) := by decide +kernel
theorem dX6_init_43 : decode cX6_init 43 = .ok (.putfield 22, 3) := by decide +kernel
theorem dX6_init_46 : decode cX6_init 46 = .ok (.aload_n 0, 1) := by decide +kernel
theorem dX6_init_47 : decode cX6_init 47 = .ok (.bipush 40, 2) := by decide +kernel
theorem dX6_init_49 : decode cX6_init 49 = .ok (.newarray .int, 2) := by decide +kernel
theorem dX6_init_51 : decode cX6_init 51 = .ok (.putfield 25, 3) := by decide +kernel
theorem dX6_init_54 : decode cX6_init 54 = .ok (.aload_n 0, 1) := by decide +kernel
theorem dX6_init_55 : decode cX6_init 55 = .ok (.bipush 72, 2) := by decide +kernel
theorem dX6_init_57 : decode cX6_init 57 = .ok (.newarray .int, 2) := by decide +kernel
theorem dX6_init_59 : decode cX6_init 59 = .ok (.putfield 28, 3) := by decide +kernel
theorem dX6_init_62 : decode cX6_init 62 = .ok (.aload_n 0, 1) := by decide +kernel
theorem dX6_init_63 : decode cX6_init 63 = .ok (.bipush 16, 2) := by decide +kernel
theorem dX6_init_65 : decode cX6_init 65 = .ok (.newarray .int, 2) := by decide +kernel
theorem dX6_init_67 : decode cX6_init 67 = .ok (.putfield 31, 3) := by decide +kernel
theorem dX6_init_70 : decode cX6_init 70 = .ok (.iconst 0, 1) := by decide +kernel
theorem dX6_init_71 : decode cX6_init 71 = .ok (.istore_n 1, 1) := by decide +kernel
theorem dX6_init_72 : decode cX6_init 72 = .ok (.iload_n 1, 1) := by decide +kernel
theorem dX6_init_73 : decode cX6_init 73 = .ok (.bipush 8, 2) := by decide +kernel
theorem dX6_init_75 : decode cX6_init 75 = .ok (.if_icmp .ge 16, 3) := by decide +kernel
theorem dX6_init_78 : decode cX6_init 78 = .ok (.aload_n 0, 1) := by decide +kernel
theorem dX6_init_79 : decode cX6_init 79 = .ok (.getfield 16, 3) := by decide +kernel
theorem dX6_init_82 : decode cX6_init 82 = .ok (.iload_n 1, 1) := by decide +kernel
theorem dX6_init_83 : decode cX6_init 83 = .ok (.iconst (-1), 1) := by decide +kernel
theorem dX6_init_84 : decode cX6_init 84 = .ok (.iastore, 1) := by decide +kernel
theorem dX6_init_85 : decode cX6_init 85 = .ok (.iinc 1 1, 3) := by decide +kernel
theorem dX6_init_88 : decode cX6_init 88 = .ok (.goto (-16), 3) := by decide +kernel
theorem dX6_init_91 : decode cX6_init 91 = .ok (.return_, 1) := by decide +kernel
theorem dX6_in_0 : decode cX6_in 0 = .ok (.lload_n 0, 1) := by decide +kernel
theorem dX6_in_1 : decode cX6_in 1 = .ok (.lload_n 2, 1) := by decide +kernel
theorem dX6_in_2 : decode cX6_in 2 = .ok (.lcmp, 1) := by decide +kernel
theorem dX6_in_3 : decode cX6_in 3 = .ok (.ifCond .lt 14, 3) := by decide +kernel
theorem dX6_in_6 : decode cX6_in 6 = .ok (.lload_n 0, 1) := by decide +kernel
theorem dX6_in_7 : decode cX6_in 7 = .ok (.lload 4, 2) := by decide +kernel
theorem dX6_in_9 : decode cX6_in 9 = .ok (.lcmp, 1) := by decide +kernel
theorem dX6_in_10 : decode cX6_in 10 = .ok (.ifCond .gt 7, 3) := by decide +kernel
theorem dX6_in_13 : decode cX6_in 13 = .ok (.iconst 1, 1) := by decide +kernel
theorem dX6_in_14 : decode cX6_in 14 = .ok (.goto 4, 3) := by decide +kernel
theorem dX6_in_17 : decode cX6_in 17 = .ok (.iconst 0, 1) := by decide +kernel
theorem dX6_in_18 : decode cX6_in 18 = .ok (.ireturn, 1) := by decide +kernel
theorem dX6_has_0 : decode cX6_has 0 = .ok (.iload_n 0, 1) := by decide +kernel
theorem dX6_has_1 : decode cX6_has 1 = .ok (.iload_n 1, 1) := by decide +kernel
theorem dX6_has_2 : decode cX6_has 2 = .ok (.ishr, 1) := by decide +kernel
theorem dX6_has_3 : decode cX6_has 3 = .ok (.iconst 1, 1) := by decide +kernel
theorem dX6_has_4 : decode cX6_has 4 = .ok (.iand, 1) := by decide +kernel
theorem dX6_has_5 : decode cX6_has 5 = .ok (.iconst 1, 1) := by decide +kernel
theorem dX6_has_6 : decode cX6_has 6 = .ok (.if_icmp .ne 7, 3) := by decide +kernel
theorem dX6_has_9 : decode cX6_has 9 = .ok (.iconst 1, 1) := by decide +kernel
theorem dX6_has_10 : decode cX6_has 10 = .ok (.goto 4, 3) := by decide +kernel
theorem dX6_has_13 : decode cX6_has 13 = .ok (.iconst 0, 1) := by decide +kernel
theorem dX6_has_14 : decode cX6_has 14 = .ok (.ireturn, 1) := by decide +kernel
theorem dX6_ones_0 : decode cX6_ones 0 = .ok (.iconst 0, 1) := by decide +kernel
theorem dX6_ones_1 : decode cX6_ones 1 = .ok (.istore_n 1, 1) := by decide +kernel
theorem dX6_ones_2 : decode cX6_ones 2 = .ok (.iconst 0, 1) := by decide +kernel
theorem dX6_ones_3 : decode cX6_ones 3 = .ok (.istore_n 2, 1) := by decide +kernel
theorem dX6_ones_4 : decode cX6_ones 4 = .ok (.iload_n 2, 1) := by decide +kernel
theorem dX6_ones_5 : decode cX6_ones 5 = .ok (.bipush 16, 2) := by decide +kernel
theorem dX6_ones_7 : decode cX6_ones 7 = .ok (.if_icmp .ge 17, 3) := by decide +kernel
theorem dX6_ones_10 : decode cX6_ones 10 = .ok (.iload_n 1, 1) := by decide +kernel
theorem dX6_ones_11 : decode cX6_ones 11 = .ok (.iload_n 0, 1) := by decide +kernel
theorem dX6_ones_12 : decode cX6_ones 12 = .ok (.iload_n 2, 1) := by decide +kernel
theorem dX6_ones_13 : decode cX6_ones 13 = .ok (.ishr, 1) := by decide +kernel
theorem dX6_ones_14 : decode cX6_ones 14 = .ok (.iconst 1, 1) := by decide +kernel
theorem dX6_ones_15 : decode cX6_ones 15 = .ok (.iand, 1) := by decide +kernel
theorem dX6_ones_16 : decode cX6_ones 16 = .ok (.iadd, 1) := by decide +kernel
theorem dX6_ones_17 : decode cX6_ones 17 = .ok (.istore_n 1, 1) := by decide +kernel
theorem dX6_ones_18 : decode cX6_ones 18 = .ok (.iinc 2 1, 3) := by decide +kernel
theorem dX6_ones_21 : decode cX6_ones 21 = .ok (.goto (-17), 3) := by decide +kernel
theorem dX6_ones_24 : decode cX6_ones 24 = .ok (.iload_n 1, 1) := by decide +kernel
theorem dX6_ones_25 : decode cX6_ones 25 = .ok (.ireturn, 1) := by decide +kernel
theorem dX6_copyOf_0 : decode cX6_copyOf 0 = .ok (.iconst 0, 1) := by decide +kernel
theorem dX6_copyOf_1 : decode cX6_copyOf 1 = .ok (.istore 4, 2) := by decide +kernel
theorem dX6_copyOf_3 : decode cX6_copyOf 3 = .ok (.iload 4, 2) := by decide +kernel
theorem dX6_copyOf_5 : decode cX6_copyOf 5 = .ok (.iload_n 3, 1) := by decide +kernel
theorem dX6_copyOf_6 : decode cX6_copyOf 6 = .ok (.if_icmp .ge 27, 3) := by decide +kernel
theorem dX6_copyOf_9 : decode cX6_copyOf 9 = .ok (.aload_n 0, 1) := by decide +kernel
theorem dX6_copyOf_10 : decode cX6_copyOf 10 = .ok (.getfield 7, 3) := by decide +kernel
theorem dX6_copyOf_13 : decode cX6_copyOf 13 = .ok (.iload_n 2, 1) := by decide +kernel
theorem dX6_copyOf_14 : decode cX6_copyOf 14 = .ok (.iload 4, 2) := by decide +kernel
theorem dX6_copyOf_16 : decode cX6_copyOf 16 = .ok (.iadd, 1) := by decide +kernel
theorem dX6_copyOf_17 : decode cX6_copyOf 17 = .ok (.aload_n 0, 1) := by decide +kernel
theorem dX6_copyOf_18 : decode cX6_copyOf 18 = .ok (.getfield 7, 3) := by decide +kernel
theorem dX6_copyOf_21 : decode cX6_copyOf 21 = .ok (.iload_n 1, 1) := by decide +kernel
theorem dX6_copyOf_22 : decode cX6_copyOf 22 = .ok (.iload 4, 2) := by decide +kernel
theorem dX6_copyOf_24 : decode cX6_copyOf 24 = .ok (.iadd, 1) := by decide +kernel
theorem dX6_copyOf_25 : decode cX6_copyOf 25 = .ok (.iaload, 1) := by decide +kernel
theorem dX6_copyOf_26 : decode cX6_copyOf 26 = .ok (.iastore, 1) := by decide +kernel
theorem dX6_copyOf_27 : decode cX6_copyOf 27 = .ok (.iinc 4 1, 3) := by decide +kernel
theorem dX6_copyOf_30 : decode cX6_copyOf 30 = .ok (.goto (-27), 3) := by decide +kernel
theorem dX6_copyOf_33 : decode cX6_copyOf 33 = .ok (.return_, 1) := by decide +kernel
set_option maxRecDepth 20000 in
theorem ggX6_isPulpit_X6_in : GoodIn wsX6_isPulpit wsX6_in := goodIn_r _ [5] (by decide +kernel) (by decide +kernel)
set_option maxRecDepth 20000 in
theorem gX6_isPulpit_X6_in : GoodIn wsX6_isPulpit (va_wsS RX6 34 yX6_in wsX6_in) := goodIn_app (goodIn_of _ (by decide +kernel)) ggX6_isPulpit_X6_in
theorem dX6_isPulpit_0 : decode cX6_isPulpit 0 = .ok (.iload_n 1, 1) := by decide +kernel
theorem dX6_isPulpit_1 : decode cX6_isPulpit 1 = .ok (.i2l, 1) := by decide +kernel
theorem dX6_isPulpit_2 : decode cX6_isPulpit 2 = .ok (.lconst 0, 1) := by decide +kernel
theorem dX6_isPulpit_3 : decode cX6_isPulpit 3 = .ok (.aload_n 0, 1) := by decide +kernel
theorem dX6_isPulpit_4 : decode cX6_isPulpit 4 = .ok (.getfield 7, 3) := by decide +kernel
theorem dX6_isPulpit_7 : decode cX6_isPulpit 7 = .ok (.iconst 1, 1) := by decide +kernel
theorem dX6_isPulpit_8 : decode cX6_isPulpit 8 = .ok (.iaload, 1) := by decide +kernel
theorem dX6_isPulpit_9 : decode cX6_isPulpit 9 = .ok (.iconst 1, 1) := by decide +kernel
theorem dX6_isPulpit_10 : decode cX6_isPulpit 10 = .ok (.isub, 1) := by decide +kernel
theorem dX6_isPulpit_11 : decode cX6_isPulpit 11 = .ok (.i2l, 1) := by decide +kernel
theorem dX6_isPulpit_12 : decode cX6_isPulpit 12 = .ok (.invokestatic 34, 3) := by decide +kernel
theorem dX6_isPulpit_15 : decode cX6_isPulpit 15 = .ok (.ireturn, 1) := by decide +kernel
set_option maxRecDepth 20000 in
theorem ggX6_isStretch_X6_in : GoodIn wsX6_isStretch wsX6_in := goodIn_r _ [5] (by decide +kernel) (by decide +kernel)
set_option maxRecDepth 20000 in
theorem gX6_isStretch_X6_in : GoodIn wsX6_isStretch (va_wsS RX6 34 yX6_in wsX6_in) := goodIn_app (goodIn_of _ (by decide +kernel)) ggX6_isStretch_X6_in
theorem dX6_isStretch_0 : decode cX6_isStretch 0 = .ok (.iload_n 1, 1) := by decide +kernel
theorem dX6_isStretch_1 : decode cX6_isStretch 1 = .ok (.i2l, 1) := by decide +kernel
theorem dX6_isStretch_2 : decode cX6_isStretch 2 = .ok (.lconst 0, 1) := by decide +kernel
theorem dX6_isStretch_3 : decode cX6_isStretch 3 = .ok (.aload_n 0, 1) := by decide +kernel
theorem dX6_isStretch_4 : decode cX6_isStretch 4 = .ok (.getfield 7, 3) := by decide +kernel
theorem dX6_isStretch_7 : decode cX6_isStretch 7 = .ok (.iconst 0, 1) := by decide +kernel
theorem dX6_isStretch_8 : decode cX6_isStretch 8 = .ok (.iaload, 1) := by decide +kernel
theorem dX6_isStretch_9 : decode cX6_isStretch 9 = .ok (.iconst 1, 1) := by decide +kernel
theorem dX6_isStretch_10 : decode cX6_isStretch 10 = .ok (.isub, 1) := by decide +kernel
theorem dX6_isStretch_11 : decode cX6_isStretch 11 = .ok (.i2l, 1) := by decide +kernel
theorem dX6_isStretch_12 : decode cX6_isStretch 12 = .ok (.invokestatic 34, 3) := by decide +kernel
theorem dX6_isStretch_15 : decode cX6_isStretch 15 = .ok (.ireturn, 1) := by decide +kernel
theorem dX6_isRoad_0 : decode cX6_isRoad 0 = .ok (.aload_n 0, 1) := by decide +kernel
theorem dX6_isRoad_1 : decode cX6_isRoad 1 = .ok (.getfield 7, 3) := by decide +kernel
theorem dX6_isRoad_4 : decode cX6_isRoad 4 = .ok (.iconst 0, 1) := by decide +kernel
theorem dX6_isRoad_5 : decode cX6_isRoad 5 = .ok (.iaload, 1) := by decide +kernel
theorem dX6_isRoad_6 : decode cX6_isRoad 6 = .ok (.ifCond .le 7, 3) := by decide +kernel
theorem dX6_isRoad_9 : decode cX6_isRoad 9 = .ok (.iconst 1, 1) := by decide +kernel
theorem dX6_isRoad_10 : decode cX6_isRoad 10 = .ok (.goto 4, 3) := by decide +kernel
theorem dX6_isRoad_13 : decode cX6_isRoad 13 = .ok (.iconst 0, 1) := by decide +kernel
theorem dX6_isRoad_14 : decode cX6_isRoad 14 = .ok (.ireturn, 1) := by decide +kernel
set_option maxRecDepth 20000 in
theorem ggX6_isRow_X6_in : GoodIn wsX6_isRow wsX6_in := goodIn_r _ [5] (by decide +kernel) (by decide +kernel)
set_option maxRecDepth 20000 in
theorem gX6_isRow_X6_in : GoodIn wsX6_isRow (va_wsS RX6 34 yX6_in wsX6_in) := goodIn_app (goodIn_of _ (by decide +kernel)) ggX6_isRow_X6_in
theorem dX6_isRow_0 : decode cX6_isRow 0 = .ok (.iload_n 0, 1) := by decide +kernel
theorem dX6_isRow_1 : decode cX6_isRow 1 = .ok (.i2l, 1) := by decide +kernel
theorem dX6_isRow_2 : decode cX6_isRow 2 = .ok (.lconst 0, 1) := by decide +kernel
theorem dX6_isRow_3 : decode cX6_isRow 3 = .ok (.ldc2_w 38, 3) := by decide +kernel
theorem dX6_isRow_6 : decode cX6_isRow 6 = .ok (.invokestatic 34, 3) := by decide +kernel
theorem dX6_isRow_9 : decode cX6_isRow 9 = .ok (.ireturn, 1) := by decide +kernel
theorem dX6_finds_0 : decode cX6_finds 0 = .ok (.aload_n 0, 1) := by decide +kernel
theorem dX6_finds_1 : decode cX6_finds 1 = .ok (.iload_n 1, 1) := by decide +kernel
theorem dX6_finds_2 : decode cX6_finds 2 = .ok (.putfield 40, 3) := by decide +kernel
theorem dX6_finds_5 : decode cX6_finds 5 = .ok (.ldc 44, 2) := by decide +kernel
theorem dX6_finds_7 : decode cX6_finds 7 = .ok (.iload_n 1, 1) := by decide +kernel
theorem dX6_finds_8 : decode cX6_finds 8 = .ok (.isub, 1) := by decide +kernel
theorem dX6_finds_9 : decode cX6_finds 9 = .ok (.ireturn, 1) := by decide +kernel
theorem dX6_against_0 : decode cX6_against 0 = .ok (.aload_n 0, 1) := by decide +kernel
theorem dX6_against_1 : decode cX6_against 1 = .ok (.getfield 16, 3) := by decide +kernel
theorem dX6_against_4 : decode cX6_against 4 = .ok (.iload_n 1, 1) := by decide +kernel
theorem dX6_against_5 : decode cX6_against 5 = .ok (.iaload, 1) := by decide +kernel
theorem dX6_against_6 : decode cX6_against 6 = .ok (.ifCond .ge 7, 3) := by decide +kernel
theorem dX6_against_9 : decode cX6_against 9 = .ok (.iconst 1, 1) := by decide +kernel
theorem dX6_against_10 : decode cX6_against 10 = .ok (.goto 32, 3) := by decide +kernel
theorem dX6_against_13 : decode cX6_against 13 = .ok (.iload_n 2, 1) := by decide +kernel
theorem dX6_against_14 : decode cX6_against 14 = .ok (.ifCond .lt 23, 3) := by decide +kernel
theorem dX6_against_17 : decode cX6_against 17 = .ok (.iload_n 3, 1) := by decide +kernel
theorem dX6_against_18 : decode cX6_against 18 = .ok (.ifCond .lt 19, 3) := by decide +kernel
theorem dX6_against_21 : decode cX6_against 21 = .ok (.iload_n 2, 1) := by decide +kernel
theorem dX6_against_22 : decode cX6_against 22 = .ok (.i2l, 1) := by decide +kernel
theorem dX6_against_23 : decode cX6_against 23 = .ok (.iload_n 3, 1) := by decide +kernel
theorem dX6_against_24 : decode cX6_against 24 = .ok (.i2l, 1) := by decide +kernel
theorem dX6_against_25 : decode cX6_against 25 = .ok (.ladd, 1) := by decide +kernel
theorem dX6_against_26 : decode cX6_against 26 = .ok (.aload_n 0, 1) := by decide +kernel
theorem dX6_against_27 : decode cX6_against 27 = .ok (.getfield 16, 3) := by decide +kernel
theorem dX6_against_30 : decode cX6_against 30 = .ok (.iload_n 1, 1) := by decide +kernel
theorem dX6_against_31 : decode cX6_against 31 = .ok (.iaload, 1) := by decide +kernel
theorem dX6_against_32 : decode cX6_against 32 = .ok (.i2l, 1) := by decide +kernel
theorem dX6_against_33 : decode cX6_against 33 = .ok (.lcmp, 1) := by decide +kernel
theorem dX6_against_34 : decode cX6_against 34 = .ok (.ifCond .le 7, 3) := by decide +kernel
theorem dX6_against_37 : decode cX6_against 37 = .ok (.iconst 2, 1) := by decide +kernel
theorem dX6_against_38 : decode cX6_against 38 = .ok (.goto 4, 3) := by decide +kernel
theorem dX6_against_41 : decode cX6_against 41 = .ok (.iconst 0, 1) := by decide +kernel
theorem dX6_against_42 : decode cX6_against 42 = .ok (.ireturn, 1) := by decide +kernel
set_option maxRecDepth 20000 in
theorem ggX6_row_X6_isRow : GoodIn wsX6_row wsX6_isRow := goodIn_r _ [10, 11, 12, 13, 9, 14] (by decide +kernel) (by decide +kernel)
set_option maxRecDepth 20000 in
theorem gX6_row_X6_isRow : GoodIn wsX6_row (va_wsS RX6 45 yX6_isRow wsX6_isRow) := goodIn_app (goodIn_of _ (by decide +kernel)) ggX6_row_X6_isRow
set_option maxRecDepth 20000 in
theorem ggX6_row_X6_in : GoodIn wsX6_row wsX6_in := goodIn_r _ [14] (by decide +kernel) (by decide +kernel)
set_option maxRecDepth 20000 in
theorem gX6_row_X6_in : GoodIn wsX6_row (va_wsS RX6 34 yX6_in wsX6_in) := goodIn_app (goodIn_of _ (by decide +kernel)) ggX6_row_X6_in
set_option maxRecDepth 20000 in
theorem ggX6_row_X6_finds : GoodIn wsX6_row wsX6_finds := goodIn_r _ [18, 3, 19, 20, 21, 22, 23, 24, 25, 26, 27, 28, 29, 30, 31, 32, 33, 34, 35] (by decide +kernel) (by decide +kernel)
set_option maxRecDepth 20000 in
theorem gX6_row_X6_finds : GoodIn wsX6_row (wsV RX6 52 RX6 yX6_finds wsX6_finds) := goodIn_app (goodIn_of _ (by decide +kernel)) ggX6_row_X6_finds
theorem dX6_row_0 : decode cX6_row 0 = .ok (.iload_n 1, 1) := by decide +kernel
theorem dX6_row_1 : decode cX6_row 1 = .ok (.invokestatic 45, 3) := by decide +kernel
theorem dX6_row_4 : decode cX6_row 4 = .ok (.ifCond .eq 21, 3) := by decide +kernel
theorem dX6_row_7 : decode cX6_row 7 = .ok (.iload_n 2, 1) := by decide +kernel
theorem dX6_row_8 : decode cX6_row 8 = .ok (.i2l, 1) := by decide +kernel
theorem dX6_row_9 : decode cX6_row 9 = .ok (.lconst 0, 1) := by decide +kernel
theorem dX6_row_10 : decode cX6_row 10 = .ok (.ldc2_w 49, 3) := by decide +kernel
theorem dX6_row_13 : decode cX6_row 13 = .ok (.invokestatic 34, 3) := by decide +kernel
theorem dX6_row_16 : decode cX6_row 16 = .ok (.ifCond .eq 9, 3) := by decide +kernel
theorem dX6_row_19 : decode cX6_row 19 = .ok (.iload_n 3, 1) := by decide +kernel
theorem dX6_row_20 : decode cX6_row 20 = .ok (.bipush 40, 2) := by decide +kernel
theorem dX6_row_22 : decode cX6_row 22 = .ok (.if_icmp .le 6, 3) := by decide +kernel
theorem dX6_row_25 : decode cX6_row 25 = .ok (.ldc 51, 2) := by decide +kernel
theorem dX6_row_27 : decode cX6_row 27 = .ok (.ireturn, 1) := by decide +kernel
theorem dX6_row_28 : decode cX6_row 28 = .ok (.iload_n 3, 1) := by decide +kernel
theorem dX6_row_29 : decode cX6_row 29 = .ok (.ifCond .ge 9, 3) := by decide +kernel
theorem dX6_row_32 : decode cX6_row 32 = .ok (.aload_n 0, 1) := by decide +kernel
theorem dX6_row_33 : decode cX6_row 33 = .ok (.iconst 4, 1) := by decide +kernel
theorem dX6_row_34 : decode cX6_row 34 = .ok (.invokevirtual 52, 3) := by decide +kernel
theorem dX6_row_37 : decode cX6_row 37 = .ok (.ireturn, 1) := by decide +kernel
theorem dX6_row_38 : decode cX6_row 38 = .ok (.aload_n 0, 1) := by decide +kernel
theorem dX6_row_39 : decode cX6_row 39 = .ok (.iconst 0, 1) := by decide +kernel
theorem dX6_row_40 : decode cX6_row 40 = .ok (.putfield 40, 3) := by decide +kernel
theorem dX6_row_43 : decode cX6_row 43 = .ok (.aload_n 0, 1) := by decide +kernel
theorem dX6_row_44 : decode cX6_row 44 = .ok (.getfield 16, 3) := by decide +kernel
theorem dX6_row_47 : decode cX6_row 47 = .ok (.iload_n 1, 1) := by decide +kernel
theorem dX6_row_48 : decode cX6_row 48 = .ok (.iload_n 3, 1) := by decide +kernel
theorem dX6_row_49 : decode cX6_row 49 = .ok (.iastore, 1) := by decide +kernel
theorem dX6_row_50 : decode cX6_row 50 = .ok (.aload_n 0, 1) := by decide +kernel
theorem dX6_row_51 : decode cX6_row 51 = .ok (.getfield 19, 3) := by decide +kernel
theorem dX6_row_54 : decode cX6_row 54 = .ok (.iload_n 1, 1) := by decide +kernel
theorem dX6_row_55 : decode cX6_row 55 = .ok (.iload_n 2, 1) := by decide +kernel
theorem dX6_row_56 : decode cX6_row 56 = .ok (.iastore, 1) := by decide +kernel
theorem dX6_row_57 : decode cX6_row 57 = .ok (.iconst 0, 1) := by decide +kernel
theorem dX6_row_58 : decode cX6_row 58 = .ok (.istore 4, 2) := by decide +kernel
theorem dX6_row_60 : decode cX6_row 60 = .ok (.iload 4, 2) := by decide +kernel
theorem dX6_row_62 : decode cX6_row 62 = .ok (.bipush 40, 2) := by decide +kernel
theorem dX6_row_64 : decode cX6_row 64 = .ok (.if_icmp .ge 22, 3) := by decide +kernel
theorem dX6_row_67 : decode cX6_row 67 = .ok (.aload_n 0, 1) := by decide +kernel
theorem dX6_row_68 : decode cX6_row 68 = .ok (.getfield 22, 3) := by decide +kernel
theorem dX6_row_71 : decode cX6_row 71 = .ok (.bipush 40, 2) := by decide +kernel
theorem dX6_row_73 : decode cX6_row 73 = .ok (.iload_n 1, 1) := by decide +kernel
theorem dX6_row_74 : decode cX6_row 74 = .ok (.imul, 1) := by decide +kernel
theorem dX6_row_75 : decode cX6_row 75 = .ok (.iload 4, 2) := by decide +kernel
theorem dX6_row_77 : decode cX6_row 77 = .ok (.iadd, 1) := by decide +kernel
theorem dX6_row_78 : decode cX6_row 78 = .ok (.iconst 0, 1) := by decide +kernel
theorem dX6_row_79 : decode cX6_row 79 = .ok (.iastore, 1) := by decide +kernel
theorem dX6_row_80 : decode cX6_row 80 = .ok (.iinc 4 1, 3) := by decide +kernel
theorem dX6_row_83 : decode cX6_row 83 = .ok (.goto (-23), 3) := by decide +kernel
theorem dX6_row_86 : decode cX6_row 86 = .ok (.iload_n 3, 1) := by decide +kernel
theorem dX6_row_87 : decode cX6_row 87 = .ok (.ireturn, 1) := by decide +kernel
set_option maxRecDepth 20000 in
theorem ggX6_set_X6_isRow : GoodIn wsX6_set wsX6_isRow := goodIn_r _ [8, 9, 10, 11, 7, 12] (by decide +kernel) (by decide +kernel)
set_option maxRecDepth 20000 in
theorem gX6_set_X6_isRow : GoodIn wsX6_set (va_wsS RX6 45 yX6_isRow wsX6_isRow) := goodIn_app (goodIn_of _ (by decide +kernel)) ggX6_set_X6_isRow
set_option maxRecDepth 20000 in
theorem ggX6_set_X6_against : GoodIn wsX6_set wsX6_against := goodIn_r _ [16, 17, 23, 24, 25, 26, 27, 28, 29, 30, 31, 32, 33, 34, 35, 36, 37, 38] (by decide +kernel) (by decide +kernel)
set_option maxRecDepth 20000 in
theorem gX6_set_X6_against : GoodIn wsX6_set (wsV RX6 56 RX6 yX6_against wsX6_against) := goodIn_app (goodIn_of _ (by decide +kernel)) ggX6_set_X6_against
set_option maxRecDepth 20000 in
theorem ggX6_set_X6_finds : GoodIn wsX6_set wsX6_finds := goodIn_r _ [21, 2, 22, 23, 24, 25, 26, 27, 28, 29, 30, 31, 32, 33, 34, 35, 36, 37, 38] (by decide +kernel) (by decide +kernel)
set_option maxRecDepth 20000 in
theorem gX6_set_X6_finds : GoodIn wsX6_set (wsV RX6 52 RX6 yX6_finds wsX6_finds) := goodIn_app (goodIn_of _ (by decide +kernel)) ggX6_set_X6_finds
theorem dX6_set_0 : decode cX6_set 0 = .ok (.iload_n 1, 1) := by decide +kernel
theorem dX6_set_1 : decode cX6_set 1 = .ok (.invokestatic 45, 3) := by decide +kernel
theorem dX6_set_4 : decode cX6_set 4 = .ok (.ifCond .ne 6, 3) := by decide +kernel
theorem dX6_set_7 : decode cX6_set 7 = .ok (.ldc 51, 2) := by decide +kernel
theorem dX6_set_9 : decode cX6_set 9 = .ok (.ireturn, 1) := by decide +kernel
theorem dX6_set_10 : decode cX6_set 10 = .ok (.aload_n 0, 1) := by decide +kernel
theorem dX6_set_11 : decode cX6_set 11 = .ok (.iload_n 1, 1) := by decide +kernel
theorem dX6_set_12 : decode cX6_set 12 = .ok (.iload_n 2, 1) := by decide +kernel
theorem dX6_set_13 : decode cX6_set 13 = .ok (.iconst 1, 1) := by decide +kernel
theorem dX6_set_14 : decode cX6_set 14 = .ok (.invokevirtual 56, 3) := by decide +kernel
theorem dX6_set_17 : decode cX6_set 17 = .ok (.istore 4, 2) := by decide +kernel
theorem dX6_set_19 : decode cX6_set 19 = .ok (.iload 4, 2) := by decide +kernel
theorem dX6_set_21 : decode cX6_set 21 = .ok (.ifCond .le 10, 3) := by decide +kernel
theorem dX6_set_24 : decode cX6_set 24 = .ok (.aload_n 0, 1) := by decide +kernel
theorem dX6_set_25 : decode cX6_set 25 = .ok (.iload 4, 2) := by decide +kernel
theorem dX6_set_27 : decode cX6_set 27 = .ok (.invokevirtual 52, 3) := by decide +kernel
theorem dX6_set_30 : decode cX6_set 30 = .ok (.ireturn, 1) := by decide +kernel
theorem dX6_set_31 : decode cX6_set 31 = .ok (.aload_n 0, 1) := by decide +kernel
theorem dX6_set_32 : decode cX6_set 32 = .ok (.iconst 0, 1) := by decide +kernel
theorem dX6_set_33 : decode cX6_set 33 = .ok (.putfield 40, 3) := by decide +kernel
theorem dX6_set_36 : decode cX6_set 36 = .ok (.aload_n 0, 1) := by decide +kernel
theorem dX6_set_37 : decode cX6_set 37 = .ok (.getfield 22, 3) := by decide +kernel
theorem dX6_set_40 : decode cX6_set 40 = .ok (.bipush 40, 2) := by decide +kernel
theorem dX6_set_42 : decode cX6_set 42 = .ok (.iload_n 1, 1) := by decide +kernel
theorem dX6_set_43 : decode cX6_set 43 = .ok (.imul, 1) := by decide +kernel
theorem dX6_set_44 : decode cX6_set 44 = .ok (.iload_n 2, 1) := by decide +kernel
theorem dX6_set_45 : decode cX6_set 45 = .ok (.iadd, 1) := by decide +kernel
theorem dX6_set_46 : decode cX6_set 46 = .ok (.aload_n 0, 1) := by decide +kernel
theorem dX6_set_47 : decode cX6_set 47 = .ok (.getfield 19, 3) := by decide +kernel
theorem dX6_set_50 : decode cX6_set 50 = .ok (.iload_n 1, 1) := by decide +kernel
theorem dX6_set_51 : decode cX6_set 51 = .ok (.iaload, 1) := by decide +kernel
theorem dX6_set_52 : decode cX6_set 52 = .ok (.ifCond .ne 8, 3) := by decide +kernel
theorem dX6_set_55 : decode cX6_set 55 = .ok (.iload_n 3, 1) := by decide +kernel
theorem dX6_set_56 : decode cX6_set 56 = .ok (.i2b, 1) := by decide +kernel
theorem dX6_set_57 : decode cX6_set 57 = .ok (.goto 19, 3) := by decide +kernel
theorem dX6_set_60 : decode cX6_set 60 = .ok (.aload_n 0, 1) := by decide +kernel
theorem dX6_set_61 : decode cX6_set 61 = .ok (.getfield 19, 3) := by decide +kernel
theorem dX6_set_64 : decode cX6_set 64 = .ok (.iload_n 1, 1) := by decide +kernel
theorem dX6_set_65 : decode cX6_set 65 = .ok (.iaload, 1) := by decide +kernel
theorem dX6_set_66 : decode cX6_set 66 = .ok (.iconst 1, 1) := by decide +kernel
theorem dX6_set_67 : decode cX6_set 67 = .ok (.if_icmp .ne 8, 3) := by decide +kernel
theorem dX6_set_70 : decode cX6_set 70 = .ok (.iload_n 3, 1) := by decide +kernel
theorem dX6_set_71 : decode cX6_set 71 = .ok (.i2s, 1) := by decide +kernel
theorem dX6_set_72 : decode cX6_set 72 = .ok (.goto 4, 3) := by decide +kernel
theorem dX6_set_75 : decode cX6_set 75 = .ok (.iload_n 3, 1) := by decide +kernel
theorem dX6_set_76 : decode cX6_set 76 = .ok (.iastore, 1) := by decide +kernel
theorem dX6_set_77 : decode cX6_set 77 = .ok (.aload_n 0, 1) := by decide +kernel
theorem dX6_set_78 : decode cX6_set 78 = .ok (.getfield 22, 3) := by decide +kernel
theorem dX6_set_81 : decode cX6_set 81 = .ok (.bipush 40, 2) := by decide +kernel
theorem dX6_set_83 : decode cX6_set 83 = .ok (.iload_n 1, 1) := by decide +kernel
theorem dX6_set_84 : decode cX6_set 84 = .ok (.imul, 1) := by decide +kernel
theorem dX6_set_85 : decode cX6_set 85 = .ok (.iload_n 2, 1) := by decide +kernel
theorem dX6_set_86 : decode cX6_set 86 = .ok (.iadd, 1) := by decide +kernel
theorem dX6_set_87 : decode cX6_set 87 = .ok (.iaload, 1) := by decide +kernel
theorem dX6_set_88 : decode cX6_set 88 = .ok (.ireturn, 1) := by decide +kernel
set_option maxRecDepth 20000 in
theorem ggX6_copy_X6_isRow : GoodIn wsX6_copy wsX6_isRow := goodIn_r _ [10, 11, 12, 13, 9, 14] (by decide +kernel) (by decide +kernel)
set_option maxRecDepth 20000 in
theorem gX6_copy_X6_isRow : GoodIn wsX6_copy (va_wsS RX6 45 yX6_isRow wsX6_isRow) := goodIn_app (goodIn_of _ (by decide +kernel)) ggX6_copy_X6_isRow
set_option maxRecDepth 20000 in
theorem ggX6_copy_X6_finds : GoodIn wsX6_copy wsX6_finds := goodIn_r _ [18, 4, 19, 24, 25, 26, 27, 28, 29, 30, 31, 32, 33, 34, 35, 36, 37, 38, 39] (by decide +kernel) (by decide +kernel)
set_option maxRecDepth 20000 in
theorem gX6_copy_X6_finds : GoodIn wsX6_copy (wsV RX6 52 RX6 yX6_finds wsX6_finds) := goodIn_app (goodIn_of _ (by decide +kernel)) ggX6_copy_X6_finds
set_option maxRecDepth 20000 in
theorem ggX6_copy_X6_against : GoodIn wsX6_copy wsX6_against := goodIn_r _ [23, 2, 24, 25, 26, 27, 28, 29, 30, 31, 32, 33, 34, 35, 36, 37, 38, 39] (by decide +kernel) (by decide +kernel)
set_option maxRecDepth 20000 in
theorem gX6_copy_X6_against : GoodIn wsX6_copy (wsV RX6 56 RX6 yX6_against wsX6_against) := goodIn_app (goodIn_of _ (by decide +kernel)) ggX6_copy_X6_against
theorem dX6_copy_0 : decode cX6_copy 0 = .ok (.iload_n 1, 1) := by decide +kernel
theorem dX6_copy_1 : decode cX6_copy 1 = .ok (.invokestatic 45, 3) := by decide +kernel
theorem dX6_copy_4 : decode cX6_copy 4 = .ok (.ifCond .eq 10, 3) := by decide +kernel
theorem dX6_copy_7 : decode cX6_copy 7 = .ok (.iload_n 3, 1) := by decide +kernel
theorem dX6_copy_8 : decode cX6_copy 8 = .ok (.invokestatic 45, 3) := by decide +kernel
theorem dX6_copy_11 : decode cX6_copy 11 = .ok (.ifCond .ne 6, 3) := by decide +kernel
theorem dX6_copy_14 : decode cX6_copy 14 = .ok (.ldc 51, 2) := by decide +kernel
theorem dX6_copy_16 : decode cX6_copy 16 = .ok (.ireturn, 1) := by decide +kernel
theorem dX6_copy_17 : decode cX6_copy 17 = .ok (.aload_n 0, 1) := by decide +kernel
theorem dX6_copy_18 : decode cX6_copy 18 = .ok (.getfield 16, 3) := by decide +kernel
theorem dX6_copy_21 : decode cX6_copy 21 = .ok (.iload_n 1, 1) := by decide +kernel
theorem dX6_copy_22 : decode cX6_copy 22 = .ok (.iaload, 1) := by decide +kernel
theorem dX6_copy_23 : decode cX6_copy 23 = .ok (.ifCond .lt 12, 3) := by decide +kernel
theorem dX6_copy_26 : decode cX6_copy 26 = .ok (.aload_n 0, 1) := by decide +kernel
theorem dX6_copy_27 : decode cX6_copy 27 = .ok (.getfield 16, 3) := by decide +kernel
theorem dX6_copy_30 : decode cX6_copy 30 = .ok (.iload_n 3, 1) := by decide +kernel
theorem dX6_copy_31 : decode cX6_copy 31 = .ok (.iaload, 1) := by decide +kernel
theorem dX6_copy_32 : decode cX6_copy 32 = .ok (.ifCond .ge 9, 3) := by decide +kernel
theorem dX6_copy_35 : decode cX6_copy 35 = .ok (.aload_n 0, 1) := by decide +kernel
theorem dX6_copy_36 : decode cX6_copy 36 = .ok (.iconst 1, 1) := by decide +kernel
theorem dX6_copy_37 : decode cX6_copy 37 = .ok (.invokevirtual 52, 3) := by decide +kernel
theorem dX6_copy_40 : decode cX6_copy 40 = .ok (.ireturn, 1) := by decide +kernel
theorem dX6_copy_41 : decode cX6_copy 41 = .ok (.aload_n 0, 1) := by decide +kernel
theorem dX6_copy_42 : decode cX6_copy 42 = .ok (.getfield 19, 3) := by decide +kernel
theorem dX6_copy_45 : decode cX6_copy 45 = .ok (.iload_n 1, 1) := by decide +kernel
theorem dX6_copy_46 : decode cX6_copy 46 = .ok (.iaload, 1) := by decide +kernel
theorem dX6_copy_47 : decode cX6_copy 47 = .ok (.aload_n 0, 1) := by decide +kernel
theorem dX6_copy_48 : decode cX6_copy 48 = .ok (.getfield 19, 3) := by decide +kernel
theorem dX6_copy_51 : decode cX6_copy 51 = .ok (.iload_n 3, 1) := by decide +kernel
theorem dX6_copy_52 : decode cX6_copy 52 = .ok (.iaload, 1) := by decide +kernel
theorem dX6_copy_53 : decode cX6_copy 53 = .ok (.if_icmp .eq 9, 3) := by decide +kernel
theorem dX6_copy_56 : decode cX6_copy 56 = .ok (.aload_n 0, 1) := by decide +kernel
theorem dX6_copy_57 : decode cX6_copy 57 = .ok (.iconst 5, 1) := by decide +kernel
theorem dX6_copy_58 : decode cX6_copy 58 = .ok (.invokevirtual 52, 3) := by decide +kernel
theorem dX6_copy_61 : decode cX6_copy 61 = .ok (.ireturn, 1) := by decide +kernel
theorem dX6_copy_62 : decode cX6_copy 62 = .ok (.aload_n 0, 1) := by decide +kernel
theorem dX6_copy_63 : decode cX6_copy 63 = .ok (.iload_n 1, 1) := by decide +kernel
theorem dX6_copy_64 : decode cX6_copy 64 = .ok (.iload_n 2, 1) := by decide +kernel
theorem dX6_copy_65 : decode cX6_copy 65 = .ok (.iload 5, 2) := by decide +kernel
theorem dX6_copy_67 : decode cX6_copy 67 = .ok (.invokevirtual 56, 3) := by decide +kernel
theorem dX6_copy_70 : decode cX6_copy 70 = .ok (.ifCond .gt 15, 3) := by decide +kernel
theorem dX6_copy_73 : decode cX6_copy 73 = .ok (.aload_n 0, 1) := by decide +kernel
theorem dX6_copy_74 : decode cX6_copy 74 = .ok (.iload_n 3, 1) := by decide +kernel
theorem dX6_copy_75 : decode cX6_copy 75 = .ok (.iload 4, 2) := by decide +kernel
theorem dX6_copy_77 : decode cX6_copy 77 = .ok (.iload 5, 2) := by decide +kernel
theorem dX6_copy_79 : decode cX6_copy 79 = .ok (.invokevirtual 56, 3) := by decide +kernel
theorem dX6_copy_82 : decode cX6_copy 82 = .ok (.ifCond .le 9, 3) := by decide +kernel
theorem dX6_copy_85 : decode cX6_copy 85 = .ok (.aload_n 0, 1) := by decide +kernel
theorem dX6_copy_86 : decode cX6_copy 86 = .ok (.iconst 2, 1) := by decide +kernel
theorem dX6_copy_87 : decode cX6_copy 87 = .ok (.invokevirtual 52, 3) := by decide +kernel
theorem dX6_copy_90 : decode cX6_copy 90 = .ok (.ireturn, 1) := by decide +kernel
theorem dX6_copy_91 : decode cX6_copy 91 = .ok (.aload_n 0, 1) := by decide +kernel
theorem dX6_copy_92 : decode cX6_copy 92 = .ok (.iconst 0, 1) := by decide +kernel
theorem dX6_copy_93 : decode cX6_copy 93 = .ok (.putfield 40, 3) := by decide +kernel
theorem dX6_copy_96 : decode cX6_copy 96 = .ok (.iconst 0, 1) := by decide +kernel
theorem dX6_copy_97 : decode cX6_copy 97 = .ok (.istore 6, 2) := by decide +kernel
theorem dX6_copy_99 : decode cX6_copy 99 = .ok (.iload 6, 2) := by decide +kernel
theorem dX6_copy_101 : decode cX6_copy 101 = .ok (.iload 5, 2) := by decide +kernel
theorem dX6_copy_103 : decode cX6_copy 103 = .ok (.if_icmp .ge 30, 3) := by decide +kernel
theorem dX6_copy_106 : decode cX6_copy 106 = .ok (.aload_n 0, 1) := by decide +kernel
theorem dX6_copy_107 : decode cX6_copy 107 = .ok (.getfield 25, 3) := by decide +kernel
theorem dX6_copy_110 : decode cX6_copy 110 = .ok (.iload 6, 2) := by decide +kernel
theorem dX6_copy_112 : decode cX6_copy 112 = .ok (.aload_n 0, 1) := by decide +kernel
theorem dX6_copy_113 : decode cX6_copy 113 = .ok (.getfield 22, 3) := by decide +kernel
theorem dX6_copy_116 : decode cX6_copy 116 = .ok (.bipush 40, 2) := by decide +kernel
theorem dX6_copy_118 : decode cX6_copy 118 = .ok (.iload_n 1, 1) := by decide +kernel
theorem dX6_copy_119 : decode cX6_copy 119 = .ok (.imul, 1) := by decide +kernel
theorem dX6_copy_120 : decode cX6_copy 120 = .ok (.iload_n 2, 1) := by decide +kernel
theorem dX6_copy_121 : decode cX6_copy 121 = .ok (.iadd, 1) := by decide +kernel
theorem dX6_copy_122 : decode cX6_copy 122 = .ok (.iload 6, 2) := by decide +kernel
theorem dX6_copy_124 : decode cX6_copy 124 = .ok (.iadd, 1) := by decide +kernel
theorem dX6_copy_125 : decode cX6_copy 125 = .ok (.iaload, 1) := by decide +kernel
theorem dX6_copy_126 : decode cX6_copy 126 = .ok (.iastore, 1) := by decide +kernel
theorem dX6_copy_127 : decode cX6_copy 127 = .ok (.iinc 6 1, 3) := by decide +kernel
theorem dX6_copy_130 : decode cX6_copy 130 = .ok (.goto (-31), 3) := by decide +kernel
theorem dX6_copy_133 : decode cX6_copy 133 = .ok (.iconst 0, 1) := by decide +kernel
theorem dX6_copy_134 : decode cX6_copy 134 = .ok (.istore 6, 2) := by decide +kernel
theorem dX6_copy_136 : decode cX6_copy 136 = .ok (.iload 6, 2) := by decide +kernel
theorem dX6_copy_138 : decode cX6_copy 138 = .ok (.iload 5, 2) := by decide +kernel
theorem dX6_copy_140 : decode cX6_copy 140 = .ok (.if_icmp .ge 31, 3) := by decide +kernel
theorem dX6_copy_143 : decode cX6_copy 143 = .ok (.aload_n 0, 1) := by decide +kernel
theorem dX6_copy_144 : decode cX6_copy 144 = .ok (.getfield 22, 3) := by decide +kernel
theorem dX6_copy_147 : decode cX6_copy 147 = .ok (.bipush 40, 2) := by decide +kernel
theorem dX6_copy_149 : decode cX6_copy 149 = .ok (.iload_n 3, 1) := by decide +kernel
theorem dX6_copy_150 : decode cX6_copy 150 = .ok (.imul, 1) := by decide +kernel
theorem dX6_copy_151 : decode cX6_copy 151 = .ok (.iload 4, 2) := by decide +kernel
theorem dX6_copy_153 : decode cX6_copy 153 = .ok (.iadd, 1) := by decide +kernel
theorem dX6_copy_154 : decode cX6_copy 154 = .ok (.iload 6, 2) := by decide +kernel
theorem dX6_copy_156 : decode cX6_copy 156 = .ok (.iadd, 1) := by decide +kernel
theorem dX6_copy_157 : decode cX6_copy 157 = .ok (.aload_n 0, 1) := by decide +kernel
theorem dX6_copy_158 : decode cX6_copy 158 = .ok (.getfield 25, 3) := by decide +kernel
theorem dX6_copy_161 : decode cX6_copy 161 = .ok (.iload 6, 2) := by decide +kernel
theorem dX6_copy_163 : decode cX6_copy 163 = .ok (.iaload, 1) := by decide +kernel
theorem dX6_copy_164 : decode cX6_copy 164 = .ok (.iastore, 1) := by decide +kernel
theorem dX6_copy_165 : decode cX6_copy 165 = .ok (.iinc 6 1, 3) := by decide +kernel
theorem dX6_copy_168 : decode cX6_copy 168 = .ok (.goto (-32), 3) := by decide +kernel
theorem dX6_copy_171 : decode cX6_copy 171 = .ok (.iload 5, 2) := by decide +kernel
theorem dX6_copy_173 : decode cX6_copy 173 = .ok (.ireturn, 1) := by decide +kernel
set_option maxRecDepth 20000 in
theorem ggX6_drop_X6_isRow : GoodIn wsX6_drop wsX6_isRow := goodIn_r _ [7, 8, 9, 10, 6, 11] (by decide +kernel) (by decide +kernel)
set_option maxRecDepth 20000 in
theorem gX6_drop_X6_isRow : GoodIn wsX6_drop (va_wsS RX6 45 yX6_isRow wsX6_isRow) := goodIn_app (goodIn_of _ (by decide +kernel)) ggX6_drop_X6_isRow
set_option maxRecDepth 20000 in
theorem ggX6_drop_X6_finds : GoodIn wsX6_drop wsX6_finds := goodIn_r _ [15, 3, 16, 17, 18, 19, 20, 21, 22, 23, 24, 25, 26, 27, 28, 29, 30, 31, 32] (by decide +kernel) (by decide +kernel)
set_option maxRecDepth 20000 in
theorem gX6_drop_X6_finds : GoodIn wsX6_drop (wsV RX6 52 RX6 yX6_finds wsX6_finds) := goodIn_app (goodIn_of _ (by decide +kernel)) ggX6_drop_X6_finds
theorem dX6_drop_0 : decode cX6_drop 0 = .ok (.iload_n 1, 1) := by decide +kernel
theorem dX6_drop_1 : decode cX6_drop 1 = .ok (.invokestatic 45, 3) := by decide +kernel
theorem dX6_drop_4 : decode cX6_drop 4 = .ok (.ifCond .ne 6, 3) := by decide +kernel
theorem dX6_drop_7 : decode cX6_drop 7 = .ok (.ldc 51, 2) := by decide +kernel
theorem dX6_drop_9 : decode cX6_drop 9 = .ok (.ireturn, 1) := by decide +kernel
theorem dX6_drop_10 : decode cX6_drop 10 = .ok (.aload_n 0, 1) := by decide +kernel
theorem dX6_drop_11 : decode cX6_drop 11 = .ok (.getfield 16, 3) := by decide +kernel
theorem dX6_drop_14 : decode cX6_drop 14 = .ok (.iload_n 1, 1) := by decide +kernel
theorem dX6_drop_15 : decode cX6_drop 15 = .ok (.iaload, 1) := by decide +kernel
theorem dX6_drop_16 : decode cX6_drop 16 = .ok (.ifCond .ge 9, 3) := by decide +kernel
theorem dX6_drop_19 : decode cX6_drop 19 = .ok (.aload_n 0, 1) := by decide +kernel
theorem dX6_drop_20 : decode cX6_drop 20 = .ok (.iconst 1, 1) := by decide +kernel
theorem dX6_drop_21 : decode cX6_drop 21 = .ok (.invokevirtual 52, 3) := by decide +kernel
theorem dX6_drop_24 : decode cX6_drop 24 = .ok (.ireturn, 1) := by decide +kernel
theorem dX6_drop_25 : decode cX6_drop 25 = .ok (.aload_n 0, 1) := by decide +kernel
theorem dX6_drop_26 : decode cX6_drop 26 = .ok (.iconst 0, 1) := by decide +kernel
theorem dX6_drop_27 : decode cX6_drop 27 = .ok (.putfield 40, 3) := by decide +kernel
theorem dX6_drop_30 : decode cX6_drop 30 = .ok (.aload_n 0, 1) := by decide +kernel
theorem dX6_drop_31 : decode cX6_drop 31 = .ok (.getfield 16, 3) := by decide +kernel
theorem dX6_drop_34 : decode cX6_drop 34 = .ok (.iload_n 1, 1) := by decide +kernel
theorem dX6_drop_35 : decode cX6_drop 35 = .ok (.iaload, 1) := by decide +kernel
theorem dX6_drop_36 : decode cX6_drop 36 = .ok (.istore_n 2, 1) := by decide +kernel
theorem dX6_drop_37 : decode cX6_drop 37 = .ok (.aload_n 0, 1) := by decide +kernel
theorem dX6_drop_38 : decode cX6_drop 38 = .ok (.getfield 16, 3) := by decide +kernel
theorem dX6_drop_41 : decode cX6_drop 41 = .ok (.iload_n 1, 1) := by decide +kernel
theorem dX6_drop_42 : decode cX6_drop 42 = .ok (.iconst (-1), 1) := by decide +kernel
theorem dX6_drop_43 : decode cX6_drop 43 = .ok (.iastore, 1) := by decide +kernel
theorem dX6_drop_44 : decode cX6_drop 44 = .ok (.iload_n 2, 1) := by decide +kernel
theorem dX6_drop_45 : decode cX6_drop 45 = .ok (.ireturn, 1) := by decide +kernel
set_option maxRecDepth 20000 in
theorem ggX6_feed_X6_in : GoodIn wsX6_feed wsX6_in := goodIn_r _ [9] (by decide +kernel) (by decide +kernel)
set_option maxRecDepth 20000 in
theorem gX6_feed_X6_in : GoodIn wsX6_feed (va_wsS RX6 34 yX6_in wsX6_in) := goodIn_app (goodIn_of _ (by decide +kernel)) ggX6_feed_X6_in
theorem dX6_feed_0 : decode cX6_feed 0 = .ok (.iload_n 1, 1) := by decide +kernel
theorem dX6_feed_1 : decode cX6_feed 1 = .ok (.i2l, 1) := by decide +kernel
theorem dX6_feed_2 : decode cX6_feed 2 = .ok (.lconst 0, 1) := by decide +kernel
theorem dX6_feed_3 : decode cX6_feed 3 = .ok (.ldc2_w 60, 3) := by decide +kernel
theorem dX6_feed_6 : decode cX6_feed 6 = .ok (.invokestatic 34, 3) := by decide +kernel
theorem dX6_feed_9 : decode cX6_feed 9 = .ok (.ifCond .ne 6, 3) := by decide +kernel
theorem dX6_feed_12 : decode cX6_feed 12 = .ok (.ldc 51, 2) := by decide +kernel
theorem dX6_feed_14 : decode cX6_feed 14 = .ok (.ireturn, 1) := by decide +kernel
theorem dX6_feed_15 : decode cX6_feed 15 = .ok (.aload_n 0, 1) := by decide +kernel
theorem dX6_feed_16 : decode cX6_feed 16 = .ok (.getfield 62, 3) := by decide +kernel
theorem dX6_feed_19 : decode cX6_feed 19 = .ok (.bipush 90, 2) := by decide +kernel
theorem dX6_feed_21 : decode cX6_feed 21 = .ok (.if_icmp .ne 6, 3) := by decide +kernel
theorem dX6_feed_24 : decode cX6_feed 24 = .ok (.ldc 65, 2) := by decide +kernel
theorem dX6_feed_26 : decode cX6_feed 26 = .ok (.ireturn, 1) := by decide +kernel
theorem dX6_feed_27 : decode cX6_feed 27 = .ok (.aload_n 0, 1) := by decide +kernel
theorem dX6_feed_28 : decode cX6_feed 28 = .ok (.getfield 13, 3) := by decide +kernel
theorem dX6_feed_31 : decode cX6_feed 31 = .ok (.aload_n 0, 1) := by decide +kernel
theorem dX6_feed_32 : decode cX6_feed 32 = .ok (.getfield 62, 3) := by decide +kernel
theorem dX6_feed_35 : decode cX6_feed 35 = .ok (.iload_n 1, 1) := by decide +kernel
theorem dX6_feed_36 : decode cX6_feed 36 = .ok (.iastore, 1) := by decide +kernel
theorem dX6_feed_37 : decode cX6_feed 37 = .ok (.aload_n 0, 1) := by decide +kernel
theorem dX6_feed_38 : decode cX6_feed 38 = .ok (.dup, 1) := by decide +kernel
theorem dX6_feed_39 : decode cX6_feed 39 = .ok (.getfield 62, 3) := by decide +kernel
theorem dX6_feed_42 : decode cX6_feed 42 = .ok (.iconst 1, 1) := by decide +kernel
theorem dX6_feed_43 : decode cX6_feed 43 = .ok (.iadd, 1) := by decide +kernel
theorem dX6_feed_44 : decode cX6_feed 44 = .ok (.putfield 62, 3) := by decide +kernel
theorem dX6_feed_47 : decode cX6_feed 47 = .ok (.aload_n 0, 1) := by decide +kernel
theorem dX6_feed_48 : decode cX6_feed 48 = .ok (.getfield 62, 3) := by decide +kernel
theorem dX6_feed_51 : decode cX6_feed 51 = .ok (.ireturn, 1) := by decide +kernel
theorem dX6_here_0 : decode cX6_here 0 = .ok (.aload_n 0, 1) := by decide +kernel
theorem dX6_here_1 : decode cX6_here 1 = .ok (.getfield 66, 3) := by decide +kernel
theorem dX6_here_4 : decode cX6_here 4 = .ok (.aload_n 0, 1) := by decide +kernel
theorem dX6_here_5 : decode cX6_here 5 = .ok (.getfield 62, 3) := by decide +kernel
theorem dX6_here_8 : decode cX6_here 8 = .ok (.if_icmp .ge 15, 3) := by decide +kernel
theorem dX6_here_11 : decode cX6_here 11 = .ok (.aload_n 0, 1) := by decide +kernel
theorem dX6_here_12 : decode cX6_here 12 = .ok (.getfield 13, 3) := by decide +kernel
theorem dX6_here_15 : decode cX6_here 15 = .ok (.aload_n 0, 1) := by decide +kernel
theorem dX6_here_16 : decode cX6_here 16 = .ok (.getfield 66, 3) := by decide +kernel
theorem dX6_here_19 : decode cX6_here 19 = .ok (.iaload, 1) := by decide +kernel
theorem dX6_here_20 : decode cX6_here 20 = .ok (.goto 4, 3) := by decide +kernel
theorem dX6_here_23 : decode cX6_here 23 = .ok (.iconst (-1), 1) := by decide +kernel
theorem dX6_here_24 : decode cX6_here 24 = .ok (.ireturn, 1) := by decide +kernel
theorem dX6_fails_0 : decode cX6_fails 0 = .ok (.aload_n 0, 1) := by decide +kernel
theorem dX6_fails_1 : decode cX6_fails 1 = .ok (.iload_n 1, 1) := by decide +kernel
theorem dX6_fails_2 : decode cX6_fails 2 = .ok (.putfield 69, 3) := by decide +kernel
theorem dX6_fails_5 : decode cX6_fails 5 = .ok (.aload_n 0, 1) := by decide +kernel
theorem dX6_fails_6 : decode cX6_fails 6 = .ok (.iload_n 2, 1) := by decide +kernel
theorem dX6_fails_7 : decode cX6_fails 7 = .ok (.putfield 72, 3) := by decide +kernel
theorem dX6_fails_10 : decode cX6_fails 10 = .ok (.iconst 0, 1) := by decide +kernel
theorem dX6_fails_11 : decode cX6_fails 11 = .ok (.ireturn, 1) := by decide +kernel
set_option maxRecDepth 20000 in
theorem ggX6_takes_X6_here : GoodIn wsX6_takes wsX6_here := goodIn_r _ [6, 1, 7, 8, 15, 16, 17, 18, 19, 20, 21, 22, 23, 24, 25, 26, 27, 28, 29, 30] (by decide +kernel) (by decide +kernel)
set_option maxRecDepth 20000 in
theorem gX6_takes_X6_here : GoodIn wsX6_takes (wsV RX6 75 RX6 yX6_here wsX6_here) := goodIn_app (goodIn_of _ (by decide +kernel)) ggX6_takes_X6_here
set_option maxRecDepth 20000 in
theorem ggX6_takes_X6_fails : GoodIn wsX6_takes wsX6_fails := goodIn_r _ [12, 13, 14, 15, 16, 17, 18, 19, 20, 21, 22, 23, 24, 25, 26, 27, 28, 29, 30] (by decide +kernel) (by decide +kernel)
set_option maxRecDepth 20000 in
theorem gX6_takes_X6_fails : GoodIn wsX6_takes (wsV RX6 79 RX6 yX6_fails wsX6_fails) := goodIn_app (goodIn_of _ (by decide +kernel)) ggX6_takes_X6_fails
theorem dX6_takes_0 : decode cX6_takes 0 = .ok (.aload_n 0, 1) := by decide +kernel
theorem dX6_takes_1 : decode cX6_takes 1 = .ok (.invokevirtual 75, 3) := by decide +kernel
theorem dX6_takes_4 : decode cX6_takes 4 = .ok (.iload_n 1, 1) := by decide +kernel
theorem dX6_takes_5 : decode cX6_takes 5 = .ok (.if_icmp .eq 13, 3) := by decide +kernel
theorem dX6_takes_8 : decode cX6_takes 8 = .ok (.aload_n 0, 1) := by decide +kernel
theorem dX6_takes_9 : decode cX6_takes 9 = .ok (.iconst 1, 1) := by decide +kernel
theorem dX6_takes_10 : decode cX6_takes 10 = .ok (.aload_n 0, 1) := by decide +kernel
theorem dX6_takes_11 : decode cX6_takes 11 = .ok (.getfield 66, 3) := by decide +kernel
theorem dX6_takes_14 : decode cX6_takes 14 = .ok (.invokevirtual 79, 3) := by decide +kernel
theorem dX6_takes_17 : decode cX6_takes 17 = .ok (.ireturn, 1) := by decide +kernel
theorem dX6_takes_18 : decode cX6_takes 18 = .ok (.aload_n 0, 1) := by decide +kernel
theorem dX6_takes_19 : decode cX6_takes 19 = .ok (.dup, 1) := by decide +kernel
theorem dX6_takes_20 : decode cX6_takes 20 = .ok (.getfield 66, 3) := by decide +kernel
theorem dX6_takes_23 : decode cX6_takes 23 = .ok (.iconst 1, 1) := by decide +kernel
theorem dX6_takes_24 : decode cX6_takes 24 = .ok (.iadd, 1) := by decide +kernel
theorem dX6_takes_25 : decode cX6_takes 25 = .ok (.putfield 66, 3) := by decide +kernel
theorem dX6_takes_28 : decode cX6_takes 28 = .ok (.iconst 1, 1) := by decide +kernel
theorem dX6_takes_29 : decode cX6_takes 29 = .ok (.ireturn, 1) := by decide +kernel
set_option maxRecDepth 20000 in
theorem ggX6_takesNumber_X6_here : GoodIn wsX6_takesNumber wsX6_here := goodIn_r _ [10, 1, 11, 12, 22, 23, 24, 25, 26, 27, 28, 29, 30, 31, 32, 33, 34, 35, 36, 37] (by decide +kernel) (by decide +kernel)
set_option maxRecDepth 20000 in
theorem gX6_takesNumber_X6_here : GoodIn wsX6_takesNumber (wsV RX6 75 RX6 yX6_here wsX6_here) := goodIn_app (goodIn_of _ (by decide +kernel)) ggX6_takesNumber_X6_here
set_option maxRecDepth 20000 in
theorem ggX6_takesNumber_X6_in : GoodIn wsX6_takesNumber wsX6_in := goodIn_r _ [15] (by decide +kernel) (by decide +kernel)
set_option maxRecDepth 20000 in
theorem gX6_takesNumber_X6_in : GoodIn wsX6_takesNumber (va_wsS RX6 34 yX6_in wsX6_in) := goodIn_app (goodIn_of _ (by decide +kernel)) ggX6_takesNumber_X6_in
set_option maxRecDepth 20000 in
theorem ggX6_takesNumber_X6_fails : GoodIn wsX6_takesNumber wsX6_fails := goodIn_r _ [19, 20, 21, 22, 23, 24, 25, 26, 27, 28, 29, 30, 31, 32, 33, 34, 35, 36, 37] (by decide +kernel) (by decide +kernel)
set_option maxRecDepth 20000 in
theorem gX6_takesNumber_X6_fails : GoodIn wsX6_takesNumber (wsV RX6 79 RX6 yX6_fails wsX6_fails) := goodIn_app (goodIn_of _ (by decide +kernel)) ggX6_takesNumber_X6_fails
theorem dX6_takesNumber_0 : decode cX6_takesNumber 0 = .ok (.aload_n 0, 1) := by decide +kernel
theorem dX6_takesNumber_1 : decode cX6_takesNumber 1 = .ok (.getfield 66, 3) := by decide +kernel
theorem dX6_takesNumber_4 : decode cX6_takesNumber 4 = .ok (.istore_n 3, 1) := by decide +kernel
theorem dX6_takesNumber_5 : decode cX6_takesNumber 5 = .ok (.aload_n 0, 1) := by decide +kernel
theorem dX6_takesNumber_6 : decode cX6_takesNumber 6 = .ok (.iconst 0, 1) := by decide +kernel
theorem dX6_takesNumber_7 : decode cX6_takesNumber 7 = .ok (.putfield 83, 3) := by decide +kernel
theorem dX6_takesNumber_10 : decode cX6_takesNumber 10 = .ok (.aload_n 0, 1) := by decide +kernel
theorem dX6_takesNumber_11 : decode cX6_takesNumber 11 = .ok (.invokevirtual 75, 3) := by decide +kernel
theorem dX6_takesNumber_14 : decode cX6_takesNumber 14 = .ok (.i2l, 1) := by decide +kernel
theorem dX6_takesNumber_15 : decode cX6_takesNumber 15 = .ok (.ldc2_w 86, 3) := by decide +kernel
theorem dX6_takesNumber_18 : decode cX6_takesNumber 18 = .ok (.ldc2_w 88, 3) := by decide +kernel
theorem dX6_takesNumber_21 : decode cX6_takesNumber 21 = .ok (.invokestatic 34, 3) := by decide +kernel
theorem dX6_takesNumber_24 : decode cX6_takesNumber 24 = .ok (.ifCond .eq 52, 3) := by decide +kernel
theorem dX6_takesNumber_27 : decode cX6_takesNumber 27 = .ok (.aload_n 0, 1) := by decide +kernel
theorem dX6_takesNumber_28 : decode cX6_takesNumber 28 = .ok (.aload_n 0, 1) := by decide +kernel
theorem dX6_takesNumber_29 : decode cX6_takesNumber 29 = .ok (.getfield 66, 3) := by decide +kernel
theorem dX6_takesNumber_32 : decode cX6_takesNumber 32 = .ok (.iload_n 3, 1) := by decide +kernel
theorem dX6_takesNumber_33 : decode cX6_takesNumber 33 = .ok (.isub, 1) := by decide +kernel
theorem dX6_takesNumber_34 : decode cX6_takesNumber 34 = .ok (.iconst 2, 1) := by decide +kernel
theorem dX6_takesNumber_35 : decode cX6_takesNumber 35 = .ok (.if_icmp .ge 21, 3) := by decide +kernel
theorem dX6_takesNumber_38 : decode cX6_takesNumber 38 = .ok (.bipush 10, 2) := by decide +kernel
theorem dX6_takesNumber_40 : decode cX6_takesNumber 40 = .ok (.aload_n 0, 1) := by decide +kernel
theorem dX6_takesNumber_41 : decode cX6_takesNumber 41 = .ok (.getfield 83, 3) := by decide +kernel
theorem dX6_takesNumber_44 : decode cX6_takesNumber 44 = .ok (.imul, 1) := by decide +kernel
theorem dX6_takesNumber_45 : decode cX6_takesNumber 45 = .ok (.aload_n 0, 1) := by decide +kernel
theorem dX6_takesNumber_46 : decode cX6_takesNumber 46 = .ok (.invokevirtual 75, 3) := by decide +kernel
theorem dX6_takesNumber_49 : decode cX6_takesNumber 49 = .ok (.iadd, 1) := by decide +kernel
theorem dX6_takesNumber_50 : decode cX6_takesNumber 50 = .ok (.bipush 48, 2) := by decide +kernel
theorem dX6_takesNumber_52 : decode cX6_takesNumber 52 = .ok (.isub, 1) := by decide +kernel
theorem dX6_takesNumber_53 : decode cX6_takesNumber 53 = .ok (.goto 7, 3) := by decide +kernel
theorem dX6_takesNumber_56 : decode cX6_takesNumber 56 = .ok (.aload_n 0, 1) := by decide +kernel
theorem dX6_takesNumber_57 : decode cX6_takesNumber 57 = .ok (.getfield 83, 3) := by decide +kernel
theorem dX6_takesNumber_60 : decode cX6_takesNumber 60 = .ok (.putfield 83, 3) := by decide +kernel
theorem dX6_takesNumber_63 : decode cX6_takesNumber 63 = .ok (.aload_n 0, 1) := by decide +kernel
theorem dX6_takesNumber_64 : decode cX6_takesNumber 64 = .ok (.dup, 1) := by decide +kernel
theorem dX6_takesNumber_65 : decode cX6_takesNumber 65 = .ok (.getfield 66, 3) := by decide +kernel
theorem dX6_takesNumber_68 : decode cX6_takesNumber 68 = .ok (.iconst 1, 1) := by decide +kernel
theorem dX6_takesNumber_69 : decode cX6_takesNumber 69 = .ok (.iadd, 1) := by decide +kernel
theorem dX6_takesNumber_70 : decode cX6_takesNumber 70 = .ok (.putfield 66, 3) := by decide +kernel
theorem dX6_takesNumber_73 : decode cX6_takesNumber 73 = .ok (.goto (-63), 3) := by decide +kernel
theorem dX6_takesNumber_76 : decode cX6_takesNumber 76 = .ok (.aload_n 0, 1) := by decide +kernel
theorem dX6_takesNumber_77 : decode cX6_takesNumber 77 = .ok (.getfield 66, 3) := by decide +kernel
theorem dX6_takesNumber_80 : decode cX6_takesNumber 80 = .ok (.iload_n 3, 1) := by decide +kernel
theorem dX6_takesNumber_81 : decode cX6_takesNumber 81 = .ok (.isub, 1) := by decide +kernel
theorem dX6_takesNumber_82 : decode cX6_takesNumber 82 = .ok (.i2l, 1) := by decide +kernel
theorem dX6_takesNumber_83 : decode cX6_takesNumber 83 = .ok (.lconst 1, 1) := by decide +kernel
theorem dX6_takesNumber_84 : decode cX6_takesNumber 84 = .ok (.ldc2_w 49, 3) := by decide +kernel
theorem dX6_takesNumber_87 : decode cX6_takesNumber 87 = .ok (.invokestatic 34, 3) := by decide +kernel
theorem dX6_takesNumber_90 : decode cX6_takesNumber 90 = .ok (.ifCond .ne 10, 3) := by decide +kernel
theorem dX6_takesNumber_93 : decode cX6_takesNumber 93 = .ok (.aload_n 0, 1) := by decide +kernel
theorem dX6_takesNumber_94 : decode cX6_takesNumber 94 = .ok (.iconst 1, 1) := by decide +kernel
theorem dX6_takesNumber_95 : decode cX6_takesNumber 95 = .ok (.iload_n 3, 1) := by decide +kernel
theorem dX6_takesNumber_96 : decode cX6_takesNumber 96 = .ok (.invokevirtual 79, 3) := by decide +kernel
theorem dX6_takesNumber_99 : decode cX6_takesNumber 99 = .ok (.ireturn, 1) := by decide +kernel
theorem dX6_takesNumber_100 : decode cX6_takesNumber 100 = .ok (.aload_n 0, 1) := by decide +kernel
theorem dX6_takesNumber_101 : decode cX6_takesNumber 101 = .ok (.getfield 83, 3) := by decide +kernel
theorem dX6_takesNumber_104 : decode cX6_takesNumber 104 = .ok (.i2l, 1) := by decide +kernel
theorem dX6_takesNumber_105 : decode cX6_takesNumber 105 = .ok (.iload_n 1, 1) := by decide +kernel
theorem dX6_takesNumber_106 : decode cX6_takesNumber 106 = .ok (.i2l, 1) := by decide +kernel
theorem dX6_takesNumber_107 : decode cX6_takesNumber 107 = .ok (.iload_n 2, 1) := by decide +kernel
theorem dX6_takesNumber_108 : decode cX6_takesNumber 108 = .ok (.i2l, 1) := by decide +kernel
theorem dX6_takesNumber_109 : decode cX6_takesNumber 109 = .ok (.invokestatic 34, 3) := by decide +kernel
theorem dX6_takesNumber_112 : decode cX6_takesNumber 112 = .ok (.ifCond .ne 10, 3) := by decide +kernel
theorem dX6_takesNumber_115 : decode cX6_takesNumber 115 = .ok (.aload_n 0, 1) := by decide +kernel
theorem dX6_takesNumber_116 : decode cX6_takesNumber 116 = .ok (.iconst 2, 1) := by decide +kernel
theorem dX6_takesNumber_117 : decode cX6_takesNumber 117 = .ok (.iload_n 3, 1) := by decide +kernel
theorem dX6_takesNumber_118 : decode cX6_takesNumber 118 = .ok (.invokevirtual 79, 3) := by decide +kernel
theorem dX6_takesNumber_121 : decode cX6_takesNumber 121 = .ok (.ireturn, 1) := by decide +kernel
theorem dX6_takesNumber_122 : decode cX6_takesNumber 122 = .ok (.iconst 1, 1) := by decide +kernel
theorem dX6_takesNumber_123 : decode cX6_takesNumber 123 = .ok (.ireturn, 1) := by decide +kernel
theorem dX6_kindOf_0 : decode cX6_kindOf 0 = .ok (.iload_n 0, 1) := by decide +kernel
theorem dX6_kindOf_1 : decode cX6_kindOf 1 = .ok (.bipush 98, 2) := by decide +kernel
theorem dX6_kindOf_3 : decode cX6_kindOf 3 = .ok (.if_icmp .ne 7, 3) := by decide +kernel
theorem dX6_kindOf_6 : decode cX6_kindOf 6 = .ok (.iconst 1, 1) := by decide +kernel
theorem dX6_kindOf_7 : decode cX6_kindOf 7 = .ok (.goto 44, 3) := by decide +kernel
theorem dX6_kindOf_10 : decode cX6_kindOf 10 = .ok (.iload_n 0, 1) := by decide +kernel
theorem dX6_kindOf_11 : decode cX6_kindOf 11 = .ok (.bipush 107, 2) := by decide +kernel
theorem dX6_kindOf_13 : decode cX6_kindOf 13 = .ok (.if_icmp .ne 7, 3) := by decide +kernel
theorem dX6_kindOf_16 : decode cX6_kindOf 16 = .ok (.iconst 2, 1) := by decide +kernel
theorem dX6_kindOf_17 : decode cX6_kindOf 17 = .ok (.goto 34, 3) := by decide +kernel
theorem dX6_kindOf_20 : decode cX6_kindOf 20 = .ok (.iload_n 0, 1) := by decide +kernel
theorem dX6_kindOf_21 : decode cX6_kindOf 21 = .ok (.bipush 121, 2) := by decide +kernel
theorem dX6_kindOf_23 : decode cX6_kindOf 23 = .ok (.if_icmp .ne 7, 3) := by decide +kernel
theorem dX6_kindOf_26 : decode cX6_kindOf 26 = .ok (.iconst 3, 1) := by decide +kernel
theorem dX6_kindOf_27 : decode cX6_kindOf 27 = .ok (.goto 24, 3) := by decide +kernel
theorem dX6_kindOf_30 : decode cX6_kindOf 30 = .ok (.iload_n 0, 1) := by decide +kernel
theorem dX6_kindOf_31 : decode cX6_kindOf 31 = .ok (.bipush 100, 2) := by decide +kernel
theorem dX6_kindOf_33 : decode cX6_kindOf 33 = .ok (.if_icmp .ne 7, 3) := by decide +kernel
theorem dX6_kindOf_36 : decode cX6_kindOf 36 = .ok (.iconst 4, 1) := by decide +kernel
theorem dX6_kindOf_37 : decode cX6_kindOf 37 = .ok (.goto 14, 3) := by decide +kernel
theorem dX6_kindOf_40 : decode cX6_kindOf 40 = .ok (.iload_n 0, 1) := by decide +kernel
theorem dX6_kindOf_41 : decode cX6_kindOf 41 = .ok (.bipush 101, 2) := by decide +kernel
theorem dX6_kindOf_43 : decode cX6_kindOf 43 = .ok (.if_icmp .ne 7, 3) := by decide +kernel
theorem dX6_kindOf_46 : decode cX6_kindOf 46 = .ok (.iconst 5, 1) := by decide +kernel
theorem dX6_kindOf_47 : decode cX6_kindOf 47 = .ok (.goto 4, 3) := by decide +kernel
theorem dX6_kindOf_50 : decode cX6_kindOf 50 = .ok (.iconst 0, 1) := by decide +kernel
theorem dX6_kindOf_51 : decode cX6_kindOf 51 = .ok (.ireturn, 1) := by decide +kernel
set_option maxRecDepth 20000 in
theorem ggX6_takesLaw_X6_takes : GoodIn wsX6_takesLaw wsX6_takes := goodIn_r _ [7, 8, 9, 10, 11, 6, 12, 13, 14, 15, 16, 17, 18, 19, 20, 31, 32, 33, 34, 35, 36, 37, 38, 39, 40, 41, 42, 43, 44, 45, 46] (by decide +kernel) (by decide +kernel)
set_option maxRecDepth 20000 in
theorem gX6_takesLaw_X6_takes : GoodIn wsX6_takesLaw (wsV RX6 90 RX6 yX6_takes wsX6_takes) := goodIn_app (goodIn_of _ (by decide +kernel)) ggX6_takesLaw_X6_takes
set_option maxRecDepth 20000 in
theorem ggX6_takesLaw_X6_takesNumber : GoodIn wsX6_takesLaw wsX6_takesNumber := goodIn_r _ [24, 8, 2, 25, 26, 27, 9, 10, 11, 6, 12, 13, 14, 28, 29, 30, 15, 16, 17, 18, 19, 20, 31, 32, 33, 34, 35, 36, 37, 38, 39, 40, 41, 42, 43, 44, 45, 46] (by decide +kernel) (by decide +kernel)
set_option maxRecDepth 20000 in
theorem gX6_takesLaw_X6_takesNumber : GoodIn wsX6_takesLaw (wsV RX6 93 RX6 yX6_takesNumber wsX6_takesNumber) := goodIn_app (goodIn_of _ (by decide +kernel)) ggX6_takesLaw_X6_takesNumber
theorem dX6_takesLaw_0 : decode cX6_takesLaw 0 = .ok (.aload_n 0, 1) := by decide +kernel
theorem dX6_takesLaw_1 : decode cX6_takesLaw 1 = .ok (.bipush 112, 2) := by decide +kernel
theorem dX6_takesLaw_3 : decode cX6_takesLaw 3 = .ok (.invokevirtual 90, 3) := by decide +kernel
theorem dX6_takesLaw_6 : decode cX6_takesLaw 6 = .ok (.ifCond .eq 13, 3) := by decide +kernel
theorem dX6_takesLaw_9 : decode cX6_takesLaw 9 = .ok (.aload_n 0, 1) := by decide +kernel
theorem dX6_takesLaw_10 : decode cX6_takesLaw 10 = .ok (.iconst 4, 1) := by decide +kernel
theorem dX6_takesLaw_11 : decode cX6_takesLaw 11 = .ok (.bipush 16, 2) := by decide +kernel
theorem dX6_takesLaw_13 : decode cX6_takesLaw 13 = .ok (.invokevirtual 93, 3) := by decide +kernel
theorem dX6_takesLaw_16 : decode cX6_takesLaw 16 = .ok (.ifCond .ne 5, 3) := by decide +kernel
theorem dX6_takesLaw_19 : decode cX6_takesLaw 19 = .ok (.iconst 0, 1) := by decide +kernel
theorem dX6_takesLaw_20 : decode cX6_takesLaw 20 = .ok (.ireturn, 1) := by decide +kernel
theorem dX6_takesLaw_21 : decode cX6_takesLaw 21 = .ok (.aload_n 0, 1) := by decide +kernel
theorem dX6_takesLaw_22 : decode cX6_takesLaw 22 = .ok (.getfield 7, 3) := by decide +kernel
theorem dX6_takesLaw_25 : decode cX6_takesLaw 25 = .ok (.sipush 154, 3) := by decide +kernel
theorem dX6_takesLaw_28 : decode cX6_takesLaw 28 = .ok (.aload_n 0, 1) := by decide +kernel
theorem dX6_takesLaw_29 : decode cX6_takesLaw 29 = .ok (.getfield 83, 3) := by decide +kernel
theorem dX6_takesLaw_32 : decode cX6_takesLaw 32 = .ok (.iastore, 1) := by decide +kernel
theorem dX6_takesLaw_33 : decode cX6_takesLaw 33 = .ok (.aload_n 0, 1) := by decide +kernel
theorem dX6_takesLaw_34 : decode cX6_takesLaw 34 = .ok (.bipush 44, 2) := by decide +kernel
theorem dX6_takesLaw_36 : decode cX6_takesLaw 36 = .ok (.invokevirtual 90, 3) := by decide +kernel
theorem dX6_takesLaw_39 : decode cX6_takesLaw 39 = .ok (.ifCond .eq 21, 3) := by decide +kernel
theorem dX6_takesLaw_42 : decode cX6_takesLaw 42 = .ok (.aload_n 0, 1) := by decide +kernel
theorem dX6_takesLaw_43 : decode cX6_takesLaw 43 = .ok (.iconst 0, 1) := by decide +kernel
theorem dX6_takesLaw_44 : decode cX6_takesLaw 44 = .ok (.aload_n 0, 1) := by decide +kernel
theorem dX6_takesLaw_45 : decode cX6_takesLaw 45 = .ok (.getfield 7, 3) := by decide +kernel
theorem dX6_takesLaw_48 : decode cX6_takesLaw 48 = .ok (.sipush 154, 3) := by decide +kernel
theorem dX6_takesLaw_51 : decode cX6_takesLaw 51 = .ok (.iaload, 1) := by decide +kernel
theorem dX6_takesLaw_52 : decode cX6_takesLaw 52 = .ok (.iconst 1, 1) := by decide +kernel
theorem dX6_takesLaw_53 : decode cX6_takesLaw 53 = .ok (.isub, 1) := by decide +kernel
theorem dX6_takesLaw_54 : decode cX6_takesLaw 54 = .ok (.invokevirtual 93, 3) := by decide +kernel
theorem dX6_takesLaw_57 : decode cX6_takesLaw 57 = .ok (.ifCond .ne 5, 3) := by decide +kernel
theorem dX6_takesLaw_60 : decode cX6_takesLaw 60 = .ok (.iconst 0, 1) := by decide +kernel
theorem dX6_takesLaw_61 : decode cX6_takesLaw 61 = .ok (.ireturn, 1) := by decide +kernel
theorem dX6_takesLaw_62 : decode cX6_takesLaw 62 = .ok (.aload_n 0, 1) := by decide +kernel
theorem dX6_takesLaw_63 : decode cX6_takesLaw 63 = .ok (.getfield 7, 3) := by decide +kernel
theorem dX6_takesLaw_66 : decode cX6_takesLaw 66 = .ok (.sipush 155, 3) := by decide +kernel
theorem dX6_takesLaw_69 : decode cX6_takesLaw 69 = .ok (.aload_n 0, 1) := by decide +kernel
theorem dX6_takesLaw_70 : decode cX6_takesLaw 70 = .ok (.getfield 83, 3) := by decide +kernel
theorem dX6_takesLaw_73 : decode cX6_takesLaw 73 = .ok (.iastore, 1) := by decide +kernel
theorem dX6_takesLaw_74 : decode cX6_takesLaw 74 = .ok (.aload_n 0, 1) := by decide +kernel
theorem dX6_takesLaw_75 : decode cX6_takesLaw 75 = .ok (.bipush 59, 2) := by decide +kernel
theorem dX6_takesLaw_77 : decode cX6_takesLaw 77 = .ok (.invokevirtual 90, 3) := by decide +kernel
theorem dX6_takesLaw_80 : decode cX6_takesLaw 80 = .ok (.ireturn, 1) := by decide +kernel
set_option maxRecDepth 20000 in
theorem ggX6_takesStretch_X6_here : GoodIn wsX6_takesStretch wsX6_here := goodIn_r _ [8, 1, 9, 10, 31, 32, 33, 34, 35, 36, 37, 38, 39, 40, 41, 42, 43, 44, 45, 46] (by decide +kernel) (by decide +kernel)
set_option maxRecDepth 20000 in
theorem gX6_takesStretch_X6_here : GoodIn wsX6_takesStretch (wsV RX6 75 RX6 yX6_here wsX6_here) := goodIn_app (goodIn_of _ (by decide +kernel)) ggX6_takesStretch_X6_here
set_option maxRecDepth 20000 in
theorem ggX6_takesStretch_X6_fails : GoodIn wsX6_takesStretch wsX6_fails := goodIn_r _ [14, 15, 16, 31, 32, 33, 34, 35, 36, 37, 38, 39, 40, 41, 42, 43, 44, 45, 46] (by decide +kernel) (by decide +kernel)
set_option maxRecDepth 20000 in
theorem gX6_takesStretch_X6_fails : GoodIn wsX6_takesStretch (wsV RX6 79 RX6 yX6_fails wsX6_fails) := goodIn_app (goodIn_of _ (by decide +kernel)) ggX6_takesStretch_X6_fails
set_option maxRecDepth 20000 in
theorem ggX6_takesStretch_X6_takesNumber : GoodIn wsX6_takesStretch wsX6_takesNumber := goodIn_r _ [20, 1, 3, 21, 22, 23, 4, 5, 6, 7, 8, 9, 10, 24, 25, 26, 11, 12, 13, 14, 15, 16, 31, 32, 33, 34, 35, 36, 37, 38, 39, 40, 41, 42, 43, 44, 45, 46] (by decide +kernel) (by decide +kernel)
set_option maxRecDepth 20000 in
theorem gX6_takesStretch_X6_takesNumber : GoodIn wsX6_takesStretch (wsV RX6 93 RX6 yX6_takesNumber wsX6_takesNumber) := goodIn_app (goodIn_of _ (by decide +kernel)) ggX6_takesStretch_X6_takesNumber
set_option maxRecDepth 20000 in
theorem ggX6_takesStretch_X6_takes : GoodIn wsX6_takesStretch wsX6_takes := goodIn_r _ [30, 1, 4, 5, 6, 7, 8, 9, 10, 11, 12, 13, 14, 15, 16, 31, 32, 33, 34, 35, 36, 37, 38, 39, 40, 41, 42, 43, 44, 45, 46] (by decide +kernel) (by decide +kernel)
set_option maxRecDepth 20000 in
theorem gX6_takesStretch_X6_takes : GoodIn wsX6_takesStretch (wsV RX6 90 RX6 yX6_takes wsX6_takes) := goodIn_app (goodIn_of _ (by decide +kernel)) ggX6_takesStretch_X6_takes
theorem dX6_takesStretch_0 : decode cX6_takesStretch 0 = .ok (.aload_n 0, 1) := by decide +kernel
theorem dX6_takesStretch_1 : decode cX6_takesStretch 1 = .ok (.invokevirtual 75, 3) := by decide +kernel
theorem dX6_takesStretch_4 : decode cX6_takesStretch 4 = .ok (.bipush 114, 2) := by decide +kernel
theorem dX6_takesStretch_6 : decode cX6_takesStretch 6 = .ok (.if_icmp .eq 13, 3) := by decide +kernel
theorem dX6_takesStretch_9 : decode cX6_takesStretch 9 = .ok (.aload_n 0, 1) := by decide +kernel
theorem dX6_takesStretch_10 : decode cX6_takesStretch 10 = .ok (.iconst 1, 1) := by decide +kernel
theorem dX6_takesStretch_11 : decode cX6_takesStretch 11 = .ok (.aload_n 0, 1) := by decide +kernel
theorem dX6_takesStretch_12 : decode cX6_takesStretch 12 = .ok (.getfield 66, 3) := by decide +kernel
theorem dX6_takesStretch_15 : decode cX6_takesStretch 15 = .ok (.invokevirtual 79, 3) := by decide +kernel
theorem dX6_takesStretch_18 : decode cX6_takesStretch 18 = .ok (.ireturn, 1) := by decide +kernel
theorem dX6_takesStretch_19 : decode cX6_takesStretch 19 = .ok (.aload_n 0, 1) := by decide +kernel
theorem dX6_takesStretch_20 : decode cX6_takesStretch 20 = .ok (.getfield 7, 3) := by decide +kernel
theorem dX6_takesStretch_23 : decode cX6_takesStretch 23 = .ok (.sipush 152, 3) := by decide +kernel
theorem dX6_takesStretch_26 : decode cX6_takesStretch 26 = .ok (.iaload, 1) := by decide +kernel
theorem dX6_takesStretch_27 : decode cX6_takesStretch 27 = .ok (.bipush 9, 2) := by decide +kernel
theorem dX6_takesStretch_29 : decode cX6_takesStretch 29 = .ok (.if_icmp .ne 13, 3) := by decide +kernel
theorem dX6_takesStretch_32 : decode cX6_takesStretch 32 = .ok (.aload_n 0, 1) := by decide +kernel
theorem dX6_takesStretch_33 : decode cX6_takesStretch 33 = .ok (.iconst 3, 1) := by decide +kernel
theorem dX6_takesStretch_34 : decode cX6_takesStretch 34 = .ok (.aload_n 0, 1) := by decide +kernel
theorem dX6_takesStretch_35 : decode cX6_takesStretch 35 = .ok (.getfield 66, 3) := by decide +kernel
theorem dX6_takesStretch_38 : decode cX6_takesStretch 38 = .ok (.invokevirtual 79, 3) := by decide +kernel
theorem dX6_takesStretch_41 : decode cX6_takesStretch 41 = .ok (.ireturn, 1) := by decide +kernel
theorem dX6_takesStretch_42 : decode cX6_takesStretch 42 = .ok (.aload_n 0, 1) := by decide +kernel
theorem dX6_takesStretch_43 : decode cX6_takesStretch 43 = .ok (.dup, 1) := by decide +kernel
theorem dX6_takesStretch_44 : decode cX6_takesStretch 44 = .ok (.getfield 66, 3) := by decide +kernel
theorem dX6_takesStretch_47 : decode cX6_takesStretch 47 = .ok (.iconst 1, 1) := by decide +kernel
theorem dX6_takesStretch_48 : decode cX6_takesStretch 48 = .ok (.iadd, 1) := by decide +kernel
theorem dX6_takesStretch_49 : decode cX6_takesStretch 49 = .ok (.putfield 66, 3) := by decide +kernel
theorem dX6_takesStretch_52 : decode cX6_takesStretch 52 = .ok (.aload_n 0, 1) := by decide +kernel
theorem dX6_takesStretch_53 : decode cX6_takesStretch 53 = .ok (.iconst 0, 1) := by decide +kernel
theorem dX6_takesStretch_54 : decode cX6_takesStretch 54 = .ok (.iconst 2, 1) := by decide +kernel
theorem dX6_takesStretch_55 : decode cX6_takesStretch 55 = .ok (.invokevirtual 93, 3) := by decide +kernel
theorem dX6_takesStretch_58 : decode cX6_takesStretch 58 = .ok (.ifCond .ne 5, 3) := by decide +kernel
theorem dX6_takesStretch_61 : decode cX6_takesStretch 61 = .ok (.iconst 0, 1) := by decide +kernel
theorem dX6_takesStretch_62 : decode cX6_takesStretch 62 = .ok (.ireturn, 1) := by decide +kernel
theorem dX6_takesStretch_63 : decode cX6_takesStretch 63 = .ok (.aload_n 0, 1) := by decide +kernel
theorem dX6_takesStretch_64 : decode cX6_takesStretch 64 = .ok (.getfield 7, 3) := by decide +kernel
theorem dX6_takesStretch_67 : decode cX6_takesStretch 67 = .ok (.sipush 156, 3) := by decide +kernel
theorem dX6_takesStretch_70 : decode cX6_takesStretch 70 = .ok (.aload_n 0, 1) := by decide +kernel
theorem dX6_takesStretch_71 : decode cX6_takesStretch 71 = .ok (.getfield 7, 3) := by decide +kernel
theorem dX6_takesStretch_74 : decode cX6_takesStretch 74 = .ok (.sipush 152, 3) := by decide +kernel
theorem dX6_takesStretch_77 : decode cX6_takesStretch 77 = .ok (.iaload, 1) := by decide +kernel
theorem dX6_takesStretch_78 : decode cX6_takesStretch 78 = .ok (.iadd, 1) := by decide +kernel
theorem dX6_takesStretch_79 : decode cX6_takesStretch 79 = .ok (.aload_n 0, 1) := by decide +kernel
theorem dX6_takesStretch_80 : decode cX6_takesStretch 80 = .ok (.getfield 83, 3) := by decide +kernel
theorem dX6_takesStretch_83 : decode cX6_takesStretch 83 = .ok (.iastore, 1) := by decide +kernel
theorem dX6_takesStretch_84 : decode cX6_takesStretch 84 = .ok (.aload_n 0, 1) := by decide +kernel
theorem dX6_takesStretch_85 : decode cX6_takesStretch 85 = .ok (.getfield 7, 3) := by decide +kernel
theorem dX6_takesStretch_88 : decode cX6_takesStretch 88 = .ok (.sipush 152, 3) := by decide +kernel
theorem dX6_takesStretch_91 : decode cX6_takesStretch 91 = .ok (.dup2, 1) := by decide +kernel
theorem dX6_takesStretch_92 : decode cX6_takesStretch 92 = .ok (.iaload, 1) := by decide +kernel
theorem dX6_takesStretch_93 : decode cX6_takesStretch 93 = .ok (.iconst 1, 1) := by decide +kernel
theorem dX6_takesStretch_94 : decode cX6_takesStretch 94 = .ok (.iadd, 1) := by decide +kernel
theorem dX6_takesStretch_95 : decode cX6_takesStretch 95 = .ok (.iastore, 1) := by decide +kernel
theorem dX6_takesStretch_96 : decode cX6_takesStretch 96 = .ok (.aload_n 0, 1) := by decide +kernel
theorem dX6_takesStretch_97 : decode cX6_takesStretch 97 = .ok (.bipush 59, 2) := by decide +kernel
theorem dX6_takesStretch_99 : decode cX6_takesStretch 99 = .ok (.invokevirtual 90, 3) := by decide +kernel
theorem dX6_takesStretch_102 : decode cX6_takesStretch 102 = .ok (.ireturn, 1) := by decide +kernel
set_option maxRecDepth 20000 in
theorem ggX6_takesPulpit_X6_here : GoodIn wsX6_takesPulpit wsX6_here := goodIn_r _ [8, 2, 9, 10, 34, 35, 36, 37, 38, 39, 40, 41, 42, 43, 44, 45, 46, 47, 48, 49] (by decide +kernel) (by decide +kernel)
set_option maxRecDepth 20000 in
theorem gX6_takesPulpit_X6_here : GoodIn wsX6_takesPulpit (wsV RX6 75 RX6 yX6_here wsX6_here) := goodIn_app (goodIn_of _ (by decide +kernel)) ggX6_takesPulpit_X6_here
set_option maxRecDepth 20000 in
theorem ggX6_takesPulpit_X6_kindOf : GoodIn wsX6_takesPulpit wsX6_kindOf := goodIn_r _ [13] (by decide +kernel) (by decide +kernel)
set_option maxRecDepth 20000 in
theorem gX6_takesPulpit_X6_kindOf : GoodIn wsX6_takesPulpit (va_wsS RX6 96 yX6_kindOf wsX6_kindOf) := goodIn_app (goodIn_of _ (by decide +kernel)) ggX6_takesPulpit_X6_kindOf
set_option maxRecDepth 20000 in
theorem ggX6_takesPulpit_X6_fails : GoodIn wsX6_takesPulpit wsX6_fails := goodIn_r _ [17, 18, 19, 34, 35, 36, 37, 38, 39, 40, 41, 42, 43, 44, 45, 46, 47, 48, 49] (by decide +kernel) (by decide +kernel)
set_option maxRecDepth 20000 in
theorem gX6_takesPulpit_X6_fails : GoodIn wsX6_takesPulpit (wsV RX6 79 RX6 yX6_fails wsX6_fails) := goodIn_app (goodIn_of _ (by decide +kernel)) ggX6_takesPulpit_X6_fails
set_option maxRecDepth 20000 in
theorem ggX6_takesPulpit_X6_takesNumber : GoodIn wsX6_takesPulpit wsX6_takesNumber := goodIn_r _ [23, 2, 3, 24, 25, 26, 4, 5, 6, 7, 8, 9, 10, 27, 28, 29, 14, 15, 16, 17, 18, 19, 34, 35, 36, 37, 38, 39, 40, 41, 42, 43, 44, 45, 46, 47, 48, 49] (by decide +kernel) (by decide +kernel)
set_option maxRecDepth 20000 in
theorem gX6_takesPulpit_X6_takesNumber : GoodIn wsX6_takesPulpit (wsV RX6 93 RX6 yX6_takesNumber wsX6_takesNumber) := goodIn_app (goodIn_of _ (by decide +kernel)) ggX6_takesPulpit_X6_takesNumber
set_option maxRecDepth 20000 in
theorem ggX6_takesPulpit_X6_takes : GoodIn wsX6_takesPulpit wsX6_takes := goodIn_r _ [33, 2, 4, 5, 6, 7, 8, 9, 10, 14, 15, 16, 17, 18, 19, 34, 35, 36, 37, 38, 39, 40, 41, 42, 43, 44, 45, 46, 47, 48, 49] (by decide +kernel) (by decide +kernel)
set_option maxRecDepth 20000 in
theorem gX6_takesPulpit_X6_takes : GoodIn wsX6_takesPulpit (wsV RX6 90 RX6 yX6_takes wsX6_takes) := goodIn_app (goodIn_of _ (by decide +kernel)) ggX6_takesPulpit_X6_takes
theorem dX6_takesPulpit_0 : decode cX6_takesPulpit 0 = .ok (.aload_n 0, 1) := by decide +kernel
theorem dX6_takesPulpit_1 : decode cX6_takesPulpit 1 = .ok (.getfield 7, 3) := by decide +kernel
theorem dX6_takesPulpit_4 : decode cX6_takesPulpit 4 = .ok (.sipush 153, 3) := by decide +kernel
theorem dX6_takesPulpit_7 : decode cX6_takesPulpit 7 = .ok (.iaload, 1) := by decide +kernel
theorem dX6_takesPulpit_8 : decode cX6_takesPulpit 8 = .ok (.istore_n 1, 1) := by decide +kernel
theorem dX6_takesPulpit_9 : decode cX6_takesPulpit 9 = .ok (.aload_n 0, 1) := by decide +kernel
theorem dX6_takesPulpit_10 : decode cX6_takesPulpit 10 = .ok (.invokevirtual 75, 3) := by decide +kernel
theorem dX6_takesPulpit_13 : decode cX6_takesPulpit 13 = .ok (.invokestatic 96, 3) := by decide +kernel
theorem dX6_takesPulpit_16 : decode cX6_takesPulpit 16 = .ok (.istore_n 2, 1) := by decide +kernel
theorem dX6_takesPulpit_17 : decode cX6_takesPulpit 17 = .ok (.iload_n 2, 1) := by decide +kernel
theorem dX6_takesPulpit_18 : decode cX6_takesPulpit 18 = .ok (.ifCond .ne 13, 3) := by decide +kernel
theorem dX6_takesPulpit_21 : decode cX6_takesPulpit 21 = .ok (.aload_n 0, 1) := by decide +kernel
theorem dX6_takesPulpit_22 : decode cX6_takesPulpit 22 = .ok (.iconst 1, 1) := by decide +kernel
theorem dX6_takesPulpit_23 : decode cX6_takesPulpit 23 = .ok (.aload_n 0, 1) := by decide +kernel
theorem dX6_takesPulpit_24 : decode cX6_takesPulpit 24 = .ok (.getfield 66, 3) := by decide +kernel
theorem dX6_takesPulpit_27 : decode cX6_takesPulpit 27 = .ok (.invokevirtual 79, 3) := by decide +kernel
theorem dX6_takesPulpit_30 : decode cX6_takesPulpit 30 = .ok (.ireturn, 1) := by decide +kernel
theorem dX6_takesPulpit_31 : decode cX6_takesPulpit 31 = .ok (.iload_n 1, 1) := by decide +kernel
theorem dX6_takesPulpit_32 : decode cX6_takesPulpit 32 = .ok (.iconst 5, 1) := by decide +kernel
theorem dX6_takesPulpit_33 : decode cX6_takesPulpit 33 = .ok (.if_icmp .ne 13, 3) := by decide +kernel
theorem dX6_takesPulpit_36 : decode cX6_takesPulpit 36 = .ok (.aload_n 0, 1) := by decide +kernel
theorem dX6_takesPulpit_37 : decode cX6_takesPulpit 37 = .ok (.iconst 3, 1) := by decide +kernel
theorem dX6_takesPulpit_38 : decode cX6_takesPulpit 38 = .ok (.aload_n 0, 1) := by decide +kernel
theorem dX6_takesPulpit_39 : decode cX6_takesPulpit 39 = .ok (.getfield 66, 3) := by decide +kernel
theorem dX6_takesPulpit_42 : decode cX6_takesPulpit 42 = .ok (.invokevirtual 79, 3) := by decide +kernel
theorem dX6_takesPulpit_45 : decode cX6_takesPulpit 45 = .ok (.ireturn, 1) := by decide +kernel
theorem dX6_takesPulpit_46 : decode cX6_takesPulpit 46 = .ok (.aload_n 0, 1) := by decide +kernel
theorem dX6_takesPulpit_47 : decode cX6_takesPulpit 47 = .ok (.dup, 1) := by decide +kernel
theorem dX6_takesPulpit_48 : decode cX6_takesPulpit 48 = .ok (.getfield 66, 3) := by decide +kernel
theorem dX6_takesPulpit_51 : decode cX6_takesPulpit 51 = .ok (.iconst 1, 1) := by decide +kernel
theorem dX6_takesPulpit_52 : decode cX6_takesPulpit 52 = .ok (.iadd, 1) := by decide +kernel
theorem dX6_takesPulpit_53 : decode cX6_takesPulpit 53 = .ok (.putfield 66, 3) := by decide +kernel
theorem dX6_takesPulpit_56 : decode cX6_takesPulpit 56 = .ok (.aload_n 0, 1) := by decide +kernel
theorem dX6_takesPulpit_57 : decode cX6_takesPulpit 57 = .ok (.getfield 7, 3) := by decide +kernel
theorem dX6_takesPulpit_60 : decode cX6_takesPulpit 60 = .ok (.sipush 165, 3) := by decide +kernel
theorem dX6_takesPulpit_63 : decode cX6_takesPulpit 63 = .ok (.iload_n 1, 1) := by decide +kernel
theorem dX6_takesPulpit_64 : decode cX6_takesPulpit 64 = .ok (.iadd, 1) := by decide +kernel
theorem dX6_takesPulpit_65 : decode cX6_takesPulpit 65 = .ok (.iload_n 2, 1) := by decide +kernel
theorem dX6_takesPulpit_66 : decode cX6_takesPulpit 66 = .ok (.iastore, 1) := by decide +kernel
theorem dX6_takesPulpit_67 : decode cX6_takesPulpit 67 = .ok (.aload_n 0, 1) := by decide +kernel
theorem dX6_takesPulpit_68 : decode cX6_takesPulpit 68 = .ok (.iconst 0, 1) := by decide +kernel
theorem dX6_takesPulpit_69 : decode cX6_takesPulpit 69 = .ok (.aload_n 0, 1) := by decide +kernel
theorem dX6_takesPulpit_70 : decode cX6_takesPulpit 70 = .ok (.getfield 7, 3) := by decide +kernel
theorem dX6_takesPulpit_73 : decode cX6_takesPulpit 73 = .ok (.sipush 152, 3) := by decide +kernel
theorem dX6_takesPulpit_76 : decode cX6_takesPulpit 76 = .ok (.iaload, 1) := by decide +kernel
theorem dX6_takesPulpit_77 : decode cX6_takesPulpit 77 = .ok (.iconst 1, 1) := by decide +kernel
theorem dX6_takesPulpit_78 : decode cX6_takesPulpit 78 = .ok (.isub, 1) := by decide +kernel
theorem dX6_takesPulpit_79 : decode cX6_takesPulpit 79 = .ok (.invokevirtual 93, 3) := by decide +kernel
theorem dX6_takesPulpit_82 : decode cX6_takesPulpit 82 = .ok (.ifCond .ne 5, 3) := by decide +kernel
theorem dX6_takesPulpit_85 : decode cX6_takesPulpit 85 = .ok (.iconst 0, 1) := by decide +kernel
theorem dX6_takesPulpit_86 : decode cX6_takesPulpit 86 = .ok (.ireturn, 1) := by decide +kernel
theorem dX6_takesPulpit_87 : decode cX6_takesPulpit 87 = .ok (.aload_n 0, 1) := by decide +kernel
theorem dX6_takesPulpit_88 : decode cX6_takesPulpit 88 = .ok (.getfield 7, 3) := by decide +kernel
theorem dX6_takesPulpit_91 : decode cX6_takesPulpit 91 = .ok (.sipush 171, 3) := by decide +kernel
theorem dX6_takesPulpit_94 : decode cX6_takesPulpit 94 = .ok (.iload_n 1, 1) := by decide +kernel
theorem dX6_takesPulpit_95 : decode cX6_takesPulpit 95 = .ok (.iadd, 1) := by decide +kernel
theorem dX6_takesPulpit_96 : decode cX6_takesPulpit 96 = .ok (.aload_n 0, 1) := by decide +kernel
theorem dX6_takesPulpit_97 : decode cX6_takesPulpit 97 = .ok (.getfield 83, 3) := by decide +kernel
theorem dX6_takesPulpit_100 : decode cX6_takesPulpit 100 = .ok (.iastore, 1) := by decide +kernel
theorem dX6_takesPulpit_101 : decode cX6_takesPulpit 101 = .ok (.aload_n 0, 1) := by decide +kernel
theorem dX6_takesPulpit_102 : decode cX6_takesPulpit 102 = .ok (.bipush 44, 2) := by decide +kernel
theorem dX6_takesPulpit_104 : decode cX6_takesPulpit 104 = .ok (.invokevirtual 90, 3) := by decide +kernel
theorem dX6_takesPulpit_107 : decode cX6_takesPulpit 107 = .ok (.ifCond .eq 21, 3) := by decide +kernel
theorem dX6_takesPulpit_110 : decode cX6_takesPulpit 110 = .ok (.aload_n 0, 1) := by decide +kernel
theorem dX6_takesPulpit_111 : decode cX6_takesPulpit 111 = .ok (.iconst 0, 1) := by decide +kernel
theorem dX6_takesPulpit_112 : decode cX6_takesPulpit 112 = .ok (.aload_n 0, 1) := by decide +kernel
theorem dX6_takesPulpit_113 : decode cX6_takesPulpit 113 = .ok (.getfield 7, 3) := by decide +kernel
theorem dX6_takesPulpit_116 : decode cX6_takesPulpit 116 = .ok (.sipush 154, 3) := by decide +kernel
theorem dX6_takesPulpit_119 : decode cX6_takesPulpit 119 = .ok (.iaload, 1) := by decide +kernel
theorem dX6_takesPulpit_120 : decode cX6_takesPulpit 120 = .ok (.iconst 1, 1) := by decide +kernel
theorem dX6_takesPulpit_121 : decode cX6_takesPulpit 121 = .ok (.isub, 1) := by decide +kernel
theorem dX6_takesPulpit_122 : decode cX6_takesPulpit 122 = .ok (.invokevirtual 93, 3) := by decide +kernel
theorem dX6_takesPulpit_125 : decode cX6_takesPulpit 125 = .ok (.ifCond .ne 5, 3) := by decide +kernel
theorem dX6_takesPulpit_128 : decode cX6_takesPulpit 128 = .ok (.iconst 0, 1) := by decide +kernel
theorem dX6_takesPulpit_129 : decode cX6_takesPulpit 129 = .ok (.ireturn, 1) := by decide +kernel
theorem dX6_takesPulpit_130 : decode cX6_takesPulpit 130 = .ok (.aload_n 0, 1) := by decide +kernel
theorem dX6_takesPulpit_131 : decode cX6_takesPulpit 131 = .ok (.getfield 7, 3) := by decide +kernel
theorem dX6_takesPulpit_134 : decode cX6_takesPulpit 134 = .ok (.sipush 176, 3) := by decide +kernel
theorem dX6_takesPulpit_137 : decode cX6_takesPulpit 137 = .ok (.iload_n 1, 1) := by decide +kernel
theorem dX6_takesPulpit_138 : decode cX6_takesPulpit 138 = .ok (.iadd, 1) := by decide +kernel
theorem dX6_takesPulpit_139 : decode cX6_takesPulpit 139 = .ok (.aload_n 0, 1) := by decide +kernel
theorem dX6_takesPulpit_140 : decode cX6_takesPulpit 140 = .ok (.getfield 83, 3) := by decide +kernel
theorem dX6_takesPulpit_143 : decode cX6_takesPulpit 143 = .ok (.iastore, 1) := by decide +kernel
theorem dX6_takesPulpit_144 : decode cX6_takesPulpit 144 = .ok (.aload_n 0, 1) := by decide +kernel
theorem dX6_takesPulpit_145 : decode cX6_takesPulpit 145 = .ok (.getfield 7, 3) := by decide +kernel
theorem dX6_takesPulpit_148 : decode cX6_takesPulpit 148 = .ok (.sipush 153, 3) := by decide +kernel
theorem dX6_takesPulpit_151 : decode cX6_takesPulpit 151 = .ok (.dup2, 1) := by decide +kernel
theorem dX6_takesPulpit_152 : decode cX6_takesPulpit 152 = .ok (.iaload, 1) := by decide +kernel
theorem dX6_takesPulpit_153 : decode cX6_takesPulpit 153 = .ok (.iconst 1, 1) := by decide +kernel
theorem dX6_takesPulpit_154 : decode cX6_takesPulpit 154 = .ok (.iadd, 1) := by decide +kernel
theorem dX6_takesPulpit_155 : decode cX6_takesPulpit 155 = .ok (.iastore, 1) := by decide +kernel
theorem dX6_takesPulpit_156 : decode cX6_takesPulpit 156 = .ok (.aload_n 0, 1) := by decide +kernel
theorem dX6_takesPulpit_157 : decode cX6_takesPulpit 157 = .ok (.bipush 59, 2) := by decide +kernel
theorem dX6_takesPulpit_159 : decode cX6_takesPulpit 159 = .ok (.invokevirtual 90, 3) := by decide +kernel
theorem dX6_takesPulpit_162 : decode cX6_takesPulpit 162 = .ok (.ireturn, 1) := by decide +kernel
set_option maxRecDepth 20000 in
theorem ggX6_takesAll_X6_takesLaw : GoodIn wsX6_takesAll wsX6_takesLaw := goodIn_r _ [8, 1, 9, 10, 11, 12, 7, 13, 2, 14, 15, 16, 17, 3, 18, 19, 20, 21, 22, 23, 24, 25, 26, 27, 28, 29, 30, 31, 32, 33, 34, 46, 47, 48, 49, 50, 51, 52, 53, 54, 55, 56, 57, 58, 59, 60, 61] (by decide +kernel) (by decide +kernel)
set_option maxRecDepth 20000 in
theorem gX6_takesAll_X6_takesLaw : GoodIn wsX6_takesAll (wsV RX6 99 RX6 yX6_takesLaw wsX6_takesLaw) := goodIn_app (goodIn_of _ (by decide +kernel)) ggX6_takesAll_X6_takesLaw
set_option maxRecDepth 20000 in
theorem ggX6_takesAll_X6_here : GoodIn wsX6_takesAll wsX6_here := goodIn_r _ [17, 2, 3, 18, 46, 47, 48, 49, 50, 51, 52, 53, 54, 55, 56, 57, 58, 59, 60, 61] (by decide +kernel) (by decide +kernel)
set_option maxRecDepth 20000 in
theorem gX6_takesAll_X6_here : GoodIn wsX6_takesAll (wsV RX6 75 RX6 yX6_here wsX6_here) := goodIn_app (goodIn_of _ (by decide +kernel)) ggX6_takesAll_X6_here
set_option maxRecDepth 20000 in
theorem ggX6_takesAll_X6_takesStretch : GoodIn wsX6_takesAll wsX6_takesStretch := goodIn_r _ [38, 2, 1, 9, 14, 15, 16, 7, 17, 3, 18, 19, 20, 21, 22, 23, 24, 25, 26, 27, 28, 29, 30, 31, 32, 33, 34, 10, 11, 12, 13, 46, 47, 48, 49, 50, 51, 52, 53, 54, 55, 56, 57, 58, 59, 60, 61] (by decide +kernel) (by decide +kernel)
set_option maxRecDepth 20000 in
theorem gX6_takesAll_X6_takesStretch : GoodIn wsX6_takesAll (wsV RX6 103 RX6 yX6_takesStretch wsX6_takesStretch) := goodIn_app (goodIn_of _ (by decide +kernel)) ggX6_takesAll_X6_takesStretch
set_option maxRecDepth 20000 in
theorem ggX6_takesAll_X6_takesPulpit : GoodIn wsX6_takesAll wsX6_takesPulpit := goodIn_r _ [42, 1, 2, 9, 14, 15, 16, 7, 17, 3, 18, 43, 44, 45, 19, 20, 21, 22, 23, 24, 25, 26, 27, 28, 29, 30, 31, 32, 33, 34, 10, 11, 12, 13, 46, 47, 48, 49, 50, 51, 52, 53, 54, 55, 56, 57, 58, 59, 60, 61] (by decide +kernel) (by decide +kernel)
set_option maxRecDepth 20000 in
theorem gX6_takesAll_X6_takesPulpit : GoodIn wsX6_takesAll (wsV RX6 106 RX6 yX6_takesPulpit wsX6_takesPulpit) := goodIn_app (goodIn_of _ (by decide +kernel)) ggX6_takesAll_X6_takesPulpit
theorem dX6_takesAll_0 : decode cX6_takesAll 0 = .ok (.aload_n 0, 1) := by decide +kernel
theorem dX6_takesAll_1 : decode cX6_takesAll 1 = .ok (.invokevirtual 99, 3) := by decide +kernel
theorem dX6_takesAll_4 : decode cX6_takesAll 4 = .ok (.ifCond .ne 5, 3) := by decide +kernel
theorem dX6_takesAll_7 : decode cX6_takesAll 7 = .ok (.iconst 0, 1) := by decide +kernel
theorem dX6_takesAll_8 : decode cX6_takesAll 8 = .ok (.ireturn, 1) := by decide +kernel
theorem dX6_takesAll_9 : decode cX6_takesAll 9 = .ok (.aload_n 0, 1) := by decide +kernel
theorem dX6_takesAll_10 : decode cX6_takesAll 10 = .ok (.getfield 7, 3) := by decide +kernel
theorem dX6_takesAll_13 : decode cX6_takesAll 13 = .ok (.sipush 152, 3) := by decide +kernel
theorem dX6_takesAll_16 : decode cX6_takesAll 16 = .ok (.iaload, 1) := by decide +kernel
theorem dX6_takesAll_17 : decode cX6_takesAll 17 = .ok (.iconst 3, 1) := by decide +kernel
theorem dX6_takesAll_18 : decode cX6_takesAll 18 = .ok (.if_icmp .lt 12, 3) := by decide +kernel
theorem dX6_takesAll_21 : decode cX6_takesAll 21 = .ok (.aload_n 0, 1) := by decide +kernel
theorem dX6_takesAll_22 : decode cX6_takesAll 22 = .ok (.invokevirtual 75, 3) := by decide +kernel
theorem dX6_takesAll_25 : decode cX6_takesAll 25 = .ok (.bipush 114, 2) := by decide +kernel
theorem dX6_takesAll_27 : decode cX6_takesAll 27 = .ok (.if_icmp .ne 12, 3) := by decide +kernel
theorem dX6_takesAll_30 : decode cX6_takesAll 30 = .ok (.aload_n 0, 1) := by decide +kernel
theorem dX6_takesAll_31 : decode cX6_takesAll 31 = .ok (.invokevirtual 103, 3) := by decide +kernel
theorem dX6_takesAll_34 : decode cX6_takesAll 34 = .ok (.ifCond .ne (-25), 3) := by decide +kernel
theorem dX6_takesAll_37 : decode cX6_takesAll 37 = .ok (.iconst 0, 1) := by decide +kernel
theorem dX6_takesAll_38 : decode cX6_takesAll 38 = .ok (.ireturn, 1) := by decide +kernel
theorem dX6_takesAll_39 : decode cX6_takesAll 39 = .ok (.aload_n 0, 1) := by decide +kernel
theorem dX6_takesAll_40 : decode cX6_takesAll 40 = .ok (.getfield 66, 3) := by decide +kernel
theorem dX6_takesAll_43 : decode cX6_takesAll 43 = .ok (.aload_n 0, 1) := by decide +kernel
theorem dX6_takesAll_44 : decode cX6_takesAll 44 = .ok (.getfield 62, 3) := by decide +kernel
theorem dX6_takesAll_47 : decode cX6_takesAll 47 = .ok (.if_icmp .ge 12, 3) := by decide +kernel
theorem dX6_takesAll_50 : decode cX6_takesAll 50 = .ok (.aload_n 0, 1) := by decide +kernel
theorem dX6_takesAll_51 : decode cX6_takesAll 51 = .ok (.invokevirtual 106, 3) := by decide +kernel
theorem dX6_takesAll_54 : decode cX6_takesAll 54 = .ok (.ifCond .ne (-15), 3) := by decide +kernel
theorem dX6_takesAll_57 : decode cX6_takesAll 57 = .ok (.iconst 0, 1) := by decide +kernel
theorem dX6_takesAll_58 : decode cX6_takesAll 58 = .ok (.ireturn, 1) := by decide +kernel
theorem dX6_takesAll_59 : decode cX6_takesAll 59 = .ok (.iconst 1, 1) := by decide +kernel
theorem dX6_takesAll_60 : decode cX6_takesAll 60 = .ok (.ireturn, 1) := by decide +kernel
set_option maxRecDepth 20000 in
theorem ggX6_road_X6_takesAll : GoodIn wsX6_road wsX6_takesAll := goodIn_r _ [11, 1, 2, 3, 12, 13, 14, 10, 15, 16, 17, 18, 19, 20, 21, 22, 23, 24, 25, 26, 27, 28, 29, 30, 5, 31, 32, 33, 34, 35, 36, 37, 38, 39, 40, 41, 42, 43, 44, 45, 46, 47, 48, 49, 50, 51, 56, 57, 58, 59, 60, 61, 62, 63, 64, 65, 66, 67, 68, 69, 70, 71] (by decide +kernel) (by decide +kernel)
set_option maxRecDepth 20000 in
theorem gX6_road_X6_takesAll : GoodIn wsX6_road (wsV RX6 109 RX6 yX6_takesAll wsX6_takesAll) := goodIn_app (goodIn_of _ (by decide +kernel)) ggX6_road_X6_takesAll
set_option maxRecDepth 20000 in
theorem ggX6_road_X6_copyOf : GoodIn wsX6_road wsX6_copyOf := goodIn_r _ [55, 1, 56, 57, 58, 59, 60, 61, 62, 63, 64, 65, 66, 67, 68, 69, 70, 71] (by decide +kernel) (by decide +kernel)
set_option maxRecDepth 20000 in
theorem gX6_road_X6_copyOf : GoodIn wsX6_road (wsV RX6 113 RX6 yX6_copyOf wsX6_copyOf) := goodIn_app (goodIn_of _ (by decide +kernel)) ggX6_road_X6_copyOf
theorem dX6_road_0 : decode cX6_road 0 = .ok (.iconst 0, 1) := by decide +kernel
theorem dX6_road_1 : decode cX6_road 1 = .ok (.istore_n 1, 1) := by decide +kernel
theorem dX6_road_2 : decode cX6_road 2 = .ok (.iload_n 1, 1) := by decide +kernel
theorem dX6_road_3 : decode cX6_road 3 = .ok (.bipush 38, 2) := by decide +kernel
theorem dX6_road_5 : decode cX6_road 5 = .ok (.if_icmp .ge 20, 3) := by decide +kernel
theorem dX6_road_8 : decode cX6_road 8 = .ok (.aload_n 0, 1) := by decide +kernel
theorem dX6_road_9 : decode cX6_road 9 = .ok (.getfield 7, 3) := by decide +kernel
theorem dX6_road_12 : decode cX6_road 12 = .ok (.sipush 152, 3) := by decide +kernel
theorem dX6_road_15 : decode cX6_road 15 = .ok (.iload_n 1, 1) := by decide +kernel
theorem dX6_road_16 : decode cX6_road 16 = .ok (.iadd, 1) := by decide +kernel
theorem dX6_road_17 : decode cX6_road 17 = .ok (.iconst 0, 1) := by decide +kernel
theorem dX6_road_18 : decode cX6_road 18 = .ok (.iastore, 1) := by decide +kernel
theorem dX6_road_19 : decode cX6_road 19 = .ok (.iinc 1 1, 3) := by decide +kernel
theorem dX6_road_22 : decode cX6_road 22 = .ok (.goto (-20), 3) := by decide +kernel
theorem dX6_road_25 : decode cX6_road 25 = .ok (.aload_n 0, 1) := by decide +kernel
theorem dX6_road_26 : decode cX6_road 26 = .ok (.iconst 0, 1) := by decide +kernel
theorem dX6_road_27 : decode cX6_road 27 = .ok (.putfield 66, 3) := by decide +kernel
theorem dX6_road_30 : decode cX6_road 30 = .ok (.aload_n 0, 1) := by decide +kernel
theorem dX6_road_31 : decode cX6_road 31 = .ok (.invokevirtual 109, 3) := by decide +kernel
theorem dX6_road_34 : decode cX6_road 34 = .ok (.istore_n 1, 1) := by decide +kernel
theorem dX6_road_35 : decode cX6_road 35 = .ok (.aload_n 0, 1) := by decide +kernel
theorem dX6_road_36 : decode cX6_road 36 = .ok (.iconst 0, 1) := by decide +kernel
theorem dX6_road_37 : decode cX6_road 37 = .ok (.putfield 62, 3) := by decide +kernel
theorem dX6_road_40 : decode cX6_road 40 = .ok (.iload_n 1, 1) := by decide +kernel
theorem dX6_road_41 : decode cX6_road 41 = .ok (.ifCond .ne 11, 3) := by decide +kernel
theorem dX6_road_44 : decode cX6_road 44 = .ok (.ldc 112, 2) := by decide +kernel
theorem dX6_road_46 : decode cX6_road 46 = .ok (.aload_n 0, 1) := by decide +kernel
theorem dX6_road_47 : decode cX6_road 47 = .ok (.getfield 72, 3) := by decide +kernel
theorem dX6_road_50 : decode cX6_road 50 = .ok (.isub, 1) := by decide +kernel
theorem dX6_road_51 : decode cX6_road 51 = .ok (.ireturn, 1) := by decide +kernel
theorem dX6_road_52 : decode cX6_road 52 = .ok (.aload_n 0, 1) := by decide +kernel
theorem dX6_road_53 : decode cX6_road 53 = .ok (.sipush 152, 3) := by decide +kernel
theorem dX6_road_56 : decode cX6_road 56 = .ok (.iconst 0, 1) := by decide +kernel
theorem dX6_road_57 : decode cX6_road 57 = .ok (.bipush 38, 2) := by decide +kernel
theorem dX6_road_59 : decode cX6_road 59 = .ok (.invokevirtual 113, 3) := by decide +kernel
theorem dX6_road_62 : decode cX6_road 62 = .ok (.aload_n 0, 1) := by decide +kernel
theorem dX6_road_63 : decode cX6_road 63 = .ok (.iconst 0, 1) := by decide +kernel
theorem dX6_road_64 : decode cX6_road 64 = .ok (.putfield 117, 3) := by decide +kernel
theorem dX6_road_67 : decode cX6_road 67 = .ok (.aload_n 0, 1) := by decide +kernel
theorem dX6_road_68 : decode cX6_road 68 = .ok (.getfield 7, 3) := by decide +kernel
theorem dX6_road_71 : decode cX6_road 71 = .ok (.iconst 1, 1) := by decide +kernel
theorem dX6_road_72 : decode cX6_road 72 = .ok (.iaload, 1) := by decide +kernel
theorem dX6_road_73 : decode cX6_road 73 = .ok (.ireturn, 1) := by decide +kernel
theorem dX6_fault_0 : decode cX6_fault 0 = .ok (.aload_n 0, 1) := by decide +kernel
theorem dX6_fault_1 : decode cX6_fault 1 = .ok (.getfield 69, 3) := by decide +kernel
theorem dX6_fault_4 : decode cX6_fault 4 = .ok (.ireturn, 1) := by decide +kernel
theorem dX6_saysMany_0 : decode cX6_saysMany 0 = .ok (.aload_n 0, 1) := by decide +kernel
theorem dX6_saysMany_1 : decode cX6_saysMany 1 = .ok (.getfield 7, 3) := by decide +kernel
theorem dX6_saysMany_4 : decode cX6_saysMany 4 = .ok (.iload_n 1, 1) := by decide +kernel
theorem dX6_saysMany_5 : decode cX6_saysMany 5 = .ok (.iconst 4, 1) := by decide +kernel
theorem dX6_saysMany_6 : decode cX6_saysMany 6 = .ok (.iadd, 1) := by decide +kernel
theorem dX6_saysMany_7 : decode cX6_saysMany 7 = .ok (.aload_n 0, 1) := by decide +kernel
theorem dX6_saysMany_8 : decode cX6_saysMany 8 = .ok (.getfield 7, 3) := by decide +kernel
theorem dX6_saysMany_11 : decode cX6_saysMany 11 = .ok (.iload_n 1, 1) := by decide +kernel
theorem dX6_saysMany_12 : decode cX6_saysMany 12 = .ok (.bipush 19, 2) := by decide +kernel
theorem dX6_saysMany_14 : decode cX6_saysMany 14 = .ok (.iadd, 1) := by decide +kernel
theorem dX6_saysMany_15 : decode cX6_saysMany 15 = .ok (.iload_n 2, 1) := by decide +kernel
theorem dX6_saysMany_16 : decode cX6_saysMany 16 = .ok (.iadd, 1) := by decide +kernel
theorem dX6_saysMany_17 : decode cX6_saysMany 17 = .ok (.iaload, 1) := by decide +kernel
theorem dX6_saysMany_18 : decode cX6_saysMany 18 = .ok (.iadd, 1) := by decide +kernel
theorem dX6_saysMany_19 : decode cX6_saysMany 19 = .ok (.iaload, 1) := by decide +kernel
theorem dX6_saysMany_20 : decode cX6_saysMany 20 = .ok (.istore_n 3, 1) := by decide +kernel
theorem dX6_saysMany_21 : decode cX6_saysMany 21 = .ok (.aload_n 0, 1) := by decide +kernel
theorem dX6_saysMany_22 : decode cX6_saysMany 22 = .ok (.getfield 7, 3) := by decide +kernel
theorem dX6_saysMany_25 : decode cX6_saysMany 25 = .ok (.iload_n 1, 1) := by decide +kernel
theorem dX6_saysMany_26 : decode cX6_saysMany 26 = .ok (.bipush 13, 2) := by decide +kernel
theorem dX6_saysMany_28 : decode cX6_saysMany 28 = .ok (.iadd, 1) := by decide +kernel
theorem dX6_saysMany_29 : decode cX6_saysMany 29 = .ok (.iload_n 2, 1) := by decide +kernel
theorem dX6_saysMany_30 : decode cX6_saysMany 30 = .ok (.iadd, 1) := by decide +kernel
theorem dX6_saysMany_31 : decode cX6_saysMany 31 = .ok (.iaload, 1) := by decide +kernel
theorem dX6_saysMany_32 : decode cX6_saysMany 32 = .ok (.iconst 4, 1) := by decide +kernel
theorem dX6_saysMany_33 : decode cX6_saysMany 33 = .ok (.if_icmp .ne 7, 3) := by decide +kernel
theorem dX6_saysMany_36 : decode cX6_saysMany 36 = .ok (.iconst 0, 1) := by decide +kernel
theorem dX6_saysMany_37 : decode cX6_saysMany 37 = .ok (.goto 21, 3) := by decide +kernel
theorem dX6_saysMany_40 : decode cX6_saysMany 40 = .ok (.iload_n 3, 1) := by decide +kernel
theorem dX6_saysMany_41 : decode cX6_saysMany 41 = .ok (.ifCond .ne 7, 3) := by decide +kernel
theorem dX6_saysMany_44 : decode cX6_saysMany 44 = .ok (.iconst 3, 1) := by decide +kernel
theorem dX6_saysMany_45 : decode cX6_saysMany 45 = .ok (.goto 13, 3) := by decide +kernel
theorem dX6_saysMany_48 : decode cX6_saysMany 48 = .ok (.iload_n 3, 1) := by decide +kernel
theorem dX6_saysMany_49 : decode cX6_saysMany 49 = .ok (.iconst 1, 1) := by decide +kernel
theorem dX6_saysMany_50 : decode cX6_saysMany 50 = .ok (.if_icmp .ne 7, 3) := by decide +kernel
theorem dX6_saysMany_53 : decode cX6_saysMany 53 = .ok (.iconst 1, 1) := by decide +kernel
theorem dX6_saysMany_54 : decode cX6_saysMany 54 = .ok (.goto 4, 3) := by decide +kernel
theorem dX6_saysMany_57 : decode cX6_saysMany 57 = .ok (.iconst 4, 1) := by decide +kernel
theorem dX6_saysMany_58 : decode cX6_saysMany 58 = .ok (.ireturn, 1) := by decide +kernel
set_option maxRecDepth 20000 in
theorem ggX6_saysIn_X6_saysMany : GoodIn wsX6_saysIn wsX6_saysMany := goodIn_r _ [6, 1, 7, 8, 9, 10, 11, 12, 13, 14, 15, 16, 17, 18, 19, 20, 21, 22] (by decide +kernel) (by decide +kernel)
set_option maxRecDepth 20000 in
theorem gX6_saysIn_X6_saysMany : GoodIn wsX6_saysIn (wsV RX6 120 RX6 yX6_saysMany wsX6_saysMany) := goodIn_app (goodIn_of _ (by decide +kernel)) ggX6_saysIn_X6_saysMany
theorem dX6_saysIn_0 : decode cX6_saysIn 0 = .ok (.iconst 0, 1) := by decide +kernel
theorem dX6_saysIn_1 : decode cX6_saysIn 1 = .ok (.istore_n 3, 1) := by decide +kernel
theorem dX6_saysIn_2 : decode cX6_saysIn 2 = .ok (.aload_n 0, 1) := by decide +kernel
theorem dX6_saysIn_3 : decode cX6_saysIn 3 = .ok (.getfield 7, 3) := by decide +kernel
theorem dX6_saysIn_6 : decode cX6_saysIn 6 = .ok (.iload_n 1, 1) := by decide +kernel
theorem dX6_saysIn_7 : decode cX6_saysIn 7 = .ok (.iconst 2, 1) := by decide +kernel
theorem dX6_saysIn_8 : decode cX6_saysIn 8 = .ok (.iadd, 1) := by decide +kernel
theorem dX6_saysIn_9 : decode cX6_saysIn 9 = .ok (.iaload, 1) := by decide +kernel
theorem dX6_saysIn_10 : decode cX6_saysIn 10 = .ok (.istore 4, 2) := by decide +kernel
theorem dX6_saysIn_12 : decode cX6_saysIn 12 = .ok (.aload_n 0, 1) := by decide +kernel
theorem dX6_saysIn_13 : decode cX6_saysIn 13 = .ok (.getfield 7, 3) := by decide +kernel
theorem dX6_saysIn_16 : decode cX6_saysIn 16 = .ok (.iload_n 1, 1) := by decide +kernel
theorem dX6_saysIn_17 : decode cX6_saysIn 17 = .ok (.bipush 13, 2) := by decide +kernel
theorem dX6_saysIn_19 : decode cX6_saysIn 19 = .ok (.iadd, 1) := by decide +kernel
theorem dX6_saysIn_20 : decode cX6_saysIn 20 = .ok (.iload_n 2, 1) := by decide +kernel
theorem dX6_saysIn_21 : decode cX6_saysIn 21 = .ok (.iadd, 1) := by decide +kernel
theorem dX6_saysIn_22 : decode cX6_saysIn 22 = .ok (.iaload, 1) := by decide +kernel
theorem dX6_saysIn_23 : decode cX6_saysIn 23 = .ok (.iconst 5, 1) := by decide +kernel
theorem dX6_saysIn_24 : decode cX6_saysIn 24 = .ok (.if_icmp .ne 10, 3) := by decide +kernel
theorem dX6_saysIn_27 : decode cX6_saysIn 27 = .ok (.iload 4, 2) := by decide +kernel
theorem dX6_saysIn_29 : decode cX6_saysIn 29 = .ok (.iconst 1, 1) := by decide +kernel
theorem dX6_saysIn_30 : decode cX6_saysIn 30 = .ok (.isub, 1) := by decide +kernel
theorem dX6_saysIn_31 : decode cX6_saysIn 31 = .ok (.goto 4, 3) := by decide +kernel
theorem dX6_saysIn_34 : decode cX6_saysIn 34 = .ok (.iconst 1, 1) := by decide +kernel
theorem dX6_saysIn_35 : decode cX6_saysIn 35 = .ok (.istore 5, 2) := by decide +kernel
theorem dX6_saysIn_37 : decode cX6_saysIn 37 = .ok (.iconst 0, 1) := by decide +kernel
theorem dX6_saysIn_38 : decode cX6_saysIn 38 = .ok (.istore 6, 2) := by decide +kernel
theorem dX6_saysIn_40 : decode cX6_saysIn 40 = .ok (.iload 6, 2) := by decide +kernel
theorem dX6_saysIn_42 : decode cX6_saysIn 42 = .ok (.aload_n 0, 1) := by decide +kernel
theorem dX6_saysIn_43 : decode cX6_saysIn 43 = .ok (.iload_n 1, 1) := by decide +kernel
theorem dX6_saysIn_44 : decode cX6_saysIn 44 = .ok (.iload_n 2, 1) := by decide +kernel
theorem dX6_saysIn_45 : decode cX6_saysIn 45 = .ok (.invokevirtual 120, 3) := by decide +kernel
theorem dX6_saysIn_48 : decode cX6_saysIn 48 = .ok (.if_icmp .ge 34, 3) := by decide +kernel
theorem dX6_saysIn_51 : decode cX6_saysIn 51 = .ok (.iload_n 3, 1) := by decide +kernel
theorem dX6_saysIn_52 : decode cX6_saysIn 52 = .ok (.iconst 1, 1) := by decide +kernel
theorem dX6_saysIn_53 : decode cX6_saysIn 53 = .ok (.aload_n 0, 1) := by decide +kernel
theorem dX6_saysIn_54 : decode cX6_saysIn 54 = .ok (.getfield 7, 3) := by decide +kernel
theorem dX6_saysIn_57 : decode cX6_saysIn 57 = .ok (.iload_n 1, 1) := by decide +kernel
theorem dX6_saysIn_58 : decode cX6_saysIn 58 = .ok (.bipush 24, 2) := by decide +kernel
theorem dX6_saysIn_60 : decode cX6_saysIn 60 = .ok (.iadd, 1) := by decide +kernel
theorem dX6_saysIn_61 : decode cX6_saysIn 61 = .ok (.iload_n 2, 1) := by decide +kernel
theorem dX6_saysIn_62 : decode cX6_saysIn 62 = .ok (.iadd, 1) := by decide +kernel
theorem dX6_saysIn_63 : decode cX6_saysIn 63 = .ok (.iaload, 1) := by decide +kernel
theorem dX6_saysIn_64 : decode cX6_saysIn 64 = .ok (.iload 5, 2) := by decide +kernel
theorem dX6_saysIn_66 : decode cX6_saysIn 66 = .ok (.iload 6, 2) := by decide +kernel
theorem dX6_saysIn_68 : decode cX6_saysIn 68 = .ok (.imul, 1) := by decide +kernel
theorem dX6_saysIn_69 : decode cX6_saysIn 69 = .ok (.iadd, 1) := by decide +kernel
theorem dX6_saysIn_70 : decode cX6_saysIn 70 = .ok (.iload 4, 2) := by decide +kernel
theorem dX6_saysIn_72 : decode cX6_saysIn 72 = .ok (.irem, 1) := by decide +kernel
theorem dX6_saysIn_73 : decode cX6_saysIn 73 = .ok (.ishl, 1) := by decide +kernel
theorem dX6_saysIn_74 : decode cX6_saysIn 74 = .ok (.ior, 1) := by decide +kernel
theorem dX6_saysIn_75 : decode cX6_saysIn 75 = .ok (.istore_n 3, 1) := by decide +kernel
theorem dX6_saysIn_76 : decode cX6_saysIn 76 = .ok (.iinc 6 1, 3) := by decide +kernel
theorem dX6_saysIn_79 : decode cX6_saysIn 79 = .ok (.goto (-39), 3) := by decide +kernel
theorem dX6_saysIn_82 : decode cX6_saysIn 82 = .ok (.iload_n 3, 1) := by decide +kernel
theorem dX6_saysIn_83 : decode cX6_saysIn 83 = .ok (.ireturn, 1) := by decide +kernel
set_option maxRecDepth 20000 in
theorem ggX6_passes_X6_saysIn : GoodIn wsX6_passes wsX6_saysIn := goodIn_r _ [6, 1, 7, 8, 9, 5, 10, 14, 15, 16, 17, 18, 19, 20, 21, 22, 23, 24, 25, 26, 27, 28, 29] (by decide +kernel) (by decide +kernel)
set_option maxRecDepth 20000 in
theorem gX6_passes_X6_saysIn : GoodIn wsX6_passes (wsV RX6 124 RX6 yX6_saysIn wsX6_saysIn) := goodIn_app (goodIn_of _ (by decide +kernel)) ggX6_passes_X6_saysIn
set_option maxRecDepth 20000 in
theorem ggX6_passes_X6_saysMany : GoodIn wsX6_passes wsX6_saysMany := goodIn_r _ [10, 1, 14, 15, 16, 17, 18, 19, 20, 21, 22, 23, 24, 25, 26, 27, 28, 29] (by decide +kernel) (by decide +kernel)
set_option maxRecDepth 20000 in
theorem gX6_passes_X6_saysMany : GoodIn wsX6_passes (wsV RX6 120 RX6 yX6_saysMany wsX6_saysMany) := goodIn_app (goodIn_of _ (by decide +kernel)) ggX6_passes_X6_saysMany
set_option maxRecDepth 20000 in
theorem ggX6_passes_X6_has : GoodIn wsX6_passes wsX6_has := goodIn_r _ [13] (by decide +kernel) (by decide +kernel)
set_option maxRecDepth 20000 in
theorem gX6_passes_X6_has : GoodIn wsX6_passes (va_wsS RX6 127 yX6_has wsX6_has) := goodIn_app (goodIn_of _ (by decide +kernel)) ggX6_passes_X6_has
theorem dX6_passes_0 : decode cX6_passes 0 = .ok (.aload_n 0, 1) := by decide +kernel
theorem dX6_passes_1 : decode cX6_passes 1 = .ok (.getfield 7, 3) := by decide +kernel
theorem dX6_passes_4 : decode cX6_passes 4 = .ok (.iload_n 1, 1) := by decide +kernel
theorem dX6_passes_5 : decode cX6_passes 5 = .ok (.iconst 2, 1) := by decide +kernel
theorem dX6_passes_6 : decode cX6_passes 6 = .ok (.iadd, 1) := by decide +kernel
theorem dX6_passes_7 : decode cX6_passes 7 = .ok (.iaload, 1) := by decide +kernel
theorem dX6_passes_8 : decode cX6_passes 8 = .ok (.istore_n 3, 1) := by decide +kernel
theorem dX6_passes_9 : decode cX6_passes 9 = .ok (.aload_n 0, 1) := by decide +kernel
theorem dX6_passes_10 : decode cX6_passes 10 = .ok (.iload_n 1, 1) := by decide +kernel
theorem dX6_passes_11 : decode cX6_passes 11 = .ok (.iload_n 2, 1) := by decide +kernel
theorem dX6_passes_12 : decode cX6_passes 12 = .ok (.invokevirtual 124, 3) := by decide +kernel
theorem dX6_passes_15 : decode cX6_passes 15 = .ok (.istore 4, 2) := by decide +kernel
theorem dX6_passes_17 : decode cX6_passes 17 = .ok (.aload_n 0, 1) := by decide +kernel
theorem dX6_passes_18 : decode cX6_passes 18 = .ok (.iload_n 1, 1) := by decide +kernel
theorem dX6_passes_19 : decode cX6_passes 19 = .ok (.iload_n 2, 1) := by decide +kernel
theorem dX6_passes_20 : decode cX6_passes 20 = .ok (.invokevirtual 120, 3) := by decide +kernel
theorem dX6_passes_23 : decode cX6_passes 23 = .ok (.istore 5, 2) := by decide +kernel
theorem dX6_passes_25 : decode cX6_passes 25 = .ok (.aload_n 0, 1) := by decide +kernel
theorem dX6_passes_26 : decode cX6_passes 26 = .ok (.getfield 7, 3) := by decide +kernel
theorem dX6_passes_29 : decode cX6_passes 29 = .ok (.iload_n 1, 1) := by decide +kernel
theorem dX6_passes_30 : decode cX6_passes 30 = .ok (.bipush 19, 2) := by decide +kernel
theorem dX6_passes_32 : decode cX6_passes 32 = .ok (.iadd, 1) := by decide +kernel
theorem dX6_passes_33 : decode cX6_passes 33 = .ok (.iload_n 2, 1) := by decide +kernel
theorem dX6_passes_34 : decode cX6_passes 34 = .ok (.iadd, 1) := by decide +kernel
theorem dX6_passes_35 : decode cX6_passes 35 = .ok (.iaload, 1) := by decide +kernel
theorem dX6_passes_36 : decode cX6_passes 36 = .ok (.istore 6, 2) := by decide +kernel
theorem dX6_passes_38 : decode cX6_passes 38 = .ok (.aload_n 0, 1) := by decide +kernel
theorem dX6_passes_39 : decode cX6_passes 39 = .ok (.getfield 7, 3) := by decide +kernel
theorem dX6_passes_42 : decode cX6_passes 42 = .ok (.iload_n 1, 1) := by decide +kernel
theorem dX6_passes_43 : decode cX6_passes 43 = .ok (.bipush 13, 2) := by decide +kernel
theorem dX6_passes_45 : decode cX6_passes 45 = .ok (.iadd, 1) := by decide +kernel
theorem dX6_passes_46 : decode cX6_passes 46 = .ok (.iload_n 2, 1) := by decide +kernel
theorem dX6_passes_47 : decode cX6_passes 47 = .ok (.iadd, 1) := by decide +kernel
theorem dX6_passes_48 : decode cX6_passes 48 = .ok (.iaload, 1) := by decide +kernel
theorem dX6_passes_49 : decode cX6_passes 49 = .ok (.istore 7, 2) := by decide +kernel
theorem dX6_passes_51 : decode cX6_passes 51 = .ok (.aload_n 0, 1) := by decide +kernel
theorem dX6_passes_52 : decode cX6_passes 52 = .ok (.getfield 7, 3) := by decide +kernel
theorem dX6_passes_55 : decode cX6_passes 55 = .ok (.iload_n 1, 1) := by decide +kernel
theorem dX6_passes_56 : decode cX6_passes 56 = .ok (.bipush 29, 2) := by decide +kernel
theorem dX6_passes_58 : decode cX6_passes 58 = .ok (.iadd, 1) := by decide +kernel
theorem dX6_passes_59 : decode cX6_passes 59 = .ok (.iload 6, 2) := by decide +kernel
theorem dX6_passes_61 : decode cX6_passes 61 = .ok (.iadd, 1) := by decide +kernel
theorem dX6_passes_62 : decode cX6_passes 62 = .ok (.dup2, 1) := by decide +kernel
theorem dX6_passes_63 : decode cX6_passes 63 = .ok (.iaload, 1) := by decide +kernel
theorem dX6_passes_64 : decode cX6_passes 64 = .ok (.iload 4, 2) := by decide +kernel
theorem dX6_passes_66 : decode cX6_passes 66 = .ok (.ior, 1) := by decide +kernel
theorem dX6_passes_67 : decode cX6_passes 67 = .ok (.iastore, 1) := by decide +kernel
theorem dX6_passes_68 : decode cX6_passes 68 = .ok (.aload_n 0, 1) := by decide +kernel
theorem dX6_passes_69 : decode cX6_passes 69 = .ok (.getfield 7, 3) := by decide +kernel
theorem dX6_passes_72 : decode cX6_passes 72 = .ok (.iload_n 1, 1) := by decide +kernel
theorem dX6_passes_73 : decode cX6_passes 73 = .ok (.bipush 24, 2) := by decide +kernel
theorem dX6_passes_75 : decode cX6_passes 75 = .ok (.iadd, 1) := by decide +kernel
theorem dX6_passes_76 : decode cX6_passes 76 = .ok (.iload_n 2, 1) := by decide +kernel
theorem dX6_passes_77 : decode cX6_passes 77 = .ok (.iadd, 1) := by decide +kernel
theorem dX6_passes_78 : decode cX6_passes 78 = .ok (.iload 7, 2) := by decide +kernel
theorem dX6_passes_80 : decode cX6_passes 80 = .ok (.iconst 5, 1) := by decide +kernel
theorem dX6_passes_81 : decode cX6_passes 81 = .ok (.if_icmp .ne 26, 3) := by decide +kernel
theorem dX6_passes_84 : decode cX6_passes 84 = .ok (.aload_n 0, 1) := by decide +kernel
theorem dX6_passes_85 : decode cX6_passes 85 = .ok (.getfield 7, 3) := by decide +kernel
theorem dX6_passes_88 : decode cX6_passes 88 = .ok (.iload_n 1, 1) := by decide +kernel
theorem dX6_passes_89 : decode cX6_passes 89 = .ok (.bipush 24, 2) := by decide +kernel
theorem dX6_passes_91 : decode cX6_passes 91 = .ok (.iadd, 1) := by decide +kernel
theorem dX6_passes_92 : decode cX6_passes 92 = .ok (.iload_n 2, 1) := by decide +kernel
theorem dX6_passes_93 : decode cX6_passes 93 = .ok (.iadd, 1) := by decide +kernel
theorem dX6_passes_94 : decode cX6_passes 94 = .ok (.iaload, 1) := by decide +kernel
theorem dX6_passes_95 : decode cX6_passes 95 = .ok (.iload_n 3, 1) := by decide +kernel
theorem dX6_passes_96 : decode cX6_passes 96 = .ok (.iconst 4, 1) := by decide +kernel
theorem dX6_passes_97 : decode cX6_passes 97 = .ok (.imul, 1) := by decide +kernel
theorem dX6_passes_98 : decode cX6_passes 98 = .ok (.iadd, 1) := by decide +kernel
theorem dX6_passes_99 : decode cX6_passes 99 = .ok (.iload 5, 2) := by decide +kernel
theorem dX6_passes_101 : decode cX6_passes 101 = .ok (.isub, 1) := by decide +kernel
theorem dX6_passes_102 : decode cX6_passes 102 = .ok (.iload_n 3, 1) := by decide +kernel
theorem dX6_passes_103 : decode cX6_passes 103 = .ok (.irem, 1) := by decide +kernel
theorem dX6_passes_104 : decode cX6_passes 104 = .ok (.goto 19, 3) := by decide +kernel
theorem dX6_passes_107 : decode cX6_passes 107 = .ok (.aload_n 0, 1) := by decide +kernel
theorem dX6_passes_108 : decode cX6_passes 108 = .ok (.getfield 7, 3) := by decide +kernel
theorem dX6_passes_111 : decode cX6_passes 111 = .ok (.iload_n 1, 1) := by decide +kernel
theorem dX6_passes_112 : decode cX6_passes 112 = .ok (.bipush 24, 2) := by decide +kernel
theorem dX6_passes_114 : decode cX6_passes 114 = .ok (.iadd, 1) := by decide +kernel
theorem dX6_passes_115 : decode cX6_passes 115 = .ok (.iload_n 2, 1) := by decide +kernel
theorem dX6_passes_116 : decode cX6_passes 116 = .ok (.iadd, 1) := by decide +kernel
theorem dX6_passes_117 : decode cX6_passes 117 = .ok (.iaload, 1) := by decide +kernel
theorem dX6_passes_118 : decode cX6_passes 118 = .ok (.iload 5, 2) := by decide +kernel
theorem dX6_passes_120 : decode cX6_passes 120 = .ok (.iadd, 1) := by decide +kernel
theorem dX6_passes_121 : decode cX6_passes 121 = .ok (.iload_n 3, 1) := by decide +kernel
theorem dX6_passes_122 : decode cX6_passes 122 = .ok (.irem, 1) := by decide +kernel
theorem dX6_passes_123 : decode cX6_passes 123 = .ok (.iastore, 1) := by decide +kernel
theorem dX6_passes_124 : decode cX6_passes 124 = .ok (.iload 7, 2) := by decide +kernel
theorem dX6_passes_126 : decode cX6_passes 126 = .ok (.iconst 3, 1) := by decide +kernel
theorem dX6_passes_127 : decode cX6_passes 127 = .ok (.if_icmp .ne 23, 3) := by decide +kernel
theorem dX6_passes_130 : decode cX6_passes 130 = .ok (.iload 4, 2) := by decide +kernel
theorem dX6_passes_132 : decode cX6_passes 132 = .ok (.aload_n 0, 1) := by decide +kernel
theorem dX6_passes_133 : decode cX6_passes 133 = .ok (.getfield 7, 3) := by decide +kernel
theorem dX6_passes_136 : decode cX6_passes 136 = .ok (.iload_n 1, 1) := by decide +kernel
theorem dX6_passes_137 : decode cX6_passes 137 = .ok (.iconst 3, 1) := by decide +kernel
theorem dX6_passes_138 : decode cX6_passes 138 = .ok (.iadd, 1) := by decide +kernel
theorem dX6_passes_139 : decode cX6_passes 139 = .ok (.iaload, 1) := by decide +kernel
theorem dX6_passes_140 : decode cX6_passes 140 = .ok (.invokestatic 127, 3) := by decide +kernel
theorem dX6_passes_143 : decode cX6_passes 143 = .ok (.ifCond .eq 7, 3) := by decide +kernel
theorem dX6_passes_146 : decode cX6_passes 146 = .ok (.iconst 1, 1) := by decide +kernel
theorem dX6_passes_147 : decode cX6_passes 147 = .ok (.goto 4, 3) := by decide +kernel
theorem dX6_passes_150 : decode cX6_passes 150 = .ok (.iconst 0, 1) := by decide +kernel
theorem dX6_passes_151 : decode cX6_passes 151 = .ok (.istore 8, 2) := by decide +kernel
theorem dX6_passes_153 : decode cX6_passes 153 = .ok (.iload 8, 2) := by decide +kernel
theorem dX6_passes_155 : decode cX6_passes 155 = .ok (.ifCond .eq 7, 3) := by decide +kernel
theorem dX6_passes_158 : decode cX6_passes 158 = .ok (.iconst 0, 1) := by decide +kernel
theorem dX6_passes_159 : decode cX6_passes 159 = .ok (.goto 23, 3) := by decide +kernel
theorem dX6_passes_162 : decode cX6_passes 162 = .ok (.iload 7, 2) := by decide +kernel
theorem dX6_passes_164 : decode cX6_passes 164 = .ok (.iconst 2, 1) := by decide +kernel
theorem dX6_passes_165 : decode cX6_passes 165 = .ok (.if_icmp .ne 16, 3) := by decide +kernel
theorem dX6_passes_168 : decode cX6_passes 168 = .ok (.aload_n 0, 1) := by decide +kernel
theorem dX6_passes_169 : decode cX6_passes 169 = .ok (.getfield 7, 3) := by decide +kernel
theorem dX6_passes_172 : decode cX6_passes 172 = .ok (.iload_n 1, 1) := by decide +kernel
theorem dX6_passes_173 : decode cX6_passes 173 = .ok (.iconst 0, 1) := by decide +kernel
theorem dX6_passes_174 : decode cX6_passes 174 = .ok (.iadd, 1) := by decide +kernel
theorem dX6_passes_175 : decode cX6_passes 175 = .ok (.iaload, 1) := by decide +kernel
theorem dX6_passes_176 : decode cX6_passes 176 = .ok (.iconst 1, 1) := by decide +kernel
theorem dX6_passes_177 : decode cX6_passes 177 = .ok (.isub, 1) := by decide +kernel
theorem dX6_passes_178 : decode cX6_passes 178 = .ok (.goto 4, 3) := by decide +kernel
theorem dX6_passes_181 : decode cX6_passes 181 = .ok (.iconst 1, 1) := by decide +kernel
theorem dX6_passes_182 : decode cX6_passes 182 = .ok (.istore 9, 2) := by decide +kernel
theorem dX6_passes_184 : decode cX6_passes 184 = .ok (.aload_n 0, 1) := by decide +kernel
theorem dX6_passes_185 : decode cX6_passes 185 = .ok (.getfield 7, 3) := by decide +kernel
theorem dX6_passes_188 : decode cX6_passes 188 = .ok (.iload_n 1, 1) := by decide +kernel
theorem dX6_passes_189 : decode cX6_passes 189 = .ok (.bipush 19, 2) := by decide +kernel
theorem dX6_passes_191 : decode cX6_passes 191 = .ok (.iadd, 1) := by decide +kernel
theorem dX6_passes_192 : decode cX6_passes 192 = .ok (.iload_n 2, 1) := by decide +kernel
theorem dX6_passes_193 : decode cX6_passes 193 = .ok (.iadd, 1) := by decide +kernel
theorem dX6_passes_194 : decode cX6_passes 194 = .ok (.iload 6, 2) := by decide +kernel
theorem dX6_passes_196 : decode cX6_passes 196 = .ok (.iload 9, 2) := by decide +kernel
theorem dX6_passes_198 : decode cX6_passes 198 = .ok (.iadd, 1) := by decide +kernel
theorem dX6_passes_199 : decode cX6_passes 199 = .ok (.aload_n 0, 1) := by decide +kernel
theorem dX6_passes_200 : decode cX6_passes 200 = .ok (.getfield 7, 3) := by decide +kernel
theorem dX6_passes_203 : decode cX6_passes 203 = .ok (.iload_n 1, 1) := by decide +kernel
theorem dX6_passes_204 : decode cX6_passes 204 = .ok (.iconst 0, 1) := by decide +kernel
theorem dX6_passes_205 : decode cX6_passes 205 = .ok (.iadd, 1) := by decide +kernel
theorem dX6_passes_206 : decode cX6_passes 206 = .ok (.iaload, 1) := by decide +kernel
theorem dX6_passes_207 : decode cX6_passes 207 = .ok (.irem, 1) := by decide +kernel
theorem dX6_passes_208 : decode cX6_passes 208 = .ok (.iastore, 1) := by decide +kernel
theorem dX6_passes_209 : decode cX6_passes 209 = .ok (.return_, 1) := by decide +kernel
theorem dX6_councilsIn_0 : decode cX6_councilsIn 0 = .ok (.iconst 0, 1) := by decide +kernel
theorem dX6_councilsIn_1 : decode cX6_councilsIn 1 = .ok (.istore_n 2, 1) := by decide +kernel
theorem dX6_councilsIn_2 : decode cX6_councilsIn 2 = .ok (.iconst 0, 1) := by decide +kernel
theorem dX6_councilsIn_3 : decode cX6_councilsIn 3 = .ok (.istore_n 3, 1) := by decide +kernel
theorem dX6_councilsIn_4 : decode cX6_councilsIn 4 = .ok (.iload_n 3, 1) := by decide +kernel
theorem dX6_councilsIn_5 : decode cX6_councilsIn 5 = .ok (.aload_n 0, 1) := by decide +kernel
theorem dX6_councilsIn_6 : decode cX6_councilsIn 6 = .ok (.getfield 7, 3) := by decide +kernel
theorem dX6_councilsIn_9 : decode cX6_councilsIn 9 = .ok (.iload_n 1, 1) := by decide +kernel
theorem dX6_councilsIn_10 : decode cX6_councilsIn 10 = .ok (.iconst 1, 1) := by decide +kernel
theorem dX6_councilsIn_11 : decode cX6_councilsIn 11 = .ok (.iadd, 1) := by decide +kernel
theorem dX6_councilsIn_12 : decode cX6_councilsIn 12 = .ok (.iaload, 1) := by decide +kernel
theorem dX6_councilsIn_13 : decode cX6_councilsIn 13 = .ok (.if_icmp .ge 60, 3) := by decide +kernel
theorem dX6_councilsIn_16 : decode cX6_councilsIn 16 = .ok (.iconst 0, 1) := by decide +kernel
theorem dX6_councilsIn_17 : decode cX6_councilsIn 17 = .ok (.istore 4, 2) := by decide +kernel
theorem dX6_councilsIn_19 : decode cX6_councilsIn 19 = .ok (.iload 4, 2) := by decide +kernel
theorem dX6_councilsIn_21 : decode cX6_councilsIn 21 = .ok (.iload_n 3, 1) := by decide +kernel
theorem dX6_councilsIn_22 : decode cX6_councilsIn 22 = .ok (.if_icmp .ge 45, 3) := by decide +kernel
theorem dX6_councilsIn_25 : decode cX6_councilsIn 25 = .ok (.iload_n 2, 1) := by decide +kernel
theorem dX6_councilsIn_26 : decode cX6_councilsIn 26 = .ok (.aload_n 0, 1) := by decide +kernel
theorem dX6_councilsIn_27 : decode cX6_councilsIn 27 = .ok (.getfield 7, 3) := by decide +kernel
theorem dX6_councilsIn_30 : decode cX6_councilsIn 30 = .ok (.iload_n 1, 1) := by decide +kernel
theorem dX6_councilsIn_31 : decode cX6_councilsIn 31 = .ok (.bipush 19, 2) := by decide +kernel
theorem dX6_councilsIn_33 : decode cX6_councilsIn 33 = .ok (.iadd, 1) := by decide +kernel
theorem dX6_councilsIn_34 : decode cX6_councilsIn 34 = .ok (.iload_n 3, 1) := by decide +kernel
theorem dX6_councilsIn_35 : decode cX6_councilsIn 35 = .ok (.iadd, 1) := by decide +kernel
theorem dX6_councilsIn_36 : decode cX6_councilsIn 36 = .ok (.iaload, 1) := by decide +kernel
theorem dX6_councilsIn_37 : decode cX6_councilsIn 37 = .ok (.aload_n 0, 1) := by decide +kernel
theorem dX6_councilsIn_38 : decode cX6_councilsIn 38 = .ok (.getfield 7, 3) := by decide +kernel
theorem dX6_councilsIn_41 : decode cX6_councilsIn 41 = .ok (.iload_n 1, 1) := by decide +kernel
theorem dX6_councilsIn_42 : decode cX6_councilsIn 42 = .ok (.bipush 19, 2) := by decide +kernel
theorem dX6_councilsIn_44 : decode cX6_councilsIn 44 = .ok (.iadd, 1) := by decide +kernel
theorem dX6_councilsIn_45 : decode cX6_councilsIn 45 = .ok (.iload 4, 2) := by decide +kernel
theorem dX6_councilsIn_47 : decode cX6_councilsIn 47 = .ok (.iadd, 1) := by decide +kernel
theorem dX6_councilsIn_48 : decode cX6_councilsIn 48 = .ok (.iaload, 1) := by decide +kernel
theorem dX6_councilsIn_49 : decode cX6_councilsIn 49 = .ok (.if_icmp .ne 9, 3) := by decide +kernel
theorem dX6_councilsIn_52 : decode cX6_councilsIn 52 = .ok (.iconst 1, 1) := by decide +kernel
theorem dX6_councilsIn_53 : decode cX6_councilsIn 53 = .ok (.iload_n 3, 1) := by decide +kernel
theorem dX6_councilsIn_54 : decode cX6_councilsIn 54 = .ok (.ishl, 1) := by decide +kernel
theorem dX6_councilsIn_55 : decode cX6_councilsIn 55 = .ok (.goto 4, 3) := by decide +kernel
theorem dX6_councilsIn_58 : decode cX6_councilsIn 58 = .ok (.iconst 0, 1) := by decide +kernel
theorem dX6_councilsIn_59 : decode cX6_councilsIn 59 = .ok (.ior, 1) := by decide +kernel
theorem dX6_councilsIn_60 : decode cX6_councilsIn 60 = .ok (.istore_n 2, 1) := by decide +kernel
theorem dX6_councilsIn_61 : decode cX6_councilsIn 61 = .ok (.iinc 4 1, 3) := by decide +kernel
theorem dX6_councilsIn_64 : decode cX6_councilsIn 64 = .ok (.goto (-45), 3) := by decide +kernel
theorem dX6_councilsIn_67 : decode cX6_councilsIn 67 = .ok (.iinc 3 1, 3) := by decide +kernel
theorem dX6_councilsIn_70 : decode cX6_councilsIn 70 = .ok (.goto (-66), 3) := by decide +kernel
theorem dX6_councilsIn_73 : decode cX6_councilsIn 73 = .ok (.iload_n 2, 1) := by decide +kernel
theorem dX6_councilsIn_74 : decode cX6_councilsIn 74 = .ok (.ireturn, 1) := by decide +kernel
set_option maxRecDepth 20000 in
theorem ggX6_hourBy_X6_councilsIn : GoodIn wsX6_hourBy wsX6_councilsIn := goodIn_r _ [6, 1, 22, 23, 24, 25, 26, 27, 28, 29, 30, 31, 32, 33, 34, 35, 36, 37] (by decide +kernel) (by decide +kernel)
set_option maxRecDepth 20000 in
theorem gX6_hourBy_X6_councilsIn : GoodIn wsX6_hourBy (wsV RX6 130 RX6 yX6_councilsIn wsX6_councilsIn) := goodIn_app (goodIn_of _ (by decide +kernel)) ggX6_hourBy_X6_councilsIn
set_option maxRecDepth 20000 in
theorem ggX6_hourBy_X6_has : GoodIn wsX6_hourBy wsX6_has := goodIn_r _ [9] (by decide +kernel) (by decide +kernel)
set_option maxRecDepth 20000 in
theorem gX6_hourBy_X6_has : GoodIn wsX6_hourBy (va_wsS RX6 127 yX6_has wsX6_has) := goodIn_app (goodIn_of _ (by decide +kernel)) ggX6_hourBy_X6_has
set_option maxRecDepth 20000 in
theorem ggX6_hourBy_X6_passes : GoodIn wsX6_hourBy wsX6_passes := goodIn_r _ [13, 1, 14, 15, 16, 5, 17, 18, 19, 20, 21, 7, 8, 9, 22, 23, 24, 25, 26, 27, 28, 29, 30, 31, 32, 33, 34, 35, 36, 37] (by decide +kernel) (by decide +kernel)
set_option maxRecDepth 20000 in
theorem gX6_hourBy_X6_passes : GoodIn wsX6_hourBy (wsV RX6 133 RX6 yX6_passes wsX6_passes) := goodIn_app (goodIn_of _ (by decide +kernel)) ggX6_hourBy_X6_passes
theorem dX6_hourBy_0 : decode cX6_hourBy 0 = .ok (.aload_n 0, 1) := by decide +kernel
theorem dX6_hourBy_1 : decode cX6_hourBy 1 = .ok (.iload_n 1, 1) := by decide +kernel
theorem dX6_hourBy_2 : decode cX6_hourBy 2 = .ok (.invokevirtual 130, 3) := by decide +kernel
theorem dX6_hourBy_5 : decode cX6_hourBy 5 = .ok (.iload_n 2, 1) := by decide +kernel
theorem dX6_hourBy_6 : decode cX6_hourBy 6 = .ok (.ior, 1) := by decide +kernel
theorem dX6_hourBy_7 : decode cX6_hourBy 7 = .ok (.istore_n 3, 1) := by decide +kernel
theorem dX6_hourBy_8 : decode cX6_hourBy 8 = .ok (.iconst 0, 1) := by decide +kernel
theorem dX6_hourBy_9 : decode cX6_hourBy 9 = .ok (.istore 4, 2) := by decide +kernel
theorem dX6_hourBy_11 : decode cX6_hourBy 11 = .ok (.iload 4, 2) := by decide +kernel
theorem dX6_hourBy_13 : decode cX6_hourBy 13 = .ok (.aload_n 0, 1) := by decide +kernel
theorem dX6_hourBy_14 : decode cX6_hourBy 14 = .ok (.getfield 7, 3) := by decide +kernel
theorem dX6_hourBy_17 : decode cX6_hourBy 17 = .ok (.iload_n 1, 1) := by decide +kernel
theorem dX6_hourBy_18 : decode cX6_hourBy 18 = .ok (.iconst 1, 1) := by decide +kernel
theorem dX6_hourBy_19 : decode cX6_hourBy 19 = .ok (.iadd, 1) := by decide +kernel
theorem dX6_hourBy_20 : decode cX6_hourBy 20 = .ok (.iaload, 1) := by decide +kernel
theorem dX6_hourBy_21 : decode cX6_hourBy 21 = .ok (.if_icmp .ge 25, 3) := by decide +kernel
theorem dX6_hourBy_24 : decode cX6_hourBy 24 = .ok (.iload_n 3, 1) := by decide +kernel
theorem dX6_hourBy_25 : decode cX6_hourBy 25 = .ok (.iload 4, 2) := by decide +kernel
theorem dX6_hourBy_27 : decode cX6_hourBy 27 = .ok (.invokestatic 127, 3) := by decide +kernel
theorem dX6_hourBy_30 : decode cX6_hourBy 30 = .ok (.ifCond .ne 10, 3) := by decide +kernel
theorem dX6_hourBy_33 : decode cX6_hourBy 33 = .ok (.aload_n 0, 1) := by decide +kernel
theorem dX6_hourBy_34 : decode cX6_hourBy 34 = .ok (.iload_n 1, 1) := by decide +kernel
theorem dX6_hourBy_35 : decode cX6_hourBy 35 = .ok (.iload 4, 2) := by decide +kernel
theorem dX6_hourBy_37 : decode cX6_hourBy 37 = .ok (.invokevirtual 133, 3) := by decide +kernel
theorem dX6_hourBy_40 : decode cX6_hourBy 40 = .ok (.iinc 4 1, 3) := by decide +kernel
theorem dX6_hourBy_43 : decode cX6_hourBy 43 = .ok (.goto (-32), 3) := by decide +kernel
theorem dX6_hourBy_46 : decode cX6_hourBy 46 = .ok (.aload_n 0, 1) := by decide +kernel
theorem dX6_hourBy_47 : decode cX6_hourBy 47 = .ok (.getfield 7, 3) := by decide +kernel
theorem dX6_hourBy_50 : decode cX6_hourBy 50 = .ok (.iload_n 1, 1) := by decide +kernel
theorem dX6_hourBy_51 : decode cX6_hourBy 51 = .ok (.bipush 18, 2) := by decide +kernel
theorem dX6_hourBy_53 : decode cX6_hourBy 53 = .ok (.iadd, 1) := by decide +kernel
theorem dX6_hourBy_54 : decode cX6_hourBy 54 = .ok (.dup2, 1) := by decide +kernel
theorem dX6_hourBy_55 : decode cX6_hourBy 55 = .ok (.iaload, 1) := by decide +kernel
theorem dX6_hourBy_56 : decode cX6_hourBy 56 = .ok (.iconst 1, 1) := by decide +kernel
theorem dX6_hourBy_57 : decode cX6_hourBy 57 = .ok (.iadd, 1) := by decide +kernel
theorem dX6_hourBy_58 : decode cX6_hourBy 58 = .ok (.iastore, 1) := by decide +kernel
theorem dX6_hourBy_59 : decode cX6_hourBy 59 = .ok (.return_, 1) := by decide +kernel
theorem dX6_all_0 : decode cX6_all 0 = .ok (.iconst 1, 1) := by decide +kernel
theorem dX6_all_1 : decode cX6_all 1 = .ok (.aload_n 0, 1) := by decide +kernel
theorem dX6_all_2 : decode cX6_all 2 = .ok (.getfield 7, 3) := by decide +kernel
theorem dX6_all_5 : decode cX6_all 5 = .ok (.iload_n 1, 1) := by decide +kernel
theorem dX6_all_6 : decode cX6_all 6 = .ok (.iconst 2, 1) := by decide +kernel
theorem dX6_all_7 : decode cX6_all 7 = .ok (.iadd, 1) := by decide +kernel
theorem dX6_all_8 : decode cX6_all 8 = .ok (.iaload, 1) := by decide +kernel
theorem dX6_all_9 : decode cX6_all 9 = .ok (.ishl, 1) := by decide +kernel
theorem dX6_all_10 : decode cX6_all 10 = .ok (.iconst 1, 1) := by decide +kernel
theorem dX6_all_11 : decode cX6_all 11 = .ok (.isub, 1) := by decide +kernel
theorem dX6_all_12 : decode cX6_all 12 = .ok (.ireturn, 1) := by decide +kernel
set_option maxRecDepth 20000 in
theorem ggX6_wholeOnes_X6_all : GoodIn wsX6_wholeOnes wsX6_all := goodIn_r _ [6, 1, 7, 8, 9, 10, 11, 12, 13, 14, 15, 16, 17, 18, 19, 20, 21, 22] (by decide +kernel) (by decide +kernel)
set_option maxRecDepth 20000 in
theorem gX6_wholeOnes_X6_all : GoodIn wsX6_wholeOnes (wsV RX6 137 RX6 yX6_all wsX6_all) := goodIn_app (goodIn_of _ (by decide +kernel)) ggX6_wholeOnes_X6_all
theorem dX6_wholeOnes_0 : decode cX6_wholeOnes 0 = .ok (.iconst 0, 1) := by decide +kernel
theorem dX6_wholeOnes_1 : decode cX6_wholeOnes 1 = .ok (.istore_n 2, 1) := by decide +kernel
theorem dX6_wholeOnes_2 : decode cX6_wholeOnes 2 = .ok (.iconst 0, 1) := by decide +kernel
theorem dX6_wholeOnes_3 : decode cX6_wholeOnes 3 = .ok (.istore_n 3, 1) := by decide +kernel
theorem dX6_wholeOnes_4 : decode cX6_wholeOnes 4 = .ok (.iload_n 3, 1) := by decide +kernel
theorem dX6_wholeOnes_5 : decode cX6_wholeOnes 5 = .ok (.aload_n 0, 1) := by decide +kernel
theorem dX6_wholeOnes_6 : decode cX6_wholeOnes 6 = .ok (.getfield 7, 3) := by decide +kernel
theorem dX6_wholeOnes_9 : decode cX6_wholeOnes 9 = .ok (.iload_n 1, 1) := by decide +kernel
theorem dX6_wholeOnes_10 : decode cX6_wholeOnes 10 = .ok (.iconst 0, 1) := by decide +kernel
theorem dX6_wholeOnes_11 : decode cX6_wholeOnes 11 = .ok (.iadd, 1) := by decide +kernel
theorem dX6_wholeOnes_12 : decode cX6_wholeOnes 12 = .ok (.iaload, 1) := by decide +kernel
theorem dX6_wholeOnes_13 : decode cX6_wholeOnes 13 = .ok (.if_icmp .ge 38, 3) := by decide +kernel
theorem dX6_wholeOnes_16 : decode cX6_wholeOnes 16 = .ok (.iload_n 2, 1) := by decide +kernel
theorem dX6_wholeOnes_17 : decode cX6_wholeOnes 17 = .ok (.aload_n 0, 1) := by decide +kernel
theorem dX6_wholeOnes_18 : decode cX6_wholeOnes 18 = .ok (.getfield 7, 3) := by decide +kernel
theorem dX6_wholeOnes_21 : decode cX6_wholeOnes 21 = .ok (.iload_n 1, 1) := by decide +kernel
theorem dX6_wholeOnes_22 : decode cX6_wholeOnes 22 = .ok (.bipush 29, 2) := by decide +kernel
theorem dX6_wholeOnes_24 : decode cX6_wholeOnes 24 = .ok (.iadd, 1) := by decide +kernel
theorem dX6_wholeOnes_25 : decode cX6_wholeOnes 25 = .ok (.iload_n 3, 1) := by decide +kernel
theorem dX6_wholeOnes_26 : decode cX6_wholeOnes 26 = .ok (.iadd, 1) := by decide +kernel
theorem dX6_wholeOnes_27 : decode cX6_wholeOnes 27 = .ok (.iaload, 1) := by decide +kernel
theorem dX6_wholeOnes_28 : decode cX6_wholeOnes 28 = .ok (.aload_n 0, 1) := by decide +kernel
theorem dX6_wholeOnes_29 : decode cX6_wholeOnes 29 = .ok (.iload_n 1, 1) := by decide +kernel
theorem dX6_wholeOnes_30 : decode cX6_wholeOnes 30 = .ok (.invokevirtual 137, 3) := by decide +kernel
theorem dX6_wholeOnes_33 : decode cX6_wholeOnes 33 = .ok (.if_icmp .ne 9, 3) := by decide +kernel
theorem dX6_wholeOnes_36 : decode cX6_wholeOnes 36 = .ok (.iconst 1, 1) := by decide +kernel
theorem dX6_wholeOnes_37 : decode cX6_wholeOnes 37 = .ok (.iload_n 3, 1) := by decide +kernel
theorem dX6_wholeOnes_38 : decode cX6_wholeOnes 38 = .ok (.ishl, 1) := by decide +kernel
theorem dX6_wholeOnes_39 : decode cX6_wholeOnes 39 = .ok (.goto 4, 3) := by decide +kernel
theorem dX6_wholeOnes_42 : decode cX6_wholeOnes 42 = .ok (.iconst 0, 1) := by decide +kernel
theorem dX6_wholeOnes_43 : decode cX6_wholeOnes 43 = .ok (.ior, 1) := by decide +kernel
theorem dX6_wholeOnes_44 : decode cX6_wholeOnes 44 = .ok (.istore_n 2, 1) := by decide +kernel
theorem dX6_wholeOnes_45 : decode cX6_wholeOnes 45 = .ok (.iinc 3 1, 3) := by decide +kernel
theorem dX6_wholeOnes_48 : decode cX6_wholeOnes 48 = .ok (.goto (-44), 3) := by decide +kernel
theorem dX6_wholeOnes_51 : decode cX6_wholeOnes 51 = .ok (.iload_n 2, 1) := by decide +kernel
theorem dX6_wholeOnes_52 : decode cX6_wholeOnes 52 = .ok (.ireturn, 1) := by decide +kernel
set_option maxRecDepth 20000 in
theorem ggX6_heardWords_X6_ones : GoodIn wsX6_heardWords wsX6_ones := goodIn_r _ [5] (by decide +kernel) (by decide +kernel)
set_option maxRecDepth 20000 in
theorem gX6_heardWords_X6_ones : GoodIn wsX6_heardWords (va_wsS RX6 140 yX6_ones wsX6_ones) := goodIn_app (goodIn_of _ (by decide +kernel)) ggX6_heardWords_X6_ones
theorem dX6_heardWords_0 : decode cX6_heardWords 0 = .ok (.iconst 0, 1) := by decide +kernel
theorem dX6_heardWords_1 : decode cX6_heardWords 1 = .ok (.istore_n 2, 1) := by decide +kernel
theorem dX6_heardWords_2 : decode cX6_heardWords 2 = .ok (.iconst 0, 1) := by decide +kernel
theorem dX6_heardWords_3 : decode cX6_heardWords 3 = .ok (.istore_n 3, 1) := by decide +kernel
theorem dX6_heardWords_4 : decode cX6_heardWords 4 = .ok (.iload_n 3, 1) := by decide +kernel
theorem dX6_heardWords_5 : decode cX6_heardWords 5 = .ok (.aload_n 0, 1) := by decide +kernel
theorem dX6_heardWords_6 : decode cX6_heardWords 6 = .ok (.getfield 7, 3) := by decide +kernel
theorem dX6_heardWords_9 : decode cX6_heardWords 9 = .ok (.iload_n 1, 1) := by decide +kernel
theorem dX6_heardWords_10 : decode cX6_heardWords 10 = .ok (.iconst 0, 1) := by decide +kernel
theorem dX6_heardWords_11 : decode cX6_heardWords 11 = .ok (.iadd, 1) := by decide +kernel
theorem dX6_heardWords_12 : decode cX6_heardWords 12 = .ok (.iaload, 1) := by decide +kernel
theorem dX6_heardWords_13 : decode cX6_heardWords 13 = .ok (.if_icmp .ge 26, 3) := by decide +kernel
theorem dX6_heardWords_16 : decode cX6_heardWords 16 = .ok (.iload_n 2, 1) := by decide +kernel
theorem dX6_heardWords_17 : decode cX6_heardWords 17 = .ok (.aload_n 0, 1) := by decide +kernel
theorem dX6_heardWords_18 : decode cX6_heardWords 18 = .ok (.getfield 7, 3) := by decide +kernel
theorem dX6_heardWords_21 : decode cX6_heardWords 21 = .ok (.iload_n 1, 1) := by decide +kernel
theorem dX6_heardWords_22 : decode cX6_heardWords 22 = .ok (.bipush 29, 2) := by decide +kernel
theorem dX6_heardWords_24 : decode cX6_heardWords 24 = .ok (.iadd, 1) := by decide +kernel
theorem dX6_heardWords_25 : decode cX6_heardWords 25 = .ok (.iload_n 3, 1) := by decide +kernel
theorem dX6_heardWords_26 : decode cX6_heardWords 26 = .ok (.iadd, 1) := by decide +kernel
theorem dX6_heardWords_27 : decode cX6_heardWords 27 = .ok (.iaload, 1) := by decide +kernel
theorem dX6_heardWords_28 : decode cX6_heardWords 28 = .ok (.invokestatic 140, 3) := by decide +kernel
theorem dX6_heardWords_31 : decode cX6_heardWords 31 = .ok (.iadd, 1) := by decide +kernel
theorem dX6_heardWords_32 : decode cX6_heardWords 32 = .ok (.istore_n 2, 1) := by decide +kernel
theorem dX6_heardWords_33 : decode cX6_heardWords 33 = .ok (.iinc 3 1, 3) := by decide +kernel
theorem dX6_heardWords_36 : decode cX6_heardWords 36 = .ok (.goto (-32), 3) := by decide +kernel
theorem dX6_heardWords_39 : decode cX6_heardWords 39 = .ok (.iload_n 2, 1) := by decide +kernel
theorem dX6_heardWords_40 : decode cX6_heardWords 40 = .ok (.ireturn, 1) := by decide +kernel
set_option maxRecDepth 20000 in
theorem ggX6_minds_X6_copyOf : GoodIn wsX6_minds wsX6_copyOf := goodIn_r _ [7, 2, 8, 9, 10, 11, 12, 13, 14, 15, 16, 17, 18, 19, 20, 21, 22, 23] (by decide +kernel) (by decide +kernel)
set_option maxRecDepth 20000 in
theorem gX6_minds_X6_copyOf : GoodIn wsX6_minds (wsV RX6 113 RX6 yX6_copyOf wsX6_copyOf) := goodIn_app (goodIn_of _ (by decide +kernel)) ggX6_minds_X6_copyOf
theorem dX6_minds_0 : decode cX6_minds 0 = .ok (.aload_n 0, 1) := by decide +kernel
theorem dX6_minds_1 : decode cX6_minds 1 = .ok (.getfield 117, 3) := by decide +kernel
theorem dX6_minds_4 : decode cX6_minds 4 = .ok (.bipush 24, 2) := by decide +kernel
theorem dX6_minds_6 : decode cX6_minds 6 = .ok (.if_icmp .ne 51, 3) := by decide +kernel
theorem dX6_minds_9 : decode cX6_minds 9 = .ok (.iconst 0, 1) := by decide +kernel
theorem dX6_minds_10 : decode cX6_minds 10 = .ok (.istore_n 1, 1) := by decide +kernel
theorem dX6_minds_11 : decode cX6_minds 11 = .ok (.iload_n 1, 1) := by decide +kernel
theorem dX6_minds_12 : decode cX6_minds 12 = .ok (.sipush 460, 3) := by decide +kernel
theorem dX6_minds_15 : decode cX6_minds 15 = .ok (.if_icmp .ge 32, 3) := by decide +kernel
theorem dX6_minds_18 : decode cX6_minds 18 = .ok (.aload_n 0, 1) := by decide +kernel
theorem dX6_minds_19 : decode cX6_minds 19 = .ok (.getfield 7, 3) := by decide +kernel
theorem dX6_minds_22 : decode cX6_minds 22 = .ok (.sipush 190, 3) := by decide +kernel
theorem dX6_minds_25 : decode cX6_minds 25 = .ok (.iload_n 1, 1) := by decide +kernel
theorem dX6_minds_26 : decode cX6_minds 26 = .ok (.iadd, 1) := by decide +kernel
theorem dX6_minds_27 : decode cX6_minds 27 = .ok (.aload_n 0, 1) := by decide +kernel
theorem dX6_minds_28 : decode cX6_minds 28 = .ok (.getfield 7, 3) := by decide +kernel
theorem dX6_minds_31 : decode cX6_minds 31 = .ok (.sipush 190, 3) := by decide +kernel
theorem dX6_minds_34 : decode cX6_minds 34 = .ok (.iload_n 1, 1) := by decide +kernel
theorem dX6_minds_35 : decode cX6_minds 35 = .ok (.iadd, 1) := by decide +kernel
theorem dX6_minds_36 : decode cX6_minds 36 = .ok (.bipush 20, 2) := by decide +kernel
theorem dX6_minds_38 : decode cX6_minds 38 = .ok (.iadd, 1) := by decide +kernel
theorem dX6_minds_39 : decode cX6_minds 39 = .ok (.iaload, 1) := by decide +kernel
theorem dX6_minds_40 : decode cX6_minds 40 = .ok (.iastore, 1) := by decide +kernel
theorem dX6_minds_41 : decode cX6_minds 41 = .ok (.iinc 1 1, 3) := by decide +kernel
theorem dX6_minds_44 : decode cX6_minds 44 = .ok (.goto (-33), 3) := by decide +kernel
theorem dX6_minds_47 : decode cX6_minds 47 = .ok (.aload_n 0, 1) := by decide +kernel
theorem dX6_minds_48 : decode cX6_minds 48 = .ok (.dup, 1) := by decide +kernel
theorem dX6_minds_49 : decode cX6_minds 49 = .ok (.getfield 117, 3) := by decide +kernel
theorem dX6_minds_52 : decode cX6_minds 52 = .ok (.iconst 1, 1) := by decide +kernel
theorem dX6_minds_53 : decode cX6_minds 53 = .ok (.isub, 1) := by decide +kernel
theorem dX6_minds_54 : decode cX6_minds 54 = .ok (.putfield 117, 3) := by decide +kernel
theorem dX6_minds_57 : decode cX6_minds 57 = .ok (.aload_n 0, 1) := by decide +kernel
theorem dX6_minds_58 : decode cX6_minds 58 = .ok (.bipush 18, 2) := by decide +kernel
theorem dX6_minds_60 : decode cX6_minds 60 = .ok (.sipush 190, 3) := by decide +kernel
theorem dX6_minds_63 : decode cX6_minds 63 = .ok (.bipush 20, 2) := by decide +kernel
theorem dX6_minds_65 : decode cX6_minds 65 = .ok (.aload_n 0, 1) := by decide +kernel
theorem dX6_minds_66 : decode cX6_minds 66 = .ok (.getfield 117, 3) := by decide +kernel
theorem dX6_minds_69 : decode cX6_minds 69 = .ok (.imul, 1) := by decide +kernel
theorem dX6_minds_70 : decode cX6_minds 70 = .ok (.iadd, 1) := by decide +kernel
theorem dX6_minds_71 : decode cX6_minds 71 = .ok (.bipush 20, 2) := by decide +kernel
theorem dX6_minds_73 : decode cX6_minds 73 = .ok (.invokevirtual 113, 3) := by decide +kernel
theorem dX6_minds_76 : decode cX6_minds 76 = .ok (.aload_n 0, 1) := by decide +kernel
theorem dX6_minds_77 : decode cX6_minds 77 = .ok (.dup, 1) := by decide +kernel
theorem dX6_minds_78 : decode cX6_minds 78 = .ok (.getfield 117, 3) := by decide +kernel
theorem dX6_minds_81 : decode cX6_minds 81 = .ok (.iconst 1, 1) := by decide +kernel
theorem dX6_minds_82 : decode cX6_minds 82 = .ok (.iadd, 1) := by decide +kernel
theorem dX6_minds_83 : decode cX6_minds 83 = .ok (.putfield 117, 3) := by decide +kernel
theorem dX6_minds_86 : decode cX6_minds 86 = .ok (.return_, 1) := by decide +kernel
set_option maxRecDepth 20000 in
theorem ggX6_hours_X6_isRoad : GoodIn wsX6_hours wsX6_isRoad := goodIn_r _ [10, 4, 54, 55, 56, 57, 58, 59, 60, 61, 62, 63, 64, 65, 66, 67, 68, 69] (by decide +kernel) (by decide +kernel)
set_option maxRecDepth 20000 in
theorem gX6_hours_X6_isRoad : GoodIn wsX6_hours (wsV RX6 143 RX6 yX6_isRoad wsX6_isRoad) := goodIn_app (goodIn_of _ (by decide +kernel)) ggX6_hours_X6_isRoad
set_option maxRecDepth 20000 in
theorem ggX6_hours_X6_in : GoodIn wsX6_hours wsX6_in := goodIn_r _ [13] (by decide +kernel) (by decide +kernel)
set_option maxRecDepth 20000 in
theorem gX6_hours_X6_in : GoodIn wsX6_hours (va_wsS RX6 34 yX6_in wsX6_in) := goodIn_app (goodIn_of _ (by decide +kernel)) ggX6_hours_X6_in
set_option maxRecDepth 20000 in
theorem ggX6_hours_X6_minds : GoodIn wsX6_hours wsX6_minds := goodIn_r _ [17, 18, 4, 19, 20, 21, 9, 22, 54, 55, 56, 57, 58, 59, 60, 61, 62, 63, 64, 65, 66, 67, 68, 69] (by decide +kernel) (by decide +kernel)
set_option maxRecDepth 20000 in
theorem gX6_hours_X6_minds : GoodIn wsX6_hours (wsV RX6 149 RX6 yX6_minds wsX6_minds) := goodIn_app (goodIn_of _ (by decide +kernel)) ggX6_hours_X6_minds
set_option maxRecDepth 20000 in
theorem ggX6_hours_X6_hourBy : GoodIn wsX6_hours wsX6_hourBy := goodIn_r _ [26, 4, 27, 28, 29, 9, 30, 31, 32, 33, 34, 35, 36, 37, 38, 39, 40, 41, 42, 43, 44, 45, 54, 55, 56, 57, 58, 59, 60, 61, 62, 63, 64, 65, 66, 67, 68, 69] (by decide +kernel) (by decide +kernel)
set_option maxRecDepth 20000 in
theorem gX6_hours_X6_hourBy : GoodIn wsX6_hours (wsV RX6 152 RX6 yX6_hourBy wsX6_hourBy) := goodIn_app (goodIn_of _ (by decide +kernel)) ggX6_hours_X6_hourBy
set_option maxRecDepth 20000 in
theorem ggX6_hours_X6_wholeOnes : GoodIn wsX6_hours wsX6_wholeOnes := goodIn_r _ [49, 4, 50, 51, 52, 9, 53, 54, 55, 56, 57, 58, 59, 60, 61, 62, 63, 64, 65, 66, 67, 68, 69] (by decide +kernel) (by decide +kernel)
set_option maxRecDepth 20000 in
theorem gX6_hours_X6_wholeOnes : GoodIn wsX6_hours (wsV RX6 155 RX6 yX6_wholeOnes wsX6_wholeOnes) := goodIn_app (goodIn_of _ (by decide +kernel)) ggX6_hours_X6_wholeOnes
theorem dX6_hours_0 : decode cX6_hours 0 = .ok (.aload_n 0, 1) := by decide +kernel
theorem dX6_hours_1 : decode cX6_hours 1 = .ok (.invokevirtual 143, 3) := by decide +kernel
theorem dX6_hours_4 : decode cX6_hours 4 = .ok (.ifCond .ne 6, 3) := by decide +kernel
theorem dX6_hours_7 : decode cX6_hours 7 = .ok (.ldc 146, 2) := by decide +kernel
theorem dX6_hours_9 : decode cX6_hours 9 = .ok (.ireturn, 1) := by decide +kernel
theorem dX6_hours_10 : decode cX6_hours 10 = .ok (.iload_n 1, 1) := by decide +kernel
theorem dX6_hours_11 : decode cX6_hours 11 = .ok (.i2l, 1) := by decide +kernel
theorem dX6_hours_12 : decode cX6_hours 12 = .ok (.lconst 1, 1) := by decide +kernel
theorem dX6_hours_13 : decode cX6_hours 13 = .ok (.ldc2_w 147, 3) := by decide +kernel
theorem dX6_hours_16 : decode cX6_hours 16 = .ok (.invokestatic 34, 3) := by decide +kernel
theorem dX6_hours_19 : decode cX6_hours 19 = .ok (.ifCond .ne 6, 3) := by decide +kernel
theorem dX6_hours_22 : decode cX6_hours 22 = .ok (.ldc 51, 2) := by decide +kernel
theorem dX6_hours_24 : decode cX6_hours 24 = .ok (.ireturn, 1) := by decide +kernel
theorem dX6_hours_25 : decode cX6_hours 25 = .ok (.aload_n 0, 1) := by decide +kernel
theorem dX6_hours_26 : decode cX6_hours 26 = .ok (.getfield 7, 3) := by decide +kernel
theorem dX6_hours_29 : decode cX6_hours 29 = .ok (.bipush 18, 2) := by decide +kernel
theorem dX6_hours_31 : decode cX6_hours 31 = .ok (.iaload, 1) := by decide +kernel
theorem dX6_hours_32 : decode cX6_hours 32 = .ok (.iload_n 1, 1) := by decide +kernel
theorem dX6_hours_33 : decode cX6_hours 33 = .ok (.iadd, 1) := by decide +kernel
theorem dX6_hours_34 : decode cX6_hours 34 = .ok (.sipush 9999, 3) := by decide +kernel
theorem dX6_hours_37 : decode cX6_hours 37 = .ok (.if_icmp .le 6, 3) := by decide +kernel
theorem dX6_hours_40 : decode cX6_hours 40 = .ok (.ldc 65, 2) := by decide +kernel
theorem dX6_hours_42 : decode cX6_hours 42 = .ok (.ireturn, 1) := by decide +kernel
theorem dX6_hours_43 : decode cX6_hours 43 = .ok (.iconst 0, 1) := by decide +kernel
theorem dX6_hours_44 : decode cX6_hours 44 = .ok (.istore_n 2, 1) := by decide +kernel
theorem dX6_hours_45 : decode cX6_hours 45 = .ok (.iload_n 2, 1) := by decide +kernel
theorem dX6_hours_46 : decode cX6_hours 46 = .ok (.iload_n 1, 1) := by decide +kernel
theorem dX6_hours_47 : decode cX6_hours 47 = .ok (.if_icmp .ge 19, 3) := by decide +kernel
theorem dX6_hours_50 : decode cX6_hours 50 = .ok (.aload_n 0, 1) := by decide +kernel
theorem dX6_hours_51 : decode cX6_hours 51 = .ok (.invokevirtual 149, 3) := by decide +kernel
theorem dX6_hours_54 : decode cX6_hours 54 = .ok (.aload_n 0, 1) := by decide +kernel
theorem dX6_hours_55 : decode cX6_hours 55 = .ok (.iconst 0, 1) := by decide +kernel
theorem dX6_hours_56 : decode cX6_hours 56 = .ok (.iconst 0, 1) := by decide +kernel
theorem dX6_hours_57 : decode cX6_hours 57 = .ok (.invokevirtual 152, 3) := by decide +kernel
theorem dX6_hours_60 : decode cX6_hours 60 = .ok (.iinc 2 1, 3) := by decide +kernel
theorem dX6_hours_63 : decode cX6_hours 63 = .ok (.goto (-18), 3) := by decide +kernel
theorem dX6_hours_66 : decode cX6_hours 66 = .ok (.aload_n 0, 1) := by decide +kernel
theorem dX6_hours_67 : decode cX6_hours 67 = .ok (.iconst 0, 1) := by decide +kernel
theorem dX6_hours_68 : decode cX6_hours 68 = .ok (.invokevirtual 155, 3) := by decide +kernel
theorem dX6_hours_71 : decode cX6_hours 71 = .ok (.ireturn, 1) := by decide +kernel
set_option maxRecDepth 20000 in
theorem ggX6_put_X6_isPulpit : GoodIn wsX6_put wsX6_isPulpit := goodIn_r _ [8, 2, 9, 10, 7, 11, 25, 26, 27, 28, 29, 30, 31, 32, 33, 34, 35, 36, 37, 38, 39, 40] (by decide +kernel) (by decide +kernel)
set_option maxRecDepth 20000 in
theorem gX6_put_X6_isPulpit : GoodIn wsX6_put (wsV RX6 158 RX6 yX6_isPulpit wsX6_isPulpit) := goodIn_app (goodIn_of _ (by decide +kernel)) ggX6_put_X6_isPulpit
set_option maxRecDepth 20000 in
theorem ggX6_put_X6_isStretch : GoodIn wsX6_put wsX6_isStretch := goodIn_r _ [15, 2, 9, 10, 7, 11, 25, 26, 27, 28, 29, 30, 31, 32, 33, 34, 35, 36, 37, 38, 39, 40] (by decide +kernel) (by decide +kernel)
set_option maxRecDepth 20000 in
theorem gX6_put_X6_isStretch : GoodIn wsX6_put (wsV RX6 161 RX6 yX6_isStretch wsX6_isStretch) := goodIn_app (goodIn_of _ (by decide +kernel)) ggX6_put_X6_isStretch
set_option maxRecDepth 20000 in
theorem ggX6_put_X6_minds : GoodIn wsX6_put wsX6_minds := goodIn_r _ [19, 20, 2, 21, 22, 23, 7, 24, 25, 26, 27, 28, 29, 30, 31, 32, 33, 34, 35, 36, 37, 38, 39, 40] (by decide +kernel) (by decide +kernel)
set_option maxRecDepth 20000 in
theorem gX6_put_X6_minds : GoodIn wsX6_put (wsV RX6 149 RX6 yX6_minds wsX6_minds) := goodIn_app (goodIn_of _ (by decide +kernel)) ggX6_put_X6_minds
theorem dX6_put_0 : decode cX6_put 0 = .ok (.aload_n 0, 1) := by decide +kernel
theorem dX6_put_1 : decode cX6_put 1 = .ok (.iload_n 1, 1) := by decide +kernel
theorem dX6_put_2 : decode cX6_put 2 = .ok (.invokevirtual 158, 3) := by decide +kernel
theorem dX6_put_5 : decode cX6_put 5 = .ok (.ifCond .eq 11, 3) := by decide +kernel
theorem dX6_put_8 : decode cX6_put 8 = .ok (.aload_n 0, 1) := by decide +kernel
theorem dX6_put_9 : decode cX6_put 9 = .ok (.iload_n 2, 1) := by decide +kernel
theorem dX6_put_10 : decode cX6_put 10 = .ok (.invokevirtual 161, 3) := by decide +kernel
theorem dX6_put_13 : decode cX6_put 13 = .ok (.ifCond .ne 6, 3) := by decide +kernel
theorem dX6_put_16 : decode cX6_put 16 = .ok (.ldc 51, 2) := by decide +kernel
theorem dX6_put_18 : decode cX6_put 18 = .ok (.ireturn, 1) := by decide +kernel
theorem dX6_put_19 : decode cX6_put 19 = .ok (.aload_n 0, 1) := by decide +kernel
theorem dX6_put_20 : decode cX6_put 20 = .ok (.getfield 7, 3) := by decide +kernel
theorem dX6_put_23 : decode cX6_put 23 = .ok (.bipush 19, 2) := by decide +kernel
theorem dX6_put_25 : decode cX6_put 25 = .ok (.iload_n 1, 1) := by decide +kernel
theorem dX6_put_26 : decode cX6_put 26 = .ok (.iadd, 1) := by decide +kernel
theorem dX6_put_27 : decode cX6_put 27 = .ok (.iaload, 1) := by decide +kernel
theorem dX6_put_28 : decode cX6_put 28 = .ok (.istore_n 3, 1) := by decide +kernel
theorem dX6_put_29 : decode cX6_put 29 = .ok (.iload_n 3, 1) := by decide +kernel
theorem dX6_put_30 : decode cX6_put 30 = .ok (.iload_n 2, 1) := by decide +kernel
theorem dX6_put_31 : decode cX6_put 31 = .ok (.if_icmp .ne 6, 3) := by decide +kernel
theorem dX6_put_34 : decode cX6_put 34 = .ok (.ldc 146, 2) := by decide +kernel
theorem dX6_put_36 : decode cX6_put 36 = .ok (.ireturn, 1) := by decide +kernel
theorem dX6_put_37 : decode cX6_put 37 = .ok (.aload_n 0, 1) := by decide +kernel
theorem dX6_put_38 : decode cX6_put 38 = .ok (.invokevirtual 149, 3) := by decide +kernel
theorem dX6_put_41 : decode cX6_put 41 = .ok (.aload_n 0, 1) := by decide +kernel
theorem dX6_put_42 : decode cX6_put 42 = .ok (.getfield 7, 3) := by decide +kernel
theorem dX6_put_45 : decode cX6_put 45 = .ok (.bipush 19, 2) := by decide +kernel
theorem dX6_put_47 : decode cX6_put 47 = .ok (.iload_n 1, 1) := by decide +kernel
theorem dX6_put_48 : decode cX6_put 48 = .ok (.iadd, 1) := by decide +kernel
theorem dX6_put_49 : decode cX6_put 49 = .ok (.iload_n 2, 1) := by decide +kernel
theorem dX6_put_50 : decode cX6_put 50 = .ok (.iastore, 1) := by decide +kernel
theorem dX6_put_51 : decode cX6_put 51 = .ok (.iload_n 3, 1) := by decide +kernel
theorem dX6_put_52 : decode cX6_put 52 = .ok (.ireturn, 1) := by decide +kernel
set_option maxRecDepth 20000 in
theorem ggX6_skip_X6_isPulpit : GoodIn wsX6_skip wsX6_isPulpit := goodIn_r _ [7, 1, 8, 9, 6, 10, 20, 21, 22, 23, 24, 25, 26, 27, 28, 29, 30, 31, 32, 33, 34, 35] (by decide +kernel) (by decide +kernel)
set_option maxRecDepth 20000 in
theorem gX6_skip_X6_isPulpit : GoodIn wsX6_skip (wsV RX6 158 RX6 yX6_isPulpit wsX6_isPulpit) := goodIn_app (goodIn_of _ (by decide +kernel)) ggX6_skip_X6_isPulpit
set_option maxRecDepth 20000 in
theorem ggX6_skip_X6_in : GoodIn wsX6_skip wsX6_in := goodIn_r _ [10] (by decide +kernel) (by decide +kernel)
set_option maxRecDepth 20000 in
theorem gX6_skip_X6_in : GoodIn wsX6_skip (va_wsS RX6 34 yX6_in wsX6_in) := goodIn_app (goodIn_of _ (by decide +kernel)) ggX6_skip_X6_in
set_option maxRecDepth 20000 in
theorem ggX6_skip_X6_minds : GoodIn wsX6_skip wsX6_minds := goodIn_r _ [14, 15, 1, 16, 17, 18, 6, 19, 20, 21, 22, 23, 24, 25, 26, 27, 28, 29, 30, 31, 32, 33, 34, 35] (by decide +kernel) (by decide +kernel)
set_option maxRecDepth 20000 in
theorem gX6_skip_X6_minds : GoodIn wsX6_skip (wsV RX6 149 RX6 yX6_minds wsX6_minds) := goodIn_app (goodIn_of _ (by decide +kernel)) ggX6_skip_X6_minds
theorem dX6_skip_0 : decode cX6_skip 0 = .ok (.aload_n 0, 1) := by decide +kernel
theorem dX6_skip_1 : decode cX6_skip 1 = .ok (.iload_n 1, 1) := by decide +kernel
theorem dX6_skip_2 : decode cX6_skip 2 = .ok (.invokevirtual 158, 3) := by decide +kernel
theorem dX6_skip_5 : decode cX6_skip 5 = .ok (.ifCond .eq 21, 3) := by decide +kernel
theorem dX6_skip_8 : decode cX6_skip 8 = .ok (.iload_n 2, 1) := by decide +kernel
theorem dX6_skip_9 : decode cX6_skip 9 = .ok (.i2l, 1) := by decide +kernel
theorem dX6_skip_10 : decode cX6_skip 10 = .ok (.lconst 0, 1) := by decide +kernel
theorem dX6_skip_11 : decode cX6_skip 11 = .ok (.aload_n 0, 1) := by decide +kernel
theorem dX6_skip_12 : decode cX6_skip 12 = .ok (.getfield 7, 3) := by decide +kernel
theorem dX6_skip_15 : decode cX6_skip 15 = .ok (.iconst 2, 1) := by decide +kernel
theorem dX6_skip_16 : decode cX6_skip 16 = .ok (.iaload, 1) := by decide +kernel
theorem dX6_skip_17 : decode cX6_skip 17 = .ok (.iconst 1, 1) := by decide +kernel
theorem dX6_skip_18 : decode cX6_skip 18 = .ok (.isub, 1) := by decide +kernel
theorem dX6_skip_19 : decode cX6_skip 19 = .ok (.i2l, 1) := by decide +kernel
theorem dX6_skip_20 : decode cX6_skip 20 = .ok (.invokestatic 34, 3) := by decide +kernel
theorem dX6_skip_23 : decode cX6_skip 23 = .ok (.ifCond .ne 6, 3) := by decide +kernel
theorem dX6_skip_26 : decode cX6_skip 26 = .ok (.ldc 51, 2) := by decide +kernel
theorem dX6_skip_28 : decode cX6_skip 28 = .ok (.ireturn, 1) := by decide +kernel
theorem dX6_skip_29 : decode cX6_skip 29 = .ok (.aload_n 0, 1) := by decide +kernel
theorem dX6_skip_30 : decode cX6_skip 30 = .ok (.invokevirtual 149, 3) := by decide +kernel
theorem dX6_skip_33 : decode cX6_skip 33 = .ok (.aload_n 0, 1) := by decide +kernel
theorem dX6_skip_34 : decode cX6_skip 34 = .ok (.getfield 7, 3) := by decide +kernel
theorem dX6_skip_37 : decode cX6_skip 37 = .ok (.bipush 24, 2) := by decide +kernel
theorem dX6_skip_39 : decode cX6_skip 39 = .ok (.iload_n 1, 1) := by decide +kernel
theorem dX6_skip_40 : decode cX6_skip 40 = .ok (.iadd, 1) := by decide +kernel
theorem dX6_skip_41 : decode cX6_skip 41 = .ok (.iaload, 1) := by decide +kernel
theorem dX6_skip_42 : decode cX6_skip 42 = .ok (.istore_n 3, 1) := by decide +kernel
theorem dX6_skip_43 : decode cX6_skip 43 = .ok (.aload_n 0, 1) := by decide +kernel
theorem dX6_skip_44 : decode cX6_skip 44 = .ok (.getfield 7, 3) := by decide +kernel
theorem dX6_skip_47 : decode cX6_skip 47 = .ok (.bipush 24, 2) := by decide +kernel
theorem dX6_skip_49 : decode cX6_skip 49 = .ok (.iload_n 1, 1) := by decide +kernel
theorem dX6_skip_50 : decode cX6_skip 50 = .ok (.iadd, 1) := by decide +kernel
theorem dX6_skip_51 : decode cX6_skip 51 = .ok (.iload_n 2, 1) := by decide +kernel
theorem dX6_skip_52 : decode cX6_skip 52 = .ok (.iastore, 1) := by decide +kernel
theorem dX6_skip_53 : decode cX6_skip 53 = .ok (.iload_n 3, 1) := by decide +kernel
theorem dX6_skip_54 : decode cX6_skip 54 = .ok (.ireturn, 1) := by decide +kernel
set_option maxRecDepth 20000 in
theorem ggX6_forget_X6_isStretch : GoodIn wsX6_forget wsX6_isStretch := goodIn_r _ [8, 2, 9, 10, 7, 11, 24, 25, 26, 27, 28, 29, 30, 31, 32, 33, 34, 35, 36, 37, 38, 39] (by decide +kernel) (by decide +kernel)
set_option maxRecDepth 20000 in
theorem gX6_forget_X6_isStretch : GoodIn wsX6_forget (wsV RX6 161 RX6 yX6_isStretch wsX6_isStretch) := goodIn_app (goodIn_of _ (by decide +kernel)) ggX6_forget_X6_isStretch
set_option maxRecDepth 20000 in
theorem ggX6_forget_X6_minds : GoodIn wsX6_forget wsX6_minds := goodIn_r _ [15, 16, 2, 17, 18, 19, 7, 20, 24, 25, 26, 27, 28, 29, 30, 31, 32, 33, 34, 35, 36, 37, 38, 39] (by decide +kernel) (by decide +kernel)
set_option maxRecDepth 20000 in
theorem gX6_forget_X6_minds : GoodIn wsX6_forget (wsV RX6 149 RX6 yX6_minds wsX6_minds) := goodIn_app (goodIn_of _ (by decide +kernel)) ggX6_forget_X6_minds
set_option maxRecDepth 20000 in
theorem ggX6_forget_X6_ones : GoodIn wsX6_forget wsX6_ones := goodIn_r _ [23] (by decide +kernel) (by decide +kernel)
set_option maxRecDepth 20000 in
theorem gX6_forget_X6_ones : GoodIn wsX6_forget (va_wsS RX6 140 yX6_ones wsX6_ones) := goodIn_app (goodIn_of _ (by decide +kernel)) ggX6_forget_X6_ones
theorem dX6_forget_0 : decode cX6_forget 0 = .ok (.aload_n 0, 1) := by decide +kernel
theorem dX6_forget_1 : decode cX6_forget 1 = .ok (.iload_n 1, 1) := by decide +kernel
theorem dX6_forget_2 : decode cX6_forget 2 = .ok (.invokevirtual 161, 3) := by decide +kernel
theorem dX6_forget_5 : decode cX6_forget 5 = .ok (.ifCond .ne 6, 3) := by decide +kernel
theorem dX6_forget_8 : decode cX6_forget 8 = .ok (.ldc 51, 2) := by decide +kernel
theorem dX6_forget_10 : decode cX6_forget 10 = .ok (.ireturn, 1) := by decide +kernel
theorem dX6_forget_11 : decode cX6_forget 11 = .ok (.aload_n 0, 1) := by decide +kernel
theorem dX6_forget_12 : decode cX6_forget 12 = .ok (.getfield 7, 3) := by decide +kernel
theorem dX6_forget_15 : decode cX6_forget 15 = .ok (.bipush 29, 2) := by decide +kernel
theorem dX6_forget_17 : decode cX6_forget 17 = .ok (.iload_n 1, 1) := by decide +kernel
theorem dX6_forget_18 : decode cX6_forget 18 = .ok (.iadd, 1) := by decide +kernel
theorem dX6_forget_19 : decode cX6_forget 19 = .ok (.iaload, 1) := by decide +kernel
theorem dX6_forget_20 : decode cX6_forget 20 = .ok (.ifCond .ne 6, 3) := by decide +kernel
theorem dX6_forget_23 : decode cX6_forget 23 = .ok (.ldc 146, 2) := by decide +kernel
theorem dX6_forget_25 : decode cX6_forget 25 = .ok (.ireturn, 1) := by decide +kernel
theorem dX6_forget_26 : decode cX6_forget 26 = .ok (.aload_n 0, 1) := by decide +kernel
theorem dX6_forget_27 : decode cX6_forget 27 = .ok (.invokevirtual 149, 3) := by decide +kernel
theorem dX6_forget_30 : decode cX6_forget 30 = .ok (.aload_n 0, 1) := by decide +kernel
theorem dX6_forget_31 : decode cX6_forget 31 = .ok (.getfield 7, 3) := by decide +kernel
theorem dX6_forget_34 : decode cX6_forget 34 = .ok (.bipush 29, 2) := by decide +kernel
theorem dX6_forget_36 : decode cX6_forget 36 = .ok (.iload_n 1, 1) := by decide +kernel
theorem dX6_forget_37 : decode cX6_forget 37 = .ok (.iadd, 1) := by decide +kernel
theorem dX6_forget_38 : decode cX6_forget 38 = .ok (.iaload, 1) := by decide +kernel
theorem dX6_forget_39 : decode cX6_forget 39 = .ok (.invokestatic 140, 3) := by decide +kernel
theorem dX6_forget_42 : decode cX6_forget 42 = .ok (.istore_n 2, 1) := by decide +kernel
theorem dX6_forget_43 : decode cX6_forget 43 = .ok (.aload_n 0, 1) := by decide +kernel
theorem dX6_forget_44 : decode cX6_forget 44 = .ok (.getfield 7, 3) := by decide +kernel
theorem dX6_forget_47 : decode cX6_forget 47 = .ok (.bipush 29, 2) := by decide +kernel
theorem dX6_forget_49 : decode cX6_forget 49 = .ok (.iload_n 1, 1) := by decide +kernel
theorem dX6_forget_50 : decode cX6_forget 50 = .ok (.iadd, 1) := by decide +kernel
theorem dX6_forget_51 : decode cX6_forget 51 = .ok (.iconst 0, 1) := by decide +kernel
theorem dX6_forget_52 : decode cX6_forget 52 = .ok (.iastore, 1) := by decide +kernel
theorem dX6_forget_53 : decode cX6_forget 53 = .ok (.iload_n 2, 1) := by decide +kernel
theorem dX6_forget_54 : decode cX6_forget 54 = .ok (.ireturn, 1) := by decide +kernel
set_option maxRecDepth 20000 in
theorem ggX6_undo_X6_copyOf : GoodIn wsX6_undo wsX6_copyOf := goodIn_r _ [7, 8, 9, 10, 11, 12, 13, 14, 15, 16, 17, 18, 19, 20, 21, 22, 23, 24] (by decide +kernel) (by decide +kernel)
set_option maxRecDepth 20000 in
theorem gX6_undo_X6_copyOf : GoodIn wsX6_undo (wsV RX6 113 RX6 yX6_copyOf wsX6_copyOf) := goodIn_app (goodIn_of _ (by decide +kernel)) ggX6_undo_X6_copyOf
theorem dX6_undo_0 : decode cX6_undo 0 = .ok (.aload_n 0, 1) := by decide +kernel
theorem dX6_undo_1 : decode cX6_undo 1 = .ok (.getfield 117, 3) := by decide +kernel
theorem dX6_undo_4 : decode cX6_undo 4 = .ok (.ifCond .ne 6, 3) := by decide +kernel
theorem dX6_undo_7 : decode cX6_undo 7 = .ok (.ldc 146, 2) := by decide +kernel
theorem dX6_undo_9 : decode cX6_undo 9 = .ok (.ireturn, 1) := by decide +kernel
theorem dX6_undo_10 : decode cX6_undo 10 = .ok (.aload_n 0, 1) := by decide +kernel
theorem dX6_undo_11 : decode cX6_undo 11 = .ok (.dup, 1) := by decide +kernel
theorem dX6_undo_12 : decode cX6_undo 12 = .ok (.getfield 117, 3) := by decide +kernel
theorem dX6_undo_15 : decode cX6_undo 15 = .ok (.iconst 1, 1) := by decide +kernel
theorem dX6_undo_16 : decode cX6_undo 16 = .ok (.isub, 1) := by decide +kernel
theorem dX6_undo_17 : decode cX6_undo 17 = .ok (.putfield 117, 3) := by decide +kernel
theorem dX6_undo_20 : decode cX6_undo 20 = .ok (.aload_n 0, 1) := by decide +kernel
theorem dX6_undo_21 : decode cX6_undo 21 = .ok (.sipush 190, 3) := by decide +kernel
theorem dX6_undo_24 : decode cX6_undo 24 = .ok (.bipush 20, 2) := by decide +kernel
theorem dX6_undo_26 : decode cX6_undo 26 = .ok (.aload_n 0, 1) := by decide +kernel
theorem dX6_undo_27 : decode cX6_undo 27 = .ok (.getfield 117, 3) := by decide +kernel
theorem dX6_undo_30 : decode cX6_undo 30 = .ok (.imul, 1) := by decide +kernel
theorem dX6_undo_31 : decode cX6_undo 31 = .ok (.iadd, 1) := by decide +kernel
theorem dX6_undo_32 : decode cX6_undo 32 = .ok (.bipush 18, 2) := by decide +kernel
theorem dX6_undo_34 : decode cX6_undo 34 = .ok (.bipush 20, 2) := by decide +kernel
theorem dX6_undo_36 : decode cX6_undo 36 = .ok (.invokevirtual 113, 3) := by decide +kernel
theorem dX6_undo_39 : decode cX6_undo 39 = .ok (.aload_n 0, 1) := by decide +kernel
theorem dX6_undo_40 : decode cX6_undo 40 = .ok (.getfield 117, 3) := by decide +kernel
theorem dX6_undo_43 : decode cX6_undo 43 = .ok (.ireturn, 1) := by decide +kernel
set_option maxRecDepth 20000 in
theorem ggX6_pulpit_X6_isPulpit : GoodIn wsX6_pulpit wsX6_isPulpit := goodIn_r _ [7, 2, 8, 9, 6, 10, 23, 24, 25, 26, 27, 28, 29, 30, 31, 32, 33, 34, 35, 36, 37, 38] (by decide +kernel) (by decide +kernel)
set_option maxRecDepth 20000 in
theorem gX6_pulpit_X6_isPulpit : GoodIn wsX6_pulpit (wsV RX6 158 RX6 yX6_isPulpit wsX6_isPulpit) := goodIn_app (goodIn_of _ (by decide +kernel)) ggX6_pulpit_X6_isPulpit
set_option maxRecDepth 20000 in
theorem ggX6_pulpit_X6_councilsIn : GoodIn wsX6_pulpit wsX6_councilsIn := goodIn_r _ [14, 2, 23, 24, 25, 26, 27, 28, 29, 30, 31, 32, 33, 34, 35, 36, 37, 38] (by decide +kernel) (by decide +kernel)
set_option maxRecDepth 20000 in
theorem gX6_pulpit_X6_councilsIn : GoodIn wsX6_pulpit (wsV RX6 130 RX6 yX6_councilsIn wsX6_councilsIn) := goodIn_app (goodIn_of _ (by decide +kernel)) ggX6_pulpit_X6_councilsIn
set_option maxRecDepth 20000 in
theorem ggX6_pulpit_X6_saysIn : GoodIn wsX6_pulpit wsX6_saysIn := goodIn_r _ [18, 2, 19, 20, 21, 6, 22, 23, 24, 25, 26, 27, 28, 29, 30, 31, 32, 33, 34, 35, 36, 37, 38] (by decide +kernel) (by decide +kernel)
set_option maxRecDepth 20000 in
theorem gX6_pulpit_X6_saysIn : GoodIn wsX6_pulpit (wsV RX6 124 RX6 yX6_saysIn wsX6_saysIn) := goodIn_app (goodIn_of _ (by decide +kernel)) ggX6_pulpit_X6_saysIn
theorem dX6_pulpit_0 : decode cX6_pulpit 0 = .ok (.aload_n 0, 1) := by decide +kernel
theorem dX6_pulpit_1 : decode cX6_pulpit 1 = .ok (.iload_n 1, 1) := by decide +kernel
theorem dX6_pulpit_2 : decode cX6_pulpit 2 = .ok (.invokevirtual 158, 3) := by decide +kernel
theorem dX6_pulpit_5 : decode cX6_pulpit 5 = .ok (.ifCond .ne 6, 3) := by decide +kernel
theorem dX6_pulpit_8 : decode cX6_pulpit 8 = .ok (.ldc 51, 2) := by decide +kernel
theorem dX6_pulpit_10 : decode cX6_pulpit 10 = .ok (.ireturn, 1) := by decide +kernel
theorem dX6_pulpit_11 : decode cX6_pulpit 11 = .ok (.iload_n 2, 1) := by decide +kernel
theorem dX6_pulpit_12 : decode cX6_pulpit 12 = .ok (.tableswitch 69 0 3 #[32, 42, 52, 62], 32) := by decide +kernel
theorem dX6_pulpit_44 : decode cX6_pulpit 44 = .ok (.aload_n 0, 1) := by decide +kernel
theorem dX6_pulpit_45 : decode cX6_pulpit 45 = .ok (.getfield 7, 3) := by decide +kernel
theorem dX6_pulpit_48 : decode cX6_pulpit 48 = .ok (.bipush 19, 2) := by decide +kernel
theorem dX6_pulpit_50 : decode cX6_pulpit 50 = .ok (.iload_n 1, 1) := by decide +kernel
theorem dX6_pulpit_51 : decode cX6_pulpit 51 = .ok (.iadd, 1) := by decide +kernel
theorem dX6_pulpit_52 : decode cX6_pulpit 52 = .ok (.iaload, 1) := by decide +kernel
theorem dX6_pulpit_53 : decode cX6_pulpit 53 = .ok (.ireturn, 1) := by decide +kernel
theorem dX6_pulpit_54 : decode cX6_pulpit 54 = .ok (.aload_n 0, 1) := by decide +kernel
theorem dX6_pulpit_55 : decode cX6_pulpit 55 = .ok (.getfield 7, 3) := by decide +kernel
theorem dX6_pulpit_58 : decode cX6_pulpit 58 = .ok (.bipush 24, 2) := by decide +kernel
theorem dX6_pulpit_60 : decode cX6_pulpit 60 = .ok (.iload_n 1, 1) := by decide +kernel
theorem dX6_pulpit_61 : decode cX6_pulpit 61 = .ok (.iadd, 1) := by decide +kernel
theorem dX6_pulpit_62 : decode cX6_pulpit 62 = .ok (.iaload, 1) := by decide +kernel
theorem dX6_pulpit_63 : decode cX6_pulpit 63 = .ok (.ireturn, 1) := by decide +kernel
theorem dX6_pulpit_64 : decode cX6_pulpit 64 = .ok (.aload_n 0, 1) := by decide +kernel
theorem dX6_pulpit_65 : decode cX6_pulpit 65 = .ok (.iconst 0, 1) := by decide +kernel
theorem dX6_pulpit_66 : decode cX6_pulpit 66 = .ok (.invokevirtual 130, 3) := by decide +kernel
theorem dX6_pulpit_69 : decode cX6_pulpit 69 = .ok (.iload_n 1, 1) := by decide +kernel
theorem dX6_pulpit_70 : decode cX6_pulpit 70 = .ok (.ishr, 1) := by decide +kernel
theorem dX6_pulpit_71 : decode cX6_pulpit 71 = .ok (.iconst 1, 1) := by decide +kernel
theorem dX6_pulpit_72 : decode cX6_pulpit 72 = .ok (.iand, 1) := by decide +kernel
theorem dX6_pulpit_73 : decode cX6_pulpit 73 = .ok (.ireturn, 1) := by decide +kernel
theorem dX6_pulpit_74 : decode cX6_pulpit 74 = .ok (.aload_n 0, 1) := by decide +kernel
theorem dX6_pulpit_75 : decode cX6_pulpit 75 = .ok (.iconst 0, 1) := by decide +kernel
theorem dX6_pulpit_76 : decode cX6_pulpit 76 = .ok (.iload_n 1, 1) := by decide +kernel
theorem dX6_pulpit_77 : decode cX6_pulpit 77 = .ok (.invokevirtual 124, 3) := by decide +kernel
theorem dX6_pulpit_80 : decode cX6_pulpit 80 = .ok (.ireturn, 1) := by decide +kernel
theorem dX6_pulpit_81 : decode cX6_pulpit 81 = .ok (.ldc 51, 2) := by decide +kernel
theorem dX6_pulpit_83 : decode cX6_pulpit 83 = .ok (.ireturn, 1) := by decide +kernel
theorem dX6_pulpitsAt_0 : decode cX6_pulpitsAt 0 = .ok (.iconst 0, 1) := by decide +kernel
theorem dX6_pulpitsAt_1 : decode cX6_pulpitsAt 1 = .ok (.istore_n 2, 1) := by decide +kernel
theorem dX6_pulpitsAt_2 : decode cX6_pulpitsAt 2 = .ok (.iconst 0, 1) := by decide +kernel
theorem dX6_pulpitsAt_3 : decode cX6_pulpitsAt 3 = .ok (.istore_n 3, 1) := by decide +kernel
theorem dX6_pulpitsAt_4 : decode cX6_pulpitsAt 4 = .ok (.iload_n 3, 1) := by decide +kernel
theorem dX6_pulpitsAt_5 : decode cX6_pulpitsAt 5 = .ok (.aload_n 0, 1) := by decide +kernel
theorem dX6_pulpitsAt_6 : decode cX6_pulpitsAt 6 = .ok (.getfield 7, 3) := by decide +kernel
theorem dX6_pulpitsAt_9 : decode cX6_pulpitsAt 9 = .ok (.iconst 1, 1) := by decide +kernel
theorem dX6_pulpitsAt_10 : decode cX6_pulpitsAt 10 = .ok (.iaload, 1) := by decide +kernel
theorem dX6_pulpitsAt_11 : decode cX6_pulpitsAt 11 = .ok (.if_icmp .ge 32, 3) := by decide +kernel
theorem dX6_pulpitsAt_14 : decode cX6_pulpitsAt 14 = .ok (.iload_n 2, 1) := by decide +kernel
theorem dX6_pulpitsAt_15 : decode cX6_pulpitsAt 15 = .ok (.aload_n 0, 1) := by decide +kernel
theorem dX6_pulpitsAt_16 : decode cX6_pulpitsAt 16 = .ok (.getfield 7, 3) := by decide +kernel
theorem dX6_pulpitsAt_19 : decode cX6_pulpitsAt 19 = .ok (.bipush 19, 2) := by decide +kernel
theorem dX6_pulpitsAt_21 : decode cX6_pulpitsAt 21 = .ok (.iload_n 3, 1) := by decide +kernel
theorem dX6_pulpitsAt_22 : decode cX6_pulpitsAt 22 = .ok (.iadd, 1) := by decide +kernel
theorem dX6_pulpitsAt_23 : decode cX6_pulpitsAt 23 = .ok (.iaload, 1) := by decide +kernel
theorem dX6_pulpitsAt_24 : decode cX6_pulpitsAt 24 = .ok (.iload_n 1, 1) := by decide +kernel
theorem dX6_pulpitsAt_25 : decode cX6_pulpitsAt 25 = .ok (.if_icmp .ne 9, 3) := by decide +kernel
theorem dX6_pulpitsAt_28 : decode cX6_pulpitsAt 28 = .ok (.iconst 1, 1) := by decide +kernel
theorem dX6_pulpitsAt_29 : decode cX6_pulpitsAt 29 = .ok (.iload_n 3, 1) := by decide +kernel
theorem dX6_pulpitsAt_30 : decode cX6_pulpitsAt 30 = .ok (.ishl, 1) := by decide +kernel
theorem dX6_pulpitsAt_31 : decode cX6_pulpitsAt 31 = .ok (.goto 4, 3) := by decide +kernel
theorem dX6_pulpitsAt_34 : decode cX6_pulpitsAt 34 = .ok (.iconst 0, 1) := by decide +kernel
theorem dX6_pulpitsAt_35 : decode cX6_pulpitsAt 35 = .ok (.ior, 1) := by decide +kernel
theorem dX6_pulpitsAt_36 : decode cX6_pulpitsAt 36 = .ok (.istore_n 2, 1) := by decide +kernel
theorem dX6_pulpitsAt_37 : decode cX6_pulpitsAt 37 = .ok (.iinc 3 1, 3) := by decide +kernel
theorem dX6_pulpitsAt_40 : decode cX6_pulpitsAt 40 = .ok (.goto (-36), 3) := by decide +kernel
theorem dX6_pulpitsAt_43 : decode cX6_pulpitsAt 43 = .ok (.iload_n 2, 1) := by decide +kernel
theorem dX6_pulpitsAt_44 : decode cX6_pulpitsAt 44 = .ok (.ireturn, 1) := by decide +kernel
set_option maxRecDepth 20000 in
theorem ggX6_stretch_X6_isStretch : GoodIn wsX6_stretch wsX6_isStretch := goodIn_r _ [7, 2, 8, 9, 6, 10, 15, 16, 17, 18, 19, 20, 21, 22, 23, 24, 25, 26, 27, 28, 29, 30] (by decide +kernel) (by decide +kernel)
set_option maxRecDepth 20000 in
theorem gX6_stretch_X6_isStretch : GoodIn wsX6_stretch (wsV RX6 161 RX6 yX6_isStretch wsX6_isStretch) := goodIn_app (goodIn_of _ (by decide +kernel)) ggX6_stretch_X6_isStretch
set_option maxRecDepth 20000 in
theorem ggX6_stretch_X6_pulpitsAt : GoodIn wsX6_stretch wsX6_pulpitsAt := goodIn_r _ [14, 2, 15, 16, 17, 18, 19, 20, 21, 22, 23, 24, 25, 26, 27, 28, 29, 30] (by decide +kernel) (by decide +kernel)
set_option maxRecDepth 20000 in
theorem gX6_stretch_X6_pulpitsAt : GoodIn wsX6_stretch (wsV RX6 164 RX6 yX6_pulpitsAt wsX6_pulpitsAt) := goodIn_app (goodIn_of _ (by decide +kernel)) ggX6_stretch_X6_pulpitsAt
theorem dX6_stretch_0 : decode cX6_stretch 0 = .ok (.aload_n 0, 1) := by decide +kernel
theorem dX6_stretch_1 : decode cX6_stretch 1 = .ok (.iload_n 1, 1) := by decide +kernel
theorem dX6_stretch_2 : decode cX6_stretch 2 = .ok (.invokevirtual 161, 3) := by decide +kernel
theorem dX6_stretch_5 : decode cX6_stretch 5 = .ok (.ifCond .ne 6, 3) := by decide +kernel
theorem dX6_stretch_8 : decode cX6_stretch 8 = .ok (.ldc 51, 2) := by decide +kernel
theorem dX6_stretch_10 : decode cX6_stretch 10 = .ok (.ireturn, 1) := by decide +kernel
theorem dX6_stretch_11 : decode cX6_stretch 11 = .ok (.iload_n 2, 1) := by decide +kernel
theorem dX6_stretch_12 : decode cX6_stretch 12 = .ok (.ifCond .ne 14, 3) := by decide +kernel
theorem dX6_stretch_15 : decode cX6_stretch 15 = .ok (.aload_n 0, 1) := by decide +kernel
theorem dX6_stretch_16 : decode cX6_stretch 16 = .ok (.getfield 7, 3) := by decide +kernel
theorem dX6_stretch_19 : decode cX6_stretch 19 = .ok (.iconst 4, 1) := by decide +kernel
theorem dX6_stretch_20 : decode cX6_stretch 20 = .ok (.iload_n 1, 1) := by decide +kernel
theorem dX6_stretch_21 : decode cX6_stretch 21 = .ok (.iadd, 1) := by decide +kernel
theorem dX6_stretch_22 : decode cX6_stretch 22 = .ok (.iaload, 1) := by decide +kernel
theorem dX6_stretch_23 : decode cX6_stretch 23 = .ok (.goto 35, 3) := by decide +kernel
theorem dX6_stretch_26 : decode cX6_stretch 26 = .ok (.iload_n 2, 1) := by decide +kernel
theorem dX6_stretch_27 : decode cX6_stretch 27 = .ok (.iconst 1, 1) := by decide +kernel
theorem dX6_stretch_28 : decode cX6_stretch 28 = .ok (.if_icmp .ne 15, 3) := by decide +kernel
theorem dX6_stretch_31 : decode cX6_stretch 31 = .ok (.aload_n 0, 1) := by decide +kernel
theorem dX6_stretch_32 : decode cX6_stretch 32 = .ok (.getfield 7, 3) := by decide +kernel
theorem dX6_stretch_35 : decode cX6_stretch 35 = .ok (.bipush 29, 2) := by decide +kernel
theorem dX6_stretch_37 : decode cX6_stretch 37 = .ok (.iload_n 1, 1) := by decide +kernel
theorem dX6_stretch_38 : decode cX6_stretch 38 = .ok (.iadd, 1) := by decide +kernel
theorem dX6_stretch_39 : decode cX6_stretch 39 = .ok (.iaload, 1) := by decide +kernel
theorem dX6_stretch_40 : decode cX6_stretch 40 = .ok (.goto 18, 3) := by decide +kernel
theorem dX6_stretch_43 : decode cX6_stretch 43 = .ok (.iload_n 2, 1) := by decide +kernel
theorem dX6_stretch_44 : decode cX6_stretch 44 = .ok (.iconst 2, 1) := by decide +kernel
theorem dX6_stretch_45 : decode cX6_stretch 45 = .ok (.if_icmp .ne 11, 3) := by decide +kernel
theorem dX6_stretch_48 : decode cX6_stretch 48 = .ok (.aload_n 0, 1) := by decide +kernel
theorem dX6_stretch_49 : decode cX6_stretch 49 = .ok (.iload_n 1, 1) := by decide +kernel
theorem dX6_stretch_50 : decode cX6_stretch 50 = .ok (.invokevirtual 164, 3) := by decide +kernel
theorem dX6_stretch_53 : decode cX6_stretch 53 = .ok (.goto 5, 3) := by decide +kernel
theorem dX6_stretch_56 : decode cX6_stretch 56 = .ok (.ldc 51, 2) := by decide +kernel
theorem dX6_stretch_58 : decode cX6_stretch 58 = .ok (.ireturn, 1) := by decide +kernel
set_option maxRecDepth 20000 in
theorem ggX6_tries_X6_copyOf : GoodIn wsX6_tries wsX6_copyOf := goodIn_r _ [5, 6, 7, 8, 9, 10, 11, 12, 13, 14, 15, 16, 17, 18, 19, 20, 21, 22] (by decide +kernel) (by decide +kernel)
set_option maxRecDepth 20000 in
theorem gX6_tries_X6_copyOf : GoodIn wsX6_tries (wsV RX6 113 RX6 yX6_copyOf wsX6_copyOf) := goodIn_app (goodIn_of _ (by decide +kernel)) ggX6_tries_X6_copyOf
theorem dX6_tries_0 : decode cX6_tries 0 = .ok (.aload_n 0, 1) := by decide +kernel
theorem dX6_tries_1 : decode cX6_tries 1 = .ok (.iconst 0, 1) := by decide +kernel
theorem dX6_tries_2 : decode cX6_tries 2 = .ok (.bipush 38, 2) := by decide +kernel
theorem dX6_tries_4 : decode cX6_tries 4 = .ok (.bipush 38, 2) := by decide +kernel
theorem dX6_tries_6 : decode cX6_tries 6 = .ok (.invokevirtual 113, 3) := by decide +kernel
theorem dX6_tries_9 : decode cX6_tries 9 = .ok (.return_, 1) := by decide +kernel
set_option maxRecDepth 20000 in
theorem ggX6_goesOn_X6_hourBy : GoodIn wsX6_goesOn wsX6_hourBy := goodIn_r _ [5, 6, 7, 8, 9, 4, 10, 11, 12, 13, 14, 15, 16, 17, 18, 19, 20, 21, 22, 23, 24, 25, 26, 27, 28, 29, 30, 31, 32, 33, 34, 35, 36, 37, 38, 39, 40, 41] (by decide +kernel) (by decide +kernel)
set_option maxRecDepth 20000 in
theorem gX6_goesOn_X6_hourBy : GoodIn wsX6_goesOn (wsV RX6 152 RX6 yX6_hourBy wsX6_hourBy) := goodIn_app (goodIn_of _ (by decide +kernel)) ggX6_goesOn_X6_hourBy
theorem dX6_goesOn_0 : decode cX6_goesOn 0 = .ok (.iconst 0, 1) := by decide +kernel
theorem dX6_goesOn_1 : decode cX6_goesOn 1 = .ok (.istore_n 2, 1) := by decide +kernel
theorem dX6_goesOn_2 : decode cX6_goesOn 2 = .ok (.iload_n 2, 1) := by decide +kernel
theorem dX6_goesOn_3 : decode cX6_goesOn 3 = .ok (.iload_n 1, 1) := by decide +kernel
theorem dX6_goesOn_4 : decode cX6_goesOn 4 = .ok (.if_icmp .ge 16, 3) := by decide +kernel
theorem dX6_goesOn_7 : decode cX6_goesOn 7 = .ok (.aload_n 0, 1) := by decide +kernel
theorem dX6_goesOn_8 : decode cX6_goesOn 8 = .ok (.bipush 38, 2) := by decide +kernel
theorem dX6_goesOn_10 : decode cX6_goesOn 10 = .ok (.iconst 0, 1) := by decide +kernel
theorem dX6_goesOn_11 : decode cX6_goesOn 11 = .ok (.invokevirtual 152, 3) := by decide +kernel
theorem dX6_goesOn_14 : decode cX6_goesOn 14 = .ok (.iinc 2 1, 3) := by decide +kernel
theorem dX6_goesOn_17 : decode cX6_goesOn 17 = .ok (.goto (-15), 3) := by decide +kernel
theorem dX6_goesOn_20 : decode cX6_goesOn 20 = .ok (.return_, 1) := by decide +kernel
set_option maxRecDepth 20000 in
theorem ggX6_ahead_X6_isPulpit : GoodIn wsX6_ahead wsX6_isPulpit := goodIn_r _ [8, 3, 9, 10, 7, 11, 47, 48, 49, 50, 51, 52, 53, 54, 55, 56, 57, 58, 59, 60, 61, 62] (by decide +kernel) (by decide +kernel)
set_option maxRecDepth 20000 in
theorem gX6_ahead_X6_isPulpit : GoodIn wsX6_ahead (wsV RX6 158 RX6 yX6_isPulpit wsX6_isPulpit) := goodIn_app (goodIn_of _ (by decide +kernel)) ggX6_ahead_X6_isPulpit
set_option maxRecDepth 20000 in
theorem ggX6_ahead_X6_in : GoodIn wsX6_ahead wsX6_in := goodIn_r _ [11] (by decide +kernel) (by decide +kernel)
set_option maxRecDepth 20000 in
theorem gX6_ahead_X6_in : GoodIn wsX6_ahead (va_wsS RX6 34 yX6_in wsX6_in) := goodIn_app (goodIn_of _ (by decide +kernel)) ggX6_ahead_X6_in
set_option maxRecDepth 20000 in
theorem ggX6_ahead_X6_tries : GoodIn wsX6_ahead wsX6_tries := goodIn_r _ [15, 16, 17, 18, 7, 19, 3, 47, 48, 49, 50, 51, 52, 53, 54, 55, 56, 57, 58, 59, 60, 61, 62] (by decide +kernel) (by decide +kernel)
set_option maxRecDepth 20000 in
theorem gX6_ahead_X6_tries : GoodIn wsX6_ahead (wsV RX6 169 RX6 yX6_tries wsX6_tries) := goodIn_app (goodIn_of _ (by decide +kernel)) ggX6_ahead_X6_tries
set_option maxRecDepth 20000 in
theorem ggX6_ahead_X6_goesOn : GoodIn wsX6_ahead wsX6_goesOn := goodIn_r _ [23, 24, 25, 26, 7, 27, 3, 28, 29, 30, 31, 32, 33, 34, 35, 36, 37, 38, 39, 40, 41, 42, 43, 44, 45, 46, 47, 48, 49, 50, 51, 52, 53, 54, 55, 56, 57, 58, 59, 60, 61, 62] (by decide +kernel) (by decide +kernel)
set_option maxRecDepth 20000 in
theorem gX6_ahead_X6_goesOn : GoodIn wsX6_ahead (wsV RX6 172 RX6 yX6_goesOn wsX6_goesOn) := goodIn_app (goodIn_of _ (by decide +kernel)) ggX6_ahead_X6_goesOn
theorem dX6_ahead_0 : decode cX6_ahead 0 = .ok (.aload_n 0, 1) := by decide +kernel
theorem dX6_ahead_1 : decode cX6_ahead 1 = .ok (.iload_n 1, 1) := by decide +kernel
theorem dX6_ahead_2 : decode cX6_ahead 2 = .ok (.invokevirtual 158, 3) := by decide +kernel
theorem dX6_ahead_5 : decode cX6_ahead 5 = .ok (.ifCond .eq 25, 3) := by decide +kernel
theorem dX6_ahead_8 : decode cX6_ahead 8 = .ok (.iload_n 2, 1) := by decide +kernel
theorem dX6_ahead_9 : decode cX6_ahead 9 = .ok (.i2l, 1) := by decide +kernel
theorem dX6_ahead_10 : decode cX6_ahead 10 = .ok (.lconst 0, 1) := by decide +kernel
theorem dX6_ahead_11 : decode cX6_ahead 11 = .ok (.ldc2_w 167, 3) := by decide +kernel
theorem dX6_ahead_14 : decode cX6_ahead 14 = .ok (.invokestatic 34, 3) := by decide +kernel
theorem dX6_ahead_17 : decode cX6_ahead 17 = .ok (.ifCond .eq 13, 3) := by decide +kernel
theorem dX6_ahead_20 : decode cX6_ahead 20 = .ok (.iload_n 3, 1) := by decide +kernel
theorem dX6_ahead_21 : decode cX6_ahead 21 = .ok (.i2l, 1) := by decide +kernel
theorem dX6_ahead_22 : decode cX6_ahead 22 = .ok (.lconst 0, 1) := by decide +kernel
theorem dX6_ahead_23 : decode cX6_ahead 23 = .ok (.lconst 1, 1) := by decide +kernel
theorem dX6_ahead_24 : decode cX6_ahead 24 = .ok (.invokestatic 34, 3) := by decide +kernel
theorem dX6_ahead_27 : decode cX6_ahead 27 = .ok (.ifCond .ne 6, 3) := by decide +kernel
theorem dX6_ahead_30 : decode cX6_ahead 30 = .ok (.ldc 51, 2) := by decide +kernel
theorem dX6_ahead_32 : decode cX6_ahead 32 = .ok (.ireturn, 1) := by decide +kernel
theorem dX6_ahead_33 : decode cX6_ahead 33 = .ok (.aload_n 0, 1) := by decide +kernel
theorem dX6_ahead_34 : decode cX6_ahead 34 = .ok (.invokevirtual 169, 3) := by decide +kernel
theorem dX6_ahead_37 : decode cX6_ahead 37 = .ok (.aload_n 0, 1) := by decide +kernel
theorem dX6_ahead_38 : decode cX6_ahead 38 = .ok (.iload_n 2, 1) := by decide +kernel
theorem dX6_ahead_39 : decode cX6_ahead 39 = .ok (.invokevirtual 172, 3) := by decide +kernel
theorem dX6_ahead_42 : decode cX6_ahead 42 = .ok (.iload_n 3, 1) := by decide +kernel
theorem dX6_ahead_43 : decode cX6_ahead 43 = .ok (.ifCond .ne 15, 3) := by decide +kernel
theorem dX6_ahead_46 : decode cX6_ahead 46 = .ok (.aload_n 0, 1) := by decide +kernel
theorem dX6_ahead_47 : decode cX6_ahead 47 = .ok (.getfield 7, 3) := by decide +kernel
theorem dX6_ahead_50 : decode cX6_ahead 50 = .ok (.bipush 57, 2) := by decide +kernel
theorem dX6_ahead_52 : decode cX6_ahead 52 = .ok (.iload_n 1, 1) := by decide +kernel
theorem dX6_ahead_53 : decode cX6_ahead 53 = .ok (.iadd, 1) := by decide +kernel
theorem dX6_ahead_54 : decode cX6_ahead 54 = .ok (.iaload, 1) := by decide +kernel
theorem dX6_ahead_55 : decode cX6_ahead 55 = .ok (.goto 12, 3) := by decide +kernel
theorem dX6_ahead_58 : decode cX6_ahead 58 = .ok (.aload_n 0, 1) := by decide +kernel
theorem dX6_ahead_59 : decode cX6_ahead 59 = .ok (.getfield 7, 3) := by decide +kernel
theorem dX6_ahead_62 : decode cX6_ahead 62 = .ok (.bipush 62, 2) := by decide +kernel
theorem dX6_ahead_64 : decode cX6_ahead 64 = .ok (.iload_n 1, 1) := by decide +kernel
theorem dX6_ahead_65 : decode cX6_ahead 65 = .ok (.iadd, 1) := by decide +kernel
theorem dX6_ahead_66 : decode cX6_ahead 66 = .ok (.iaload, 1) := by decide +kernel
theorem dX6_ahead_67 : decode cX6_ahead 67 = .ok (.ireturn, 1) := by decide +kernel
set_option maxRecDepth 20000 in
theorem ggX6_heard_X6_isStretch : GoodIn wsX6_heard wsX6_isStretch := goodIn_r _ [8, 3, 9, 10, 7, 11, 47, 48, 49, 50, 51, 52, 53, 54, 55, 56, 57, 58, 59, 60, 61, 62] (by decide +kernel) (by decide +kernel)
set_option maxRecDepth 20000 in
theorem gX6_heard_X6_isStretch : GoodIn wsX6_heard (wsV RX6 161 RX6 yX6_isStretch wsX6_isStretch) := goodIn_app (goodIn_of _ (by decide +kernel)) ggX6_heard_X6_isStretch
set_option maxRecDepth 20000 in
theorem ggX6_heard_X6_in : GoodIn wsX6_heard wsX6_in := goodIn_r _ [11] (by decide +kernel) (by decide +kernel)
set_option maxRecDepth 20000 in
theorem gX6_heard_X6_in : GoodIn wsX6_heard (va_wsS RX6 34 yX6_in wsX6_in) := goodIn_app (goodIn_of _ (by decide +kernel)) ggX6_heard_X6_in
set_option maxRecDepth 20000 in
theorem ggX6_heard_X6_tries : GoodIn wsX6_heard wsX6_tries := goodIn_r _ [15, 16, 17, 18, 7, 19, 3, 47, 48, 49, 50, 51, 52, 53, 54, 55, 56, 57, 58, 59, 60, 61, 62] (by decide +kernel) (by decide +kernel)
set_option maxRecDepth 20000 in
theorem gX6_heard_X6_tries : GoodIn wsX6_heard (wsV RX6 169 RX6 yX6_tries wsX6_tries) := goodIn_app (goodIn_of _ (by decide +kernel)) ggX6_heard_X6_tries
set_option maxRecDepth 20000 in
theorem ggX6_heard_X6_goesOn : GoodIn wsX6_heard wsX6_goesOn := goodIn_r _ [23, 24, 25, 26, 7, 27, 3, 28, 29, 30, 31, 32, 33, 34, 35, 36, 37, 38, 39, 40, 41, 42, 43, 44, 45, 46, 47, 48, 49, 50, 51, 52, 53, 54, 55, 56, 57, 58, 59, 60, 61, 62] (by decide +kernel) (by decide +kernel)
set_option maxRecDepth 20000 in
theorem gX6_heard_X6_goesOn : GoodIn wsX6_heard (wsV RX6 172 RX6 yX6_goesOn wsX6_goesOn) := goodIn_app (goodIn_of _ (by decide +kernel)) ggX6_heard_X6_goesOn
theorem dX6_heard_0 : decode cX6_heard 0 = .ok (.aload_n 0, 1) := by decide +kernel
theorem dX6_heard_1 : decode cX6_heard 1 = .ok (.iload_n 1, 1) := by decide +kernel
theorem dX6_heard_2 : decode cX6_heard 2 = .ok (.invokevirtual 161, 3) := by decide +kernel
theorem dX6_heard_5 : decode cX6_heard 5 = .ok (.ifCond .eq 15, 3) := by decide +kernel
theorem dX6_heard_8 : decode cX6_heard 8 = .ok (.iload_n 2, 1) := by decide +kernel
theorem dX6_heard_9 : decode cX6_heard 9 = .ok (.i2l, 1) := by decide +kernel
theorem dX6_heard_10 : decode cX6_heard 10 = .ok (.lconst 0, 1) := by decide +kernel
theorem dX6_heard_11 : decode cX6_heard 11 = .ok (.ldc2_w 167, 3) := by decide +kernel
theorem dX6_heard_14 : decode cX6_heard 14 = .ok (.invokestatic 34, 3) := by decide +kernel
theorem dX6_heard_17 : decode cX6_heard 17 = .ok (.ifCond .ne 6, 3) := by decide +kernel
theorem dX6_heard_20 : decode cX6_heard 20 = .ok (.ldc 51, 2) := by decide +kernel
theorem dX6_heard_22 : decode cX6_heard 22 = .ok (.ireturn, 1) := by decide +kernel
theorem dX6_heard_23 : decode cX6_heard 23 = .ok (.aload_n 0, 1) := by decide +kernel
theorem dX6_heard_24 : decode cX6_heard 24 = .ok (.invokevirtual 169, 3) := by decide +kernel
theorem dX6_heard_27 : decode cX6_heard 27 = .ok (.aload_n 0, 1) := by decide +kernel
theorem dX6_heard_28 : decode cX6_heard 28 = .ok (.iload_n 2, 1) := by decide +kernel
theorem dX6_heard_29 : decode cX6_heard 29 = .ok (.invokevirtual 172, 3) := by decide +kernel
theorem dX6_heard_32 : decode cX6_heard 32 = .ok (.aload_n 0, 1) := by decide +kernel
theorem dX6_heard_33 : decode cX6_heard 33 = .ok (.getfield 7, 3) := by decide +kernel
theorem dX6_heard_36 : decode cX6_heard 36 = .ok (.bipush 67, 2) := by decide +kernel
theorem dX6_heard_38 : decode cX6_heard 38 = .ok (.iload_n 1, 1) := by decide +kernel
theorem dX6_heard_39 : decode cX6_heard 39 = .ok (.iadd, 1) := by decide +kernel
theorem dX6_heard_40 : decode cX6_heard 40 = .ok (.iaload, 1) := by decide +kernel
theorem dX6_heard_41 : decode cX6_heard 41 = .ok (.ireturn, 1) := by decide +kernel
set_option maxRecDepth 20000 in
theorem ggX6_whole_X6_isStretch : GoodIn wsX6_whole wsX6_isStretch := goodIn_r _ [7, 8, 9, 10, 6, 11, 51, 52, 53, 54, 55, 56, 57, 58, 59, 60, 61, 62, 63, 64, 65, 66] (by decide +kernel) (by decide +kernel)
set_option maxRecDepth 20000 in
theorem gX6_whole_X6_isStretch : GoodIn wsX6_whole (wsV RX6 161 RX6 yX6_isStretch wsX6_isStretch) := goodIn_app (goodIn_of _ (by decide +kernel)) ggX6_whole_X6_isStretch
set_option maxRecDepth 20000 in
theorem ggX6_whole_X6_tries : GoodIn wsX6_whole wsX6_tries := goodIn_r _ [15, 16, 17, 18, 6, 19, 8, 51, 52, 53, 54, 55, 56, 57, 58, 59, 60, 61, 62, 63, 64, 65, 66] (by decide +kernel) (by decide +kernel)
set_option maxRecDepth 20000 in
theorem gX6_whole_X6_tries : GoodIn wsX6_whole (wsV RX6 169 RX6 yX6_tries wsX6_tries) := goodIn_app (goodIn_of _ (by decide +kernel)) ggX6_whole_X6_tries
set_option maxRecDepth 20000 in
theorem ggX6_whole_X6_wholeOnes : GoodIn wsX6_whole wsX6_wholeOnes := goodIn_r _ [23, 8, 24, 25, 26, 6, 27, 51, 52, 53, 54, 55, 56, 57, 58, 59, 60, 61, 62, 63, 64, 65, 66] (by decide +kernel) (by decide +kernel)
set_option maxRecDepth 20000 in
theorem gX6_whole_X6_wholeOnes : GoodIn wsX6_whole (wsV RX6 155 RX6 yX6_wholeOnes wsX6_wholeOnes) := goodIn_app (goodIn_of _ (by decide +kernel)) ggX6_whole_X6_wholeOnes
set_option maxRecDepth 20000 in
theorem ggX6_whole_X6_has : GoodIn wsX6_whole wsX6_has := goodIn_r _ [30] (by decide +kernel) (by decide +kernel)
set_option maxRecDepth 20000 in
theorem gX6_whole_X6_has : GoodIn wsX6_whole (va_wsS RX6 127 yX6_has wsX6_has) := goodIn_app (goodIn_of _ (by decide +kernel)) ggX6_whole_X6_has
set_option maxRecDepth 20000 in
theorem ggX6_whole_X6_hourBy : GoodIn wsX6_whole wsX6_hourBy := goodIn_r _ [34, 8, 35, 36, 37, 6, 38, 28, 29, 30, 39, 40, 41, 42, 43, 44, 45, 46, 47, 48, 49, 50, 51, 52, 53, 54, 55, 56, 57, 58, 59, 60, 61, 62, 63, 64, 65, 66] (by decide +kernel) (by decide +kernel)
set_option maxRecDepth 20000 in
theorem gX6_whole_X6_hourBy : GoodIn wsX6_whole (wsV RX6 152 RX6 yX6_hourBy wsX6_hourBy) := goodIn_app (goodIn_of _ (by decide +kernel)) ggX6_whole_X6_hourBy
theorem dX6_whole_0 : decode cX6_whole 0 = .ok (.aload_n 0, 1) := by decide +kernel
theorem dX6_whole_1 : decode cX6_whole 1 = .ok (.iload_n 1, 1) := by decide +kernel
theorem dX6_whole_2 : decode cX6_whole 2 = .ok (.invokevirtual 161, 3) := by decide +kernel
theorem dX6_whole_5 : decode cX6_whole 5 = .ok (.ifCond .ne 6, 3) := by decide +kernel
theorem dX6_whole_8 : decode cX6_whole 8 = .ok (.ldc 51, 2) := by decide +kernel
theorem dX6_whole_10 : decode cX6_whole 10 = .ok (.ireturn, 1) := by decide +kernel
theorem dX6_whole_11 : decode cX6_whole 11 = .ok (.aload_n 0, 1) := by decide +kernel
theorem dX6_whole_12 : decode cX6_whole 12 = .ok (.invokevirtual 169, 3) := by decide +kernel
theorem dX6_whole_15 : decode cX6_whole 15 = .ok (.iconst 0, 1) := by decide +kernel
theorem dX6_whole_16 : decode cX6_whole 16 = .ok (.istore_n 2, 1) := by decide +kernel
theorem dX6_whole_17 : decode cX6_whole 17 = .ok (.iload_n 2, 1) := by decide +kernel
theorem dX6_whole_18 : decode cX6_whole 18 = .ok (.bipush 60, 2) := by decide +kernel
theorem dX6_whole_20 : decode cX6_whole 20 = .ok (.if_icmp .gt 31, 3) := by decide +kernel
theorem dX6_whole_23 : decode cX6_whole 23 = .ok (.aload_n 0, 1) := by decide +kernel
theorem dX6_whole_24 : decode cX6_whole 24 = .ok (.bipush 38, 2) := by decide +kernel
theorem dX6_whole_26 : decode cX6_whole 26 = .ok (.invokevirtual 155, 3) := by decide +kernel
theorem dX6_whole_29 : decode cX6_whole 29 = .ok (.iload_n 1, 1) := by decide +kernel
theorem dX6_whole_30 : decode cX6_whole 30 = .ok (.invokestatic 127, 3) := by decide +kernel
theorem dX6_whole_33 : decode cX6_whole 33 = .ok (.ifCond .eq 5, 3) := by decide +kernel
theorem dX6_whole_36 : decode cX6_whole 36 = .ok (.iload_n 2, 1) := by decide +kernel
theorem dX6_whole_37 : decode cX6_whole 37 = .ok (.ireturn, 1) := by decide +kernel
theorem dX6_whole_38 : decode cX6_whole 38 = .ok (.aload_n 0, 1) := by decide +kernel
theorem dX6_whole_39 : decode cX6_whole 39 = .ok (.bipush 38, 2) := by decide +kernel
theorem dX6_whole_41 : decode cX6_whole 41 = .ok (.iconst 0, 1) := by decide +kernel
theorem dX6_whole_42 : decode cX6_whole 42 = .ok (.invokevirtual 152, 3) := by decide +kernel
theorem dX6_whole_45 : decode cX6_whole 45 = .ok (.iinc 2 1, 3) := by decide +kernel
theorem dX6_whole_48 : decode cX6_whole 48 = .ok (.goto (-31), 3) := by decide +kernel
theorem dX6_whole_51 : decode cX6_whole 51 = .ok (.ldc 176, 2) := by decide +kernel
theorem dX6_whole_53 : decode cX6_whole 53 = .ok (.ireturn, 1) := by decide +kernel
set_option maxRecDepth 20000 in
theorem ggX6_leastOf_X6_has : GoodIn wsX6_leastOf wsX6_has := goodIn_r _ [4] (by decide +kernel) (by decide +kernel)
set_option maxRecDepth 20000 in
theorem gX6_leastOf_X6_has : GoodIn wsX6_leastOf (va_wsS RX6 127 yX6_has wsX6_has) := goodIn_app (goodIn_of _ (by decide +kernel)) ggX6_leastOf_X6_has
theorem dX6_leastOf_0 : decode cX6_leastOf 0 = .ok (.iconst 0, 1) := by decide +kernel
theorem dX6_leastOf_1 : decode cX6_leastOf 1 = .ok (.istore_n 2, 1) := by decide +kernel
theorem dX6_leastOf_2 : decode cX6_leastOf 2 = .ok (.iload_n 1, 1) := by decide +kernel
theorem dX6_leastOf_3 : decode cX6_leastOf 3 = .ok (.iload_n 2, 1) := by decide +kernel
theorem dX6_leastOf_4 : decode cX6_leastOf 4 = .ok (.invokestatic 127, 3) := by decide +kernel
theorem dX6_leastOf_7 : decode cX6_leastOf 7 = .ok (.ifCond .ne 9, 3) := by decide +kernel
theorem dX6_leastOf_10 : decode cX6_leastOf 10 = .ok (.iinc 2 1, 3) := by decide +kernel
theorem dX6_leastOf_13 : decode cX6_leastOf 13 = .ok (.goto (-11), 3) := by decide +kernel
theorem dX6_leastOf_16 : decode cX6_leastOf 16 = .ok (.iload_n 2, 1) := by decide +kernel
theorem dX6_leastOf_17 : decode cX6_leastOf 17 = .ok (.ireturn, 1) := by decide +kernel
set_option maxRecDepth 20000 in
theorem ggX6_first_X6_isRoad : GoodIn wsX6_first wsX6_isRoad := goodIn_r _ [8, 9, 56, 57, 58, 59, 60, 61, 62, 63, 64, 65, 66, 67, 68, 69, 70, 71] (by decide +kernel) (by decide +kernel)
set_option maxRecDepth 20000 in
theorem gX6_first_X6_isRoad : GoodIn wsX6_first (wsV RX6 143 RX6 yX6_isRoad wsX6_isRoad) := goodIn_app (goodIn_of _ (by decide +kernel)) ggX6_first_X6_isRoad
set_option maxRecDepth 20000 in
theorem ggX6_first_X6_in : GoodIn wsX6_first wsX6_in := goodIn_r _ [12] (by decide +kernel) (by decide +kernel)
set_option maxRecDepth 20000 in
theorem gX6_first_X6_in : GoodIn wsX6_first (va_wsS RX6 34 yX6_in wsX6_in) := goodIn_app (goodIn_of _ (by decide +kernel)) ggX6_first_X6_in
set_option maxRecDepth 20000 in
theorem ggX6_first_X6_tries : GoodIn wsX6_first wsX6_tries := goodIn_r _ [16, 17, 18, 19, 7, 20, 9, 56, 57, 58, 59, 60, 61, 62, 63, 64, 65, 66, 67, 68, 69, 70, 71] (by decide +kernel) (by decide +kernel)
set_option maxRecDepth 20000 in
theorem gX6_first_X6_tries : GoodIn wsX6_first (wsV RX6 169 RX6 yX6_tries wsX6_tries) := goodIn_app (goodIn_of _ (by decide +kernel)) ggX6_first_X6_tries
set_option maxRecDepth 20000 in
theorem ggX6_first_X6_wholeOnes : GoodIn wsX6_first wsX6_wholeOnes := goodIn_r _ [24, 9, 25, 26, 27, 7, 28, 56, 57, 58, 59, 60, 61, 62, 63, 64, 65, 66, 67, 68, 69, 70, 71] (by decide +kernel) (by decide +kernel)
set_option maxRecDepth 20000 in
theorem gX6_first_X6_wholeOnes : GoodIn wsX6_first (wsV RX6 155 RX6 yX6_wholeOnes wsX6_wholeOnes) := goodIn_app (goodIn_of _ (by decide +kernel)) ggX6_first_X6_wholeOnes
set_option maxRecDepth 20000 in
theorem ggX6_first_X6_leastOf : GoodIn wsX6_first wsX6_leastOf := goodIn_r _ [32, 33, 34, 7, 35] (by decide +kernel) (by decide +kernel)
set_option maxRecDepth 20000 in
theorem gX6_first_X6_leastOf : GoodIn wsX6_first (wsV RX6 177 RX6 yX6_leastOf wsX6_leastOf) := goodIn_app (goodIn_of _ (by decide +kernel)) ggX6_first_X6_leastOf
set_option maxRecDepth 20000 in
theorem ggX6_first_X6_hourBy : GoodIn wsX6_first wsX6_hourBy := goodIn_r _ [39, 9, 40, 41, 42, 7, 43, 33, 34, 35, 44, 45, 46, 47, 48, 49, 50, 51, 52, 53, 54, 55, 56, 57, 58, 59, 60, 61, 62, 63, 64, 65, 66, 67, 68, 69, 70, 71] (by decide +kernel) (by decide +kernel)
set_option maxRecDepth 20000 in
theorem gX6_first_X6_hourBy : GoodIn wsX6_first (wsV RX6 152 RX6 yX6_hourBy wsX6_hourBy) := goodIn_app (goodIn_of _ (by decide +kernel)) ggX6_first_X6_hourBy
theorem dX6_first_0 : decode cX6_first 0 = .ok (.aload_n 0, 1) := by decide +kernel
theorem dX6_first_1 : decode cX6_first 1 = .ok (.invokevirtual 143, 3) := by decide +kernel
theorem dX6_first_4 : decode cX6_first 4 = .ok (.ifCond .ne 6, 3) := by decide +kernel
theorem dX6_first_7 : decode cX6_first 7 = .ok (.ldc 146, 2) := by decide +kernel
theorem dX6_first_9 : decode cX6_first 9 = .ok (.ireturn, 1) := by decide +kernel
theorem dX6_first_10 : decode cX6_first 10 = .ok (.iload_n 1, 1) := by decide +kernel
theorem dX6_first_11 : decode cX6_first 11 = .ok (.i2l, 1) := by decide +kernel
theorem dX6_first_12 : decode cX6_first 12 = .ok (.lconst 0, 1) := by decide +kernel
theorem dX6_first_13 : decode cX6_first 13 = .ok (.lconst 1, 1) := by decide +kernel
theorem dX6_first_14 : decode cX6_first 14 = .ok (.invokestatic 34, 3) := by decide +kernel
theorem dX6_first_17 : decode cX6_first 17 = .ok (.ifCond .ne 6, 3) := by decide +kernel
theorem dX6_first_20 : decode cX6_first 20 = .ok (.ldc 51, 2) := by decide +kernel
theorem dX6_first_22 : decode cX6_first 22 = .ok (.ireturn, 1) := by decide +kernel
theorem dX6_first_23 : decode cX6_first 23 = .ok (.aload_n 0, 1) := by decide +kernel
theorem dX6_first_24 : decode cX6_first 24 = .ok (.invokevirtual 169, 3) := by decide +kernel
theorem dX6_first_27 : decode cX6_first 27 = .ok (.iconst 0, 1) := by decide +kernel
theorem dX6_first_28 : decode cX6_first 28 = .ok (.istore_n 2, 1) := by decide +kernel
theorem dX6_first_29 : decode cX6_first 29 = .ok (.iload_n 2, 1) := by decide +kernel
theorem dX6_first_30 : decode cX6_first 30 = .ok (.bipush 60, 2) := by decide +kernel
theorem dX6_first_32 : decode cX6_first 32 = .ok (.if_icmp .gt 41, 3) := by decide +kernel
theorem dX6_first_35 : decode cX6_first 35 = .ok (.aload_n 0, 1) := by decide +kernel
theorem dX6_first_36 : decode cX6_first 36 = .ok (.bipush 38, 2) := by decide +kernel
theorem dX6_first_38 : decode cX6_first 38 = .ok (.invokevirtual 155, 3) := by decide +kernel
theorem dX6_first_41 : decode cX6_first 41 = .ok (.istore_n 3, 1) := by decide +kernel
theorem dX6_first_42 : decode cX6_first 42 = .ok (.iload_n 3, 1) := by decide +kernel
theorem dX6_first_43 : decode cX6_first 43 = .ok (.ifCond .le 17, 3) := by decide +kernel
theorem dX6_first_46 : decode cX6_first 46 = .ok (.iload_n 1, 1) := by decide +kernel
theorem dX6_first_47 : decode cX6_first 47 = .ok (.ifCond .ne 11, 3) := by decide +kernel
theorem dX6_first_50 : decode cX6_first 50 = .ok (.aload_n 0, 1) := by decide +kernel
theorem dX6_first_51 : decode cX6_first 51 = .ok (.iload_n 3, 1) := by decide +kernel
theorem dX6_first_52 : decode cX6_first 52 = .ok (.invokevirtual 177, 3) := by decide +kernel
theorem dX6_first_55 : decode cX6_first 55 = .ok (.goto 4, 3) := by decide +kernel
theorem dX6_first_58 : decode cX6_first 58 = .ok (.iload_n 2, 1) := by decide +kernel
theorem dX6_first_59 : decode cX6_first 59 = .ok (.ireturn, 1) := by decide +kernel
theorem dX6_first_60 : decode cX6_first 60 = .ok (.aload_n 0, 1) := by decide +kernel
theorem dX6_first_61 : decode cX6_first 61 = .ok (.bipush 38, 2) := by decide +kernel
theorem dX6_first_63 : decode cX6_first 63 = .ok (.iconst 0, 1) := by decide +kernel
theorem dX6_first_64 : decode cX6_first 64 = .ok (.invokevirtual 152, 3) := by decide +kernel
theorem dX6_first_67 : decode cX6_first 67 = .ok (.iinc 2 1, 3) := by decide +kernel
theorem dX6_first_70 : decode cX6_first 70 = .ok (.goto (-41), 3) := by decide +kernel
theorem dX6_first_73 : decode cX6_first 73 = .ok (.ldc 176, 2) := by decide +kernel
theorem dX6_first_75 : decode cX6_first 75 = .ok (.ireturn, 1) := by decide +kernel
set_option maxRecDepth 20000 in
theorem ggX6_left_X6_isRoad : GoodIn wsX6_left wsX6_isRoad := goodIn_r _ [9, 4, 52, 53, 54, 55, 56, 57, 58, 59, 60, 61, 62, 63, 64, 65, 66, 67] (by decide +kernel) (by decide +kernel)
set_option maxRecDepth 20000 in
theorem gX6_left_X6_isRoad : GoodIn wsX6_left (wsV RX6 143 RX6 yX6_isRoad wsX6_isRoad) := goodIn_app (goodIn_of _ (by decide +kernel)) ggX6_left_X6_isRoad
set_option maxRecDepth 20000 in
theorem ggX6_left_X6_in : GoodIn wsX6_left wsX6_in := goodIn_r _ [12] (by decide +kernel) (by decide +kernel)
set_option maxRecDepth 20000 in
theorem gX6_left_X6_in : GoodIn wsX6_left (va_wsS RX6 34 yX6_in wsX6_in) := goodIn_app (goodIn_of _ (by decide +kernel)) ggX6_left_X6_in
set_option maxRecDepth 20000 in
theorem ggX6_left_X6_tries : GoodIn wsX6_left wsX6_tries := goodIn_r _ [16, 17, 18, 19, 8, 20, 4, 52, 53, 54, 55, 56, 57, 58, 59, 60, 61, 62, 63, 64, 65, 66, 67] (by decide +kernel) (by decide +kernel)
set_option maxRecDepth 20000 in
theorem gX6_left_X6_tries : GoodIn wsX6_left (wsV RX6 169 RX6 yX6_tries wsX6_tries) := goodIn_app (goodIn_of _ (by decide +kernel)) ggX6_left_X6_tries
set_option maxRecDepth 20000 in
theorem ggX6_left_X6_goesOn : GoodIn wsX6_left wsX6_goesOn := goodIn_r _ [24, 25, 26, 27, 8, 28, 4, 29, 30, 31, 32, 33, 34, 35, 36, 37, 38, 39, 40, 41, 42, 43, 44, 45, 46, 47, 52, 53, 54, 55, 56, 57, 58, 59, 60, 61, 62, 63, 64, 65, 66, 67] (by decide +kernel) (by decide +kernel)
set_option maxRecDepth 20000 in
theorem gX6_left_X6_goesOn : GoodIn wsX6_left (wsV RX6 172 RX6 yX6_goesOn wsX6_goesOn) := goodIn_app (goodIn_of _ (by decide +kernel)) ggX6_left_X6_goesOn
set_option maxRecDepth 20000 in
theorem ggX6_left_X6_all : GoodIn wsX6_left wsX6_all := goodIn_r _ [51, 4, 52, 53, 54, 55, 56, 57, 58, 59, 60, 61, 62, 63, 64, 65, 66, 67] (by decide +kernel) (by decide +kernel)
set_option maxRecDepth 20000 in
theorem gX6_left_X6_all : GoodIn wsX6_left (wsV RX6 137 RX6 yX6_all wsX6_all) := goodIn_app (goodIn_of _ (by decide +kernel)) ggX6_left_X6_all
theorem dX6_left_0 : decode cX6_left 0 = .ok (.aload_n 0, 1) := by decide +kernel
theorem dX6_left_1 : decode cX6_left 1 = .ok (.invokevirtual 143, 3) := by decide +kernel
theorem dX6_left_4 : decode cX6_left 4 = .ok (.ifCond .ne 6, 3) := by decide +kernel
theorem dX6_left_7 : decode cX6_left 7 = .ok (.ldc 146, 2) := by decide +kernel
theorem dX6_left_9 : decode cX6_left 9 = .ok (.ireturn, 1) := by decide +kernel
theorem dX6_left_10 : decode cX6_left 10 = .ok (.iload_n 1, 1) := by decide +kernel
theorem dX6_left_11 : decode cX6_left 11 = .ok (.i2l, 1) := by decide +kernel
theorem dX6_left_12 : decode cX6_left 12 = .ok (.lconst 0, 1) := by decide +kernel
theorem dX6_left_13 : decode cX6_left 13 = .ok (.ldc2_w 167, 3) := by decide +kernel
theorem dX6_left_16 : decode cX6_left 16 = .ok (.invokestatic 34, 3) := by decide +kernel
theorem dX6_left_19 : decode cX6_left 19 = .ok (.ifCond .ne 6, 3) := by decide +kernel
theorem dX6_left_22 : decode cX6_left 22 = .ok (.ldc 51, 2) := by decide +kernel
theorem dX6_left_24 : decode cX6_left 24 = .ok (.ireturn, 1) := by decide +kernel
theorem dX6_left_25 : decode cX6_left 25 = .ok (.aload_n 0, 1) := by decide +kernel
theorem dX6_left_26 : decode cX6_left 26 = .ok (.invokevirtual 169, 3) := by decide +kernel
theorem dX6_left_29 : decode cX6_left 29 = .ok (.aload_n 0, 1) := by decide +kernel
theorem dX6_left_30 : decode cX6_left 30 = .ok (.iload_n 1, 1) := by decide +kernel
theorem dX6_left_31 : decode cX6_left 31 = .ok (.invokevirtual 172, 3) := by decide +kernel
theorem dX6_left_34 : decode cX6_left 34 = .ok (.aload_n 0, 1) := by decide +kernel
theorem dX6_left_35 : decode cX6_left 35 = .ok (.iconst 0, 1) := by decide +kernel
theorem dX6_left_36 : decode cX6_left 36 = .ok (.invokevirtual 137, 3) := by decide +kernel
theorem dX6_left_39 : decode cX6_left 39 = .ok (.istore_n 2, 1) := by decide +kernel
theorem dX6_left_40 : decode cX6_left 40 = .ok (.iconst 0, 1) := by decide +kernel
theorem dX6_left_41 : decode cX6_left 41 = .ok (.istore_n 3, 1) := by decide +kernel
theorem dX6_left_42 : decode cX6_left 42 = .ok (.iload_n 3, 1) := by decide +kernel
theorem dX6_left_43 : decode cX6_left 43 = .ok (.aload_n 0, 1) := by decide +kernel
theorem dX6_left_44 : decode cX6_left 44 = .ok (.getfield 7, 3) := by decide +kernel
theorem dX6_left_47 : decode cX6_left 47 = .ok (.iconst 0, 1) := by decide +kernel
theorem dX6_left_48 : decode cX6_left 48 = .ok (.iaload, 1) := by decide +kernel
theorem dX6_left_49 : decode cX6_left 49 = .ok (.if_icmp .ge 23, 3) := by decide +kernel
theorem dX6_left_52 : decode cX6_left 52 = .ok (.iload_n 2, 1) := by decide +kernel
theorem dX6_left_53 : decode cX6_left 53 = .ok (.aload_n 0, 1) := by decide +kernel
theorem dX6_left_54 : decode cX6_left 54 = .ok (.getfield 7, 3) := by decide +kernel
theorem dX6_left_57 : decode cX6_left 57 = .ok (.bipush 67, 2) := by decide +kernel
theorem dX6_left_59 : decode cX6_left 59 = .ok (.iload_n 3, 1) := by decide +kernel
theorem dX6_left_60 : decode cX6_left 60 = .ok (.iadd, 1) := by decide +kernel
theorem dX6_left_61 : decode cX6_left 61 = .ok (.iaload, 1) := by decide +kernel
theorem dX6_left_62 : decode cX6_left 62 = .ok (.iconst (-1), 1) := by decide +kernel
theorem dX6_left_63 : decode cX6_left 63 = .ok (.ixor, 1) := by decide +kernel
theorem dX6_left_64 : decode cX6_left 64 = .ok (.iand, 1) := by decide +kernel
theorem dX6_left_65 : decode cX6_left 65 = .ok (.istore_n 2, 1) := by decide +kernel
theorem dX6_left_66 : decode cX6_left 66 = .ok (.iinc 3 1, 3) := by decide +kernel
theorem dX6_left_69 : decode cX6_left 69 = .ok (.goto (-27), 3) := by decide +kernel
theorem dX6_left_72 : decode cX6_left 72 = .ok (.iload_n 2, 1) := by decide +kernel
theorem dX6_left_73 : decode cX6_left 73 = .ok (.ireturn, 1) := by decide +kernel
set_option maxRecDepth 20000 in
theorem ggX6_meet_X6_isPulpit : GoodIn wsX6_meet wsX6_isPulpit := goodIn_r _ [8, 2, 9, 10, 7, 11, 43, 44, 45, 46, 47, 48, 49, 50, 51, 52, 53, 54, 55, 56, 57, 58] (by decide +kernel) (by decide +kernel)
set_option maxRecDepth 20000 in
theorem gX6_meet_X6_isPulpit : GoodIn wsX6_meet (wsV RX6 158 RX6 yX6_isPulpit wsX6_isPulpit) := goodIn_app (goodIn_of _ (by decide +kernel)) ggX6_meet_X6_isPulpit
set_option maxRecDepth 20000 in
theorem ggX6_meet_X6_tries : GoodIn wsX6_meet wsX6_tries := goodIn_r _ [15, 16, 17, 18, 7, 19, 2, 43, 44, 45, 46, 47, 48, 49, 50, 51, 52, 53, 54, 55, 56, 57, 58] (by decide +kernel) (by decide +kernel)
set_option maxRecDepth 20000 in
theorem gX6_meet_X6_tries : GoodIn wsX6_meet (wsV RX6 169 RX6 yX6_tries wsX6_tries) := goodIn_app (goodIn_of _ (by decide +kernel)) ggX6_meet_X6_tries
set_option maxRecDepth 20000 in
theorem ggX6_meet_X6_hourBy : GoodIn wsX6_meet wsX6_hourBy := goodIn_r _ [23, 2, 24, 25, 26, 7, 27, 28, 29, 30, 31, 32, 33, 34, 35, 36, 37, 38, 39, 40, 41, 42, 43, 44, 45, 46, 47, 48, 49, 50, 51, 52, 53, 54, 55, 56, 57, 58] (by decide +kernel) (by decide +kernel)
set_option maxRecDepth 20000 in
theorem gX6_meet_X6_hourBy : GoodIn wsX6_meet (wsV RX6 152 RX6 yX6_hourBy wsX6_hourBy) := goodIn_app (goodIn_of _ (by decide +kernel)) ggX6_meet_X6_hourBy
theorem dX6_meet_0 : decode cX6_meet 0 = .ok (.aload_n 0, 1) := by decide +kernel
theorem dX6_meet_1 : decode cX6_meet 1 = .ok (.iload_n 1, 1) := by decide +kernel
theorem dX6_meet_2 : decode cX6_meet 2 = .ok (.invokevirtual 158, 3) := by decide +kernel
theorem dX6_meet_5 : decode cX6_meet 5 = .ok (.ifCond .eq 16, 3) := by decide +kernel
theorem dX6_meet_8 : decode cX6_meet 8 = .ok (.aload_n 0, 1) := by decide +kernel
theorem dX6_meet_9 : decode cX6_meet 9 = .ok (.iload_n 2, 1) := by decide +kernel
theorem dX6_meet_10 : decode cX6_meet 10 = .ok (.invokevirtual 158, 3) := by decide +kernel
theorem dX6_meet_13 : decode cX6_meet 13 = .ok (.ifCond .eq 8, 3) := by decide +kernel
theorem dX6_meet_16 : decode cX6_meet 16 = .ok (.iload_n 1, 1) := by decide +kernel
theorem dX6_meet_17 : decode cX6_meet 17 = .ok (.iload_n 2, 1) := by decide +kernel
theorem dX6_meet_18 : decode cX6_meet 18 = .ok (.if_icmp .ne 6, 3) := by decide +kernel
theorem dX6_meet_21 : decode cX6_meet 21 = .ok (.ldc 51, 2) := by decide +kernel
theorem dX6_meet_23 : decode cX6_meet 23 = .ok (.ireturn, 1) := by decide +kernel
theorem dX6_meet_24 : decode cX6_meet 24 = .ok (.aload_n 0, 1) := by decide +kernel
theorem dX6_meet_25 : decode cX6_meet 25 = .ok (.invokevirtual 169, 3) := by decide +kernel
theorem dX6_meet_28 : decode cX6_meet 28 = .ok (.iconst 0, 1) := by decide +kernel
theorem dX6_meet_29 : decode cX6_meet 29 = .ok (.istore_n 3, 1) := by decide +kernel
theorem dX6_meet_30 : decode cX6_meet 30 = .ok (.iload_n 3, 1) := by decide +kernel
theorem dX6_meet_31 : decode cX6_meet 31 = .ok (.bipush 60, 2) := by decide +kernel
theorem dX6_meet_33 : decode cX6_meet 33 = .ok (.if_icmp .gt 39, 3) := by decide +kernel
theorem dX6_meet_36 : decode cX6_meet 36 = .ok (.aload_n 0, 1) := by decide +kernel
theorem dX6_meet_37 : decode cX6_meet 37 = .ok (.getfield 7, 3) := by decide +kernel
theorem dX6_meet_40 : decode cX6_meet 40 = .ok (.bipush 57, 2) := by decide +kernel
theorem dX6_meet_42 : decode cX6_meet 42 = .ok (.iload_n 1, 1) := by decide +kernel
theorem dX6_meet_43 : decode cX6_meet 43 = .ok (.iadd, 1) := by decide +kernel
theorem dX6_meet_44 : decode cX6_meet 44 = .ok (.iaload, 1) := by decide +kernel
theorem dX6_meet_45 : decode cX6_meet 45 = .ok (.aload_n 0, 1) := by decide +kernel
theorem dX6_meet_46 : decode cX6_meet 46 = .ok (.getfield 7, 3) := by decide +kernel
theorem dX6_meet_49 : decode cX6_meet 49 = .ok (.bipush 57, 2) := by decide +kernel
theorem dX6_meet_51 : decode cX6_meet 51 = .ok (.iload_n 2, 1) := by decide +kernel
theorem dX6_meet_52 : decode cX6_meet 52 = .ok (.iadd, 1) := by decide +kernel
theorem dX6_meet_53 : decode cX6_meet 53 = .ok (.iaload, 1) := by decide +kernel
theorem dX6_meet_54 : decode cX6_meet 54 = .ok (.if_icmp .ne 5, 3) := by decide +kernel
theorem dX6_meet_57 : decode cX6_meet 57 = .ok (.iload_n 3, 1) := by decide +kernel
theorem dX6_meet_58 : decode cX6_meet 58 = .ok (.ireturn, 1) := by decide +kernel
theorem dX6_meet_59 : decode cX6_meet 59 = .ok (.aload_n 0, 1) := by decide +kernel
theorem dX6_meet_60 : decode cX6_meet 60 = .ok (.bipush 38, 2) := by decide +kernel
theorem dX6_meet_62 : decode cX6_meet 62 = .ok (.iconst 0, 1) := by decide +kernel
theorem dX6_meet_63 : decode cX6_meet 63 = .ok (.invokevirtual 152, 3) := by decide +kernel
theorem dX6_meet_66 : decode cX6_meet 66 = .ok (.iinc 3 1, 3) := by decide +kernel
theorem dX6_meet_69 : decode cX6_meet 69 = .ok (.goto (-39), 3) := by decide +kernel
theorem dX6_meet_72 : decode cX6_meet 72 = .ok (.ldc 176, 2) := by decide +kernel
theorem dX6_meet_74 : decode cX6_meet 74 = .ok (.ireturn, 1) := by decide +kernel
set_option maxRecDepth 20000 in
theorem ggX6_round_X6_isRoad : GoodIn wsX6_round wsX6_isRoad := goodIn_r _ [8, 2, 40, 41, 42, 43, 44, 45, 46, 47, 48, 49, 50, 51, 52, 53, 54, 55] (by decide +kernel) (by decide +kernel)
set_option maxRecDepth 20000 in
theorem gX6_round_X6_isRoad : GoodIn wsX6_round (wsV RX6 143 RX6 yX6_isRoad wsX6_isRoad) := goodIn_app (goodIn_of _ (by decide +kernel)) ggX6_round_X6_isRoad
set_option maxRecDepth 20000 in
theorem ggX6_round_X6_tries : GoodIn wsX6_round wsX6_tries := goodIn_r _ [12, 13, 14, 15, 7, 16, 2, 40, 41, 42, 43, 44, 45, 46, 47, 48, 49, 50, 51, 52, 53, 54, 55] (by decide +kernel) (by decide +kernel)
set_option maxRecDepth 20000 in
theorem gX6_round_X6_tries : GoodIn wsX6_round (wsV RX6 169 RX6 yX6_tries wsX6_tries) := goodIn_app (goodIn_of _ (by decide +kernel)) ggX6_round_X6_tries
set_option maxRecDepth 20000 in
theorem ggX6_round_X6_hourBy : GoodIn wsX6_round wsX6_hourBy := goodIn_r _ [20, 2, 21, 22, 23, 7, 24, 25, 26, 27, 28, 29, 30, 31, 32, 33, 34, 35, 36, 37, 38, 39, 40, 41, 42, 43, 44, 45, 46, 47, 48, 49, 50, 51, 52, 53, 54, 55] (by decide +kernel) (by decide +kernel)
set_option maxRecDepth 20000 in
theorem gX6_round_X6_hourBy : GoodIn wsX6_round (wsV RX6 152 RX6 yX6_hourBy wsX6_hourBy) := goodIn_app (goodIn_of _ (by decide +kernel)) ggX6_round_X6_hourBy
theorem dX6_round_0 : decode cX6_round 0 = .ok (.aload_n 0, 1) := by decide +kernel
theorem dX6_round_1 : decode cX6_round 1 = .ok (.invokevirtual 143, 3) := by decide +kernel
theorem dX6_round_4 : decode cX6_round 4 = .ok (.ifCond .ne 6, 3) := by decide +kernel
theorem dX6_round_7 : decode cX6_round 7 = .ok (.ldc 146, 2) := by decide +kernel
theorem dX6_round_9 : decode cX6_round 9 = .ok (.ireturn, 1) := by decide +kernel
theorem dX6_round_10 : decode cX6_round 10 = .ok (.aload_n 0, 1) := by decide +kernel
theorem dX6_round_11 : decode cX6_round 11 = .ok (.invokevirtual 169, 3) := by decide +kernel
theorem dX6_round_14 : decode cX6_round 14 = .ok (.iconst 1, 1) := by decide +kernel
theorem dX6_round_15 : decode cX6_round 15 = .ok (.istore_n 1, 1) := by decide +kernel
theorem dX6_round_16 : decode cX6_round 16 = .ok (.iload_n 1, 1) := by decide +kernel
theorem dX6_round_17 : decode cX6_round 17 = .ok (.sipush 200, 3) := by decide +kernel
theorem dX6_round_20 : decode cX6_round 20 = .ok (.if_icmp .gt 69, 3) := by decide +kernel
theorem dX6_round_23 : decode cX6_round 23 = .ok (.aload_n 0, 1) := by decide +kernel
theorem dX6_round_24 : decode cX6_round 24 = .ok (.bipush 38, 2) := by decide +kernel
theorem dX6_round_26 : decode cX6_round 26 = .ok (.iconst 0, 1) := by decide +kernel
theorem dX6_round_27 : decode cX6_round 27 = .ok (.invokevirtual 152, 3) := by decide +kernel
theorem dX6_round_30 : decode cX6_round 30 = .ok (.iconst 1, 1) := by decide +kernel
theorem dX6_round_31 : decode cX6_round 31 = .ok (.istore_n 2, 1) := by decide +kernel
theorem dX6_round_32 : decode cX6_round 32 = .ok (.iconst 0, 1) := by decide +kernel
theorem dX6_round_33 : decode cX6_round 33 = .ok (.istore_n 3, 1) := by decide +kernel
theorem dX6_round_34 : decode cX6_round 34 = .ok (.iload_n 3, 1) := by decide +kernel
theorem dX6_round_35 : decode cX6_round 35 = .ok (.bipush 10, 2) := by decide +kernel
theorem dX6_round_37 : decode cX6_round 37 = .ok (.if_icmp .ge 40, 3) := by decide +kernel
theorem dX6_round_40 : decode cX6_round 40 = .ok (.iload_n 2, 1) := by decide +kernel
theorem dX6_round_41 : decode cX6_round 41 = .ok (.ifCond .eq 28, 3) := by decide +kernel
theorem dX6_round_44 : decode cX6_round 44 = .ok (.aload_n 0, 1) := by decide +kernel
theorem dX6_round_45 : decode cX6_round 45 = .ok (.getfield 7, 3) := by decide +kernel
theorem dX6_round_48 : decode cX6_round 48 = .ok (.bipush 57, 2) := by decide +kernel
theorem dX6_round_50 : decode cX6_round 50 = .ok (.iload_n 3, 1) := by decide +kernel
theorem dX6_round_51 : decode cX6_round 51 = .ok (.iadd, 1) := by decide +kernel
theorem dX6_round_52 : decode cX6_round 52 = .ok (.iaload, 1) := by decide +kernel
theorem dX6_round_53 : decode cX6_round 53 = .ok (.aload_n 0, 1) := by decide +kernel
theorem dX6_round_54 : decode cX6_round 54 = .ok (.getfield 7, 3) := by decide +kernel
theorem dX6_round_57 : decode cX6_round 57 = .ok (.bipush 19, 2) := by decide +kernel
theorem dX6_round_59 : decode cX6_round 59 = .ok (.iload_n 3, 1) := by decide +kernel
theorem dX6_round_60 : decode cX6_round 60 = .ok (.iadd, 1) := by decide +kernel
theorem dX6_round_61 : decode cX6_round 61 = .ok (.iaload, 1) := by decide +kernel
theorem dX6_round_62 : decode cX6_round 62 = .ok (.if_icmp .ne 7, 3) := by decide +kernel
theorem dX6_round_65 : decode cX6_round 65 = .ok (.iconst 1, 1) := by decide +kernel
theorem dX6_round_66 : decode cX6_round 66 = .ok (.goto 4, 3) := by decide +kernel
theorem dX6_round_69 : decode cX6_round 69 = .ok (.iconst 0, 1) := by decide +kernel
theorem dX6_round_70 : decode cX6_round 70 = .ok (.istore_n 2, 1) := by decide +kernel
theorem dX6_round_71 : decode cX6_round 71 = .ok (.iinc 3 1, 3) := by decide +kernel
theorem dX6_round_74 : decode cX6_round 74 = .ok (.goto (-40), 3) := by decide +kernel
theorem dX6_round_77 : decode cX6_round 77 = .ok (.iload_n 2, 1) := by decide +kernel
theorem dX6_round_78 : decode cX6_round 78 = .ok (.ifCond .eq 5, 3) := by decide +kernel
theorem dX6_round_81 : decode cX6_round 81 = .ok (.iload_n 1, 1) := by decide +kernel
theorem dX6_round_82 : decode cX6_round 82 = .ok (.ireturn, 1) := by decide +kernel
theorem dX6_round_83 : decode cX6_round 83 = .ok (.iinc 1 1, 3) := by decide +kernel
theorem dX6_round_86 : decode cX6_round 86 = .ok (.goto (-70), 3) := by decide +kernel
theorem dX6_round_89 : decode cX6_round 89 = .ok (.ldc 176, 2) := by decide +kernel
theorem dX6_round_91 : decode cX6_round 91 = .ok (.ireturn, 1) := by decide +kernel
set_option maxRecDepth 20000 in
theorem ggX6_best_X6_isPulpit : GoodIn wsX6_best wsX6_isPulpit := goodIn_r _ [8, 3, 9, 10, 7, 11, 54, 55, 56, 57, 58, 59, 60, 61, 62, 63, 64, 65, 66, 67, 68, 69] (by decide +kernel) (by decide +kernel)
set_option maxRecDepth 20000 in
theorem gX6_best_X6_isPulpit : GoodIn wsX6_best (wsV RX6 158 RX6 yX6_isPulpit wsX6_isPulpit) := goodIn_app (goodIn_of _ (by decide +kernel)) ggX6_best_X6_isPulpit
set_option maxRecDepth 20000 in
theorem ggX6_best_X6_isStretch : GoodIn wsX6_best wsX6_isStretch := goodIn_r _ [15, 3, 9, 10, 7, 11, 54, 55, 56, 57, 58, 59, 60, 61, 62, 63, 64, 65, 66, 67, 68, 69] (by decide +kernel) (by decide +kernel)
set_option maxRecDepth 20000 in
theorem gX6_best_X6_isStretch : GoodIn wsX6_best (wsV RX6 161 RX6 yX6_isStretch wsX6_isStretch) := goodIn_app (goodIn_of _ (by decide +kernel)) ggX6_best_X6_isStretch
set_option maxRecDepth 20000 in
theorem ggX6_best_X6_in : GoodIn wsX6_best wsX6_in := goodIn_r _ [11] (by decide +kernel) (by decide +kernel)
set_option maxRecDepth 20000 in
theorem gX6_best_X6_in : GoodIn wsX6_best (va_wsS RX6 34 yX6_in wsX6_in) := goodIn_app (goodIn_of _ (by decide +kernel)) ggX6_best_X6_in
set_option maxRecDepth 20000 in
theorem ggX6_best_X6_tries : GoodIn wsX6_best wsX6_tries := goodIn_r _ [19, 20, 21, 22, 7, 23, 3, 54, 55, 56, 57, 58, 59, 60, 61, 62, 63, 64, 65, 66, 67, 68, 69] (by decide +kernel) (by decide +kernel)
set_option maxRecDepth 20000 in
theorem gX6_best_X6_tries : GoodIn wsX6_best (wsV RX6 169 RX6 yX6_tries wsX6_tries) := goodIn_app (goodIn_of _ (by decide +kernel)) ggX6_best_X6_tries
set_option maxRecDepth 20000 in
theorem ggX6_best_X6_goesOn : GoodIn wsX6_best wsX6_goesOn := goodIn_r _ [27, 28, 29, 30, 7, 31, 3, 32, 33, 34, 35, 36, 37, 38, 39, 40, 41, 42, 43, 44, 45, 46, 47, 48, 49, 50, 54, 55, 56, 57, 58, 59, 60, 61, 62, 63, 64, 65, 66, 67, 68, 69] (by decide +kernel) (by decide +kernel)
set_option maxRecDepth 20000 in
theorem gX6_best_X6_goesOn : GoodIn wsX6_best (wsV RX6 172 RX6 yX6_goesOn wsX6_goesOn) := goodIn_app (goodIn_of _ (by decide +kernel)) ggX6_best_X6_goesOn
set_option maxRecDepth 20000 in
theorem ggX6_best_X6_ones : GoodIn wsX6_best wsX6_ones := goodIn_r _ [53] (by decide +kernel) (by decide +kernel)
set_option maxRecDepth 20000 in
theorem gX6_best_X6_ones : GoodIn wsX6_best (va_wsS RX6 140 yX6_ones wsX6_ones) := goodIn_app (goodIn_of _ (by decide +kernel)) ggX6_best_X6_ones
theorem dX6_best_0 : decode cX6_best 0 = .ok (.aload_n 0, 1) := by decide +kernel
theorem dX6_best_1 : decode cX6_best 1 = .ok (.iload_n 1, 1) := by decide +kernel
theorem dX6_best_2 : decode cX6_best 2 = .ok (.invokevirtual 158, 3) := by decide +kernel
theorem dX6_best_5 : decode cX6_best 5 = .ok (.ifCond .eq 34, 3) := by decide +kernel
theorem dX6_best_8 : decode cX6_best 8 = .ok (.aload_n 0, 1) := by decide +kernel
theorem dX6_best_9 : decode cX6_best 9 = .ok (.iload_n 2, 1) := by decide +kernel
theorem dX6_best_10 : decode cX6_best 10 = .ok (.invokevirtual 161, 3) := by decide +kernel
theorem dX6_best_13 : decode cX6_best 13 = .ok (.ifCond .eq 26, 3) := by decide +kernel
theorem dX6_best_16 : decode cX6_best 16 = .ok (.iload_n 3, 1) := by decide +kernel
theorem dX6_best_17 : decode cX6_best 17 = .ok (.i2l, 1) := by decide +kernel
theorem dX6_best_18 : decode cX6_best 18 = .ok (.lconst 1, 1) := by decide +kernel
theorem dX6_best_19 : decode cX6_best 19 = .ok (.ldc2_w 180, 3) := by decide +kernel
theorem dX6_best_22 : decode cX6_best 22 = .ok (.invokestatic 34, 3) := by decide +kernel
theorem dX6_best_25 : decode cX6_best 25 = .ok (.ifCond .eq 14, 3) := by decide +kernel
theorem dX6_best_28 : decode cX6_best 28 = .ok (.iload 4, 2) := by decide +kernel
theorem dX6_best_30 : decode cX6_best 30 = .ok (.i2l, 1) := by decide +kernel
theorem dX6_best_31 : decode cX6_best 31 = .ok (.lconst 0, 1) := by decide +kernel
theorem dX6_best_32 : decode cX6_best 32 = .ok (.lconst 1, 1) := by decide +kernel
theorem dX6_best_33 : decode cX6_best 33 = .ok (.invokestatic 34, 3) := by decide +kernel
theorem dX6_best_36 : decode cX6_best 36 = .ok (.ifCond .ne 6, 3) := by decide +kernel
theorem dX6_best_39 : decode cX6_best 39 = .ok (.ldc 51, 2) := by decide +kernel
theorem dX6_best_41 : decode cX6_best 41 = .ok (.ireturn, 1) := by decide +kernel
theorem dX6_best_42 : decode cX6_best 42 = .ok (.iconst 0, 1) := by decide +kernel
theorem dX6_best_43 : decode cX6_best 43 = .ok (.istore 5, 2) := by decide +kernel
theorem dX6_best_45 : decode cX6_best 45 = .ok (.iconst (-1), 1) := by decide +kernel
theorem dX6_best_46 : decode cX6_best 46 = .ok (.istore 6, 2) := by decide +kernel
theorem dX6_best_48 : decode cX6_best 48 = .ok (.iconst 0, 1) := by decide +kernel
theorem dX6_best_49 : decode cX6_best 49 = .ok (.istore 7, 2) := by decide +kernel
theorem dX6_best_51 : decode cX6_best 51 = .ok (.iload 7, 2) := by decide +kernel
theorem dX6_best_53 : decode cX6_best 53 = .ok (.aload_n 0, 1) := by decide +kernel
theorem dX6_best_54 : decode cX6_best 54 = .ok (.getfield 7, 3) := by decide +kernel
theorem dX6_best_57 : decode cX6_best 57 = .ok (.iconst 0, 1) := by decide +kernel
theorem dX6_best_58 : decode cX6_best 58 = .ok (.iaload, 1) := by decide +kernel
theorem dX6_best_59 : decode cX6_best 59 = .ok (.if_icmp .ge 75, 3) := by decide +kernel
theorem dX6_best_62 : decode cX6_best 62 = .ok (.aload_n 0, 1) := by decide +kernel
theorem dX6_best_63 : decode cX6_best 63 = .ok (.invokevirtual 169, 3) := by decide +kernel
theorem dX6_best_66 : decode cX6_best 66 = .ok (.aload_n 0, 1) := by decide +kernel
theorem dX6_best_67 : decode cX6_best 67 = .ok (.getfield 7, 3) := by decide +kernel
theorem dX6_best_70 : decode cX6_best 70 = .ok (.bipush 57, 2) := by decide +kernel
theorem dX6_best_72 : decode cX6_best 72 = .ok (.iload_n 1, 1) := by decide +kernel
theorem dX6_best_73 : decode cX6_best 73 = .ok (.iadd, 1) := by decide +kernel
theorem dX6_best_74 : decode cX6_best 74 = .ok (.iload 7, 2) := by decide +kernel
theorem dX6_best_76 : decode cX6_best 76 = .ok (.iastore, 1) := by decide +kernel
theorem dX6_best_77 : decode cX6_best 77 = .ok (.aload_n 0, 1) := by decide +kernel
theorem dX6_best_78 : decode cX6_best 78 = .ok (.iload_n 3, 1) := by decide +kernel
theorem dX6_best_79 : decode cX6_best 79 = .ok (.invokevirtual 172, 3) := by decide +kernel
theorem dX6_best_82 : decode cX6_best 82 = .ok (.aload_n 0, 1) := by decide +kernel
theorem dX6_best_83 : decode cX6_best 83 = .ok (.getfield 7, 3) := by decide +kernel
theorem dX6_best_86 : decode cX6_best 86 = .ok (.bipush 67, 2) := by decide +kernel
theorem dX6_best_88 : decode cX6_best 88 = .ok (.iload_n 2, 1) := by decide +kernel
theorem dX6_best_89 : decode cX6_best 89 = .ok (.iadd, 1) := by decide +kernel
theorem dX6_best_90 : decode cX6_best 90 = .ok (.iaload, 1) := by decide +kernel
theorem dX6_best_91 : decode cX6_best 91 = .ok (.invokestatic 140, 3) := by decide +kernel
theorem dX6_best_94 : decode cX6_best 94 = .ok (.istore 8, 2) := by decide +kernel
theorem dX6_best_96 : decode cX6_best 96 = .ok (.iload 8, 2) := by decide +kernel
theorem dX6_best_98 : decode cX6_best 98 = .ok (.iload 6, 2) := by decide +kernel
theorem dX6_best_100 : decode cX6_best 100 = .ok (.if_icmp .le 8, 3) := by decide +kernel
theorem dX6_best_103 : decode cX6_best 103 = .ok (.iload 7, 2) := by decide +kernel
theorem dX6_best_105 : decode cX6_best 105 = .ok (.goto 5, 3) := by decide +kernel
theorem dX6_best_108 : decode cX6_best 108 = .ok (.iload 5, 2) := by decide +kernel
theorem dX6_best_110 : decode cX6_best 110 = .ok (.istore 5, 2) := by decide +kernel
theorem dX6_best_112 : decode cX6_best 112 = .ok (.iload 8, 2) := by decide +kernel
theorem dX6_best_114 : decode cX6_best 114 = .ok (.iload 6, 2) := by decide +kernel
theorem dX6_best_116 : decode cX6_best 116 = .ok (.if_icmp .le 8, 3) := by decide +kernel
theorem dX6_best_119 : decode cX6_best 119 = .ok (.iload 8, 2) := by decide +kernel
theorem dX6_best_121 : decode cX6_best 121 = .ok (.goto 5, 3) := by decide +kernel
theorem dX6_best_124 : decode cX6_best 124 = .ok (.iload 6, 2) := by decide +kernel
theorem dX6_best_126 : decode cX6_best 126 = .ok (.istore 6, 2) := by decide +kernel
theorem dX6_best_128 : decode cX6_best 128 = .ok (.iinc 7 1, 3) := by decide +kernel
theorem dX6_best_131 : decode cX6_best 131 = .ok (.goto (-80), 3) := by decide +kernel
theorem dX6_best_134 : decode cX6_best 134 = .ok (.iload 4, 2) := by decide +kernel
theorem dX6_best_136 : decode cX6_best 136 = .ok (.ifCond .ne 8, 3) := by decide +kernel
theorem dX6_best_139 : decode cX6_best 139 = .ok (.iload 5, 2) := by decide +kernel
theorem dX6_best_141 : decode cX6_best 141 = .ok (.goto 5, 3) := by decide +kernel
theorem dX6_best_144 : decode cX6_best 144 = .ok (.iload 6, 2) := by decide +kernel
theorem dX6_best_146 : decode cX6_best 146 = .ok (.ireturn, 1) := by decide +kernel
set_option maxRecDepth 20000 in
theorem ggX6_piece_X6_isRoad : GoodIn wsX6_piece wsX6_isRoad := goodIn_r _ [9, 4, 23, 24, 25, 26, 27, 28, 29, 30, 31, 32, 33, 34, 35, 36, 37, 38] (by decide +kernel) (by decide +kernel)
set_option maxRecDepth 20000 in
theorem gX6_piece_X6_isRoad : GoodIn wsX6_piece (wsV RX6 143 RX6 yX6_isRoad wsX6_isRoad) := goodIn_app (goodIn_of _ (by decide +kernel)) ggX6_piece_X6_isRoad
set_option maxRecDepth 20000 in
theorem ggX6_piece_X6_in : GoodIn wsX6_piece wsX6_in := goodIn_r _ [12] (by decide +kernel) (by decide +kernel)
set_option maxRecDepth 20000 in
theorem gX6_piece_X6_in : GoodIn wsX6_piece (va_wsS RX6 34 yX6_in wsX6_in) := goodIn_app (goodIn_of _ (by decide +kernel)) ggX6_piece_X6_in
set_option maxRecDepth 20000 in
theorem ggX6_piece_X6_has : GoodIn wsX6_piece wsX6_has := goodIn_r _ [15] (by decide +kernel) (by decide +kernel)
set_option maxRecDepth 20000 in
theorem gX6_piece_X6_has : GoodIn wsX6_piece (va_wsS RX6 127 yX6_has wsX6_has) := goodIn_app (goodIn_of _ (by decide +kernel)) ggX6_piece_X6_has
set_option maxRecDepth 20000 in
theorem ggX6_piece_X6_all : GoodIn wsX6_piece wsX6_all := goodIn_r _ [19, 4, 23, 24, 25, 26, 27, 28, 29, 30, 31, 32, 33, 34, 35, 36, 37, 38] (by decide +kernel) (by decide +kernel)
set_option maxRecDepth 20000 in
theorem gX6_piece_X6_all : GoodIn wsX6_piece (wsV RX6 137 RX6 yX6_all wsX6_all) := goodIn_app (goodIn_of _ (by decide +kernel)) ggX6_piece_X6_all
set_option maxRecDepth 20000 in
theorem ggX6_piece_X6_ones : GoodIn wsX6_piece wsX6_ones := goodIn_r _ [22] (by decide +kernel) (by decide +kernel)
set_option maxRecDepth 20000 in
theorem gX6_piece_X6_ones : GoodIn wsX6_piece (va_wsS RX6 140 yX6_ones wsX6_ones) := goodIn_app (goodIn_of _ (by decide +kernel)) ggX6_piece_X6_ones
theorem dX6_piece_0 : decode cX6_piece 0 = .ok (.aload_n 0, 1) := by decide +kernel
theorem dX6_piece_1 : decode cX6_piece 1 = .ok (.invokevirtual 143, 3) := by decide +kernel
theorem dX6_piece_4 : decode cX6_piece 4 = .ok (.ifCond .ne 6, 3) := by decide +kernel
theorem dX6_piece_7 : decode cX6_piece 7 = .ok (.ldc 146, 2) := by decide +kernel
theorem dX6_piece_9 : decode cX6_piece 9 = .ok (.ireturn, 1) := by decide +kernel
theorem dX6_piece_10 : decode cX6_piece 10 = .ok (.iload_n 1, 1) := by decide +kernel
theorem dX6_piece_11 : decode cX6_piece 11 = .ok (.i2l, 1) := by decide +kernel
theorem dX6_piece_12 : decode cX6_piece 12 = .ok (.lconst 0, 1) := by decide +kernel
theorem dX6_piece_13 : decode cX6_piece 13 = .ok (.lconst 1, 1) := by decide +kernel
theorem dX6_piece_14 : decode cX6_piece 14 = .ok (.invokestatic 34, 3) := by decide +kernel
theorem dX6_piece_17 : decode cX6_piece 17 = .ok (.ifCond .ne 6, 3) := by decide +kernel
theorem dX6_piece_20 : decode cX6_piece 20 = .ok (.ldc 51, 2) := by decide +kernel
theorem dX6_piece_22 : decode cX6_piece 22 = .ok (.ireturn, 1) := by decide +kernel
theorem dX6_piece_23 : decode cX6_piece 23 = .ok (.ldc 176, 2) := by decide +kernel
theorem dX6_piece_25 : decode cX6_piece 25 = .ok (.istore_n 2, 1) := by decide +kernel
theorem dX6_piece_26 : decode cX6_piece 26 = .ok (.iconst 1, 1) := by decide +kernel
theorem dX6_piece_27 : decode cX6_piece 27 = .ok (.istore_n 3, 1) := by decide +kernel
theorem dX6_piece_28 : decode cX6_piece 28 = .ok (.iload_n 3, 1) := by decide +kernel
theorem dX6_piece_29 : decode cX6_piece 29 = .ok (.iconst 1, 1) := by decide +kernel
theorem dX6_piece_30 : decode cX6_piece 30 = .ok (.aload_n 0, 1) := by decide +kernel
theorem dX6_piece_31 : decode cX6_piece 31 = .ok (.getfield 7, 3) := by decide +kernel
theorem dX6_piece_34 : decode cX6_piece 34 = .ok (.iconst 0, 1) := by decide +kernel
theorem dX6_piece_35 : decode cX6_piece 35 = .ok (.iaload, 1) := by decide +kernel
theorem dX6_piece_36 : decode cX6_piece 36 = .ok (.ishl, 1) := by decide +kernel
theorem dX6_piece_37 : decode cX6_piece 37 = .ok (.if_icmp .ge 91, 3) := by decide +kernel
theorem dX6_piece_40 : decode cX6_piece 40 = .ok (.iconst 0, 1) := by decide +kernel
theorem dX6_piece_41 : decode cX6_piece 41 = .ok (.istore 4, 2) := by decide +kernel
theorem dX6_piece_43 : decode cX6_piece 43 = .ok (.iconst 0, 1) := by decide +kernel
theorem dX6_piece_44 : decode cX6_piece 44 = .ok (.istore 5, 2) := by decide +kernel
theorem dX6_piece_46 : decode cX6_piece 46 = .ok (.iload 5, 2) := by decide +kernel
theorem dX6_piece_48 : decode cX6_piece 48 = .ok (.aload_n 0, 1) := by decide +kernel
theorem dX6_piece_49 : decode cX6_piece 49 = .ok (.getfield 7, 3) := by decide +kernel
theorem dX6_piece_52 : decode cX6_piece 52 = .ok (.iconst 0, 1) := by decide +kernel
theorem dX6_piece_53 : decode cX6_piece 53 = .ok (.iaload, 1) := by decide +kernel
theorem dX6_piece_54 : decode cX6_piece 54 = .ok (.if_icmp .ge 37, 3) := by decide +kernel
theorem dX6_piece_57 : decode cX6_piece 57 = .ok (.iload 4, 2) := by decide +kernel
theorem dX6_piece_59 : decode cX6_piece 59 = .ok (.iload_n 3, 1) := by decide +kernel
theorem dX6_piece_60 : decode cX6_piece 60 = .ok (.iload 5, 2) := by decide +kernel
theorem dX6_piece_62 : decode cX6_piece 62 = .ok (.invokestatic 127, 3) := by decide +kernel
theorem dX6_piece_65 : decode cX6_piece 65 = .ok (.ifCond .eq 16, 3) := by decide +kernel
theorem dX6_piece_68 : decode cX6_piece 68 = .ok (.aload_n 0, 1) := by decide +kernel
theorem dX6_piece_69 : decode cX6_piece 69 = .ok (.getfield 7, 3) := by decide +kernel
theorem dX6_piece_72 : decode cX6_piece 72 = .ok (.bipush 29, 2) := by decide +kernel
theorem dX6_piece_74 : decode cX6_piece 74 = .ok (.iload 5, 2) := by decide +kernel
theorem dX6_piece_76 : decode cX6_piece 76 = .ok (.iadd, 1) := by decide +kernel
theorem dX6_piece_77 : decode cX6_piece 77 = .ok (.iaload, 1) := by decide +kernel
theorem dX6_piece_78 : decode cX6_piece 78 = .ok (.goto 4, 3) := by decide +kernel
theorem dX6_piece_81 : decode cX6_piece 81 = .ok (.iconst 0, 1) := by decide +kernel
theorem dX6_piece_82 : decode cX6_piece 82 = .ok (.ior, 1) := by decide +kernel
theorem dX6_piece_83 : decode cX6_piece 83 = .ok (.istore 4, 2) := by decide +kernel
theorem dX6_piece_85 : decode cX6_piece 85 = .ok (.iinc 5 1, 3) := by decide +kernel
theorem dX6_piece_88 : decode cX6_piece 88 = .ok (.goto (-42), 3) := by decide +kernel
theorem dX6_piece_91 : decode cX6_piece 91 = .ok (.iload 4, 2) := by decide +kernel
theorem dX6_piece_93 : decode cX6_piece 93 = .ok (.aload_n 0, 1) := by decide +kernel
theorem dX6_piece_94 : decode cX6_piece 94 = .ok (.iconst 0, 1) := by decide +kernel
theorem dX6_piece_95 : decode cX6_piece 95 = .ok (.invokevirtual 137, 3) := by decide +kernel
theorem dX6_piece_98 : decode cX6_piece 98 = .ok (.if_icmp .ne 22, 3) := by decide +kernel
theorem dX6_piece_101 : decode cX6_piece 101 = .ok (.iload_n 2, 1) := by decide +kernel
theorem dX6_piece_102 : decode cX6_piece 102 = .ok (.ifCond .lt 14, 3) := by decide +kernel
theorem dX6_piece_105 : decode cX6_piece 105 = .ok (.iload_n 3, 1) := by decide +kernel
theorem dX6_piece_106 : decode cX6_piece 106 = .ok (.invokestatic 140, 3) := by decide +kernel
theorem dX6_piece_109 : decode cX6_piece 109 = .ok (.iload_n 2, 1) := by decide +kernel
theorem dX6_piece_110 : decode cX6_piece 110 = .ok (.invokestatic 140, 3) := by decide +kernel
theorem dX6_piece_113 : decode cX6_piece 113 = .ok (.if_icmp .ge 7, 3) := by decide +kernel
theorem dX6_piece_116 : decode cX6_piece 116 = .ok (.iload_n 3, 1) := by decide +kernel
theorem dX6_piece_117 : decode cX6_piece 117 = .ok (.goto 4, 3) := by decide +kernel
theorem dX6_piece_120 : decode cX6_piece 120 = .ok (.iload_n 2, 1) := by decide +kernel
theorem dX6_piece_121 : decode cX6_piece 121 = .ok (.istore_n 2, 1) := by decide +kernel
theorem dX6_piece_122 : decode cX6_piece 122 = .ok (.iinc 3 1, 3) := by decide +kernel
theorem dX6_piece_125 : decode cX6_piece 125 = .ok (.goto (-97), 3) := by decide +kernel
theorem dX6_piece_128 : decode cX6_piece 128 = .ok (.iload_n 2, 1) := by decide +kernel
theorem dX6_piece_129 : decode cX6_piece 129 = .ok (.ifCond .ge 8, 3) := by decide +kernel
theorem dX6_piece_132 : decode cX6_piece 132 = .ok (.ldc 176, 2) := by decide +kernel
theorem dX6_piece_134 : decode cX6_piece 134 = .ok (.goto 15, 3) := by decide +kernel
theorem dX6_piece_137 : decode cX6_piece 137 = .ok (.iload_n 1, 1) := by decide +kernel
theorem dX6_piece_138 : decode cX6_piece 138 = .ok (.ifCond .ne 10, 3) := by decide +kernel
theorem dX6_piece_141 : decode cX6_piece 141 = .ok (.iload_n 2, 1) := by decide +kernel
theorem dX6_piece_142 : decode cX6_piece 142 = .ok (.invokestatic 140, 3) := by decide +kernel
theorem dX6_piece_145 : decode cX6_piece 145 = .ok (.goto 4, 3) := by decide +kernel
theorem dX6_piece_148 : decode cX6_piece 148 = .ok (.iload_n 2, 1) := by decide +kernel
theorem dX6_piece_149 : decode cX6_piece 149 = .ok (.ireturn, 1) := by decide +kernel
set_option maxRecDepth 20000 in
theorem ggX6_laysSaid_X6_tries : GoodIn wsX6_laysSaid wsX6_tries := goodIn_r _ [7, 8, 9, 10, 6, 11, 2, 35, 36, 37, 38, 39, 40, 41, 42, 43, 44, 45, 46, 47, 48, 49, 50] (by decide +kernel) (by decide +kernel)
set_option maxRecDepth 20000 in
theorem gX6_laysSaid_X6_tries : GoodIn wsX6_laysSaid (wsV RX6 169 RX6 yX6_tries wsX6_tries) := goodIn_app (goodIn_of _ (by decide +kernel)) ggX6_laysSaid_X6_tries
set_option maxRecDepth 20000 in
theorem ggX6_laysSaid_X6_councilsIn : GoodIn wsX6_laysSaid wsX6_councilsIn := goodIn_r _ [15, 2, 35, 36, 37, 38, 39, 40, 41, 42, 43, 44, 45, 46, 47, 48, 49, 50] (by decide +kernel) (by decide +kernel)
set_option maxRecDepth 20000 in
theorem gX6_laysSaid_X6_councilsIn : GoodIn wsX6_laysSaid (wsV RX6 130 RX6 yX6_councilsIn wsX6_councilsIn) := goodIn_app (goodIn_of _ (by decide +kernel)) ggX6_laysSaid_X6_councilsIn
set_option maxRecDepth 20000 in
theorem ggX6_laysSaid_X6_has : GoodIn wsX6_laysSaid wsX6_has := goodIn_r _ [18] (by decide +kernel) (by decide +kernel)
set_option maxRecDepth 20000 in
theorem gX6_laysSaid_X6_has : GoodIn wsX6_laysSaid (va_wsS RX6 127 yX6_has wsX6_has) := goodIn_app (goodIn_of _ (by decide +kernel)) ggX6_laysSaid_X6_has
set_option maxRecDepth 20000 in
theorem ggX6_laysSaid_X6_saysIn : GoodIn wsX6_laysSaid wsX6_saysIn := goodIn_r _ [22, 2, 23, 24, 25, 6, 26, 35, 36, 37, 38, 39, 40, 41, 42, 43, 44, 45, 46, 47, 48, 49, 50] (by decide +kernel) (by decide +kernel)
set_option maxRecDepth 20000 in
theorem gX6_laysSaid_X6_saysIn : GoodIn wsX6_laysSaid (wsV RX6 124 RX6 yX6_saysIn wsX6_saysIn) := goodIn_app (goodIn_of _ (by decide +kernel)) ggX6_laysSaid_X6_saysIn
set_option maxRecDepth 20000 in
theorem ggX6_laysSaid_X6_hourBy : GoodIn wsX6_laysSaid wsX6_hourBy := goodIn_r _ [30, 2, 12, 13, 14, 6, 15, 16, 17, 18, 31, 32, 33, 34, 19, 20, 21, 22, 23, 24, 25, 26, 35, 36, 37, 38, 39, 40, 41, 42, 43, 44, 45, 46, 47, 48, 49, 50] (by decide +kernel) (by decide +kernel)
set_option maxRecDepth 20000 in
theorem gX6_laysSaid_X6_hourBy : GoodIn wsX6_laysSaid (wsV RX6 152 RX6 yX6_hourBy wsX6_hourBy) := goodIn_app (goodIn_of _ (by decide +kernel)) ggX6_laysSaid_X6_hourBy
theorem dX6_laysSaid_0 : decode cX6_laysSaid 0 = .ok (.aload_n 0, 1) := by decide +kernel
theorem dX6_laysSaid_1 : decode cX6_laysSaid 1 = .ok (.invokevirtual 169, 3) := by decide +kernel
theorem dX6_laysSaid_4 : decode cX6_laysSaid 4 = .ok (.iconst 0, 1) := by decide +kernel
theorem dX6_laysSaid_5 : decode cX6_laysSaid 5 = .ok (.istore_n 2, 1) := by decide +kernel
theorem dX6_laysSaid_6 : decode cX6_laysSaid 6 = .ok (.iload_n 2, 1) := by decide +kernel
theorem dX6_laysSaid_7 : decode cX6_laysSaid 7 = .ok (.iload_n 1, 1) := by decide +kernel
theorem dX6_laysSaid_8 : decode cX6_laysSaid 8 = .ok (.if_icmp .ge 116, 3) := by decide +kernel
theorem dX6_laysSaid_11 : decode cX6_laysSaid 11 = .ok (.aload_n 0, 1) := by decide +kernel
theorem dX6_laysSaid_12 : decode cX6_laysSaid 12 = .ok (.bipush 38, 2) := by decide +kernel
theorem dX6_laysSaid_14 : decode cX6_laysSaid 14 = .ok (.invokevirtual 130, 3) := by decide +kernel
theorem dX6_laysSaid_17 : decode cX6_laysSaid 17 = .ok (.istore_n 3, 1) := by decide +kernel
theorem dX6_laysSaid_18 : decode cX6_laysSaid 18 = .ok (.iconst 0, 1) := by decide +kernel
theorem dX6_laysSaid_19 : decode cX6_laysSaid 19 = .ok (.istore 4, 2) := by decide +kernel
theorem dX6_laysSaid_21 : decode cX6_laysSaid 21 = .ok (.iload 4, 2) := by decide +kernel
theorem dX6_laysSaid_23 : decode cX6_laysSaid 23 = .ok (.bipush 9, 2) := by decide +kernel
theorem dX6_laysSaid_25 : decode cX6_laysSaid 25 = .ok (.if_icmp .ge 22, 3) := by decide +kernel
theorem dX6_laysSaid_28 : decode cX6_laysSaid 28 = .ok (.aload_n 0, 1) := by decide +kernel
theorem dX6_laysSaid_29 : decode cX6_laysSaid 29 = .ok (.getfield 28, 3) := by decide +kernel
theorem dX6_laysSaid_32 : decode cX6_laysSaid 32 = .ok (.bipush 9, 2) := by decide +kernel
theorem dX6_laysSaid_34 : decode cX6_laysSaid 34 = .ok (.iload_n 2, 1) := by decide +kernel
theorem dX6_laysSaid_35 : decode cX6_laysSaid 35 = .ok (.imul, 1) := by decide +kernel
theorem dX6_laysSaid_36 : decode cX6_laysSaid 36 = .ok (.iload 4, 2) := by decide +kernel
theorem dX6_laysSaid_38 : decode cX6_laysSaid 38 = .ok (.iadd, 1) := by decide +kernel
theorem dX6_laysSaid_39 : decode cX6_laysSaid 39 = .ok (.iconst 0, 1) := by decide +kernel
theorem dX6_laysSaid_40 : decode cX6_laysSaid 40 = .ok (.iastore, 1) := by decide +kernel
theorem dX6_laysSaid_41 : decode cX6_laysSaid 41 = .ok (.iinc 4 1, 3) := by decide +kernel
theorem dX6_laysSaid_44 : decode cX6_laysSaid 44 = .ok (.goto (-23), 3) := by decide +kernel
theorem dX6_laysSaid_47 : decode cX6_laysSaid 47 = .ok (.iconst 0, 1) := by decide +kernel
theorem dX6_laysSaid_48 : decode cX6_laysSaid 48 = .ok (.istore 4, 2) := by decide +kernel
theorem dX6_laysSaid_50 : decode cX6_laysSaid 50 = .ok (.iload 4, 2) := by decide +kernel
theorem dX6_laysSaid_52 : decode cX6_laysSaid 52 = .ok (.aload_n 0, 1) := by decide +kernel
theorem dX6_laysSaid_53 : decode cX6_laysSaid 53 = .ok (.getfield 7, 3) := by decide +kernel
theorem dX6_laysSaid_56 : decode cX6_laysSaid 56 = .ok (.iconst 1, 1) := by decide +kernel
theorem dX6_laysSaid_57 : decode cX6_laysSaid 57 = .ok (.iaload, 1) := by decide +kernel
theorem dX6_laysSaid_58 : decode cX6_laysSaid 58 = .ok (.if_icmp .ge 53, 3) := by decide +kernel
theorem dX6_laysSaid_61 : decode cX6_laysSaid 61 = .ok (.aload_n 0, 1) := by decide +kernel
theorem dX6_laysSaid_62 : decode cX6_laysSaid 62 = .ok (.getfield 28, 3) := by decide +kernel
theorem dX6_laysSaid_65 : decode cX6_laysSaid 65 = .ok (.bipush 9, 2) := by decide +kernel
theorem dX6_laysSaid_67 : decode cX6_laysSaid 67 = .ok (.iload_n 2, 1) := by decide +kernel
theorem dX6_laysSaid_68 : decode cX6_laysSaid 68 = .ok (.imul, 1) := by decide +kernel
theorem dX6_laysSaid_69 : decode cX6_laysSaid 69 = .ok (.aload_n 0, 1) := by decide +kernel
theorem dX6_laysSaid_70 : decode cX6_laysSaid 70 = .ok (.getfield 7, 3) := by decide +kernel
theorem dX6_laysSaid_73 : decode cX6_laysSaid 73 = .ok (.bipush 57, 2) := by decide +kernel
theorem dX6_laysSaid_75 : decode cX6_laysSaid 75 = .ok (.iload 4, 2) := by decide +kernel
theorem dX6_laysSaid_77 : decode cX6_laysSaid 77 = .ok (.iadd, 1) := by decide +kernel
theorem dX6_laysSaid_78 : decode cX6_laysSaid 78 = .ok (.iaload, 1) := by decide +kernel
theorem dX6_laysSaid_79 : decode cX6_laysSaid 79 = .ok (.iadd, 1) := by decide +kernel
theorem dX6_laysSaid_80 : decode cX6_laysSaid 80 = .ok (.dup2, 1) := by decide +kernel
theorem dX6_laysSaid_81 : decode cX6_laysSaid 81 = .ok (.iaload, 1) := by decide +kernel
theorem dX6_laysSaid_82 : decode cX6_laysSaid 82 = .ok (.iload_n 3, 1) := by decide +kernel
theorem dX6_laysSaid_83 : decode cX6_laysSaid 83 = .ok (.iload 4, 2) := by decide +kernel
theorem dX6_laysSaid_85 : decode cX6_laysSaid 85 = .ok (.invokestatic 127, 3) := by decide +kernel
theorem dX6_laysSaid_88 : decode cX6_laysSaid 88 = .ok (.ifCond .eq 7, 3) := by decide +kernel
theorem dX6_laysSaid_91 : decode cX6_laysSaid 91 = .ok (.iconst 0, 1) := by decide +kernel
theorem dX6_laysSaid_92 : decode cX6_laysSaid 92 = .ok (.goto 11, 3) := by decide +kernel
theorem dX6_laysSaid_95 : decode cX6_laysSaid 95 = .ok (.aload_n 0, 1) := by decide +kernel
theorem dX6_laysSaid_96 : decode cX6_laysSaid 96 = .ok (.bipush 38, 2) := by decide +kernel
theorem dX6_laysSaid_98 : decode cX6_laysSaid 98 = .ok (.iload 4, 2) := by decide +kernel
theorem dX6_laysSaid_100 : decode cX6_laysSaid 100 = .ok (.invokevirtual 124, 3) := by decide +kernel
theorem dX6_laysSaid_103 : decode cX6_laysSaid 103 = .ok (.ior, 1) := by decide +kernel
theorem dX6_laysSaid_104 : decode cX6_laysSaid 104 = .ok (.iastore, 1) := by decide +kernel
theorem dX6_laysSaid_105 : decode cX6_laysSaid 105 = .ok (.iinc 4 1, 3) := by decide +kernel
theorem dX6_laysSaid_108 : decode cX6_laysSaid 108 = .ok (.goto (-58), 3) := by decide +kernel
theorem dX6_laysSaid_111 : decode cX6_laysSaid 111 = .ok (.aload_n 0, 1) := by decide +kernel
theorem dX6_laysSaid_112 : decode cX6_laysSaid 112 = .ok (.bipush 38, 2) := by decide +kernel
theorem dX6_laysSaid_114 : decode cX6_laysSaid 114 = .ok (.iconst 0, 1) := by decide +kernel
theorem dX6_laysSaid_115 : decode cX6_laysSaid 115 = .ok (.invokevirtual 152, 3) := by decide +kernel
theorem dX6_laysSaid_118 : decode cX6_laysSaid 118 = .ok (.iinc 2 1, 3) := by decide +kernel
theorem dX6_laysSaid_121 : decode cX6_laysSaid 121 = .ok (.goto (-115), 3) := by decide +kernel
theorem dX6_laysSaid_124 : decode cX6_laysSaid 124 = .ok (.return_, 1) := by decide +kernel
set_option maxRecDepth 20000 in
theorem ggX6_walk_X6_isStretch : GoodIn wsX6_walk wsX6_isStretch := goodIn_r _ [9, 3, 10, 11, 8, 12, 51, 52, 53, 54, 55, 56, 57, 58, 59, 60, 61, 62, 63, 64, 65, 66] (by decide +kernel) (by decide +kernel)
set_option maxRecDepth 20000 in
theorem gX6_walk_X6_isStretch : GoodIn wsX6_walk (wsV RX6 161 RX6 yX6_isStretch wsX6_isStretch) := goodIn_app (goodIn_of _ (by decide +kernel)) ggX6_walk_X6_isStretch
set_option maxRecDepth 20000 in
theorem ggX6_walk_X6_in : GoodIn wsX6_walk wsX6_in := goodIn_r _ [12] (by decide +kernel) (by decide +kernel)
set_option maxRecDepth 20000 in
theorem gX6_walk_X6_in : GoodIn wsX6_walk (va_wsS RX6 34 yX6_in wsX6_in) := goodIn_app (goodIn_of _ (by decide +kernel)) ggX6_walk_X6_in
set_option maxRecDepth 20000 in
theorem ggX6_walk_X6_laysSaid : GoodIn wsX6_walk wsX6_laysSaid := goodIn_r _ [16, 4, 3, 17, 18, 19, 8, 20, 21, 22, 23, 24, 25, 26, 27, 28, 29, 30, 31, 32, 33, 34, 35, 36, 37, 38, 39, 40, 41, 42, 43, 44, 45, 46, 47, 51, 52, 53, 54, 55, 56, 57, 58, 59, 60, 61, 62, 63, 64, 65, 66] (by decide +kernel) (by decide +kernel)
set_option maxRecDepth 20000 in
theorem gX6_walk_X6_laysSaid : GoodIn wsX6_walk (wsV RX6 184 RX6 yX6_laysSaid wsX6_laysSaid) := goodIn_app (goodIn_of _ (by decide +kernel)) ggX6_walk_X6_laysSaid
set_option maxRecDepth 20000 in
theorem ggX6_walk_X6_has : GoodIn wsX6_walk wsX6_has := goodIn_r _ [31] (by decide +kernel) (by decide +kernel)
set_option maxRecDepth 20000 in
theorem gX6_walk_X6_has : GoodIn wsX6_walk (va_wsS RX6 127 yX6_has wsX6_has) := goodIn_app (goodIn_of _ (by decide +kernel)) ggX6_walk_X6_has
set_option maxRecDepth 20000 in
theorem ggX6_walk_X6_ones : GoodIn wsX6_walk wsX6_ones := goodIn_r _ [50] (by decide +kernel) (by decide +kernel)
set_option maxRecDepth 20000 in
theorem gX6_walk_X6_ones : GoodIn wsX6_walk (va_wsS RX6 140 yX6_ones wsX6_ones) := goodIn_app (goodIn_of _ (by decide +kernel)) ggX6_walk_X6_ones
theorem dX6_walk_0 : decode cX6_walk 0 = .ok (.aload_n 0, 1) := by decide +kernel
theorem dX6_walk_1 : decode cX6_walk 1 = .ok (.iload_n 1, 1) := by decide +kernel
theorem dX6_walk_2 : decode cX6_walk 2 = .ok (.invokevirtual 161, 3) := by decide +kernel
theorem dX6_walk_5 : decode cX6_walk 5 = .ok (.ifCond .eq 25, 3) := by decide +kernel
theorem dX6_walk_8 : decode cX6_walk 8 = .ok (.iload_n 2, 1) := by decide +kernel
theorem dX6_walk_9 : decode cX6_walk 9 = .ok (.i2l, 1) := by decide +kernel
theorem dX6_walk_10 : decode cX6_walk 10 = .ok (.lconst 1, 1) := by decide +kernel
theorem dX6_walk_11 : decode cX6_walk 11 = .ok (.ldc2_w 182, 3) := by decide +kernel
theorem dX6_walk_14 : decode cX6_walk 14 = .ok (.invokestatic 34, 3) := by decide +kernel
theorem dX6_walk_17 : decode cX6_walk 17 = .ok (.ifCond .eq 13, 3) := by decide +kernel
theorem dX6_walk_20 : decode cX6_walk 20 = .ok (.iload_n 3, 1) := by decide +kernel
theorem dX6_walk_21 : decode cX6_walk 21 = .ok (.i2l, 1) := by decide +kernel
theorem dX6_walk_22 : decode cX6_walk 22 = .ok (.lconst 0, 1) := by decide +kernel
theorem dX6_walk_23 : decode cX6_walk 23 = .ok (.lconst 1, 1) := by decide +kernel
theorem dX6_walk_24 : decode cX6_walk 24 = .ok (.invokestatic 34, 3) := by decide +kernel
theorem dX6_walk_27 : decode cX6_walk 27 = .ok (.ifCond .ne 6, 3) := by decide +kernel
theorem dX6_walk_30 : decode cX6_walk 30 = .ok (.ldc 51, 2) := by decide +kernel
theorem dX6_walk_32 : decode cX6_walk 32 = .ok (.ireturn, 1) := by decide +kernel
theorem dX6_walk_33 : decode cX6_walk 33 = .ok (.aload_n 0, 1) := by decide +kernel
theorem dX6_walk_34 : decode cX6_walk 34 = .ok (.iload_n 2, 1) := by decide +kernel
theorem dX6_walk_35 : decode cX6_walk 35 = .ok (.invokevirtual 184, 3) := by decide +kernel
theorem dX6_walk_38 : decode cX6_walk 38 = .ok (.iconst 0, 1) := by decide +kernel
theorem dX6_walk_39 : decode cX6_walk 39 = .ok (.istore 4, 2) := by decide +kernel
theorem dX6_walk_41 : decode cX6_walk 41 = .ok (.iconst (-1), 1) := by decide +kernel
theorem dX6_walk_42 : decode cX6_walk 42 = .ok (.istore 5, 2) := by decide +kernel
theorem dX6_walk_44 : decode cX6_walk 44 = .ok (.iconst 0, 1) := by decide +kernel
theorem dX6_walk_45 : decode cX6_walk 45 = .ok (.istore 6, 2) := by decide +kernel
theorem dX6_walk_47 : decode cX6_walk 47 = .ok (.iload 6, 2) := by decide +kernel
theorem dX6_walk_49 : decode cX6_walk 49 = .ok (.iconst 1, 1) := by decide +kernel
theorem dX6_walk_50 : decode cX6_walk 50 = .ok (.iload_n 2, 1) := by decide +kernel
theorem dX6_walk_51 : decode cX6_walk 51 = .ok (.ishl, 1) := by decide +kernel
theorem dX6_walk_52 : decode cX6_walk 52 = .ok (.if_icmp .ge 117, 3) := by decide +kernel
theorem dX6_walk_55 : decode cX6_walk 55 = .ok (.iload_n 1, 1) := by decide +kernel
theorem dX6_walk_56 : decode cX6_walk 56 = .ok (.istore 7, 2) := by decide +kernel
theorem dX6_walk_58 : decode cX6_walk 58 = .ok (.iconst 0, 1) := by decide +kernel
theorem dX6_walk_59 : decode cX6_walk 59 = .ok (.istore 8, 2) := by decide +kernel
theorem dX6_walk_61 : decode cX6_walk 61 = .ok (.iconst 0, 1) := by decide +kernel
theorem dX6_walk_62 : decode cX6_walk 62 = .ok (.istore 9, 2) := by decide +kernel
theorem dX6_walk_64 : decode cX6_walk 64 = .ok (.iload 9, 2) := by decide +kernel
theorem dX6_walk_66 : decode cX6_walk 66 = .ok (.iload_n 2, 1) := by decide +kernel
theorem dX6_walk_67 : decode cX6_walk 67 = .ok (.if_icmp .ge 55, 3) := by decide +kernel
theorem dX6_walk_70 : decode cX6_walk 70 = .ok (.iload 6, 2) := by decide +kernel
theorem dX6_walk_72 : decode cX6_walk 72 = .ok (.iload 9, 2) := by decide +kernel
theorem dX6_walk_74 : decode cX6_walk 74 = .ok (.invokestatic 127, 3) := by decide +kernel
theorem dX6_walk_77 : decode cX6_walk 77 = .ok (.ifCond .eq 17, 3) := by decide +kernel
theorem dX6_walk_80 : decode cX6_walk 80 = .ok (.iload 7, 2) := by decide +kernel
theorem dX6_walk_82 : decode cX6_walk 82 = .ok (.iconst 1, 1) := by decide +kernel
theorem dX6_walk_83 : decode cX6_walk 83 = .ok (.iadd, 1) := by decide +kernel
theorem dX6_walk_84 : decode cX6_walk 84 = .ok (.aload_n 0, 1) := by decide +kernel
theorem dX6_walk_85 : decode cX6_walk 85 = .ok (.getfield 7, 3) := by decide +kernel
theorem dX6_walk_88 : decode cX6_walk 88 = .ok (.iconst 0, 1) := by decide +kernel
theorem dX6_walk_89 : decode cX6_walk 89 = .ok (.iaload, 1) := by decide +kernel
theorem dX6_walk_90 : decode cX6_walk 90 = .ok (.irem, 1) := by decide +kernel
theorem dX6_walk_91 : decode cX6_walk 91 = .ok (.goto 5, 3) := by decide +kernel
theorem dX6_walk_94 : decode cX6_walk 94 = .ok (.iload 7, 2) := by decide +kernel
theorem dX6_walk_96 : decode cX6_walk 96 = .ok (.istore 7, 2) := by decide +kernel
theorem dX6_walk_98 : decode cX6_walk 98 = .ok (.iload 8, 2) := by decide +kernel
theorem dX6_walk_100 : decode cX6_walk 100 = .ok (.aload_n 0, 1) := by decide +kernel
theorem dX6_walk_101 : decode cX6_walk 101 = .ok (.getfield 28, 3) := by decide +kernel
theorem dX6_walk_104 : decode cX6_walk 104 = .ok (.bipush 9, 2) := by decide +kernel
theorem dX6_walk_106 : decode cX6_walk 106 = .ok (.iload 9, 2) := by decide +kernel
theorem dX6_walk_108 : decode cX6_walk 108 = .ok (.imul, 1) := by decide +kernel
theorem dX6_walk_109 : decode cX6_walk 109 = .ok (.iload 7, 2) := by decide +kernel
theorem dX6_walk_111 : decode cX6_walk 111 = .ok (.iadd, 1) := by decide +kernel
theorem dX6_walk_112 : decode cX6_walk 112 = .ok (.iaload, 1) := by decide +kernel
theorem dX6_walk_113 : decode cX6_walk 113 = .ok (.ior, 1) := by decide +kernel
theorem dX6_walk_114 : decode cX6_walk 114 = .ok (.istore 8, 2) := by decide +kernel
theorem dX6_walk_116 : decode cX6_walk 116 = .ok (.iinc 9 1, 3) := by decide +kernel
theorem dX6_walk_119 : decode cX6_walk 119 = .ok (.goto (-55), 3) := by decide +kernel
theorem dX6_walk_122 : decode cX6_walk 122 = .ok (.iload 8, 2) := by decide +kernel
theorem dX6_walk_124 : decode cX6_walk 124 = .ok (.invokestatic 140, 3) := by decide +kernel
theorem dX6_walk_127 : decode cX6_walk 127 = .ok (.iload 5, 2) := by decide +kernel
theorem dX6_walk_129 : decode cX6_walk 129 = .ok (.if_icmp .le 8, 3) := by decide +kernel
theorem dX6_walk_132 : decode cX6_walk 132 = .ok (.iload 6, 2) := by decide +kernel
theorem dX6_walk_134 : decode cX6_walk 134 = .ok (.goto 5, 3) := by decide +kernel
theorem dX6_walk_137 : decode cX6_walk 137 = .ok (.iload 4, 2) := by decide +kernel
theorem dX6_walk_139 : decode cX6_walk 139 = .ok (.istore 4, 2) := by decide +kernel
theorem dX6_walk_141 : decode cX6_walk 141 = .ok (.iload 8, 2) := by decide +kernel
theorem dX6_walk_143 : decode cX6_walk 143 = .ok (.invokestatic 140, 3) := by decide +kernel
theorem dX6_walk_146 : decode cX6_walk 146 = .ok (.iload 5, 2) := by decide +kernel
theorem dX6_walk_148 : decode cX6_walk 148 = .ok (.if_icmp .le 11, 3) := by decide +kernel
theorem dX6_walk_151 : decode cX6_walk 151 = .ok (.iload 8, 2) := by decide +kernel
theorem dX6_walk_153 : decode cX6_walk 153 = .ok (.invokestatic 140, 3) := by decide +kernel
theorem dX6_walk_156 : decode cX6_walk 156 = .ok (.goto 5, 3) := by decide +kernel
theorem dX6_walk_159 : decode cX6_walk 159 = .ok (.iload 5, 2) := by decide +kernel
theorem dX6_walk_161 : decode cX6_walk 161 = .ok (.istore 5, 2) := by decide +kernel
theorem dX6_walk_163 : decode cX6_walk 163 = .ok (.iinc 6 1, 3) := by decide +kernel
theorem dX6_walk_166 : decode cX6_walk 166 = .ok (.goto (-119), 3) := by decide +kernel
theorem dX6_walk_169 : decode cX6_walk 169 = .ok (.iload_n 3, 1) := by decide +kernel
theorem dX6_walk_170 : decode cX6_walk 170 = .ok (.ifCond .ne 8, 3) := by decide +kernel
theorem dX6_walk_173 : decode cX6_walk 173 = .ok (.iload 5, 2) := by decide +kernel
theorem dX6_walk_175 : decode cX6_walk 175 = .ok (.goto 5, 3) := by decide +kernel
theorem dX6_walk_178 : decode cX6_walk 178 = .ok (.iload 4, 2) := by decide +kernel
theorem dX6_walk_180 : decode cX6_walk 180 = .ok (.ireturn, 1) := by decide +kernel
set_option maxRecDepth 20000 in
theorem ggX6_isSo_X6_hourBy : GoodIn wsX6_isSo wsX6_hourBy := goodIn_r _ [7, 1, 8, 9, 10, 6, 11, 12, 13, 14, 15, 16, 17, 18, 19, 20, 21, 22, 23, 24, 25, 26, 27, 28, 29, 30, 31, 32, 33, 34, 35, 36, 37, 38, 39, 40, 41, 42] (by decide +kernel) (by decide +kernel)
set_option maxRecDepth 20000 in
theorem gX6_isSo_X6_hourBy : GoodIn wsX6_isSo (wsV RX6 152 RX6 yX6_hourBy wsX6_hourBy) := goodIn_app (goodIn_of _ (by decide +kernel)) ggX6_isSo_X6_hourBy
theorem dX6_isSo_0 : decode cX6_isSo 0 = .ok (.iconst 1, 1) := by decide +kernel
theorem dX6_isSo_1 : decode cX6_isSo 1 = .ok (.istore 4, 2) := by decide +kernel
theorem dX6_isSo_3 : decode cX6_isSo 3 = .ok (.iconst 0, 1) := by decide +kernel
theorem dX6_isSo_4 : decode cX6_isSo 4 = .ok (.istore 5, 2) := by decide +kernel
theorem dX6_isSo_6 : decode cX6_isSo 6 = .ok (.iload 5, 2) := by decide +kernel
theorem dX6_isSo_8 : decode cX6_isSo 8 = .ok (.iload_n 3, 1) := by decide +kernel
theorem dX6_isSo_9 : decode cX6_isSo 9 = .ok (.if_icmp .ge 49, 3) := by decide +kernel
theorem dX6_isSo_12 : decode cX6_isSo 12 = .ok (.iload 4, 2) := by decide +kernel
theorem dX6_isSo_14 : decode cX6_isSo 14 = .ok (.ifCond .eq 44, 3) := by decide +kernel
theorem dX6_isSo_17 : decode cX6_isSo 17 = .ok (.aload_n 0, 1) := by decide +kernel
theorem dX6_isSo_18 : decode cX6_isSo 18 = .ok (.bipush 38, 2) := by decide +kernel
theorem dX6_isSo_20 : decode cX6_isSo 20 = .ok (.iconst 0, 1) := by decide +kernel
theorem dX6_isSo_21 : decode cX6_isSo 21 = .ok (.invokevirtual 152, 3) := by decide +kernel
theorem dX6_isSo_24 : decode cX6_isSo 24 = .ok (.aload_n 0, 1) := by decide +kernel
theorem dX6_isSo_25 : decode cX6_isSo 25 = .ok (.getfield 7, 3) := by decide +kernel
theorem dX6_isSo_28 : decode cX6_isSo 28 = .ok (.bipush 57, 2) := by decide +kernel
theorem dX6_isSo_30 : decode cX6_isSo 30 = .ok (.iload_n 1, 1) := by decide +kernel
theorem dX6_isSo_31 : decode cX6_isSo 31 = .ok (.iadd, 1) := by decide +kernel
theorem dX6_isSo_32 : decode cX6_isSo 32 = .ok (.iaload, 1) := by decide +kernel
theorem dX6_isSo_33 : decode cX6_isSo 33 = .ok (.aload_n 0, 1) := by decide +kernel
theorem dX6_isSo_34 : decode cX6_isSo 34 = .ok (.getfield 22, 3) := by decide +kernel
theorem dX6_isSo_37 : decode cX6_isSo 37 = .ok (.iload_n 2, 1) := by decide +kernel
theorem dX6_isSo_38 : decode cX6_isSo 38 = .ok (.iload 5, 2) := by decide +kernel
theorem dX6_isSo_40 : decode cX6_isSo 40 = .ok (.iadd, 1) := by decide +kernel
theorem dX6_isSo_41 : decode cX6_isSo 41 = .ok (.iaload, 1) := by decide +kernel
theorem dX6_isSo_42 : decode cX6_isSo 42 = .ok (.if_icmp .ne 7, 3) := by decide +kernel
theorem dX6_isSo_45 : decode cX6_isSo 45 = .ok (.iconst 1, 1) := by decide +kernel
theorem dX6_isSo_46 : decode cX6_isSo 46 = .ok (.goto 4, 3) := by decide +kernel
theorem dX6_isSo_49 : decode cX6_isSo 49 = .ok (.iconst 0, 1) := by decide +kernel
theorem dX6_isSo_50 : decode cX6_isSo 50 = .ok (.istore 4, 2) := by decide +kernel
theorem dX6_isSo_52 : decode cX6_isSo 52 = .ok (.iinc 5 1, 3) := by decide +kernel
theorem dX6_isSo_55 : decode cX6_isSo 55 = .ok (.goto (-49), 3) := by decide +kernel
theorem dX6_isSo_58 : decode cX6_isSo 58 = .ok (.iload 4, 2) := by decide +kernel
theorem dX6_isSo_60 : decode cX6_isSo 60 = .ok (.ireturn, 1) := by decide +kernel
set_option maxRecDepth 20000 in
theorem ggX6_fits_X6_isPulpit : GoodIn wsX6_fits wsX6_isPulpit := goodIn_r _ [10, 5, 11, 12, 9, 13, 64, 65, 66, 67, 68, 69, 70, 71, 72, 73, 74, 75, 76, 77, 78, 79] (by decide +kernel) (by decide +kernel)
set_option maxRecDepth 20000 in
theorem gX6_fits_X6_isPulpit : GoodIn wsX6_fits (wsV RX6 158 RX6 yX6_isPulpit wsX6_isPulpit) := goodIn_app (goodIn_of _ (by decide +kernel)) ggX6_fits_X6_isPulpit
set_option maxRecDepth 20000 in
theorem ggX6_fits_X6_isRow : GoodIn wsX6_fits wsX6_isRow := goodIn_r _ [16, 17, 11, 12, 9, 13] (by decide +kernel) (by decide +kernel)
set_option maxRecDepth 20000 in
theorem gX6_fits_X6_isRow : GoodIn wsX6_fits (va_wsS RX6 45 yX6_isRow wsX6_isRow) := goodIn_app (goodIn_of _ (by decide +kernel)) ggX6_fits_X6_isRow
set_option maxRecDepth 20000 in
theorem ggX6_fits_X6_in : GoodIn wsX6_fits wsX6_in := goodIn_r _ [13] (by decide +kernel) (by decide +kernel)
set_option maxRecDepth 20000 in
theorem gX6_fits_X6_in : GoodIn wsX6_fits (va_wsS RX6 34 yX6_in wsX6_in) := goodIn_app (goodIn_of _ (by decide +kernel)) ggX6_fits_X6_in
set_option maxRecDepth 20000 in
theorem ggX6_fits_X6_against : GoodIn wsX6_fits wsX6_against := goodIn_r _ [21, 22, 64, 65, 66, 67, 68, 69, 70, 71, 72, 73, 74, 75, 76, 77, 78, 79] (by decide +kernel) (by decide +kernel)
set_option maxRecDepth 20000 in
theorem gX6_fits_X6_against : GoodIn wsX6_fits (wsV RX6 56 RX6 yX6_against wsX6_against) := goodIn_app (goodIn_of _ (by decide +kernel)) ggX6_fits_X6_against
set_option maxRecDepth 20000 in
theorem ggX6_fits_X6_finds : GoodIn wsX6_fits wsX6_finds := goodIn_r _ [26, 4, 27, 64, 65, 66, 67, 68, 69, 70, 71, 72, 73, 74, 75, 76, 77, 78, 79] (by decide +kernel) (by decide +kernel)
set_option maxRecDepth 20000 in
theorem gX6_fits_X6_finds : GoodIn wsX6_fits (wsV RX6 52 RX6 yX6_finds wsX6_finds) := goodIn_app (goodIn_of _ (by decide +kernel)) ggX6_fits_X6_finds
set_option maxRecDepth 20000 in
theorem ggX6_fits_X6_tries : GoodIn wsX6_fits wsX6_tries := goodIn_r _ [31, 32, 33, 34, 9, 35, 5, 64, 65, 66, 67, 68, 69, 70, 71, 72, 73, 74, 75, 76, 77, 78, 79] (by decide +kernel) (by decide +kernel)
set_option maxRecDepth 20000 in
theorem gX6_fits_X6_tries : GoodIn wsX6_fits (wsV RX6 169 RX6 yX6_tries wsX6_tries) := goodIn_app (goodIn_of _ (by decide +kernel)) ggX6_fits_X6_tries
set_option maxRecDepth 20000 in
theorem ggX6_fits_X6_isSo : GoodIn wsX6_fits wsX6_isSo := goodIn_r _ [39, 5, 40, 41, 42, 43, 9, 44, 45, 46, 47, 48, 49, 50, 51, 52, 53, 54, 55, 56, 57, 58, 59, 60, 61, 62, 63, 64, 65, 66, 67, 68, 69, 70, 71, 72, 73, 74, 75, 76, 77, 78, 79] (by decide +kernel) (by decide +kernel)
set_option maxRecDepth 20000 in
theorem gX6_fits_X6_isSo : GoodIn wsX6_fits (wsV RX6 191 RX6 yX6_isSo wsX6_isSo) := goodIn_app (goodIn_of _ (by decide +kernel)) ggX6_fits_X6_isSo
theorem dX6_fits_0 : decode cX6_fits 0 = .ok (.aload_n 0, 1) := by decide +kernel
theorem dX6_fits_1 : decode cX6_fits 1 = .ok (.iload_n 1, 1) := by decide +kernel
theorem dX6_fits_2 : decode cX6_fits 2 = .ok (.invokevirtual 158, 3) := by decide +kernel
theorem dX6_fits_5 : decode cX6_fits 5 = .ok (.ifCond .eq 36, 3) := by decide +kernel
theorem dX6_fits_8 : decode cX6_fits 8 = .ok (.iload_n 2, 1) := by decide +kernel
theorem dX6_fits_9 : decode cX6_fits 9 = .ok (.invokestatic 45, 3) := by decide +kernel
theorem dX6_fits_12 : decode cX6_fits 12 = .ok (.ifCond .eq 29, 3) := by decide +kernel
theorem dX6_fits_15 : decode cX6_fits 15 = .ok (.iload 4, 2) := by decide +kernel
theorem dX6_fits_17 : decode cX6_fits 17 = .ok (.i2l, 1) := by decide +kernel
theorem dX6_fits_18 : decode cX6_fits 18 = .ok (.lconst 1, 1) := by decide +kernel
theorem dX6_fits_19 : decode cX6_fits 19 = .ok (.ldc2_w 187, 3) := by decide +kernel
theorem dX6_fits_22 : decode cX6_fits 22 = .ok (.invokestatic 34, 3) := by decide +kernel
theorem dX6_fits_25 : decode cX6_fits 25 = .ok (.ifCond .eq 16, 3) := by decide +kernel
theorem dX6_fits_28 : decode cX6_fits 28 = .ok (.iload 5, 2) := by decide +kernel
theorem dX6_fits_30 : decode cX6_fits 30 = .ok (.i2l, 1) := by decide +kernel
theorem dX6_fits_31 : decode cX6_fits 31 = .ok (.lconst 0, 1) := by decide +kernel
theorem dX6_fits_32 : decode cX6_fits 32 = .ok (.ldc2_w 189, 3) := by decide +kernel
theorem dX6_fits_35 : decode cX6_fits 35 = .ok (.invokestatic 34, 3) := by decide +kernel
theorem dX6_fits_38 : decode cX6_fits 38 = .ok (.ifCond .ne 6, 3) := by decide +kernel
theorem dX6_fits_41 : decode cX6_fits 41 = .ok (.ldc 51, 2) := by decide +kernel
theorem dX6_fits_43 : decode cX6_fits 43 = .ok (.ireturn, 1) := by decide +kernel
theorem dX6_fits_44 : decode cX6_fits 44 = .ok (.aload_n 0, 1) := by decide +kernel
theorem dX6_fits_45 : decode cX6_fits 45 = .ok (.iload_n 2, 1) := by decide +kernel
theorem dX6_fits_46 : decode cX6_fits 46 = .ok (.iload_n 3, 1) := by decide +kernel
theorem dX6_fits_47 : decode cX6_fits 47 = .ok (.iload 4, 2) := by decide +kernel
theorem dX6_fits_49 : decode cX6_fits 49 = .ok (.invokevirtual 56, 3) := by decide +kernel
theorem dX6_fits_52 : decode cX6_fits 52 = .ok (.istore 6, 2) := by decide +kernel
theorem dX6_fits_54 : decode cX6_fits 54 = .ok (.iload 6, 2) := by decide +kernel
theorem dX6_fits_56 : decode cX6_fits 56 = .ok (.ifCond .le 10, 3) := by decide +kernel
theorem dX6_fits_59 : decode cX6_fits 59 = .ok (.aload_n 0, 1) := by decide +kernel
theorem dX6_fits_60 : decode cX6_fits 60 = .ok (.iload 6, 2) := by decide +kernel
theorem dX6_fits_62 : decode cX6_fits 62 = .ok (.invokevirtual 52, 3) := by decide +kernel
theorem dX6_fits_65 : decode cX6_fits 65 = .ok (.ireturn, 1) := by decide +kernel
theorem dX6_fits_66 : decode cX6_fits 66 = .ok (.aload_n 0, 1) := by decide +kernel
theorem dX6_fits_67 : decode cX6_fits 67 = .ok (.iconst 0, 1) := by decide +kernel
theorem dX6_fits_68 : decode cX6_fits 68 = .ok (.putfield 40, 3) := by decide +kernel
theorem dX6_fits_71 : decode cX6_fits 71 = .ok (.iconst 0, 1) := by decide +kernel
theorem dX6_fits_72 : decode cX6_fits 72 = .ok (.istore 7, 2) := by decide +kernel
theorem dX6_fits_74 : decode cX6_fits 74 = .ok (.iload 5, 2) := by decide +kernel
theorem dX6_fits_76 : decode cX6_fits 76 = .ok (.ifCond .ne 10, 3) := by decide +kernel
theorem dX6_fits_79 : decode cX6_fits 79 = .ok (.bipush 13, 2) := by decide +kernel
theorem dX6_fits_81 : decode cX6_fits 81 = .ok (.iload_n 1, 1) := by decide +kernel
theorem dX6_fits_82 : decode cX6_fits 82 = .ok (.iadd, 1) := by decide +kernel
theorem dX6_fits_83 : decode cX6_fits 83 = .ok (.goto 30, 3) := by decide +kernel
theorem dX6_fits_86 : decode cX6_fits 86 = .ok (.iload 5, 2) := by decide +kernel
theorem dX6_fits_88 : decode cX6_fits 88 = .ok (.iconst 1, 1) := by decide +kernel
theorem dX6_fits_89 : decode cX6_fits 89 = .ok (.if_icmp .ne 10, 3) := by decide +kernel
theorem dX6_fits_92 : decode cX6_fits 92 = .ok (.bipush 19, 2) := by decide +kernel
theorem dX6_fits_94 : decode cX6_fits 94 = .ok (.iload_n 1, 1) := by decide +kernel
theorem dX6_fits_95 : decode cX6_fits 95 = .ok (.iadd, 1) := by decide +kernel
theorem dX6_fits_96 : decode cX6_fits 96 = .ok (.goto 17, 3) := by decide +kernel
theorem dX6_fits_99 : decode cX6_fits 99 = .ok (.iload 5, 2) := by decide +kernel
theorem dX6_fits_101 : decode cX6_fits 101 = .ok (.iconst 2, 1) := by decide +kernel
theorem dX6_fits_102 : decode cX6_fits 102 = .ok (.if_icmp .ne 7, 3) := by decide +kernel
theorem dX6_fits_105 : decode cX6_fits 105 = .ok (.iconst 3, 1) := by decide +kernel
theorem dX6_fits_106 : decode cX6_fits 106 = .ok (.goto 7, 3) := by decide +kernel
theorem dX6_fits_109 : decode cX6_fits 109 = .ok (.bipush 24, 2) := by decide +kernel
theorem dX6_fits_111 : decode cX6_fits 111 = .ok (.iload_n 1, 1) := by decide +kernel
theorem dX6_fits_112 : decode cX6_fits 112 = .ok (.iadd, 1) := by decide +kernel
theorem dX6_fits_113 : decode cX6_fits 113 = .ok (.istore 8, 2) := by decide +kernel
theorem dX6_fits_115 : decode cX6_fits 115 = .ok (.iload 5, 2) := by decide +kernel
theorem dX6_fits_117 : decode cX6_fits 117 = .ok (.ifCond .ne 7, 3) := by decide +kernel
theorem dX6_fits_120 : decode cX6_fits 120 = .ok (.iconst 5, 1) := by decide +kernel
theorem dX6_fits_121 : decode cX6_fits 121 = .ok (.goto 28, 3) := by decide +kernel
theorem dX6_fits_124 : decode cX6_fits 124 = .ok (.iload 5, 2) := by decide +kernel
theorem dX6_fits_126 : decode cX6_fits 126 = .ok (.iconst 1, 1) := by decide +kernel
theorem dX6_fits_127 : decode cX6_fits 127 = .ok (.if_icmp .ne 14, 3) := by decide +kernel
theorem dX6_fits_130 : decode cX6_fits 130 = .ok (.aload_n 0, 1) := by decide +kernel
theorem dX6_fits_131 : decode cX6_fits 131 = .ok (.getfield 7, 3) := by decide +kernel
theorem dX6_fits_134 : decode cX6_fits 134 = .ok (.iconst 0, 1) := by decide +kernel
theorem dX6_fits_135 : decode cX6_fits 135 = .ok (.iaload, 1) := by decide +kernel
theorem dX6_fits_136 : decode cX6_fits 136 = .ok (.iconst 1, 1) := by decide +kernel
theorem dX6_fits_137 : decode cX6_fits 137 = .ok (.isub, 1) := by decide +kernel
theorem dX6_fits_138 : decode cX6_fits 138 = .ok (.goto 11, 3) := by decide +kernel
theorem dX6_fits_141 : decode cX6_fits 141 = .ok (.aload_n 0, 1) := by decide +kernel
theorem dX6_fits_142 : decode cX6_fits 142 = .ok (.getfield 7, 3) := by decide +kernel
theorem dX6_fits_145 : decode cX6_fits 145 = .ok (.iconst 2, 1) := by decide +kernel
theorem dX6_fits_146 : decode cX6_fits 146 = .ok (.iaload, 1) := by decide +kernel
theorem dX6_fits_147 : decode cX6_fits 147 = .ok (.iconst 1, 1) := by decide +kernel
theorem dX6_fits_148 : decode cX6_fits 148 = .ok (.isub, 1) := by decide +kernel
theorem dX6_fits_149 : decode cX6_fits 149 = .ok (.istore 9, 2) := by decide +kernel
theorem dX6_fits_151 : decode cX6_fits 151 = .ok (.iload 5, 2) := by decide +kernel
theorem dX6_fits_153 : decode cX6_fits 153 = .ok (.ifCond .ne 7, 3) := by decide +kernel
theorem dX6_fits_156 : decode cX6_fits 156 = .ok (.iconst 1, 1) := by decide +kernel
theorem dX6_fits_157 : decode cX6_fits 157 = .ok (.goto 4, 3) := by decide +kernel
theorem dX6_fits_160 : decode cX6_fits 160 = .ok (.iconst 0, 1) := by decide +kernel
theorem dX6_fits_161 : decode cX6_fits 161 = .ok (.istore 10, 2) := by decide +kernel
theorem dX6_fits_163 : decode cX6_fits 163 = .ok (.iload 10, 2) := by decide +kernel
theorem dX6_fits_165 : decode cX6_fits 165 = .ok (.iload 9, 2) := by decide +kernel
theorem dX6_fits_167 : decode cX6_fits 167 = .ok (.if_icmp .gt 54, 3) := by decide +kernel
theorem dX6_fits_170 : decode cX6_fits 170 = .ok (.aload_n 0, 1) := by decide +kernel
theorem dX6_fits_171 : decode cX6_fits 171 = .ok (.invokevirtual 169, 3) := by decide +kernel
theorem dX6_fits_174 : decode cX6_fits 174 = .ok (.aload_n 0, 1) := by decide +kernel
theorem dX6_fits_175 : decode cX6_fits 175 = .ok (.getfield 7, 3) := by decide +kernel
theorem dX6_fits_178 : decode cX6_fits 178 = .ok (.bipush 38, 2) := by decide +kernel
theorem dX6_fits_180 : decode cX6_fits 180 = .ok (.iload 8, 2) := by decide +kernel
theorem dX6_fits_182 : decode cX6_fits 182 = .ok (.iadd, 1) := by decide +kernel
theorem dX6_fits_183 : decode cX6_fits 183 = .ok (.iload 10, 2) := by decide +kernel
theorem dX6_fits_185 : decode cX6_fits 185 = .ok (.iastore, 1) := by decide +kernel
theorem dX6_fits_186 : decode cX6_fits 186 = .ok (.iload 7, 2) := by decide +kernel
theorem dX6_fits_188 : decode cX6_fits 188 = .ok (.aload_n 0, 1) := by decide +kernel
theorem dX6_fits_189 : decode cX6_fits 189 = .ok (.iload_n 1, 1) := by decide +kernel
theorem dX6_fits_190 : decode cX6_fits 190 = .ok (.bipush 40, 2) := by decide +kernel
theorem dX6_fits_192 : decode cX6_fits 192 = .ok (.iload_n 2, 1) := by decide +kernel
theorem dX6_fits_193 : decode cX6_fits 193 = .ok (.imul, 1) := by decide +kernel
theorem dX6_fits_194 : decode cX6_fits 194 = .ok (.iload_n 3, 1) := by decide +kernel
theorem dX6_fits_195 : decode cX6_fits 195 = .ok (.iadd, 1) := by decide +kernel
theorem dX6_fits_196 : decode cX6_fits 196 = .ok (.iload 4, 2) := by decide +kernel
theorem dX6_fits_198 : decode cX6_fits 198 = .ok (.invokevirtual 191, 3) := by decide +kernel
theorem dX6_fits_201 : decode cX6_fits 201 = .ok (.ifCond .eq 10, 3) := by decide +kernel
theorem dX6_fits_204 : decode cX6_fits 204 = .ok (.iconst 1, 1) := by decide +kernel
theorem dX6_fits_205 : decode cX6_fits 205 = .ok (.iload 10, 2) := by decide +kernel
theorem dX6_fits_207 : decode cX6_fits 207 = .ok (.ishl, 1) := by decide +kernel
theorem dX6_fits_208 : decode cX6_fits 208 = .ok (.goto 4, 3) := by decide +kernel
theorem dX6_fits_211 : decode cX6_fits 211 = .ok (.iconst 0, 1) := by decide +kernel
theorem dX6_fits_212 : decode cX6_fits 212 = .ok (.ior, 1) := by decide +kernel
theorem dX6_fits_213 : decode cX6_fits 213 = .ok (.istore 7, 2) := by decide +kernel
theorem dX6_fits_215 : decode cX6_fits 215 = .ok (.iinc 10 1, 3) := by decide +kernel
theorem dX6_fits_218 : decode cX6_fits 218 = .ok (.goto (-55), 3) := by decide +kernel
theorem dX6_fits_221 : decode cX6_fits 221 = .ok (.iload 7, 2) := by decide +kernel
theorem dX6_fits_223 : decode cX6_fits 223 = .ok (.ireturn, 1) := by decide +kernel
set_option maxRecDepth 20000 in
theorem ggX6_axles_X6_isStretch : GoodIn wsX6_axles wsX6_isStretch := goodIn_r _ [8, 1, 9, 10, 7, 11, 43, 44, 45, 46, 47, 48, 49, 50, 51, 52, 53, 54, 55, 56, 57, 58] (by decide +kernel) (by decide +kernel)
set_option maxRecDepth 20000 in
theorem gX6_axles_X6_isStretch : GoodIn wsX6_axles (wsV RX6 161 RX6 yX6_isStretch wsX6_isStretch) := goodIn_app (goodIn_of _ (by decide +kernel)) ggX6_axles_X6_isStretch
set_option maxRecDepth 20000 in
theorem ggX6_axles_X6_in : GoodIn wsX6_axles wsX6_in := goodIn_r _ [11] (by decide +kernel) (by decide +kernel)
set_option maxRecDepth 20000 in
theorem gX6_axles_X6_in : GoodIn wsX6_axles (va_wsS RX6 34 yX6_in wsX6_in) := goodIn_app (goodIn_of _ (by decide +kernel)) ggX6_axles_X6_in
set_option maxRecDepth 20000 in
theorem ggX6_axles_X6_has : GoodIn wsX6_axles wsX6_has := goodIn_r _ [14] (by decide +kernel) (by decide +kernel)
set_option maxRecDepth 20000 in
theorem gX6_axles_X6_has : GoodIn wsX6_axles (va_wsS RX6 127 yX6_has wsX6_has) := goodIn_app (goodIn_of _ (by decide +kernel)) ggX6_axles_X6_has
set_option maxRecDepth 20000 in
theorem ggX6_axles_X6_tries : GoodIn wsX6_axles wsX6_tries := goodIn_r _ [18, 19, 20, 21, 7, 22, 1, 43, 44, 45, 46, 47, 48, 49, 50, 51, 52, 53, 54, 55, 56, 57, 58] (by decide +kernel) (by decide +kernel)
set_option maxRecDepth 20000 in
theorem gX6_axles_X6_tries : GoodIn wsX6_axles (wsV RX6 169 RX6 yX6_tries wsX6_tries) := goodIn_app (goodIn_of _ (by decide +kernel)) ggX6_axles_X6_tries
set_option maxRecDepth 20000 in
theorem ggX6_axles_X6_hourBy : GoodIn wsX6_axles wsX6_hourBy := goodIn_r _ [26, 1, 27, 28, 29, 7, 30, 12, 13, 14, 31, 32, 33, 34, 35, 36, 37, 38, 39, 40, 41, 42, 43, 44, 45, 46, 47, 48, 49, 50, 51, 52, 53, 54, 55, 56, 57, 58] (by decide +kernel) (by decide +kernel)
set_option maxRecDepth 20000 in
theorem gX6_axles_X6_hourBy : GoodIn wsX6_axles (wsV RX6 152 RX6 yX6_hourBy wsX6_hourBy) := goodIn_app (goodIn_of _ (by decide +kernel)) ggX6_axles_X6_hourBy
theorem dX6_axles_0 : decode cX6_axles 0 = .ok (.aload_n 0, 1) := by decide +kernel
theorem dX6_axles_1 : decode cX6_axles 1 = .ok (.iload_n 1, 1) := by decide +kernel
theorem dX6_axles_2 : decode cX6_axles 2 = .ok (.invokevirtual 161, 3) := by decide +kernel
theorem dX6_axles_5 : decode cX6_axles 5 = .ok (.ifCond .eq 44, 3) := by decide +kernel
theorem dX6_axles_8 : decode cX6_axles 8 = .ok (.iload_n 2, 1) := by decide +kernel
theorem dX6_axles_9 : decode cX6_axles 9 = .ok (.i2l, 1) := by decide +kernel
theorem dX6_axles_10 : decode cX6_axles 10 = .ok (.lconst 0, 1) := by decide +kernel
theorem dX6_axles_11 : decode cX6_axles 11 = .ok (.aload_n 0, 1) := by decide +kernel
theorem dX6_axles_12 : decode cX6_axles 12 = .ok (.getfield 7, 3) := by decide +kernel
theorem dX6_axles_15 : decode cX6_axles 15 = .ok (.iconst 2, 1) := by decide +kernel
theorem dX6_axles_16 : decode cX6_axles 16 = .ok (.iaload, 1) := by decide +kernel
theorem dX6_axles_17 : decode cX6_axles 17 = .ok (.iconst 1, 1) := by decide +kernel
theorem dX6_axles_18 : decode cX6_axles 18 = .ok (.isub, 1) := by decide +kernel
theorem dX6_axles_19 : decode cX6_axles 19 = .ok (.i2l, 1) := by decide +kernel
theorem dX6_axles_20 : decode cX6_axles 20 = .ok (.invokestatic 34, 3) := by decide +kernel
theorem dX6_axles_23 : decode cX6_axles 23 = .ok (.ifCond .eq 26, 3) := by decide +kernel
theorem dX6_axles_26 : decode cX6_axles 26 = .ok (.iload_n 3, 1) := by decide +kernel
theorem dX6_axles_27 : decode cX6_axles 27 = .ok (.i2l, 1) := by decide +kernel
theorem dX6_axles_28 : decode cX6_axles 28 = .ok (.lconst 0, 1) := by decide +kernel
theorem dX6_axles_29 : decode cX6_axles 29 = .ok (.ldc2_w 195, 3) := by decide +kernel
theorem dX6_axles_32 : decode cX6_axles 32 = .ok (.invokestatic 34, 3) := by decide +kernel
theorem dX6_axles_35 : decode cX6_axles 35 = .ok (.ifCond .eq 14, 3) := by decide +kernel
theorem dX6_axles_38 : decode cX6_axles 38 = .ok (.iload 4, 2) := by decide +kernel
theorem dX6_axles_40 : decode cX6_axles 40 = .ok (.i2l, 1) := by decide +kernel
theorem dX6_axles_41 : decode cX6_axles 41 = .ok (.lconst 0, 1) := by decide +kernel
theorem dX6_axles_42 : decode cX6_axles 42 = .ok (.lconst 1, 1) := by decide +kernel
theorem dX6_axles_43 : decode cX6_axles 43 = .ok (.invokestatic 34, 3) := by decide +kernel
theorem dX6_axles_46 : decode cX6_axles 46 = .ok (.ifCond .ne 6, 3) := by decide +kernel
theorem dX6_axles_49 : decode cX6_axles 49 = .ok (.ldc 51, 2) := by decide +kernel
theorem dX6_axles_51 : decode cX6_axles 51 = .ok (.ireturn, 1) := by decide +kernel
theorem dX6_axles_52 : decode cX6_axles 52 = .ok (.iconst 0, 1) := by decide +kernel
theorem dX6_axles_53 : decode cX6_axles 53 = .ok (.istore 5, 2) := by decide +kernel
theorem dX6_axles_55 : decode cX6_axles 55 = .ok (.iconst 1, 1) := by decide +kernel
theorem dX6_axles_56 : decode cX6_axles 56 = .ok (.istore 6, 2) := by decide +kernel
theorem dX6_axles_58 : decode cX6_axles 58 = .ok (.iconst 0, 1) := by decide +kernel
theorem dX6_axles_59 : decode cX6_axles 59 = .ok (.istore 7, 2) := by decide +kernel
theorem dX6_axles_61 : decode cX6_axles 61 = .ok (.iload 7, 2) := by decide +kernel
theorem dX6_axles_63 : decode cX6_axles 63 = .ok (.aload_n 0, 1) := by decide +kernel
theorem dX6_axles_64 : decode cX6_axles 64 = .ok (.getfield 7, 3) := by decide +kernel
theorem dX6_axles_67 : decode cX6_axles 67 = .ok (.iconst 1, 1) := by decide +kernel
theorem dX6_axles_68 : decode cX6_axles 68 = .ok (.iaload, 1) := by decide +kernel
theorem dX6_axles_69 : decode cX6_axles 69 = .ok (.if_icmp .ge 16, 3) := by decide +kernel
theorem dX6_axles_72 : decode cX6_axles 72 = .ok (.iload 6, 2) := by decide +kernel
theorem dX6_axles_74 : decode cX6_axles 74 = .ok (.bipush 10, 2) := by decide +kernel
theorem dX6_axles_76 : decode cX6_axles 76 = .ok (.imul, 1) := by decide +kernel
theorem dX6_axles_77 : decode cX6_axles 77 = .ok (.istore 6, 2) := by decide +kernel
theorem dX6_axles_79 : decode cX6_axles 79 = .ok (.iinc 7 1, 3) := by decide +kernel
theorem dX6_axles_82 : decode cX6_axles 82 = .ok (.goto (-21), 3) := by decide +kernel
theorem dX6_axles_85 : decode cX6_axles 85 = .ok (.iconst 0, 1) := by decide +kernel
theorem dX6_axles_86 : decode cX6_axles 86 = .ok (.istore 7, 2) := by decide +kernel
theorem dX6_axles_88 : decode cX6_axles 88 = .ok (.iload 7, 2) := by decide +kernel
theorem dX6_axles_90 : decode cX6_axles 90 = .ok (.iconst 1, 1) := by decide +kernel
theorem dX6_axles_91 : decode cX6_axles 91 = .ok (.aload_n 0, 1) := by decide +kernel
theorem dX6_axles_92 : decode cX6_axles 92 = .ok (.getfield 7, 3) := by decide +kernel
theorem dX6_axles_95 : decode cX6_axles 95 = .ok (.iconst 1, 1) := by decide +kernel
theorem dX6_axles_96 : decode cX6_axles 96 = .ok (.iaload, 1) := by decide +kernel
theorem dX6_axles_97 : decode cX6_axles 97 = .ok (.ishl, 1) := by decide +kernel
theorem dX6_axles_98 : decode cX6_axles 98 = .ok (.if_icmp .ge 94, 3) := by decide +kernel
theorem dX6_axles_101 : decode cX6_axles 101 = .ok (.iconst 1, 1) := by decide +kernel
theorem dX6_axles_102 : decode cX6_axles 102 = .ok (.istore 8, 2) := by decide +kernel
theorem dX6_axles_104 : decode cX6_axles 104 = .ok (.iconst 0, 1) := by decide +kernel
theorem dX6_axles_105 : decode cX6_axles 105 = .ok (.istore 9, 2) := by decide +kernel
theorem dX6_axles_107 : decode cX6_axles 107 = .ok (.iload 9, 2) := by decide +kernel
theorem dX6_axles_109 : decode cX6_axles 109 = .ok (.aload_n 0, 1) := by decide +kernel
theorem dX6_axles_110 : decode cX6_axles 110 = .ok (.getfield 7, 3) := by decide +kernel
theorem dX6_axles_113 : decode cX6_axles 113 = .ok (.iconst 1, 1) := by decide +kernel
theorem dX6_axles_114 : decode cX6_axles 114 = .ok (.iaload, 1) := by decide +kernel
theorem dX6_axles_115 : decode cX6_axles 115 = .ok (.if_icmp .ge 32, 3) := by decide +kernel
theorem dX6_axles_118 : decode cX6_axles 118 = .ok (.iload 8, 2) := by decide +kernel
theorem dX6_axles_120 : decode cX6_axles 120 = .ok (.iload 7, 2) := by decide +kernel
theorem dX6_axles_122 : decode cX6_axles 122 = .ok (.iload 9, 2) := by decide +kernel
theorem dX6_axles_124 : decode cX6_axles 124 = .ok (.invokestatic 127, 3) := by decide +kernel
theorem dX6_axles_127 : decode cX6_axles 127 = .ok (.ifCond .eq 7, 3) := by decide +kernel
theorem dX6_axles_130 : decode cX6_axles 130 = .ok (.iload_n 3, 1) := by decide +kernel
theorem dX6_axles_131 : decode cX6_axles 131 = .ok (.goto 7, 3) := by decide +kernel
theorem dX6_axles_134 : decode cX6_axles 134 = .ok (.bipush 10, 2) := by decide +kernel
theorem dX6_axles_136 : decode cX6_axles 136 = .ok (.iload_n 3, 1) := by decide +kernel
theorem dX6_axles_137 : decode cX6_axles 137 = .ok (.isub, 1) := by decide +kernel
theorem dX6_axles_138 : decode cX6_axles 138 = .ok (.imul, 1) := by decide +kernel
theorem dX6_axles_139 : decode cX6_axles 139 = .ok (.istore 8, 2) := by decide +kernel
theorem dX6_axles_141 : decode cX6_axles 141 = .ok (.iinc 9 1, 3) := by decide +kernel
theorem dX6_axles_144 : decode cX6_axles 144 = .ok (.goto (-37), 3) := by decide +kernel
theorem dX6_axles_147 : decode cX6_axles 147 = .ok (.aload_n 0, 1) := by decide +kernel
theorem dX6_axles_148 : decode cX6_axles 148 = .ok (.invokevirtual 169, 3) := by decide +kernel
theorem dX6_axles_151 : decode cX6_axles 151 = .ok (.aload_n 0, 1) := by decide +kernel
theorem dX6_axles_152 : decode cX6_axles 152 = .ok (.bipush 38, 2) := by decide +kernel
theorem dX6_axles_154 : decode cX6_axles 154 = .ok (.iload 7, 2) := by decide +kernel
theorem dX6_axles_156 : decode cX6_axles 156 = .ok (.invokevirtual 152, 3) := by decide +kernel
theorem dX6_axles_159 : decode cX6_axles 159 = .ok (.iload 5, 2) := by decide +kernel
theorem dX6_axles_161 : decode cX6_axles 161 = .ok (.aload_n 0, 1) := by decide +kernel
theorem dX6_axles_162 : decode cX6_axles 162 = .ok (.getfield 7, 3) := by decide +kernel
theorem dX6_axles_165 : decode cX6_axles 165 = .ok (.bipush 67, 2) := by decide +kernel
theorem dX6_axles_167 : decode cX6_axles 167 = .ok (.iload_n 1, 1) := by decide +kernel
theorem dX6_axles_168 : decode cX6_axles 168 = .ok (.iadd, 1) := by decide +kernel
theorem dX6_axles_169 : decode cX6_axles 169 = .ok (.iaload, 1) := by decide +kernel
theorem dX6_axles_170 : decode cX6_axles 170 = .ok (.iload_n 2, 1) := by decide +kernel
theorem dX6_axles_171 : decode cX6_axles 171 = .ok (.invokestatic 127, 3) := by decide +kernel
theorem dX6_axles_174 : decode cX6_axles 174 = .ok (.ifCond .eq 8, 3) := by decide +kernel
theorem dX6_axles_177 : decode cX6_axles 177 = .ok (.iload 8, 2) := by decide +kernel
theorem dX6_axles_179 : decode cX6_axles 179 = .ok (.goto 4, 3) := by decide +kernel
theorem dX6_axles_182 : decode cX6_axles 182 = .ok (.iconst 0, 1) := by decide +kernel
theorem dX6_axles_183 : decode cX6_axles 183 = .ok (.iadd, 1) := by decide +kernel
theorem dX6_axles_184 : decode cX6_axles 184 = .ok (.istore 5, 2) := by decide +kernel
theorem dX6_axles_186 : decode cX6_axles 186 = .ok (.iinc 7 1, 3) := by decide +kernel
theorem dX6_axles_189 : decode cX6_axles 189 = .ok (.goto (-101), 3) := by decide +kernel
theorem dX6_axles_192 : decode cX6_axles 192 = .ok (.iload 5, 2) := by decide +kernel
theorem dX6_axles_194 : decode cX6_axles 194 = .ok (.istore 7, 2) := by decide +kernel
theorem dX6_axles_196 : decode cX6_axles 196 = .ok (.iload 6, 2) := by decide +kernel
theorem dX6_axles_198 : decode cX6_axles 198 = .ok (.istore 8, 2) := by decide +kernel
theorem dX6_axles_200 : decode cX6_axles 200 = .ok (.iload 8, 2) := by decide +kernel
theorem dX6_axles_202 : decode cX6_axles 202 = .ok (.ifCond .eq 21, 3) := by decide +kernel
theorem dX6_axles_205 : decode cX6_axles 205 = .ok (.iload 7, 2) := by decide +kernel
theorem dX6_axles_207 : decode cX6_axles 207 = .ok (.iload 8, 2) := by decide +kernel
theorem dX6_axles_209 : decode cX6_axles 209 = .ok (.irem, 1) := by decide +kernel
theorem dX6_axles_210 : decode cX6_axles 210 = .ok (.istore 9, 2) := by decide +kernel
theorem dX6_axles_212 : decode cX6_axles 212 = .ok (.iload 8, 2) := by decide +kernel
theorem dX6_axles_214 : decode cX6_axles 214 = .ok (.istore 7, 2) := by decide +kernel
theorem dX6_axles_216 : decode cX6_axles 216 = .ok (.iload 9, 2) := by decide +kernel
theorem dX6_axles_218 : decode cX6_axles 218 = .ok (.istore 8, 2) := by decide +kernel
theorem dX6_axles_220 : decode cX6_axles 220 = .ok (.goto (-20), 3) := by decide +kernel
theorem dX6_axles_223 : decode cX6_axles 223 = .ok (.iload 4, 2) := by decide +kernel
theorem dX6_axles_225 : decode cX6_axles 225 = .ok (.ifCond .ne 11, 3) := by decide +kernel
theorem dX6_axles_228 : decode cX6_axles 228 = .ok (.iload 5, 2) := by decide +kernel
theorem dX6_axles_230 : decode cX6_axles 230 = .ok (.iload 7, 2) := by decide +kernel
theorem dX6_axles_232 : decode cX6_axles 232 = .ok (.idiv, 1) := by decide +kernel
theorem dX6_axles_233 : decode cX6_axles 233 = .ok (.goto 8, 3) := by decide +kernel
theorem dX6_axles_236 : decode cX6_axles 236 = .ok (.iload 6, 2) := by decide +kernel
theorem dX6_axles_238 : decode cX6_axles 238 = .ok (.iload 7, 2) := by decide +kernel
theorem dX6_axles_240 : decode cX6_axles 240 = .ok (.idiv, 1) := by decide +kernel
theorem dX6_axles_241 : decode cX6_axles 241 = .ok (.ireturn, 1) := by decide +kernel
set_option maxRecDepth 20000 in
theorem ggX6_drawn_X6_isRoad : GoodIn wsX6_drawn wsX6_isRoad := goodIn_r _ [13, 7, 63, 64, 65, 66, 67, 68, 69, 70, 71, 72, 73, 74, 75, 76, 77, 78] (by decide +kernel) (by decide +kernel)
set_option maxRecDepth 20000 in
theorem gX6_drawn_X6_isRoad : GoodIn wsX6_drawn (wsV RX6 143 RX6 yX6_isRoad wsX6_isRoad) := goodIn_app (goodIn_of _ (by decide +kernel)) ggX6_drawn_X6_isRoad
set_option maxRecDepth 20000 in
theorem ggX6_drawn_X6_in : GoodIn wsX6_drawn wsX6_in := goodIn_r _ [16] (by decide +kernel) (by decide +kernel)
set_option maxRecDepth 20000 in
theorem gX6_drawn_X6_in : GoodIn wsX6_drawn (va_wsS RX6 34 yX6_in wsX6_in) := goodIn_app (goodIn_of _ (by decide +kernel)) ggX6_drawn_X6_in
set_option maxRecDepth 20000 in
theorem ggX6_drawn_X6_tries : GoodIn wsX6_drawn wsX6_tries := goodIn_r _ [20, 21, 22, 23, 12, 24, 7, 63, 64, 65, 66, 67, 68, 69, 70, 71, 72, 73, 74, 75, 76, 77, 78] (by decide +kernel) (by decide +kernel)
set_option maxRecDepth 20000 in
theorem gX6_drawn_X6_tries : GoodIn wsX6_drawn (wsV RX6 169 RX6 yX6_tries wsX6_tries) := goodIn_app (goodIn_of _ (by decide +kernel)) ggX6_drawn_X6_tries
set_option maxRecDepth 20000 in
theorem ggX6_drawn_X6_hourBy : GoodIn wsX6_drawn wsX6_hourBy := goodIn_r _ [28, 7, 29, 30, 31, 12, 32, 33, 34, 35, 36, 37, 38, 39, 40, 41, 42, 43, 44, 45, 46, 47, 63, 64, 65, 66, 67, 68, 69, 70, 71, 72, 73, 74, 75, 76, 77, 78] (by decide +kernel) (by decide +kernel)
set_option maxRecDepth 20000 in
theorem gX6_drawn_X6_hourBy : GoodIn wsX6_drawn (wsV RX6 152 RX6 yX6_hourBy wsX6_hourBy) := goodIn_app (goodIn_of _ (by decide +kernel)) ggX6_drawn_X6_hourBy
set_option maxRecDepth 20000 in
theorem ggX6_drawn_X6_heardWords : GoodIn wsX6_drawn wsX6_heardWords := goodIn_r _ [51, 7, 52, 53, 12, 54, 63, 64, 65, 66, 67, 68, 69, 70, 71, 72, 73, 74, 75, 76, 77, 78] (by decide +kernel) (by decide +kernel)
set_option maxRecDepth 20000 in
theorem gX6_drawn_X6_heardWords : GoodIn wsX6_drawn (wsV RX6 203 RX6 yX6_heardWords wsX6_heardWords) := goodIn_app (goodIn_of _ (by decide +kernel)) ggX6_drawn_X6_heardWords
set_option maxRecDepth 20000 in
theorem ggX6_drawn_X6_wholeOnes : GoodIn wsX6_drawn wsX6_wholeOnes := goodIn_r _ [58, 7, 59, 60, 61, 12, 62, 63, 64, 65, 66, 67, 68, 69, 70, 71, 72, 73, 74, 75, 76, 77, 78] (by decide +kernel) (by decide +kernel)
set_option maxRecDepth 20000 in
theorem gX6_drawn_X6_wholeOnes : GoodIn wsX6_drawn (wsV RX6 155 RX6 yX6_wholeOnes wsX6_wholeOnes) := goodIn_app (goodIn_of _ (by decide +kernel)) ggX6_drawn_X6_wholeOnes
set_option maxRecDepth 20000 in
theorem ggX6_drawn_X6_ones : GoodIn wsX6_drawn wsX6_ones := goodIn_r _ [54] (by decide +kernel) (by decide +kernel)
set_option maxRecDepth 20000 in
theorem gX6_drawn_X6_ones : GoodIn wsX6_drawn (va_wsS RX6 140 yX6_ones wsX6_ones) := goodIn_app (goodIn_of _ (by decide +kernel)) ggX6_drawn_X6_ones
theorem dX6_drawn_0 : decode cX6_drawn 0 = .ok (.aload_n 0, 1) := by decide +kernel
theorem dX6_drawn_1 : decode cX6_drawn 1 = .ok (.invokevirtual 143, 3) := by decide +kernel
theorem dX6_drawn_4 : decode cX6_drawn 4 = .ok (.ifCond .ne 6, 3) := by decide +kernel
theorem dX6_drawn_7 : decode cX6_drawn 7 = .ok (.ldc 146, 2) := by decide +kernel
theorem dX6_drawn_9 : decode cX6_drawn 9 = .ok (.ireturn, 1) := by decide +kernel
theorem dX6_drawn_10 : decode cX6_drawn 10 = .ok (.iload_n 1, 1) := by decide +kernel
theorem dX6_drawn_11 : decode cX6_drawn 11 = .ok (.i2l, 1) := by decide +kernel
theorem dX6_drawn_12 : decode cX6_drawn 12 = .ok (.lconst 0, 1) := by decide +kernel
theorem dX6_drawn_13 : decode cX6_drawn 13 = .ok (.ldc2_w 167, 3) := by decide +kernel
theorem dX6_drawn_16 : decode cX6_drawn 16 = .ok (.invokestatic 34, 3) := by decide +kernel
theorem dX6_drawn_19 : decode cX6_drawn 19 = .ok (.ifCond .eq 25, 3) := by decide +kernel
theorem dX6_drawn_22 : decode cX6_drawn 22 = .ok (.iload_n 2, 1) := by decide +kernel
theorem dX6_drawn_23 : decode cX6_drawn 23 = .ok (.i2l, 1) := by decide +kernel
theorem dX6_drawn_24 : decode cX6_drawn 24 = .ok (.lconst 1, 1) := by decide +kernel
theorem dX6_drawn_25 : decode cX6_drawn 25 = .ok (.ldc2_w 197, 3) := by decide +kernel
theorem dX6_drawn_28 : decode cX6_drawn 28 = .ok (.invokestatic 34, 3) := by decide +kernel
theorem dX6_drawn_31 : decode cX6_drawn 31 = .ok (.ifCond .eq 13, 3) := by decide +kernel
theorem dX6_drawn_34 : decode cX6_drawn 34 = .ok (.iload_n 3, 1) := by decide +kernel
theorem dX6_drawn_35 : decode cX6_drawn 35 = .ok (.i2l, 1) := by decide +kernel
theorem dX6_drawn_36 : decode cX6_drawn 36 = .ok (.lconst 0, 1) := by decide +kernel
theorem dX6_drawn_37 : decode cX6_drawn 37 = .ok (.lconst 1, 1) := by decide +kernel
theorem dX6_drawn_38 : decode cX6_drawn 38 = .ok (.invokestatic 34, 3) := by decide +kernel
theorem dX6_drawn_41 : decode cX6_drawn 41 = .ok (.ifCond .ne 6, 3) := by decide +kernel
theorem dX6_drawn_44 : decode cX6_drawn 44 = .ok (.ldc 51, 2) := by decide +kernel
theorem dX6_drawn_46 : decode cX6_drawn 46 = .ok (.ireturn, 1) := by decide +kernel
theorem dX6_drawn_47 : decode cX6_drawn 47 = .ok (.aload_n 0, 1) := by decide +kernel
theorem dX6_drawn_48 : decode cX6_drawn 48 = .ok (.invokevirtual 169, 3) := by decide +kernel
theorem dX6_drawn_51 : decode cX6_drawn 51 = .ok (.iload_n 2, 1) := by decide +kernel
theorem dX6_drawn_52 : decode cX6_drawn 52 = .ok (.i2l, 1) := by decide +kernel
theorem dX6_drawn_53 : decode cX6_drawn 53 = .ok (.lstore 4, 2) := by decide +kernel
theorem dX6_drawn_55 : decode cX6_drawn 55 = .ok (.iconst 0, 1) := by decide +kernel
theorem dX6_drawn_56 : decode cX6_drawn 56 = .ok (.istore 6, 2) := by decide +kernel
theorem dX6_drawn_58 : decode cX6_drawn 58 = .ok (.iload 6, 2) := by decide +kernel
theorem dX6_drawn_60 : decode cX6_drawn 60 = .ok (.iload_n 1, 1) := by decide +kernel
theorem dX6_drawn_61 : decode cX6_drawn 61 = .ok (.if_icmp .ge 78, 3) := by decide +kernel
theorem dX6_drawn_64 : decode cX6_drawn 64 = .ok (.lload 4, 2) := by decide +kernel
theorem dX6_drawn_66 : decode cX6_drawn 66 = .ok (.ldc2_w 199, 3) := by decide +kernel
theorem dX6_drawn_69 : decode cX6_drawn 69 = .ok (.lmul, 1) := by decide +kernel
theorem dX6_drawn_70 : decode cX6_drawn 70 = .ok (.ldc2_w 201, 3) := by decide +kernel
theorem dX6_drawn_73 : decode cX6_drawn 73 = .ok (.lrem, 1) := by decide +kernel
theorem dX6_drawn_74 : decode cX6_drawn 74 = .ok (.lstore 4, 2) := by decide +kernel
theorem dX6_drawn_76 : decode cX6_drawn 76 = .ok (.aload_n 0, 1) := by decide +kernel
theorem dX6_drawn_77 : decode cX6_drawn 77 = .ok (.getfield 7, 3) := by decide +kernel
theorem dX6_drawn_80 : decode cX6_drawn 80 = .ok (.iconst 1, 1) := by decide +kernel
theorem dX6_drawn_81 : decode cX6_drawn 81 = .ok (.iaload, 1) := by decide +kernel
theorem dX6_drawn_82 : decode cX6_drawn 82 = .ok (.ifCond .le 44, 3) := by decide +kernel
theorem dX6_drawn_85 : decode cX6_drawn 85 = .ok (.lload 4, 2) := by decide +kernel
theorem dX6_drawn_87 : decode cX6_drawn 87 = .ok (.ldc2_w 189, 3) := by decide +kernel
theorem dX6_drawn_90 : decode cX6_drawn 90 = .ok (.lrem, 1) := by decide +kernel
theorem dX6_drawn_91 : decode cX6_drawn 91 = .ok (.lconst 0, 1) := by decide +kernel
theorem dX6_drawn_92 : decode cX6_drawn 92 = .ok (.lcmp, 1) := by decide +kernel
theorem dX6_drawn_93 : decode cX6_drawn 93 = .ok (.ifCond .ne 33, 3) := by decide +kernel
theorem dX6_drawn_96 : decode cX6_drawn 96 = .ok (.aload_n 0, 1) := by decide +kernel
theorem dX6_drawn_97 : decode cX6_drawn 97 = .ok (.getfield 7, 3) := by decide +kernel
theorem dX6_drawn_100 : decode cX6_drawn 100 = .ok (.bipush 57, 2) := by decide +kernel
theorem dX6_drawn_102 : decode cX6_drawn 102 = .ok (.lload 4, 2) := by decide +kernel
theorem dX6_drawn_104 : decode cX6_drawn 104 = .ok (.aload_n 0, 1) := by decide +kernel
theorem dX6_drawn_105 : decode cX6_drawn 105 = .ok (.getfield 7, 3) := by decide +kernel
theorem dX6_drawn_108 : decode cX6_drawn 108 = .ok (.iconst 1, 1) := by decide +kernel
theorem dX6_drawn_109 : decode cX6_drawn 109 = .ok (.iaload, 1) := by decide +kernel
theorem dX6_drawn_110 : decode cX6_drawn 110 = .ok (.i2l, 1) := by decide +kernel
theorem dX6_drawn_111 : decode cX6_drawn 111 = .ok (.lrem, 1) := by decide +kernel
theorem dX6_drawn_112 : decode cX6_drawn 112 = .ok (.l2i, 1) := by decide +kernel
theorem dX6_drawn_113 : decode cX6_drawn 113 = .ok (.iadd, 1) := by decide +kernel
theorem dX6_drawn_114 : decode cX6_drawn 114 = .ok (.lload 4, 2) := by decide +kernel
theorem dX6_drawn_116 : decode cX6_drawn 116 = .ok (.aload_n 0, 1) := by decide +kernel
theorem dX6_drawn_117 : decode cX6_drawn 117 = .ok (.getfield 7, 3) := by decide +kernel
theorem dX6_drawn_120 : decode cX6_drawn 120 = .ok (.iconst 0, 1) := by decide +kernel
theorem dX6_drawn_121 : decode cX6_drawn 121 = .ok (.iaload, 1) := by decide +kernel
theorem dX6_drawn_122 : decode cX6_drawn 122 = .ok (.i2l, 1) := by decide +kernel
theorem dX6_drawn_123 : decode cX6_drawn 123 = .ok (.lrem, 1) := by decide +kernel
theorem dX6_drawn_124 : decode cX6_drawn 124 = .ok (.l2i, 1) := by decide +kernel
theorem dX6_drawn_125 : decode cX6_drawn 125 = .ok (.iastore, 1) := by decide +kernel
theorem dX6_drawn_126 : decode cX6_drawn 126 = .ok (.aload_n 0, 1) := by decide +kernel
theorem dX6_drawn_127 : decode cX6_drawn 127 = .ok (.bipush 38, 2) := by decide +kernel
theorem dX6_drawn_129 : decode cX6_drawn 129 = .ok (.iconst 0, 1) := by decide +kernel
theorem dX6_drawn_130 : decode cX6_drawn 130 = .ok (.invokevirtual 152, 3) := by decide +kernel
theorem dX6_drawn_133 : decode cX6_drawn 133 = .ok (.iinc 6 1, 3) := by decide +kernel
theorem dX6_drawn_136 : decode cX6_drawn 136 = .ok (.goto (-78), 3) := by decide +kernel
theorem dX6_drawn_139 : decode cX6_drawn 139 = .ok (.iload_n 3, 1) := by decide +kernel
theorem dX6_drawn_140 : decode cX6_drawn 140 = .ok (.ifCond .ne 12, 3) := by decide +kernel
theorem dX6_drawn_143 : decode cX6_drawn 143 = .ok (.aload_n 0, 1) := by decide +kernel
theorem dX6_drawn_144 : decode cX6_drawn 144 = .ok (.bipush 38, 2) := by decide +kernel
theorem dX6_drawn_146 : decode cX6_drawn 146 = .ok (.invokevirtual 203, 3) := by decide +kernel
theorem dX6_drawn_149 : decode cX6_drawn 149 = .ok (.goto 12, 3) := by decide +kernel
theorem dX6_drawn_152 : decode cX6_drawn 152 = .ok (.aload_n 0, 1) := by decide +kernel
theorem dX6_drawn_153 : decode cX6_drawn 153 = .ok (.bipush 38, 2) := by decide +kernel
theorem dX6_drawn_155 : decode cX6_drawn 155 = .ok (.invokevirtual 155, 3) := by decide +kernel
theorem dX6_drawn_158 : decode cX6_drawn 158 = .ok (.invokestatic 140, 3) := by decide +kernel
theorem dX6_drawn_161 : decode cX6_drawn 161 = .ok (.ireturn, 1) := by decide +kernel
set_option maxRecDepth 20000 in
theorem ggX6_image_X6_in : GoodIn wsX6_image wsX6_in := goodIn_r _ [6] (by decide +kernel) (by decide +kernel)
set_option maxRecDepth 20000 in
theorem gX6_image_X6_in : GoodIn wsX6_image (va_wsS RX6 34 yX6_in wsX6_in) := goodIn_app (goodIn_of _ (by decide +kernel)) ggX6_image_X6_in
set_option maxRecDepth 20000 in
theorem ggX6_image_X6_isRoad : GoodIn wsX6_image wsX6_isRoad := goodIn_r _ [10, 11, 16, 17, 18, 19, 20, 21, 22, 23, 24, 25, 26, 27, 28, 29, 30, 31] (by decide +kernel) (by decide +kernel)
set_option maxRecDepth 20000 in
theorem gX6_image_X6_isRoad : GoodIn wsX6_image (wsV RX6 143 RX6 yX6_isRoad wsX6_isRoad) := goodIn_app (goodIn_of _ (by decide +kernel)) ggX6_image_X6_isRoad
set_option maxRecDepth 20000 in
theorem ggX6_image_X6_copyOf : GoodIn wsX6_image wsX6_copyOf := goodIn_r _ [15, 11, 16, 17, 18, 19, 20, 21, 22, 23, 24, 25, 26, 27, 28, 29, 30, 31] (by decide +kernel) (by decide +kernel)
set_option maxRecDepth 20000 in
theorem gX6_image_X6_copyOf : GoodIn wsX6_image (wsV RX6 113 RX6 yX6_copyOf wsX6_copyOf) := goodIn_app (goodIn_of _ (by decide +kernel)) ggX6_image_X6_copyOf
theorem dX6_image_0 : decode cX6_image 0 = .ok (.iload_n 1, 1) := by decide +kernel
theorem dX6_image_1 : decode cX6_image 1 = .ok (.i2l, 1) := by decide +kernel
theorem dX6_image_2 : decode cX6_image 2 = .ok (.lconst 0, 1) := by decide +kernel
theorem dX6_image_3 : decode cX6_image 3 = .ok (.lconst 1, 1) := by decide +kernel
theorem dX6_image_4 : decode cX6_image 4 = .ok (.invokestatic 34, 3) := by decide +kernel
theorem dX6_image_7 : decode cX6_image 7 = .ok (.ifCond .ne 6, 3) := by decide +kernel
theorem dX6_image_10 : decode cX6_image 10 = .ok (.ldc 51, 2) := by decide +kernel
theorem dX6_image_12 : decode cX6_image 12 = .ok (.ireturn, 1) := by decide +kernel
theorem dX6_image_13 : decode cX6_image 13 = .ok (.aload_n 0, 1) := by decide +kernel
theorem dX6_image_14 : decode cX6_image 14 = .ok (.invokevirtual 143, 3) := by decide +kernel
theorem dX6_image_17 : decode cX6_image 17 = .ok (.ifCond .ne 6, 3) := by decide +kernel
theorem dX6_image_20 : decode cX6_image 20 = .ok (.ldc 146, 2) := by decide +kernel
theorem dX6_image_22 : decode cX6_image 22 = .ok (.ireturn, 1) := by decide +kernel
theorem dX6_image_23 : decode cX6_image 23 = .ok (.aload_n 0, 1) := by decide +kernel
theorem dX6_image_24 : decode cX6_image 24 = .ok (.iconst 0, 1) := by decide +kernel
theorem dX6_image_25 : decode cX6_image 25 = .ok (.bipush 76, 2) := by decide +kernel
theorem dX6_image_27 : decode cX6_image 27 = .ok (.bipush 38, 2) := by decide +kernel
theorem dX6_image_29 : decode cX6_image 29 = .ok (.iload_n 1, 1) := by decide +kernel
theorem dX6_image_30 : decode cX6_image 30 = .ok (.imul, 1) := by decide +kernel
theorem dX6_image_31 : decode cX6_image 31 = .ok (.iadd, 1) := by decide +kernel
theorem dX6_image_32 : decode cX6_image 32 = .ok (.bipush 38, 2) := by decide +kernel
theorem dX6_image_34 : decode cX6_image 34 = .ok (.invokevirtual 113, 3) := by decide +kernel
theorem dX6_image_37 : decode cX6_image 37 = .ok (.iconst 1, 1) := by decide +kernel
theorem dX6_image_38 : decode cX6_image 38 = .ok (.ireturn, 1) := by decide +kernel
set_option maxRecDepth 20000 in
theorem ggX6_restore_X6_in : GoodIn wsX6_restore wsX6_in := goodIn_r _ [8] (by decide +kernel) (by decide +kernel)
set_option maxRecDepth 20000 in
theorem gX6_restore_X6_in : GoodIn wsX6_restore (va_wsS RX6 34 yX6_in wsX6_in) := goodIn_app (goodIn_of _ (by decide +kernel)) ggX6_restore_X6_in
set_option maxRecDepth 20000 in
theorem ggX6_restore_X6_copyOf : GoodIn wsX6_restore wsX6_copyOf := goodIn_r _ [12, 2, 13, 14, 15, 16, 17, 18, 19, 20, 21, 22, 23, 24, 25, 26, 27, 28] (by decide +kernel) (by decide +kernel)
set_option maxRecDepth 20000 in
theorem gX6_restore_X6_copyOf : GoodIn wsX6_restore (wsV RX6 113 RX6 yX6_copyOf wsX6_copyOf) := goodIn_app (goodIn_of _ (by decide +kernel)) ggX6_restore_X6_copyOf
theorem dX6_restore_0 : decode cX6_restore 0 = .ok (.iload_n 1, 1) := by decide +kernel
theorem dX6_restore_1 : decode cX6_restore 1 = .ok (.i2l, 1) := by decide +kernel
theorem dX6_restore_2 : decode cX6_restore 2 = .ok (.lconst 0, 1) := by decide +kernel
theorem dX6_restore_3 : decode cX6_restore 3 = .ok (.lconst 1, 1) := by decide +kernel
theorem dX6_restore_4 : decode cX6_restore 4 = .ok (.invokestatic 34, 3) := by decide +kernel
theorem dX6_restore_7 : decode cX6_restore 7 = .ok (.ifCond .ne 6, 3) := by decide +kernel
theorem dX6_restore_10 : decode cX6_restore 10 = .ok (.ldc 51, 2) := by decide +kernel
theorem dX6_restore_12 : decode cX6_restore 12 = .ok (.ireturn, 1) := by decide +kernel
theorem dX6_restore_13 : decode cX6_restore 13 = .ok (.aload_n 0, 1) := by decide +kernel
theorem dX6_restore_14 : decode cX6_restore 14 = .ok (.getfield 7, 3) := by decide +kernel
theorem dX6_restore_17 : decode cX6_restore 17 = .ok (.bipush 76, 2) := by decide +kernel
theorem dX6_restore_19 : decode cX6_restore 19 = .ok (.bipush 38, 2) := by decide +kernel
theorem dX6_restore_21 : decode cX6_restore 21 = .ok (.iload_n 1, 1) := by decide +kernel
theorem dX6_restore_22 : decode cX6_restore 22 = .ok (.imul, 1) := by decide +kernel
theorem dX6_restore_23 : decode cX6_restore 23 = .ok (.iadd, 1) := by decide +kernel
theorem dX6_restore_24 : decode cX6_restore 24 = .ok (.iconst 0, 1) := by decide +kernel
theorem dX6_restore_25 : decode cX6_restore 25 = .ok (.iadd, 1) := by decide +kernel
theorem dX6_restore_26 : decode cX6_restore 26 = .ok (.iaload, 1) := by decide +kernel
theorem dX6_restore_27 : decode cX6_restore 27 = .ok (.ifCond .ne 6, 3) := by decide +kernel
theorem dX6_restore_30 : decode cX6_restore 30 = .ok (.ldc 146, 2) := by decide +kernel
theorem dX6_restore_32 : decode cX6_restore 32 = .ok (.ireturn, 1) := by decide +kernel
theorem dX6_restore_33 : decode cX6_restore 33 = .ok (.aload_n 0, 1) := by decide +kernel
theorem dX6_restore_34 : decode cX6_restore 34 = .ok (.bipush 76, 2) := by decide +kernel
theorem dX6_restore_36 : decode cX6_restore 36 = .ok (.bipush 38, 2) := by decide +kernel
theorem dX6_restore_38 : decode cX6_restore 38 = .ok (.iload_n 1, 1) := by decide +kernel
theorem dX6_restore_39 : decode cX6_restore 39 = .ok (.imul, 1) := by decide +kernel
theorem dX6_restore_40 : decode cX6_restore 40 = .ok (.iadd, 1) := by decide +kernel
theorem dX6_restore_41 : decode cX6_restore 41 = .ok (.iconst 0, 1) := by decide +kernel
theorem dX6_restore_42 : decode cX6_restore 42 = .ok (.bipush 38, 2) := by decide +kernel
theorem dX6_restore_44 : decode cX6_restore 44 = .ok (.invokevirtual 113, 3) := by decide +kernel
theorem dX6_restore_47 : decode cX6_restore 47 = .ok (.aload_n 0, 1) := by decide +kernel
theorem dX6_restore_48 : decode cX6_restore 48 = .ok (.iconst 0, 1) := by decide +kernel
theorem dX6_restore_49 : decode cX6_restore 49 = .ok (.putfield 117, 3) := by decide +kernel
theorem dX6_restore_52 : decode cX6_restore 52 = .ok (.iconst 1, 1) := by decide +kernel
theorem dX6_restore_53 : decode cX6_restore 53 = .ok (.ireturn, 1) := by decide +kernel
set_option maxRecDepth 20000 in
theorem ggX6_kind_X6_isPulpit : GoodIn wsX6_kind wsX6_isPulpit := goodIn_r _ [7, 1, 8, 9, 6, 10, 11, 12, 13, 14, 15, 16, 17, 18, 19, 20, 21, 22, 23, 24, 25, 26] (by decide +kernel) (by decide +kernel)
set_option maxRecDepth 20000 in
theorem gX6_kind_X6_isPulpit : GoodIn wsX6_kind (wsV RX6 158 RX6 yX6_isPulpit wsX6_isPulpit) := goodIn_app (goodIn_of _ (by decide +kernel)) ggX6_kind_X6_isPulpit
theorem dX6_kind_0 : decode cX6_kind 0 = .ok (.aload_n 0, 1) := by decide +kernel
theorem dX6_kind_1 : decode cX6_kind 1 = .ok (.iload_n 1, 1) := by decide +kernel
theorem dX6_kind_2 : decode cX6_kind 2 = .ok (.invokevirtual 158, 3) := by decide +kernel
theorem dX6_kind_5 : decode cX6_kind 5 = .ok (.ifCond .eq 15, 3) := by decide +kernel
theorem dX6_kind_8 : decode cX6_kind 8 = .ok (.aload_n 0, 1) := by decide +kernel
theorem dX6_kind_9 : decode cX6_kind 9 = .ok (.getfield 7, 3) := by decide +kernel
theorem dX6_kind_12 : decode cX6_kind 12 = .ok (.bipush 13, 2) := by decide +kernel
theorem dX6_kind_14 : decode cX6_kind 14 = .ok (.iload_n 1, 1) := by decide +kernel
theorem dX6_kind_15 : decode cX6_kind 15 = .ok (.iadd, 1) := by decide +kernel
theorem dX6_kind_16 : decode cX6_kind 16 = .ok (.iaload, 1) := by decide +kernel
theorem dX6_kind_17 : decode cX6_kind 17 = .ok (.goto 5, 3) := by decide +kernel
theorem dX6_kind_20 : decode cX6_kind 20 = .ok (.ldc 51, 2) := by decide +kernel
theorem dX6_kind_22 : decode cX6_kind 22 = .ok (.ireturn, 1) := by decide +kernel
theorem dX6_isA_0 : decode cX6_isA 0 = .ok (.iload_n 1, 1) := by decide +kernel
theorem dX6_isA_1 : decode cX6_isA 1 = .ok (.ifCond .eq 33, 3) := by decide +kernel
theorem dX6_isA_4 : decode cX6_isA 4 = .ok (.iload_n 1, 1) := by decide +kernel
theorem dX6_isA_5 : decode cX6_isA 5 = .ok (.iload_n 0, 1) := by decide +kernel
theorem dX6_isA_6 : decode cX6_isA 6 = .ok (.if_icmp .eq 28, 3) := by decide +kernel
theorem dX6_isA_9 : decode cX6_isA 9 = .ok (.iload_n 1, 1) := by decide +kernel
theorem dX6_isA_10 : decode cX6_isA 10 = .ok (.iconst 1, 1) := by decide +kernel
theorem dX6_isA_11 : decode cX6_isA 11 = .ok (.if_icmp .ne 13, 3) := by decide +kernel
theorem dX6_isA_14 : decode cX6_isA 14 = .ok (.iload_n 0, 1) := by decide +kernel
theorem dX6_isA_15 : decode cX6_isA 15 = .ok (.iconst 2, 1) := by decide +kernel
theorem dX6_isA_16 : decode cX6_isA 16 = .ok (.if_icmp .eq 18, 3) := by decide +kernel
theorem dX6_isA_19 : decode cX6_isA 19 = .ok (.iload_n 0, 1) := by decide +kernel
theorem dX6_isA_20 : decode cX6_isA 20 = .ok (.iconst 3, 1) := by decide +kernel
theorem dX6_isA_21 : decode cX6_isA 21 = .ok (.if_icmp .eq 13, 3) := by decide +kernel
theorem dX6_isA_24 : decode cX6_isA 24 = .ok (.iload_n 1, 1) := by decide +kernel
theorem dX6_isA_25 : decode cX6_isA 25 = .ok (.iconst 4, 1) := by decide +kernel
theorem dX6_isA_26 : decode cX6_isA 26 = .ok (.if_icmp .ne 12, 3) := by decide +kernel
theorem dX6_isA_29 : decode cX6_isA 29 = .ok (.iload_n 0, 1) := by decide +kernel
theorem dX6_isA_30 : decode cX6_isA 30 = .ok (.iconst 5, 1) := by decide +kernel
theorem dX6_isA_31 : decode cX6_isA 31 = .ok (.if_icmp .ne 7, 3) := by decide +kernel
theorem dX6_isA_34 : decode cX6_isA 34 = .ok (.iconst 1, 1) := by decide +kernel
theorem dX6_isA_35 : decode cX6_isA 35 = .ok (.goto 4, 3) := by decide +kernel
theorem dX6_isA_38 : decode cX6_isA 38 = .ok (.iconst 0, 1) := by decide +kernel
theorem dX6_isA_39 : decode cX6_isA 39 = .ok (.ireturn, 1) := by decide +kernel
set_option maxRecDepth 20000 in
theorem ggX6_as_X6_isPulpit : GoodIn wsX6_as wsX6_isPulpit := goodIn_r _ [9, 3, 10, 11, 8, 12, 21, 22, 23, 24, 25, 26, 27, 28, 29, 30, 31, 32, 33, 34, 35, 36] (by decide +kernel) (by decide +kernel)
set_option maxRecDepth 20000 in
theorem gX6_as_X6_isPulpit : GoodIn wsX6_as (wsV RX6 158 RX6 yX6_isPulpit wsX6_isPulpit) := goodIn_app (goodIn_of _ (by decide +kernel)) ggX6_as_X6_isPulpit
set_option maxRecDepth 20000 in
theorem ggX6_as_X6_in : GoodIn wsX6_as wsX6_in := goodIn_r _ [12] (by decide +kernel) (by decide +kernel)
set_option maxRecDepth 20000 in
theorem gX6_as_X6_in : GoodIn wsX6_as (va_wsS RX6 34 yX6_in wsX6_in) := goodIn_app (goodIn_of _ (by decide +kernel)) ggX6_as_X6_in
set_option maxRecDepth 20000 in
theorem ggX6_as_X6_isA : GoodIn wsX6_as wsX6_isA := goodIn_r _ [15] (by decide +kernel) (by decide +kernel)
set_option maxRecDepth 20000 in
theorem gX6_as_X6_isA : GoodIn wsX6_as (va_wsS RX6 208 yX6_isA wsX6_isA) := goodIn_app (goodIn_of _ (by decide +kernel)) ggX6_as_X6_isA
set_option maxRecDepth 20000 in
theorem ggX6_as_X6_finds : GoodIn wsX6_as wsX6_finds := goodIn_r _ [19, 4, 20, 21, 22, 23, 24, 25, 26, 27, 28, 29, 30, 31, 32, 33, 34, 35, 36] (by decide +kernel) (by decide +kernel)
set_option maxRecDepth 20000 in
theorem gX6_as_X6_finds : GoodIn wsX6_as (wsV RX6 52 RX6 yX6_finds wsX6_finds) := goodIn_app (goodIn_of _ (by decide +kernel)) ggX6_as_X6_finds
theorem dX6_as_0 : decode cX6_as 0 = .ok (.aload_n 0, 1) := by decide +kernel
theorem dX6_as_1 : decode cX6_as 1 = .ok (.iload_n 1, 1) := by decide +kernel
theorem dX6_as_2 : decode cX6_as 2 = .ok (.invokevirtual 158, 3) := by decide +kernel
theorem dX6_as_5 : decode cX6_as 5 = .ok (.ifCond .eq 15, 3) := by decide +kernel
theorem dX6_as_8 : decode cX6_as 8 = .ok (.iload_n 2, 1) := by decide +kernel
theorem dX6_as_9 : decode cX6_as 9 = .ok (.i2l, 1) := by decide +kernel
theorem dX6_as_10 : decode cX6_as 10 = .ok (.lconst 0, 1) := by decide +kernel
theorem dX6_as_11 : decode cX6_as 11 = .ok (.ldc2_w 206, 3) := by decide +kernel
theorem dX6_as_14 : decode cX6_as 14 = .ok (.invokestatic 34, 3) := by decide +kernel
theorem dX6_as_17 : decode cX6_as 17 = .ok (.ifCond .ne 6, 3) := by decide +kernel
theorem dX6_as_20 : decode cX6_as 20 = .ok (.ldc 51, 2) := by decide +kernel
theorem dX6_as_22 : decode cX6_as 22 = .ok (.ireturn, 1) := by decide +kernel
theorem dX6_as_23 : decode cX6_as 23 = .ok (.aload_n 0, 1) := by decide +kernel
theorem dX6_as_24 : decode cX6_as 24 = .ok (.getfield 7, 3) := by decide +kernel
theorem dX6_as_27 : decode cX6_as 27 = .ok (.bipush 13, 2) := by decide +kernel
theorem dX6_as_29 : decode cX6_as 29 = .ok (.iload_n 1, 1) := by decide +kernel
theorem dX6_as_30 : decode cX6_as 30 = .ok (.iadd, 1) := by decide +kernel
theorem dX6_as_31 : decode cX6_as 31 = .ok (.iaload, 1) := by decide +kernel
theorem dX6_as_32 : decode cX6_as 32 = .ok (.iload_n 2, 1) := by decide +kernel
theorem dX6_as_33 : decode cX6_as 33 = .ok (.invokestatic 208, 3) := by decide +kernel
theorem dX6_as_36 : decode cX6_as 36 = .ok (.ifCond .ne 9, 3) := by decide +kernel
theorem dX6_as_39 : decode cX6_as 39 = .ok (.aload_n 0, 1) := by decide +kernel
theorem dX6_as_40 : decode cX6_as 40 = .ok (.iconst 3, 1) := by decide +kernel
theorem dX6_as_41 : decode cX6_as 41 = .ok (.invokevirtual 52, 3) := by decide +kernel
theorem dX6_as_44 : decode cX6_as 44 = .ok (.ireturn, 1) := by decide +kernel
theorem dX6_as_45 : decode cX6_as 45 = .ok (.aload_n 0, 1) := by decide +kernel
theorem dX6_as_46 : decode cX6_as 46 = .ok (.iconst 0, 1) := by decide +kernel
theorem dX6_as_47 : decode cX6_as 47 = .ok (.putfield 40, 3) := by decide +kernel
theorem dX6_as_50 : decode cX6_as 50 = .ok (.iload_n 1, 1) := by decide +kernel
theorem dX6_as_51 : decode cX6_as 51 = .ok (.ireturn, 1) := by decide +kernel
theorem dX6_traces_0 : decode cX6_traces 0 = .ok (.aload_n 0, 1) := by decide +kernel
theorem dX6_traces_1 : decode cX6_traces 1 = .ok (.getfield 211, 3) := by decide +kernel
theorem dX6_traces_4 : decode cX6_traces 4 = .ok (.bipush 16, 2) := by decide +kernel
theorem dX6_traces_6 : decode cX6_traces 6 = .ok (.if_icmp .ge 23, 3) := by decide +kernel
theorem dX6_traces_9 : decode cX6_traces 9 = .ok (.aload_n 0, 1) := by decide +kernel
theorem dX6_traces_10 : decode cX6_traces 10 = .ok (.getfield 31, 3) := by decide +kernel
theorem dX6_traces_13 : decode cX6_traces 13 = .ok (.aload_n 0, 1) := by decide +kernel
theorem dX6_traces_14 : decode cX6_traces 14 = .ok (.getfield 211, 3) := by decide +kernel
theorem dX6_traces_17 : decode cX6_traces 17 = .ok (.iload_n 1, 1) := by decide +kernel
theorem dX6_traces_18 : decode cX6_traces 18 = .ok (.iastore, 1) := by decide +kernel
theorem dX6_traces_19 : decode cX6_traces 19 = .ok (.aload_n 0, 1) := by decide +kernel
theorem dX6_traces_20 : decode cX6_traces 20 = .ok (.dup, 1) := by decide +kernel
theorem dX6_traces_21 : decode cX6_traces 21 = .ok (.getfield 211, 3) := by decide +kernel
theorem dX6_traces_24 : decode cX6_traces 24 = .ok (.iconst 1, 1) := by decide +kernel
theorem dX6_traces_25 : decode cX6_traces 25 = .ok (.iadd, 1) := by decide +kernel
theorem dX6_traces_26 : decode cX6_traces 26 = .ok (.putfield 211, 3) := by decide +kernel
theorem dX6_traces_29 : decode cX6_traces 29 = .ok (.return_, 1) := by decide +kernel
set_option maxRecDepth 20000 in
theorem ggX6_size10_X6_traces : GoodIn wsX6_size10 wsX6_traces := goodIn_r _ [6, 7, 8, 9, 10, 11, 12, 13, 14, 15, 16, 17, 18, 19, 20, 21, 22, 23, 24] (by decide +kernel) (by decide +kernel)
set_option maxRecDepth 20000 in
theorem gX6_size10_X6_traces : GoodIn wsX6_size10 (wsV RX6 214 RX6 yX6_traces wsX6_traces) := goodIn_app (goodIn_of _ (by decide +kernel)) ggX6_size10_X6_traces
theorem dX6_size10_0 : decode cX6_size10 0 = .ok (.aload_n 0, 1) := by decide +kernel
theorem dX6_size10_1 : decode cX6_size10 1 = .ok (.bipush 10, 2) := by decide +kernel
theorem dX6_size10_3 : decode cX6_size10 3 = .ok (.invokevirtual 214, 3) := by decide +kernel
theorem dX6_size10_6 : decode cX6_size10 6 = .ok (.aload_n 0, 1) := by decide +kernel
theorem dX6_size10_7 : decode cX6_size10 7 = .ok (.getfield 7, 3) := by decide +kernel
theorem dX6_size10_10 : decode cX6_size10 10 = .ok (.bipush 24, 2) := by decide +kernel
theorem dX6_size10_12 : decode cX6_size10 12 = .ok (.iload_n 1, 1) := by decide +kernel
theorem dX6_size10_13 : decode cX6_size10 13 = .ok (.iadd, 1) := by decide +kernel
theorem dX6_size10_14 : decode cX6_size10 14 = .ok (.iaload, 1) := by decide +kernel
theorem dX6_size10_15 : decode cX6_size10 15 = .ok (.ireturn, 1) := by decide +kernel
set_option maxRecDepth 20000 in
theorem ggX6_size11_X6_traces : GoodIn wsX6_size11 wsX6_traces := goodIn_r _ [5, 6, 7, 25, 26, 27, 28, 29, 30, 31, 32, 33, 34, 35, 36, 37, 38, 39, 40] (by decide +kernel) (by decide +kernel)
set_option maxRecDepth 20000 in
theorem gX6_size11_X6_traces : GoodIn wsX6_size11 (wsV RX6 214 RX6 yX6_traces wsX6_traces) := goodIn_app (goodIn_of _ (by decide +kernel)) ggX6_size11_X6_traces
set_option maxRecDepth 20000 in
theorem ggX6_size11_X6_size10 : GoodIn wsX6_size11 wsX6_size10 := goodIn_r _ [11, 12, 1, 2, 3, 4, 5, 6, 7, 25, 26, 27, 28, 29, 30, 31, 32, 33, 34, 35, 36, 37, 38, 39, 40] (by decide +kernel) (by decide +kernel)
set_option maxRecDepth 20000 in
theorem gX6_size11_X6_size10 : GoodIn wsX6_size11 (wsV RX6 217 RX6 yX6_size10 wsX6_size10) := goodIn_app (goodIn_of _ (by decide +kernel)) ggX6_size11_X6_size10
set_option maxRecDepth 20000 in
theorem ggX6_size11_X6_markOf : GoodIn wsX6_size11 wsX6_markOf := goodIn_r _ [16, 12, 1, 2, 3, 4, 5, 6, 7, 17, 18, 19, 20, 21, 22, 23, 24, 25, 26, 27, 28, 29, 30, 31, 32, 33, 34, 35, 36, 37, 38, 39, 40] (by decide +kernel) (by decide +kernel)
set_option maxRecDepth 20000 in
theorem gX6_size11_X6_markOf : GoodIn wsX6_size11 (wsV RX6 220 RX6 yX6_markOf wsX6_markOf) := goodIn_app (goodIn_of _ (by decide +kernel)) ggX6_size11_X6_markOf
theorem dX6_size11_0 : decode cX6_size11 0 = .ok (.aload_n 0, 1) := by decide +kernel
theorem dX6_size11_1 : decode cX6_size11 1 = .ok (.bipush 11, 2) := by decide +kernel
theorem dX6_size11_3 : decode cX6_size11 3 = .ok (.invokevirtual 214, 3) := by decide +kernel
theorem dX6_size11_6 : decode cX6_size11 6 = .ok (.aload_n 0, 1) := by decide +kernel
theorem dX6_size11_7 : decode cX6_size11 7 = .ok (.iload_n 1, 1) := by decide +kernel
theorem dX6_size11_8 : decode cX6_size11 8 = .ok (.invokevirtual 217, 3) := by decide +kernel
theorem dX6_size11_11 : decode cX6_size11 11 = .ok (.istore_n 2, 1) := by decide +kernel
theorem dX6_size11_12 : decode cX6_size11 12 = .ok (.iload_n 2, 1) := by decide +kernel
theorem dX6_size11_13 : decode cX6_size11 13 = .ok (.aload_n 0, 1) := by decide +kernel
theorem dX6_size11_14 : decode cX6_size11 14 = .ok (.iload_n 1, 1) := by decide +kernel
theorem dX6_size11_15 : decode cX6_size11 15 = .ok (.invokevirtual 220, 3) := by decide +kernel
theorem dX6_size11_18 : decode cX6_size11 18 = .ok (.iadd, 1) := by decide +kernel
theorem dX6_size11_19 : decode cX6_size11 19 = .ok (.ireturn, 1) := by decide +kernel
set_option maxRecDepth 20000 in
theorem ggX6_size13_X6_traces : GoodIn wsX6_size13 wsX6_traces := goodIn_r _ [5, 6, 7, 13, 14, 15, 16, 17, 18, 19, 20, 21, 22, 23, 24, 25, 26, 27, 28] (by decide +kernel) (by decide +kernel)
set_option maxRecDepth 20000 in
theorem gX6_size13_X6_traces : GoodIn wsX6_size13 (wsV RX6 214 RX6 yX6_traces wsX6_traces) := goodIn_app (goodIn_of _ (by decide +kernel)) ggX6_size13_X6_traces
set_option maxRecDepth 20000 in
theorem ggX6_size13_X6_size10 : GoodIn wsX6_size13 wsX6_size10 := goodIn_r _ [11, 12, 1, 2, 3, 4, 5, 6, 7, 13, 14, 15, 16, 17, 18, 19, 20, 21, 22, 23, 24, 25, 26, 27, 28] (by decide +kernel) (by decide +kernel)
set_option maxRecDepth 20000 in
theorem gX6_size13_X6_size10 : GoodIn wsX6_size13 (wsV RX6 217 RX6 yX6_size10 wsX6_size10) := goodIn_app (goodIn_of _ (by decide +kernel)) ggX6_size13_X6_size10
theorem dX6_size13_0 : decode cX6_size13 0 = .ok (.aload_n 0, 1) := by decide +kernel
theorem dX6_size13_1 : decode cX6_size13 1 = .ok (.bipush 13, 2) := by decide +kernel
theorem dX6_size13_3 : decode cX6_size13 3 = .ok (.invokevirtual 214, 3) := by decide +kernel
theorem dX6_size13_6 : decode cX6_size13 6 = .ok (.aload_n 0, 1) := by decide +kernel
theorem dX6_size13_7 : decode cX6_size13 7 = .ok (.iload_n 1, 1) := by decide +kernel
theorem dX6_size13_8 : decode cX6_size13 8 = .ok (.invokevirtual 217, 3) := by decide +kernel
theorem dX6_size13_11 : decode cX6_size13 11 = .ok (.bipush 100, 2) := by decide +kernel
theorem dX6_size13_13 : decode cX6_size13 13 = .ok (.isub, 1) := by decide +kernel
theorem dX6_size13_14 : decode cX6_size13 14 = .ok (.ireturn, 1) := by decide +kernel
set_option maxRecDepth 20000 in
theorem ggX6_sizeOf_X6_traces : GoodIn wsX6_sizeOf wsX6_traces := goodIn_r _ [6, 7, 8, 33, 34, 35, 36, 37, 38, 39, 40, 41, 42, 43, 44, 45, 46, 47, 48] (by decide +kernel) (by decide +kernel)
set_option maxRecDepth 20000 in
theorem gX6_sizeOf_X6_traces : GoodIn wsX6_sizeOf (wsV RX6 214 RX6 yX6_traces wsX6_traces) := goodIn_app (goodIn_of _ (by decide +kernel)) ggX6_sizeOf_X6_traces
set_option maxRecDepth 20000 in
theorem ggX6_sizeOf_X6_size11 : GoodIn wsX6_sizeOf wsX6_size11 := goodIn_r _ [12, 2, 3, 4, 5, 6, 7, 8, 13, 14, 15, 16, 1, 17, 18, 19, 20, 21, 22, 23, 24, 25, 26, 27, 28, 33, 34, 35, 36, 37, 38, 39, 40, 41, 42, 43, 44, 45, 46, 47, 48] (by decide +kernel) (by decide +kernel)
set_option maxRecDepth 20000 in
theorem gX6_sizeOf_X6_size11 : GoodIn wsX6_sizeOf (wsV RX6 223 RX6 yX6_size11 wsX6_size11) := goodIn_app (goodIn_of _ (by decide +kernel)) ggX6_sizeOf_X6_size11
set_option maxRecDepth 20000 in
theorem ggX6_sizeOf_X6_size13 : GoodIn wsX6_sizeOf wsX6_size13 := goodIn_r _ [32, 2, 3, 4, 5, 6, 7, 8, 13, 14, 15, 16, 1, 33, 34, 35, 36, 37, 38, 39, 40, 41, 42, 43, 44, 45, 46, 47, 48] (by decide +kernel) (by decide +kernel)
set_option maxRecDepth 20000 in
theorem gX6_sizeOf_X6_size13 : GoodIn wsX6_sizeOf (wsV RX6 226 RX6 yX6_size13 wsX6_size13) := goodIn_app (goodIn_of _ (by decide +kernel)) ggX6_sizeOf_X6_size13
theorem dX6_sizeOf_0 : decode cX6_sizeOf 0 = .ok (.aload_n 0, 1) := by decide +kernel
theorem dX6_sizeOf_1 : decode cX6_sizeOf 1 = .ok (.getfield 7, 3) := by decide +kernel
theorem dX6_sizeOf_4 : decode cX6_sizeOf 4 = .ok (.bipush 13, 2) := by decide +kernel
theorem dX6_sizeOf_6 : decode cX6_sizeOf 6 = .ok (.iload_n 1, 1) := by decide +kernel
theorem dX6_sizeOf_7 : decode cX6_sizeOf 7 = .ok (.iadd, 1) := by decide +kernel
theorem dX6_sizeOf_8 : decode cX6_sizeOf 8 = .ok (.iaload, 1) := by decide +kernel
theorem dX6_sizeOf_9 : decode cX6_sizeOf 9 = .ok (.tableswitch 64 2 5 #[31, 64, 44, 50], 31) := by decide +kernel
theorem dX6_sizeOf_40 : decode cX6_sizeOf 40 = .ok (.aload_n 0, 1) := by decide +kernel
theorem dX6_sizeOf_41 : decode cX6_sizeOf 41 = .ok (.bipush 12, 2) := by decide +kernel
theorem dX6_sizeOf_43 : decode cX6_sizeOf 43 = .ok (.invokevirtual 214, 3) := by decide +kernel
theorem dX6_sizeOf_46 : decode cX6_sizeOf 46 = .ok (.aload_n 0, 1) := by decide +kernel
theorem dX6_sizeOf_47 : decode cX6_sizeOf 47 = .ok (.iload_n 1, 1) := by decide +kernel
theorem dX6_sizeOf_48 : decode cX6_sizeOf 48 = .ok (.invokevirtual 223, 3) := by decide +kernel
theorem dX6_sizeOf_51 : decode cX6_sizeOf 51 = .ok (.ineg, 1) := by decide +kernel
theorem dX6_sizeOf_52 : decode cX6_sizeOf 52 = .ok (.ireturn, 1) := by decide +kernel
theorem dX6_sizeOf_53 : decode cX6_sizeOf 53 = .ok (.aload_n 0, 1) := by decide +kernel
theorem dX6_sizeOf_54 : decode cX6_sizeOf 54 = .ok (.iload_n 1, 1) := by decide +kernel
theorem dX6_sizeOf_55 : decode cX6_sizeOf 55 = .ok (.invokevirtual 226, 3) := by decide +kernel
theorem dX6_sizeOf_58 : decode cX6_sizeOf 58 = .ok (.ireturn, 1) := by decide +kernel
theorem dX6_sizeOf_59 : decode cX6_sizeOf 59 = .ok (.aload_n 0, 1) := by decide +kernel
theorem dX6_sizeOf_60 : decode cX6_sizeOf 60 = .ok (.bipush 14, 2) := by decide +kernel
theorem dX6_sizeOf_62 : decode cX6_sizeOf 62 = .ok (.invokevirtual 214, 3) := by decide +kernel
theorem dX6_sizeOf_65 : decode cX6_sizeOf 65 = .ok (.iconst 2, 1) := by decide +kernel
theorem dX6_sizeOf_66 : decode cX6_sizeOf 66 = .ok (.aload_n 0, 1) := by decide +kernel
theorem dX6_sizeOf_67 : decode cX6_sizeOf 67 = .ok (.iload_n 1, 1) := by decide +kernel
theorem dX6_sizeOf_68 : decode cX6_sizeOf 68 = .ok (.invokevirtual 226, 3) := by decide +kernel
theorem dX6_sizeOf_71 : decode cX6_sizeOf 71 = .ok (.imul, 1) := by decide +kernel
theorem dX6_sizeOf_72 : decode cX6_sizeOf 72 = .ok (.ireturn, 1) := by decide +kernel
theorem dX6_sizeOf_73 : decode cX6_sizeOf 73 = .ok (.aload_n 0, 1) := by decide +kernel
theorem dX6_sizeOf_74 : decode cX6_sizeOf 74 = .ok (.iload_n 1, 1) := by decide +kernel
theorem dX6_sizeOf_75 : decode cX6_sizeOf 75 = .ok (.invokevirtual 223, 3) := by decide +kernel
theorem dX6_sizeOf_78 : decode cX6_sizeOf 78 = .ok (.ireturn, 1) := by decide +kernel
set_option maxRecDepth 20000 in
theorem ggX6_mark20_X6_traces : GoodIn wsX6_mark20 wsX6_traces := goodIn_r _ [5, 6, 7, 8, 9, 10, 11, 12, 13, 14, 15, 16, 17, 18, 19, 20, 21, 22, 23] (by decide +kernel) (by decide +kernel)
set_option maxRecDepth 20000 in
theorem gX6_mark20_X6_traces : GoodIn wsX6_mark20 (wsV RX6 214 RX6 yX6_traces wsX6_traces) := goodIn_app (goodIn_of _ (by decide +kernel)) ggX6_mark20_X6_traces
theorem dX6_mark20_0 : decode cX6_mark20 0 = .ok (.aload_n 0, 1) := by decide +kernel
theorem dX6_mark20_1 : decode cX6_mark20 1 = .ok (.bipush 20, 2) := by decide +kernel
theorem dX6_mark20_3 : decode cX6_mark20 3 = .ok (.invokevirtual 214, 3) := by decide +kernel
theorem dX6_mark20_6 : decode cX6_mark20 6 = .ok (.iload_n 1, 1) := by decide +kernel
theorem dX6_mark20_7 : decode cX6_mark20 7 = .ok (.ireturn, 1) := by decide +kernel
set_option maxRecDepth 20000 in
theorem ggX6_mark21_X6_traces : GoodIn wsX6_mark21 wsX6_traces := goodIn_r _ [6, 7, 8, 13, 14, 15, 16, 17, 18, 19, 20, 21, 22, 23, 24, 25, 26, 27, 28] (by decide +kernel) (by decide +kernel)
set_option maxRecDepth 20000 in
theorem gX6_mark21_X6_traces : GoodIn wsX6_mark21 (wsV RX6 214 RX6 yX6_traces wsX6_traces) := goodIn_app (goodIn_of _ (by decide +kernel)) ggX6_mark21_X6_traces
set_option maxRecDepth 20000 in
theorem ggX6_mark21_X6_mark20 : GoodIn wsX6_mark21 wsX6_mark20 := goodIn_r _ [12, 2, 3, 4, 5, 6, 7, 8, 13, 14, 15, 16, 17, 18, 19, 20, 21, 22, 23, 24, 25, 26, 27, 28] (by decide +kernel) (by decide +kernel)
set_option maxRecDepth 20000 in
theorem gX6_mark21_X6_mark20 : GoodIn wsX6_mark21 (wsV RX6 229 RX6 yX6_mark20 wsX6_mark20) := goodIn_app (goodIn_of _ (by decide +kernel)) ggX6_mark21_X6_mark20
theorem dX6_mark21_0 : decode cX6_mark21 0 = .ok (.aload_n 0, 1) := by decide +kernel
theorem dX6_mark21_1 : decode cX6_mark21 1 = .ok (.bipush 21, 2) := by decide +kernel
theorem dX6_mark21_3 : decode cX6_mark21 3 = .ok (.invokevirtual 214, 3) := by decide +kernel
theorem dX6_mark21_6 : decode cX6_mark21 6 = .ok (.aload_n 0, 1) := by decide +kernel
theorem dX6_mark21_7 : decode cX6_mark21 7 = .ok (.iload_n 1, 1) := by decide +kernel
theorem dX6_mark21_8 : decode cX6_mark21 8 = .ok (.invokevirtual 229, 3) := by decide +kernel
theorem dX6_mark21_11 : decode cX6_mark21 11 = .ok (.aload_n 0, 1) := by decide +kernel
theorem dX6_mark21_12 : decode cX6_mark21 12 = .ok (.getfield 7, 3) := by decide +kernel
theorem dX6_mark21_15 : decode cX6_mark21 15 = .ok (.bipush 19, 2) := by decide +kernel
theorem dX6_mark21_17 : decode cX6_mark21 17 = .ok (.iload_n 1, 1) := by decide +kernel
theorem dX6_mark21_18 : decode cX6_mark21 18 = .ok (.iadd, 1) := by decide +kernel
theorem dX6_mark21_19 : decode cX6_mark21 19 = .ok (.iaload, 1) := by decide +kernel
theorem dX6_mark21_20 : decode cX6_mark21 20 = .ok (.iadd, 1) := by decide +kernel
theorem dX6_mark21_21 : decode cX6_mark21 21 = .ok (.ireturn, 1) := by decide +kernel
set_option maxRecDepth 20000 in
theorem ggX6_markOf_X6_traces : GoodIn wsX6_markOf wsX6_traces := goodIn_r _ [6, 7, 8, 17, 18, 19, 20, 21, 22, 23, 24, 25, 26, 27, 28, 29, 30, 31, 32] (by decide +kernel) (by decide +kernel)
set_option maxRecDepth 20000 in
theorem gX6_markOf_X6_traces : GoodIn wsX6_markOf (wsV RX6 214 RX6 yX6_traces wsX6_traces) := goodIn_app (goodIn_of _ (by decide +kernel)) ggX6_markOf_X6_traces
set_option maxRecDepth 20000 in
theorem ggX6_markOf_X6_mark21 : GoodIn wsX6_markOf wsX6_mark21 := goodIn_r _ [12, 1, 2, 3, 4, 5, 6, 7, 8, 13, 14, 15, 16, 17, 18, 19, 20, 21, 22, 23, 24, 25, 26, 27, 28, 29, 30, 31, 32] (by decide +kernel) (by decide +kernel)
set_option maxRecDepth 20000 in
theorem gX6_markOf_X6_mark21 : GoodIn wsX6_markOf (wsV RX6 232 RX6 yX6_mark21 wsX6_mark21) := goodIn_app (goodIn_of _ (by decide +kernel)) ggX6_markOf_X6_mark21
theorem dX6_markOf_0 : decode cX6_markOf 0 = .ok (.aload_n 0, 1) := by decide +kernel
theorem dX6_markOf_1 : decode cX6_markOf 1 = .ok (.getfield 7, 3) := by decide +kernel
theorem dX6_markOf_4 : decode cX6_markOf 4 = .ok (.bipush 13, 2) := by decide +kernel
theorem dX6_markOf_6 : decode cX6_markOf 6 = .ok (.iload_n 1, 1) := by decide +kernel
theorem dX6_markOf_7 : decode cX6_markOf 7 = .ok (.iadd, 1) := by decide +kernel
theorem dX6_markOf_8 : decode cX6_markOf 8 = .ok (.iaload, 1) := by decide +kernel
theorem dX6_markOf_9 : decode cX6_markOf 9 = .ok (.lookupswitch 57 #[(2, 27), (3, 41)], 27) := by decide +kernel
theorem dX6_markOf_36 : decode cX6_markOf 36 = .ok (.aload_n 0, 1) := by decide +kernel
theorem dX6_markOf_37 : decode cX6_markOf 37 = .ok (.bipush 24, 2) := by decide +kernel
theorem dX6_markOf_39 : decode cX6_markOf 39 = .ok (.invokevirtual 214, 3) := by decide +kernel
theorem dX6_markOf_42 : decode cX6_markOf 42 = .ok (.iconst 2, 1) := by decide +kernel
theorem dX6_markOf_43 : decode cX6_markOf 43 = .ok (.aload_n 0, 1) := by decide +kernel
theorem dX6_markOf_44 : decode cX6_markOf 44 = .ok (.iload_n 1, 1) := by decide +kernel
theorem dX6_markOf_45 : decode cX6_markOf 45 = .ok (.invokevirtual 232, 3) := by decide +kernel
theorem dX6_markOf_48 : decode cX6_markOf 48 = .ok (.imul, 1) := by decide +kernel
theorem dX6_markOf_49 : decode cX6_markOf 49 = .ok (.ireturn, 1) := by decide +kernel
theorem dX6_markOf_50 : decode cX6_markOf 50 = .ok (.aload_n 0, 1) := by decide +kernel
theorem dX6_markOf_51 : decode cX6_markOf 51 = .ok (.bipush 22, 2) := by decide +kernel
theorem dX6_markOf_53 : decode cX6_markOf 53 = .ok (.invokevirtual 214, 3) := by decide +kernel
theorem dX6_markOf_56 : decode cX6_markOf 56 = .ok (.aload_n 0, 1) := by decide +kernel
theorem dX6_markOf_57 : decode cX6_markOf 57 = .ok (.iload_n 1, 1) := by decide +kernel
theorem dX6_markOf_58 : decode cX6_markOf 58 = .ok (.invokevirtual 232, 3) := by decide +kernel
theorem dX6_markOf_61 : decode cX6_markOf 61 = .ok (.sipush 1000, 3) := by decide +kernel
theorem dX6_markOf_64 : decode cX6_markOf 64 = .ok (.isub, 1) := by decide +kernel
theorem dX6_markOf_65 : decode cX6_markOf 65 = .ok (.ireturn, 1) := by decide +kernel
theorem dX6_markOf_66 : decode cX6_markOf 66 = .ok (.aload_n 0, 1) := by decide +kernel
theorem dX6_markOf_67 : decode cX6_markOf 67 = .ok (.iload_n 1, 1) := by decide +kernel
theorem dX6_markOf_68 : decode cX6_markOf 68 = .ok (.invokevirtual 232, 3) := by decide +kernel
theorem dX6_markOf_71 : decode cX6_markOf 71 = .ok (.ireturn, 1) := by decide +kernel
set_option maxRecDepth 20000 in
theorem ggX6_mark23_X6_traces : GoodIn wsX6_mark23 wsX6_traces := goodIn_r _ [5, 6, 7, 37, 38, 39, 40, 41, 42, 43, 44, 45, 46, 47, 48, 49, 50, 51, 52] (by decide +kernel) (by decide +kernel)
set_option maxRecDepth 20000 in
theorem gX6_mark23_X6_traces : GoodIn wsX6_mark23 (wsV RX6 214 RX6 yX6_traces wsX6_traces) := goodIn_app (goodIn_of _ (by decide +kernel)) ggX6_mark23_X6_traces
set_option maxRecDepth 20000 in
theorem ggX6_mark23_X6_mark20 : GoodIn wsX6_mark23 wsX6_mark20 := goodIn_r _ [11, 1, 2, 3, 4, 5, 6, 7, 37, 38, 39, 40, 41, 42, 43, 44, 45, 46, 47, 48, 49, 50, 51, 52] (by decide +kernel) (by decide +kernel)
set_option maxRecDepth 20000 in
theorem gX6_mark23_X6_mark20 : GoodIn wsX6_mark23 (wsV RX6 229 RX6 yX6_mark20 wsX6_mark20) := goodIn_app (goodIn_of _ (by decide +kernel)) ggX6_mark23_X6_mark20
set_option maxRecDepth 20000 in
theorem ggX6_mark23_X6_sizeOf : GoodIn wsX6_mark23 wsX6_sizeOf := goodIn_r _ [15, 16, 1, 2, 3, 4, 5, 6, 7, 17, 18, 19, 20, 21, 22, 23, 24, 25, 26, 27, 28, 29, 30, 31, 32, 8, 9, 10, 11, 33, 34, 35, 36, 37, 38, 39, 40, 41, 42, 43, 44, 45, 46, 47, 48, 49, 50, 51, 52] (by decide +kernel) (by decide +kernel)
set_option maxRecDepth 20000 in
theorem gX6_mark23_X6_sizeOf : GoodIn wsX6_mark23 (wsV RX6 235 RX6 yX6_sizeOf wsX6_sizeOf) := goodIn_app (goodIn_of _ (by decide +kernel)) ggX6_mark23_X6_sizeOf
theorem dX6_mark23_0 : decode cX6_mark23 0 = .ok (.aload_n 0, 1) := by decide +kernel
theorem dX6_mark23_1 : decode cX6_mark23 1 = .ok (.bipush 23, 2) := by decide +kernel
theorem dX6_mark23_3 : decode cX6_mark23 3 = .ok (.invokevirtual 214, 3) := by decide +kernel
theorem dX6_mark23_6 : decode cX6_mark23 6 = .ok (.aload_n 0, 1) := by decide +kernel
theorem dX6_mark23_7 : decode cX6_mark23 7 = .ok (.iload_n 1, 1) := by decide +kernel
theorem dX6_mark23_8 : decode cX6_mark23 8 = .ok (.invokevirtual 229, 3) := by decide +kernel
theorem dX6_mark23_11 : decode cX6_mark23 11 = .ok (.istore_n 2, 1) := by decide +kernel
theorem dX6_mark23_12 : decode cX6_mark23 12 = .ok (.iload_n 2, 1) := by decide +kernel
theorem dX6_mark23_13 : decode cX6_mark23 13 = .ok (.aload_n 0, 1) := by decide +kernel
theorem dX6_mark23_14 : decode cX6_mark23 14 = .ok (.iload_n 1, 1) := by decide +kernel
theorem dX6_mark23_15 : decode cX6_mark23 15 = .ok (.invokevirtual 235, 3) := by decide +kernel
theorem dX6_mark23_18 : decode cX6_mark23 18 = .ok (.isub, 1) := by decide +kernel
theorem dX6_mark23_19 : decode cX6_mark23 19 = .ok (.ireturn, 1) := by decide +kernel
set_option maxRecDepth 20000 in
theorem ggX6_ask_X6_isPulpit : GoodIn wsX6_ask wsX6_isPulpit := goodIn_r _ [8, 3, 9, 10, 7, 11, 49, 50, 51, 52, 53, 54, 55, 56, 57, 58, 59, 60, 61, 62, 63, 64] (by decide +kernel) (by decide +kernel)
set_option maxRecDepth 20000 in
theorem gX6_ask_X6_isPulpit : GoodIn wsX6_ask (wsV RX6 158 RX6 yX6_isPulpit wsX6_isPulpit) := goodIn_app (goodIn_of _ (by decide +kernel)) ggX6_ask_X6_isPulpit
set_option maxRecDepth 20000 in
theorem ggX6_ask_X6_in : GoodIn wsX6_ask wsX6_in := goodIn_r _ [11] (by decide +kernel) (by decide +kernel)
set_option maxRecDepth 20000 in
theorem gX6_ask_X6_in : GoodIn wsX6_ask (va_wsS RX6 34 yX6_in wsX6_in) := goodIn_app (goodIn_of _ (by decide +kernel)) ggX6_ask_X6_in
set_option maxRecDepth 20000 in
theorem ggX6_ask_X6_sizeOf : GoodIn wsX6_ask wsX6_sizeOf := goodIn_r _ [15, 3, 16, 17, 18, 7, 19, 2, 20, 21, 22, 23, 24, 25, 26, 27, 28, 29, 30, 31, 32, 33, 34, 35, 36, 37, 38, 39, 40, 41, 42, 43, 44, 49, 50, 51, 52, 53, 54, 55, 56, 57, 58, 59, 60, 61, 62, 63, 64] (by decide +kernel) (by decide +kernel)
set_option maxRecDepth 20000 in
theorem gX6_ask_X6_sizeOf : GoodIn wsX6_ask (wsV RX6 235 RX6 yX6_sizeOf wsX6_sizeOf) := goodIn_app (goodIn_of _ (by decide +kernel)) ggX6_ask_X6_sizeOf
set_option maxRecDepth 20000 in
theorem ggX6_ask_X6_mark23 : GoodIn wsX6_ask wsX6_mark23 := goodIn_r _ [48, 16, 17, 18, 7, 19, 2, 20, 37, 38, 39, 40, 12, 13, 14, 15, 3, 21, 22, 23, 24, 25, 26, 27, 28, 29, 30, 31, 32, 33, 34, 35, 36, 41, 42, 43, 44, 49, 50, 51, 52, 53, 54, 55, 56, 57, 58, 59, 60, 61, 62, 63, 64] (by decide +kernel) (by decide +kernel)
set_option maxRecDepth 20000 in
theorem gX6_ask_X6_mark23 : GoodIn wsX6_ask (wsV RX6 238 RX6 yX6_mark23 wsX6_mark23) := goodIn_app (goodIn_of _ (by decide +kernel)) ggX6_ask_X6_mark23
set_option maxRecDepth 20000 in
theorem ggX6_ask_X6_markOf : GoodIn wsX6_ask wsX6_markOf := goodIn_r _ [32, 3, 16, 17, 18, 7, 19, 2, 20, 33, 34, 35, 36, 37, 38, 39, 40, 49, 50, 51, 52, 53, 54, 55, 56, 57, 58, 59, 60, 61, 62, 63, 64] (by decide +kernel) (by decide +kernel)
set_option maxRecDepth 20000 in
theorem gX6_ask_X6_markOf : GoodIn wsX6_ask (wsV RX6 220 RX6 yX6_markOf wsX6_markOf) := goodIn_app (goodIn_of _ (by decide +kernel)) ggX6_ask_X6_markOf
theorem dX6_ask_0 : decode cX6_ask 0 = .ok (.aload_n 0, 1) := by decide +kernel
theorem dX6_ask_1 : decode cX6_ask 1 = .ok (.iload_n 1, 1) := by decide +kernel
theorem dX6_ask_2 : decode cX6_ask 2 = .ok (.invokevirtual 158, 3) := by decide +kernel
theorem dX6_ask_5 : decode cX6_ask 5 = .ok (.ifCond .eq 13, 3) := by decide +kernel
theorem dX6_ask_8 : decode cX6_ask 8 = .ok (.iload_n 2, 1) := by decide +kernel
theorem dX6_ask_9 : decode cX6_ask 9 = .ok (.i2l, 1) := by decide +kernel
theorem dX6_ask_10 : decode cX6_ask 10 = .ok (.lconst 0, 1) := by decide +kernel
theorem dX6_ask_11 : decode cX6_ask 11 = .ok (.lconst 1, 1) := by decide +kernel
theorem dX6_ask_12 : decode cX6_ask 12 = .ok (.invokestatic 34, 3) := by decide +kernel
theorem dX6_ask_15 : decode cX6_ask 15 = .ok (.ifCond .ne 6, 3) := by decide +kernel
theorem dX6_ask_18 : decode cX6_ask 18 = .ok (.ldc 51, 2) := by decide +kernel
theorem dX6_ask_20 : decode cX6_ask 20 = .ok (.ireturn, 1) := by decide +kernel
theorem dX6_ask_21 : decode cX6_ask 21 = .ok (.aload_n 0, 1) := by decide +kernel
theorem dX6_ask_22 : decode cX6_ask 22 = .ok (.iconst 0, 1) := by decide +kernel
theorem dX6_ask_23 : decode cX6_ask 23 = .ok (.putfield 211, 3) := by decide +kernel
theorem dX6_ask_26 : decode cX6_ask 26 = .ok (.iload_n 2, 1) := by decide +kernel
theorem dX6_ask_27 : decode cX6_ask 27 = .ok (.ifCond .ne 11, 3) := by decide +kernel
theorem dX6_ask_30 : decode cX6_ask 30 = .ok (.aload_n 0, 1) := by decide +kernel
theorem dX6_ask_31 : decode cX6_ask 31 = .ok (.iload_n 1, 1) := by decide +kernel
theorem dX6_ask_32 : decode cX6_ask 32 = .ok (.invokevirtual 235, 3) := by decide +kernel
theorem dX6_ask_35 : decode cX6_ask 35 = .ok (.goto 29, 3) := by decide +kernel
theorem dX6_ask_38 : decode cX6_ask 38 = .ok (.aload_n 0, 1) := by decide +kernel
theorem dX6_ask_39 : decode cX6_ask 39 = .ok (.getfield 7, 3) := by decide +kernel
theorem dX6_ask_42 : decode cX6_ask 42 = .ok (.bipush 13, 2) := by decide +kernel
theorem dX6_ask_44 : decode cX6_ask 44 = .ok (.iload_n 1, 1) := by decide +kernel
theorem dX6_ask_45 : decode cX6_ask 45 = .ok (.iadd, 1) := by decide +kernel
theorem dX6_ask_46 : decode cX6_ask 46 = .ok (.iaload, 1) := by decide +kernel
theorem dX6_ask_47 : decode cX6_ask 47 = .ok (.iconst 4, 1) := by decide +kernel
theorem dX6_ask_48 : decode cX6_ask 48 = .ok (.if_icmp .lt 11, 3) := by decide +kernel
theorem dX6_ask_51 : decode cX6_ask 51 = .ok (.aload_n 0, 1) := by decide +kernel
theorem dX6_ask_52 : decode cX6_ask 52 = .ok (.iload_n 1, 1) := by decide +kernel
theorem dX6_ask_53 : decode cX6_ask 53 = .ok (.invokevirtual 238, 3) := by decide +kernel
theorem dX6_ask_56 : decode cX6_ask 56 = .ok (.goto 8, 3) := by decide +kernel
theorem dX6_ask_59 : decode cX6_ask 59 = .ok (.aload_n 0, 1) := by decide +kernel
theorem dX6_ask_60 : decode cX6_ask 60 = .ok (.iload_n 1, 1) := by decide +kernel
theorem dX6_ask_61 : decode cX6_ask 61 = .ok (.invokevirtual 220, 3) := by decide +kernel
theorem dX6_ask_64 : decode cX6_ask 64 = .ok (.ireturn, 1) := by decide +kernel
set_option maxRecDepth 20000 in
theorem ggX6_trace_X6_in : GoodIn wsX6_trace wsX6_in := goodIn_r _ [7] (by decide +kernel) (by decide +kernel)
set_option maxRecDepth 20000 in
theorem gX6_trace_X6_in : GoodIn wsX6_trace (va_wsS RX6 34 yX6_in wsX6_in) := goodIn_app (goodIn_of _ (by decide +kernel)) ggX6_trace_X6_in
theorem dX6_trace_0 : decode cX6_trace 0 = .ok (.iload_n 1, 1) := by decide +kernel
theorem dX6_trace_1 : decode cX6_trace 1 = .ok (.i2l, 1) := by decide +kernel
theorem dX6_trace_2 : decode cX6_trace 2 = .ok (.lconst 0, 1) := by decide +kernel
theorem dX6_trace_3 : decode cX6_trace 3 = .ok (.aload_n 0, 1) := by decide +kernel
theorem dX6_trace_4 : decode cX6_trace 4 = .ok (.getfield 211, 3) := by decide +kernel
theorem dX6_trace_7 : decode cX6_trace 7 = .ok (.iconst 1, 1) := by decide +kernel
theorem dX6_trace_8 : decode cX6_trace 8 = .ok (.isub, 1) := by decide +kernel
theorem dX6_trace_9 : decode cX6_trace 9 = .ok (.i2l, 1) := by decide +kernel
theorem dX6_trace_10 : decode cX6_trace 10 = .ok (.invokestatic 34, 3) := by decide +kernel
theorem dX6_trace_13 : decode cX6_trace 13 = .ok (.ifCond .eq 12, 3) := by decide +kernel
theorem dX6_trace_16 : decode cX6_trace 16 = .ok (.aload_n 0, 1) := by decide +kernel
theorem dX6_trace_17 : decode cX6_trace 17 = .ok (.getfield 31, 3) := by decide +kernel
theorem dX6_trace_20 : decode cX6_trace 20 = .ok (.iload_n 1, 1) := by decide +kernel
theorem dX6_trace_21 : decode cX6_trace 21 = .ok (.iaload, 1) := by decide +kernel
theorem dX6_trace_22 : decode cX6_trace 22 = .ok (.goto 5, 3) := by decide +kernel
theorem dX6_trace_25 : decode cX6_trace 25 = .ok (.ldc 176, 2) := by decide +kernel
theorem dX6_trace_27 : decode cX6_trace 27 = .ok (.ireturn, 1) := by decide +kernel
theorem dX6_rowsThere_0 : decode cX6_rowsThere 0 = .ok (.iconst 0, 1) := by decide +kernel
theorem dX6_rowsThere_1 : decode cX6_rowsThere 1 = .ok (.istore_n 1, 1) := by decide +kernel
theorem dX6_rowsThere_2 : decode cX6_rowsThere 2 = .ok (.iconst 0, 1) := by decide +kernel
theorem dX6_rowsThere_3 : decode cX6_rowsThere 3 = .ok (.istore_n 2, 1) := by decide +kernel
theorem dX6_rowsThere_4 : decode cX6_rowsThere 4 = .ok (.iload_n 2, 1) := by decide +kernel
theorem dX6_rowsThere_5 : decode cX6_rowsThere 5 = .ok (.bipush 8, 2) := by decide +kernel
theorem dX6_rowsThere_7 : decode cX6_rowsThere 7 = .ok (.if_icmp .ge 26, 3) := by decide +kernel
theorem dX6_rowsThere_10 : decode cX6_rowsThere 10 = .ok (.iload_n 1, 1) := by decide +kernel
theorem dX6_rowsThere_11 : decode cX6_rowsThere 11 = .ok (.aload_n 0, 1) := by decide +kernel
theorem dX6_rowsThere_12 : decode cX6_rowsThere 12 = .ok (.getfield 16, 3) := by decide +kernel
theorem dX6_rowsThere_15 : decode cX6_rowsThere 15 = .ok (.iload_n 2, 1) := by decide +kernel
theorem dX6_rowsThere_16 : decode cX6_rowsThere 16 = .ok (.iaload, 1) := by decide +kernel
theorem dX6_rowsThere_17 : decode cX6_rowsThere 17 = .ok (.ifCond .lt 7, 3) := by decide +kernel
theorem dX6_rowsThere_20 : decode cX6_rowsThere 20 = .ok (.iconst 1, 1) := by decide +kernel
theorem dX6_rowsThere_21 : decode cX6_rowsThere 21 = .ok (.goto 4, 3) := by decide +kernel
theorem dX6_rowsThere_24 : decode cX6_rowsThere 24 = .ok (.iconst 0, 1) := by decide +kernel
theorem dX6_rowsThere_25 : decode cX6_rowsThere 25 = .ok (.iadd, 1) := by decide +kernel
theorem dX6_rowsThere_26 : decode cX6_rowsThere 26 = .ok (.istore_n 1, 1) := by decide +kernel
theorem dX6_rowsThere_27 : decode cX6_rowsThere 27 = .ok (.iinc 2 1, 3) := by decide +kernel
theorem dX6_rowsThere_30 : decode cX6_rowsThere 30 = .ok (.goto (-26), 3) := by decide +kernel
theorem dX6_rowsThere_33 : decode cX6_rowsThere 33 = .ok (.iload_n 1, 1) := by decide +kernel
theorem dX6_rowsThere_34 : decode cX6_rowsThere 34 = .ok (.ireturn, 1) := by decide +kernel
set_option maxRecDepth 20000 in
theorem ggX6_count_X6_rowsThere : GoodIn wsX6_count wsX6_rowsThere := goodIn_r _ [9, 10, 26, 27, 28, 29, 30, 31, 32, 33, 34, 35, 36, 37, 38, 39, 40, 41] (by decide +kernel) (by decide +kernel)
set_option maxRecDepth 20000 in
theorem gX6_count_X6_rowsThere : GoodIn wsX6_count (wsV RX6 241 RX6 yX6_rowsThere wsX6_rowsThere) := goodIn_app (goodIn_of _ (by decide +kernel)) ggX6_count_X6_rowsThere
set_option maxRecDepth 20000 in
theorem ggX6_count_X6_wholeOnes : GoodIn wsX6_count wsX6_wholeOnes := goodIn_r _ [14, 1, 15, 16, 17, 8, 18, 26, 27, 28, 29, 30, 31, 32, 33, 34, 35, 36, 37, 38, 39, 40, 41] (by decide +kernel) (by decide +kernel)
set_option maxRecDepth 20000 in
theorem gX6_count_X6_wholeOnes : GoodIn wsX6_count (wsV RX6 155 RX6 yX6_wholeOnes wsX6_wholeOnes) := goodIn_app (goodIn_of _ (by decide +kernel)) ggX6_count_X6_wholeOnes
set_option maxRecDepth 20000 in
theorem ggX6_count_X6_heardWords : GoodIn wsX6_count wsX6_heardWords := goodIn_r _ [22, 1, 23, 24, 8, 25, 26, 27, 28, 29, 30, 31, 32, 33, 34, 35, 36, 37, 38, 39, 40, 41] (by decide +kernel) (by decide +kernel)
set_option maxRecDepth 20000 in
theorem gX6_count_X6_heardWords : GoodIn wsX6_count (wsV RX6 203 RX6 yX6_heardWords wsX6_heardWords) := goodIn_app (goodIn_of _ (by decide +kernel)) ggX6_count_X6_heardWords
theorem dX6_count_0 : decode cX6_count 0 = .ok (.iload_n 1, 1) := by decide +kernel
theorem dX6_count_1 : decode cX6_count 1 = .ok (.tableswitch 118 0 9 #[55, 60, 67, 74, 82, 89, 96, 101, 106, 112], 55) := by decide +kernel
theorem dX6_count_56 : decode cX6_count 56 = .ok (.aload_n 0, 1) := by decide +kernel
theorem dX6_count_57 : decode cX6_count 57 = .ok (.invokevirtual 241, 3) := by decide +kernel
theorem dX6_count_60 : decode cX6_count 60 = .ok (.ireturn, 1) := by decide +kernel
theorem dX6_count_61 : decode cX6_count 61 = .ok (.aload_n 0, 1) := by decide +kernel
theorem dX6_count_62 : decode cX6_count 62 = .ok (.getfield 7, 3) := by decide +kernel
theorem dX6_count_65 : decode cX6_count 65 = .ok (.iconst 0, 1) := by decide +kernel
theorem dX6_count_66 : decode cX6_count 66 = .ok (.iaload, 1) := by decide +kernel
theorem dX6_count_67 : decode cX6_count 67 = .ok (.ireturn, 1) := by decide +kernel
theorem dX6_count_68 : decode cX6_count 68 = .ok (.aload_n 0, 1) := by decide +kernel
theorem dX6_count_69 : decode cX6_count 69 = .ok (.getfield 7, 3) := by decide +kernel
theorem dX6_count_72 : decode cX6_count 72 = .ok (.iconst 1, 1) := by decide +kernel
theorem dX6_count_73 : decode cX6_count 73 = .ok (.iaload, 1) := by decide +kernel
theorem dX6_count_74 : decode cX6_count 74 = .ok (.ireturn, 1) := by decide +kernel
theorem dX6_count_75 : decode cX6_count 75 = .ok (.aload_n 0, 1) := by decide +kernel
theorem dX6_count_76 : decode cX6_count 76 = .ok (.getfield 7, 3) := by decide +kernel
theorem dX6_count_79 : decode cX6_count 79 = .ok (.bipush 18, 2) := by decide +kernel
theorem dX6_count_81 : decode cX6_count 81 = .ok (.iaload, 1) := by decide +kernel
theorem dX6_count_82 : decode cX6_count 82 = .ok (.ireturn, 1) := by decide +kernel
theorem dX6_count_83 : decode cX6_count 83 = .ok (.aload_n 0, 1) := by decide +kernel
theorem dX6_count_84 : decode cX6_count 84 = .ok (.getfield 7, 3) := by decide +kernel
theorem dX6_count_87 : decode cX6_count 87 = .ok (.iconst 2, 1) := by decide +kernel
theorem dX6_count_88 : decode cX6_count 88 = .ok (.iaload, 1) := by decide +kernel
theorem dX6_count_89 : decode cX6_count 89 = .ok (.ireturn, 1) := by decide +kernel
theorem dX6_count_90 : decode cX6_count 90 = .ok (.aload_n 0, 1) := by decide +kernel
theorem dX6_count_91 : decode cX6_count 91 = .ok (.getfield 7, 3) := by decide +kernel
theorem dX6_count_94 : decode cX6_count 94 = .ok (.iconst 3, 1) := by decide +kernel
theorem dX6_count_95 : decode cX6_count 95 = .ok (.iaload, 1) := by decide +kernel
theorem dX6_count_96 : decode cX6_count 96 = .ok (.ireturn, 1) := by decide +kernel
theorem dX6_count_97 : decode cX6_count 97 = .ok (.aload_n 0, 1) := by decide +kernel
theorem dX6_count_98 : decode cX6_count 98 = .ok (.getfield 117, 3) := by decide +kernel
theorem dX6_count_101 : decode cX6_count 101 = .ok (.ireturn, 1) := by decide +kernel
theorem dX6_count_102 : decode cX6_count 102 = .ok (.aload_n 0, 1) := by decide +kernel
theorem dX6_count_103 : decode cX6_count 103 = .ok (.getfield 62, 3) := by decide +kernel
theorem dX6_count_106 : decode cX6_count 106 = .ok (.ireturn, 1) := by decide +kernel
theorem dX6_count_107 : decode cX6_count 107 = .ok (.aload_n 0, 1) := by decide +kernel
theorem dX6_count_108 : decode cX6_count 108 = .ok (.iconst 0, 1) := by decide +kernel
theorem dX6_count_109 : decode cX6_count 109 = .ok (.invokevirtual 155, 3) := by decide +kernel
theorem dX6_count_112 : decode cX6_count 112 = .ok (.ireturn, 1) := by decide +kernel
theorem dX6_count_113 : decode cX6_count 113 = .ok (.aload_n 0, 1) := by decide +kernel
theorem dX6_count_114 : decode cX6_count 114 = .ok (.iconst 0, 1) := by decide +kernel
theorem dX6_count_115 : decode cX6_count 115 = .ok (.invokevirtual 203, 3) := by decide +kernel
theorem dX6_count_118 : decode cX6_count 118 = .ok (.ireturn, 1) := by decide +kernel
theorem dX6_count_119 : decode cX6_count 119 = .ok (.ldc 51, 2) := by decide +kernel
theorem dX6_count_121 : decode cX6_count 121 = .ok (.ireturn, 1) := by decide +kernel
theorem dX6_status_0 : decode cX6_status 0 = .ok (.aload_n 0, 1) := by decide +kernel
theorem dX6_status_1 : decode cX6_status 1 = .ok (.getfield 40, 3) := by decide +kernel
theorem dX6_status_4 : decode cX6_status 4 = .ok (.ireturn, 1) := by decide +kernel
end
