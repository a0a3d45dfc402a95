section
/-- a private method of a class that the tables say can be made, by its rows of tables_1 -/
def lw_okq (q : MethodName × Nat) : Prop := (q.1.cls ≠ "java/lang/invoke/MethodHandle" ∧ q.1.cls ≠ "java/lang/invoke/VarHandle") ∧ Cond.instantiable q.1.cls q.2 ∈ tables_1 ∧ Cond.privateMethod q.1 ∈ tables_1 ∧ Cond.instanceMethod q.1 ∈ tables_1
theorem lw_p0 : lw_okq (⟨"PostmenMeet$Road", "append", "(I)V"⟩, 10) := ⟨⟨by decide +kernel, by decide +kernel⟩, List.mem_of_getElem? (i := 23) (by decide +kernel), List.mem_of_getElem? (i := 274) (by decide +kernel), List.mem_of_getElem? (i := 275) (by decide +kernel)⟩
theorem lw_p1 : lw_okq (⟨"PostmenMeet$Road", "parse", "()V"⟩, 10) := ⟨⟨by decide +kernel, by decide +kernel⟩, List.mem_of_getElem? (i := 23) (by decide +kernel), List.mem_of_getElem? (i := 278) (by decide +kernel), List.mem_of_getElem? (i := 279) (by decide +kernel)⟩
theorem lw_p2 : lw_okq (⟨"PostmenMeet$Road", "firstFault", "()I"⟩, 10) := ⟨⟨by decide +kernel, by decide +kernel⟩, List.mem_of_getElem? (i := 23) (by decide +kernel), List.mem_of_getElem? (i := 282) (by decide +kernel), List.mem_of_getElem? (i := 283) (by decide +kernel)⟩
theorem lw_p3 : lw_okq (⟨"PostmenMeet$Road", "wrongNumber", "(III)I"⟩, 10) := ⟨⟨by decide +kernel, by decide +kernel⟩, List.mem_of_getElem? (i := 23) (by decide +kernel), List.mem_of_getElem? (i := 286) (by decide +kernel), List.mem_of_getElem? (i := 287) (by decide +kernel)⟩
theorem lw_p4 : lw_okq (⟨"PostmenMeet$Road", "isFigure", "(I)Z"⟩, 10) := ⟨⟨by decide +kernel, by decide +kernel⟩, List.mem_of_getElem? (i := 23) (by decide +kernel), List.mem_of_getElem? (i := 290) (by decide +kernel), List.mem_of_getElem? (i := 291) (by decide +kernel)⟩
theorem lw_p5 : lw_okq (⟨"PostmenMeet$Road", "number", "(I)I"⟩, 10) := ⟨⟨by decide +kernel, by decide +kernel⟩, List.mem_of_getElem? (i := 23) (by decide +kernel), List.mem_of_getElem? (i := 294) (by decide +kernel), List.mem_of_getElem? (i := 295) (by decide +kernel)⟩
theorem lw_p6 : lw_okq (⟨"PostmenMeet$Road", "isByte", "(II)Z"⟩, 10) := ⟨⟨by decide +kernel, by decide +kernel⟩, List.mem_of_getElem? (i := 23) (by decide +kernel), List.mem_of_getElem? (i := 298) (by decide +kernel), List.mem_of_getElem? (i := 299) (by decide +kernel)⟩
theorem lw_p7 : lw_okq (⟨"PostmenMeet$Road", "takeHouse", "(I)I"⟩, 10) := ⟨⟨by decide +kernel, by decide +kernel⟩, List.mem_of_getElem? (i := 23) (by decide +kernel), List.mem_of_getElem? (i := 302) (by decide +kernel), List.mem_of_getElem? (i := 303) (by decide +kernel)⟩
theorem lw_p8 : lw_okq (⟨"PostmenMeet$Road", "takeMan", "(I)I"⟩, 10) := ⟨⟨by decide +kernel, by decide +kernel⟩, List.mem_of_getElem? (i := 23) (by decide +kernel), List.mem_of_getElem? (i := 306) (by decide +kernel), List.mem_of_getElem? (i := 307) (by decide +kernel)⟩
theorem lw_p9 : lw_okq (⟨"PostmenMeet$Road", "isTaken", "(I)Z"⟩, 10) := ⟨⟨by decide +kernel, by decide +kernel⟩, List.mem_of_getElem? (i := 23) (by decide +kernel), List.mem_of_getElem? (i := 310) (by decide +kernel), List.mem_of_getElem? (i := 311) (by decide +kernel)⟩
theorem lw_p10 : lw_okq (⟨"PostmenMeet", "isMan", "(I)Z"⟩, 8) := ⟨⟨by decide +kernel, by decide +kernel⟩, List.mem_of_getElem? (i := 15) (by decide +kernel), List.mem_of_getElem? (i := 326) (by decide +kernel), List.mem_of_getElem? (i := 327) (by decide +kernel)⟩
theorem lw_p11 : lw_okq (⟨"PostmenMeet", "refresh", "()V"⟩, 8) := ⟨⟨by decide +kernel, by decide +kernel⟩, List.mem_of_getElem? (i := 15) (by decide +kernel), List.mem_of_getElem? (i := 349) (by decide +kernel), List.mem_of_getElem? (i := 350) (by decide +kernel)⟩
theorem lw_p12 : lw_okq (⟨"PostmenMeet", "allMen", "()I"⟩, 8) := ⟨⟨by decide +kernel, by decide +kernel⟩, List.mem_of_getElem? (i := 15) (by decide +kernel), List.mem_of_getElem? (i := 353) (by decide +kernel), List.mem_of_getElem? (i := 354) (by decide +kernel)⟩
theorem lw_p13 : lw_okq (⟨"PostmenMeet$Walk", "start", "(LPostmenMeet$Road;LPostmenMeet$Use;I)V"⟩, 14) := ⟨⟨by decide +kernel, by decide +kernel⟩, List.mem_of_getElem? (i := 102) (by decide +kernel), List.mem_of_getElem? (i := 357) (by decide +kernel), List.mem_of_getElem? (i := 358) (by decide +kernel)⟩
theorem lw_p14 : lw_okq (⟨"PostmenMeet$Walk", "standInstead", "(III)V"⟩, 14) := ⟨⟨by decide +kernel, by decide +kernel⟩, List.mem_of_getElem? (i := 102) (by decide +kernel), List.mem_of_getElem? (i := 361) (by decide +kernel), List.mem_of_getElem? (i := 362) (by decide +kernel)⟩
theorem lw_p15 : lw_okq (⟨"PostmenMeet$Course", "recordTogether", "(LPostmenMeet$Walk;)V"⟩, 6) := ⟨⟨by decide +kernel, by decide +kernel⟩, List.mem_of_getElem? (i := 157) (by decide +kernel), List.mem_of_getElem? (i := 365) (by decide +kernel), List.mem_of_getElem? (i := 366) (by decide +kernel)⟩
def lw_privs_1 : List (MethodName × Nat) := [(⟨"PostmenMeet$Road", "append", "(I)V"⟩, 10), (⟨"PostmenMeet$Road", "parse", "()V"⟩, 10), (⟨"PostmenMeet$Road", "firstFault", "()I"⟩, 10), (⟨"PostmenMeet$Road", "wrongNumber", "(III)I"⟩, 10), (⟨"PostmenMeet$Road", "isFigure", "(I)Z"⟩, 10), (⟨"PostmenMeet$Road", "number", "(I)I"⟩, 10), (⟨"PostmenMeet$Road", "isByte", "(II)Z"⟩, 10), (⟨"PostmenMeet$Road", "takeHouse", "(I)I"⟩, 10), (⟨"PostmenMeet$Road", "takeMan", "(I)I"⟩, 10), (⟨"PostmenMeet$Road", "isTaken", "(I)Z"⟩, 10), (⟨"PostmenMeet", "isMan", "(I)Z"⟩, 8), (⟨"PostmenMeet", "refresh", "()V"⟩, 8), (⟨"PostmenMeet", "allMen", "()I"⟩, 8), (⟨"PostmenMeet$Walk", "start", "(LPostmenMeet$Road;LPostmenMeet$Use;I)V"⟩, 14), (⟨"PostmenMeet$Walk", "standInstead", "(III)V"⟩, 14), (⟨"PostmenMeet$Course", "recordTogether", "(LPostmenMeet$Walk;)V"⟩, 6)]
theorem lw_r1 : ∀ q ∈ lw_privs_1, lw_okq q := List.forall_mem_cons.mpr ⟨lw_p0, List.forall_mem_cons.mpr ⟨lw_p1, List.forall_mem_cons.mpr ⟨lw_p2, List.forall_mem_cons.mpr ⟨lw_p3, List.forall_mem_cons.mpr ⟨lw_p4, List.forall_mem_cons.mpr ⟨lw_p5, List.forall_mem_cons.mpr ⟨lw_p6, List.forall_mem_cons.mpr ⟨lw_p7, List.forall_mem_cons.mpr ⟨lw_p8, List.forall_mem_cons.mpr ⟨lw_p9, List.forall_mem_cons.mpr ⟨lw_p10, List.forall_mem_cons.mpr ⟨lw_p11, List.forall_mem_cons.mpr ⟨lw_p12, List.forall_mem_cons.mpr ⟨lw_p13, List.forall_mem_cons.mpr ⟨lw_p14, List.forall_mem_cons.mpr ⟨lw_p15, fun _ h => absurd h List.not_mem_nil⟩⟩⟩⟩⟩⟩⟩⟩⟩⟩⟩⟩⟩⟩⟩⟩
theorem lw_p16 : lw_okq (⟨"PostmenMeet$Walk", "step", "()V"⟩, 14) := ⟨⟨by decide +kernel, by decide +kernel⟩, List.mem_of_getElem? (i := 102) (by decide +kernel), List.mem_of_getElem? (i := 369) (by decide +kernel), List.mem_of_getElem? (i := 370) (by decide +kernel)⟩
theorem lw_p17 : lw_okq (⟨"PostmenMeet$Walk", "goOn", "()V"⟩, 14) := ⟨⟨by decide +kernel, by decide +kernel⟩, List.mem_of_getElem? (i := 102) (by decide +kernel), List.mem_of_getElem? (i := 373) (by decide +kernel), List.mem_of_getElem? (i := 374) (by decide +kernel)⟩
theorem lw_p18 : lw_okq (⟨"PostmenMeet$Walk", "isStanding", "(I)Z"⟩, 14) := ⟨⟨by decide +kernel, by decide +kernel⟩, List.mem_of_getElem? (i := 102) (by decide +kernel), List.mem_of_getElem? (i := 377) (by decide +kernel), List.mem_of_getElem? (i := 378) (by decide +kernel)⟩
theorem lw_p19 : lw_okq (⟨"PostmenMeet$Walk", "meet", "(I)V"⟩, 14) := ⟨⟨by decide +kernel, by decide +kernel⟩, List.mem_of_getElem? (i := 102) (by decide +kernel), List.mem_of_getElem? (i := 381) (by decide +kernel), List.mem_of_getElem? (i := 382) (by decide +kernel)⟩
theorem lw_p20 : lw_okq (⟨"PostmenMeet$Walk", "handRound", "(I)V"⟩, 14) := ⟨⟨by decide +kernel, by decide +kernel⟩, List.mem_of_getElem? (i := 102) (by decide +kernel), List.mem_of_getElem? (i := 391) (by decide +kernel), List.mem_of_getElem? (i := 392) (by decide +kernel)⟩
theorem lw_p21 : lw_okq (⟨"PostmenMeet$Course", "recordAlone", "(LPostmenMeet$Walk;)V"⟩, 6) := ⟨⟨by decide +kernel, by decide +kernel⟩, List.mem_of_getElem? (i := 157) (by decide +kernel), List.mem_of_getElem? (i := 398) (by decide +kernel), List.mem_of_getElem? (i := 399) (by decide +kernel)⟩
theorem lw_p22 : lw_okq (⟨"PostmenMeet$Course", "bagPlace", "(II)I"⟩, 6) := ⟨⟨by decide +kernel, by decide +kernel⟩, List.mem_of_getElem? (i := 157) (by decide +kernel), List.mem_of_getElem? (i := 407) (by decide +kernel), List.mem_of_getElem? (i := 408) (by decide +kernel)⟩
theorem lw_p23 : lw_okq (⟨"PostmenMeet$Course", "holder", "(II)I"⟩, 6) := ⟨⟨by decide +kernel, by decide +kernel⟩, List.mem_of_getElem? (i := 157) (by decide +kernel), List.mem_of_getElem? (i := 411) (by decide +kernel), List.mem_of_getElem? (i := 412) (by decide +kernel)⟩
theorem lw_p24 : lw_okq (⟨"PostmenMeet$Course", "asNamesOff", "(I)Z"⟩, 6) := ⟨⟨by decide +kernel, by decide +kernel⟩, List.mem_of_getElem? (i := 157) (by decide +kernel), List.mem_of_getElem? (i := 443) (by decide +kernel), List.mem_of_getElem? (i := 444) (by decide +kernel)⟩
theorem lw_p25 : lw_okq (⟨"PostmenMeet$Course", "asAtFirst", "(I)Z"⟩, 6) := ⟨⟨by decide +kernel, by decide +kernel⟩, List.mem_of_getElem? (i := 157) (by decide +kernel), List.mem_of_getElem? (i := 452) (by decide +kernel), List.mem_of_getElem? (i := 453) (by decide +kernel)⟩
theorem lw_p26 : lw_okq (⟨"PostmenMeet", "isPace", "(I)Z"⟩, 8) := ⟨⟨by decide +kernel, by decide +kernel⟩, List.mem_of_getElem? (i := 15) (by decide +kernel), List.mem_of_getElem? (i := 460) (by decide +kernel), List.mem_of_getElem? (i := 461) (by decide +kernel)⟩
theorem lw_p27 : lw_okq (⟨"PostmenMeet$Course", "taken", "(II)I"⟩, 6) := ⟨⟨by decide +kernel, by decide +kernel⟩, List.mem_of_getElem? (i := 157) (by decide +kernel), List.mem_of_getElem? (i := 464) (by decide +kernel), List.mem_of_getElem? (i := 465) (by decide +kernel)⟩
theorem lw_p28 : lw_okq (⟨"PostmenMeet$Course", "bagThere", "(II)I"⟩, 6) := ⟨⟨by decide +kernel, by decide +kernel⟩, List.mem_of_getElem? (i := 157) (by decide +kernel), List.mem_of_getElem? (i := 468) (by decide +kernel), List.mem_of_getElem? (i := 469) (by decide +kernel)⟩
theorem lw_p29 : lw_okq (⟨"PostmenMeet$Course", "bagComes", "(III)I"⟩, 6) := ⟨⟨by decide +kernel, by decide +kernel⟩, List.mem_of_getElem? (i := 157) (by decide +kernel), List.mem_of_getElem? (i := 473) (by decide +kernel), List.mem_of_getElem? (i := 474) (by decide +kernel)⟩
theorem lw_p30 : lw_okq (⟨"PostmenMeet$Course", "latestMinute", "(III)I"⟩, 6) := ⟨⟨by decide +kernel, by decide +kernel⟩, List.mem_of_getElem? (i := 157) (by decide +kernel), List.mem_of_getElem? (i := 481) (by decide +kernel), List.mem_of_getElem? (i := 482) (by decide +kernel)⟩
theorem lw_p31 : lw_okq (⟨"PostmenMeet$Course", "bagsThere", "(II)I"⟩, 6) := ⟨⟨by decide +kernel, by decide +kernel⟩, List.mem_of_getElem? (i := 157) (by decide +kernel), List.mem_of_getElem? (i := 485) (by decide +kernel), List.mem_of_getElem? (i := 486) (by decide +kernel)⟩
def lw_privs_2 : List (MethodName × Nat) := [(⟨"PostmenMeet$Walk", "step", "()V"⟩, 14), (⟨"PostmenMeet$Walk", "goOn", "()V"⟩, 14), (⟨"PostmenMeet$Walk", "isStanding", "(I)Z"⟩, 14), (⟨"PostmenMeet$Walk", "meet", "(I)V"⟩, 14), (⟨"PostmenMeet$Walk", "handRound", "(I)V"⟩, 14), (⟨"PostmenMeet$Course", "recordAlone", "(LPostmenMeet$Walk;)V"⟩, 6), (⟨"PostmenMeet$Course", "bagPlace", "(II)I"⟩, 6), (⟨"PostmenMeet$Course", "holder", "(II)I"⟩, 6), (⟨"PostmenMeet$Course", "asNamesOff", "(I)Z"⟩, 6), (⟨"PostmenMeet$Course", "asAtFirst", "(I)Z"⟩, 6), (⟨"PostmenMeet", "isPace", "(I)Z"⟩, 8), (⟨"PostmenMeet$Course", "taken", "(II)I"⟩, 6), (⟨"PostmenMeet$Course", "bagThere", "(II)I"⟩, 6), (⟨"PostmenMeet$Course", "bagComes", "(III)I"⟩, 6), (⟨"PostmenMeet$Course", "latestMinute", "(III)I"⟩, 6), (⟨"PostmenMeet$Course", "bagsThere", "(II)I"⟩, 6)]
theorem lw_r2 : ∀ q ∈ lw_privs_2, lw_okq q := List.forall_mem_cons.mpr ⟨lw_p16, List.forall_mem_cons.mpr ⟨lw_p17, List.forall_mem_cons.mpr ⟨lw_p18, List.forall_mem_cons.mpr ⟨lw_p19, List.forall_mem_cons.mpr ⟨lw_p20, List.forall_mem_cons.mpr ⟨lw_p21, List.forall_mem_cons.mpr ⟨lw_p22, List.forall_mem_cons.mpr ⟨lw_p23, List.forall_mem_cons.mpr ⟨lw_p24, List.forall_mem_cons.mpr ⟨lw_p25, List.forall_mem_cons.mpr ⟨lw_p26, List.forall_mem_cons.mpr ⟨lw_p27, List.forall_mem_cons.mpr ⟨lw_p28, List.forall_mem_cons.mpr ⟨lw_p29, List.forall_mem_cons.mpr ⟨lw_p30, List.forall_mem_cons.mpr ⟨lw_p31, fun _ h => absurd h List.not_mem_nil⟩⟩⟩⟩⟩⟩⟩⟩⟩⟩⟩⟩⟩⟩⟩⟩
theorem lw_p32 : lw_okq (⟨"PostmenMeet", "serve", "(III)Z"⟩, 8) := ⟨⟨by decide +kernel, by decide +kernel⟩, List.mem_of_getElem? (i := 15) (by decide +kernel), List.mem_of_getElem? (i := 496) (by decide +kernel), List.mem_of_getElem? (i := 497) (by decide +kernel)⟩
theorem lw_p33 : lw_okq (⟨"PostmenMeet", "housesVisited", "()I"⟩, 8) := ⟨⟨by decide +kernel, by decide +kernel⟩, List.mem_of_getElem? (i := 15) (by decide +kernel), List.mem_of_getElem? (i := 501) (by decide +kernel), List.mem_of_getElem? (i := 502) (by decide +kernel)⟩
theorem lw_p34 : lw_okq (⟨"PostmenMeet$Walk", "firstThere", "(I)I"⟩, 14) := ⟨⟨by decide +kernel, by decide +kernel⟩, List.mem_of_getElem? (i := 102) (by decide +kernel), List.mem_of_getElem? (i := 505) (by decide +kernel), List.mem_of_getElem? (i := 506) (by decide +kernel)⟩
theorem lw_p35 : lw_okq (⟨"PostmenMeet$Letters", "mayBe", "(IIII)Z"⟩, 7) := ⟨⟨by decide +kernel, by decide +kernel⟩, List.mem_of_getElem? (i := 191) (by decide +kernel), List.mem_of_getElem? (i := 518) (by decide +kernel), List.mem_of_getElem? (i := 519) (by decide +kernel)⟩
theorem lw_p36 : lw_okq (⟨"PostmenMeet$Letters", "add", "(IIII)V"⟩, 7) := ⟨⟨by decide +kernel, by decide +kernel⟩, List.mem_of_getElem? (i := 191) (by decide +kernel), List.mem_of_getElem? (i := 522) (by decide +kernel), List.mem_of_getElem? (i := 523) (by decide +kernel)⟩
theorem lw_p37 : lw_okq (⟨"PostmenMeet$Sheets", "isLost", "(I)Z"⟩, 3) := ⟨⟨by decide +kernel, by decide +kernel⟩, List.mem_of_getElem? (i := 225) (by decide +kernel), List.mem_of_getElem? (i := 533) (by decide +kernel), List.mem_of_getElem? (i := 534) (by decide +kernel)⟩
theorem lw_p38 : lw_okq (⟨"PostmenMeet", "find", "(I)I"⟩, 8) := ⟨⟨by decide +kernel, by decide +kernel⟩, List.mem_of_getElem? (i := 15) (by decide +kernel), List.mem_of_getElem? (i := 537) (by decide +kernel), List.mem_of_getElem? (i := 538) (by decide +kernel)⟩
theorem lw_p39 : lw_okq (⟨"PostmenMeet$Course", "comes", "(III)I"⟩, 6) := ⟨⟨by decide +kernel, by decide +kernel⟩, List.mem_of_getElem? (i := 157) (by decide +kernel), List.mem_of_getElem? (i := 549) (by decide +kernel), List.mem_of_getElem? (i := 550) (by decide +kernel)⟩
theorem lw_p40 : lw_okq (⟨"PostmenMeet", "stoodBy", "(IZ)I"⟩, 8) := ⟨⟨by decide +kernel, by decide +kernel⟩, List.mem_of_getElem? (i := 15) (by decide +kernel), List.mem_of_getElem? (i := 559) (by decide +kernel), List.mem_of_getElem? (i := 560) (by decide +kernel)⟩
theorem lw_p41 : lw_okq (⟨"PostmenMeet$Letters", "comeAsTold", "(LPostmenMeet$Walk;)Z"⟩, 7) := ⟨⟨by decide +kernel, by decide +kernel⟩, List.mem_of_getElem? (i := 191) (by decide +kernel), List.mem_of_getElem? (i := 564) (by decide +kernel), List.mem_of_getElem? (i := 565) (by decide +kernel)⟩
theorem lw_p42 : lw_okq (⟨"PostmenMeet$Letters", "comesNow", "(ILPostmenMeet$Walk;)Z"⟩, 7) := ⟨⟨by decide +kernel, by decide +kernel⟩, List.mem_of_getElem? (i := 191) (by decide +kernel), List.mem_of_getElem? (i := 572) (by decide +kernel), List.mem_of_getElem? (i := 573) (by decide +kernel)⟩
theorem lw_p43 : lw_okq (⟨"PostmenMeet$Walk", "isBagAt", "(II)Z"⟩, 14) := ⟨⟨by decide +kernel, by decide +kernel⟩, List.mem_of_getElem? (i := 102) (by decide +kernel), List.mem_of_getElem? (i := 577) (by decide +kernel), List.mem_of_getElem? (i := 578) (by decide +kernel)⟩
theorem lw_p44 : lw_okq (⟨"PostmenMeet$Sheets", "renew", "(III)V"⟩, 3) := ⟨⟨by decide +kernel, by decide +kernel⟩, List.mem_of_getElem? (i := 225) (by decide +kernel), List.mem_of_getElem? (i := 588) (by decide +kernel), List.mem_of_getElem? (i := 589) (by decide +kernel)⟩
theorem lw_p45 : lw_okq (⟨"PostmenMeet$Sheets", "drop", "(I)V"⟩, 3) := ⟨⟨by decide +kernel, by decide +kernel⟩, List.mem_of_getElem? (i := 225) (by decide +kernel), List.mem_of_getElem? (i := 597) (by decide +kernel), List.mem_of_getElem? (i := 598) (by decide +kernel)⟩
theorem lw_p46 : lw_okq (⟨"PostmenMeet$Sheets", "wrongItem", "(III)I"⟩, 3) := ⟨⟨by decide +kernel, by decide +kernel⟩, List.mem_of_getElem? (i := 225) (by decide +kernel), List.mem_of_getElem? (i := 605) (by decide +kernel), List.mem_of_getElem? (i := 606) (by decide +kernel)⟩
theorem lw_p47 : lw_okq (⟨"PostmenMeet$Sheets", "put", "(III)V"⟩, 3) := ⟨⟨by decide +kernel, by decide +kernel⟩, List.mem_of_getElem? (i := 225) (by decide +kernel), List.mem_of_getElem? (i := 610) (by decide +kernel), List.mem_of_getElem? (i := 611) (by decide +kernel)⟩
def lw_privs_3 : List (MethodName × Nat) := [(⟨"PostmenMeet", "serve", "(III)Z"⟩, 8), (⟨"PostmenMeet", "housesVisited", "()I"⟩, 8), (⟨"PostmenMeet$Walk", "firstThere", "(I)I"⟩, 14), (⟨"PostmenMeet$Letters", "mayBe", "(IIII)Z"⟩, 7), (⟨"PostmenMeet$Letters", "add", "(IIII)V"⟩, 7), (⟨"PostmenMeet$Sheets", "isLost", "(I)Z"⟩, 3), (⟨"PostmenMeet", "find", "(I)I"⟩, 8), (⟨"PostmenMeet$Course", "comes", "(III)I"⟩, 6), (⟨"PostmenMeet", "stoodBy", "(IZ)I"⟩, 8), (⟨"PostmenMeet$Letters", "comeAsTold", "(LPostmenMeet$Walk;)Z"⟩, 7), (⟨"PostmenMeet$Letters", "comesNow", "(ILPostmenMeet$Walk;)Z"⟩, 7), (⟨"PostmenMeet$Walk", "isBagAt", "(II)Z"⟩, 14), (⟨"PostmenMeet$Sheets", "renew", "(III)V"⟩, 3), (⟨"PostmenMeet$Sheets", "drop", "(I)V"⟩, 3), (⟨"PostmenMeet$Sheets", "wrongItem", "(III)I"⟩, 3), (⟨"PostmenMeet$Sheets", "put", "(III)V"⟩, 3)]
theorem lw_r3 : ∀ q ∈ lw_privs_3, lw_okq q := List.forall_mem_cons.mpr ⟨lw_p32, List.forall_mem_cons.mpr ⟨lw_p33, List.forall_mem_cons.mpr ⟨lw_p34, List.forall_mem_cons.mpr ⟨lw_p35, List.forall_mem_cons.mpr ⟨lw_p36, List.forall_mem_cons.mpr ⟨lw_p37, List.forall_mem_cons.mpr ⟨lw_p38, List.forall_mem_cons.mpr ⟨lw_p39, List.forall_mem_cons.mpr ⟨lw_p40, List.forall_mem_cons.mpr ⟨lw_p41, List.forall_mem_cons.mpr ⟨lw_p42, List.forall_mem_cons.mpr ⟨lw_p43, List.forall_mem_cons.mpr ⟨lw_p44, List.forall_mem_cons.mpr ⟨lw_p45, List.forall_mem_cons.mpr ⟨lw_p46, List.forall_mem_cons.mpr ⟨lw_p47, fun _ h => absurd h List.not_mem_nil⟩⟩⟩⟩⟩⟩⟩⟩⟩⟩⟩⟩⟩⟩⟩⟩
theorem lw_p48 : lw_okq (⟨"PostmenMeet$Sheets", "hasRun", "(III)Z"⟩, 3) := ⟨⟨by decide +kernel, by decide +kernel⟩, List.mem_of_getElem? (i := 225) (by decide +kernel), List.mem_of_getElem? (i := 623) (by decide +kernel), List.mem_of_getElem? (i := 624) (by decide +kernel)⟩
theorem lw_p49 : lw_okq (⟨"PostmenMeet$Use", "minutesStood", "(I)I"⟩, 4) := ⟨⟨by decide +kernel, by decide +kernel⟩, List.mem_of_getElem? (i := 75) (by decide +kernel), List.mem_of_getElem? (i := 641) (by decide +kernel), List.mem_of_getElem? (i := 642) (by decide +kernel)⟩
theorem lw_p50 : lw_okq (⟨"PostmenMeetModel", "finds", "(I)I"⟩, 29) := ⟨⟨by decide +kernel, by decide +kernel⟩, List.mem_of_getElem? (i := 667) (by decide +kernel), List.mem_of_getElem? (i := 774) (by decide +kernel), List.mem_of_getElem? (i := 775) (by decide +kernel)⟩
theorem lw_p51 : lw_okq (⟨"PostmenMeetModel", "lacks", "(III)I"⟩, 29) := ⟨⟨by decide +kernel, by decide +kernel⟩, List.mem_of_getElem? (i := 667) (by decide +kernel), List.mem_of_getElem? (i := 786) (by decide +kernel), List.mem_of_getElem? (i := 787) (by decide +kernel)⟩
theorem lw_p52 : lw_okq (⟨"PostmenMeetModel", "reads", "()I"⟩, 29) := ⟨⟨by decide +kernel, by decide +kernel⟩, List.mem_of_getElem? (i := 667) (by decide +kernel), List.mem_of_getElem? (i := 815) (by decide +kernel), List.mem_of_getElem? (i := 816) (by decide +kernel)⟩
theorem lw_p53 : lw_okq (⟨"PostmenMeetModel", "clears", "()V"⟩, 29) := ⟨⟨by decide +kernel, by decide +kernel⟩, List.mem_of_getElem? (i := 667) (by decide +kernel), List.mem_of_getElem? (i := 819) (by decide +kernel), List.mem_of_getElem? (i := 820) (by decide +kernel)⟩
theorem lw_p54 : lw_okq (⟨"PostmenMeetModel", "number", "(II)I"⟩, 29) := ⟨⟨by decide +kernel, by decide +kernel⟩, List.mem_of_getElem? (i := 667) (by decide +kernel), List.mem_of_getElem? (i := 823) (by decide +kernel), List.mem_of_getElem? (i := 824) (by decide +kernel)⟩
theorem lw_p55 : lw_okq (⟨"PostmenMeetModel", "here", "()I"⟩, 29) := ⟨⟨by decide +kernel, by decide +kernel⟩, List.mem_of_getElem? (i := 667) (by decide +kernel), List.mem_of_getElem? (i := 827) (by decide +kernel), List.mem_of_getElem? (i := 828) (by decide +kernel)⟩
theorem lw_p56 : lw_okq (⟨"PostmenMeetModel", "readsHouse", "()Z"⟩, 29) := ⟨⟨by decide +kernel, by decide +kernel⟩, List.mem_of_getElem? (i := 667) (by decide +kernel), List.mem_of_getElem? (i := 833) (by decide +kernel), List.mem_of_getElem? (i := 834) (by decide +kernel)⟩
theorem lw_p57 : lw_okq (⟨"PostmenMeetModel", "readsMan", "()Z"⟩, 29) := ⟨⟨by decide +kernel, by decide +kernel⟩, List.mem_of_getElem? (i := 667) (by decide +kernel), List.mem_of_getElem? (i := 837) (by decide +kernel), List.mem_of_getElem? (i := 838) (by decide +kernel)⟩
theorem lw_p58 : lw_okq (⟨"PostmenMeetModel", "isTaken", "(I)Z"⟩, 29) := ⟨⟨by decide +kernel, by decide +kernel⟩, List.mem_of_getElem? (i := 667) (by decide +kernel), List.mem_of_getElem? (i := 841) (by decide +kernel), List.mem_of_getElem? (i := 842) (by decide +kernel)⟩
theorem lw_p59 : lw_okq (⟨"PostmenMeetModel", "isMan", "(I)Z"⟩, 29) := ⟨⟨by decide +kernel, by decide +kernel⟩, List.mem_of_getElem? (i := 667) (by decide +kernel), List.mem_of_getElem? (i := 849) (by decide +kernel), List.mem_of_getElem? (i := 850) (by decide +kernel)⟩
theorem lw_p60 : lw_okq (⟨"PostmenMeetModel", "beginsOf", "(II)I"⟩, 29) := ⟨⟨by decide +kernel, by decide +kernel⟩, List.mem_of_getElem? (i := 667) (by decide +kernel), List.mem_of_getElem? (i := 853) (by decide +kernel), List.mem_of_getElem? (i := 854) (by decide +kernel)⟩
theorem lw_p61 : lw_okq (⟨"PostmenMeetModel", "find", "()V"⟩, 29) := ⟨⟨by decide +kernel, by decide +kernel⟩, List.mem_of_getElem? (i := 667) (by decide +kernel), List.mem_of_getElem? (i := 882) (by decide +kernel), List.mem_of_getElem? (i := 883) (by decide +kernel)⟩
theorem lw_p62 : lw_okq (⟨"PostmenMeetModel", "runs", "(I)V"⟩, 29) := ⟨⟨by decide +kernel, by decide +kernel⟩, List.mem_of_getElem? (i := 667) (by decide +kernel), List.mem_of_getElem? (i := 886) (by decide +kernel), List.mem_of_getElem? (i := 887) (by decide +kernel)⟩
theorem lw_p63 : lw_okq (⟨"PostmenMeetModel", "meet", "(I)V"⟩, 29) := ⟨⟨by decide +kernel, by decide +kernel⟩, List.mem_of_getElem? (i := 667) (by decide +kernel), List.mem_of_getElem? (i := 890) (by decide +kernel), List.mem_of_getElem? (i := 891) (by decide +kernel)⟩
def lw_privs_4 : List (MethodName × Nat) := [(⟨"PostmenMeet$Sheets", "hasRun", "(III)Z"⟩, 3), (⟨"PostmenMeet$Use", "minutesStood", "(I)I"⟩, 4), (⟨"PostmenMeetModel", "finds", "(I)I"⟩, 29), (⟨"PostmenMeetModel", "lacks", "(III)I"⟩, 29), (⟨"PostmenMeetModel", "reads", "()I"⟩, 29), (⟨"PostmenMeetModel", "clears", "()V"⟩, 29), (⟨"PostmenMeetModel", "number", "(II)I"⟩, 29), (⟨"PostmenMeetModel", "here", "()I"⟩, 29), (⟨"PostmenMeetModel", "readsHouse", "()Z"⟩, 29), (⟨"PostmenMeetModel", "readsMan", "()Z"⟩, 29), (⟨"PostmenMeetModel", "isTaken", "(I)Z"⟩, 29), (⟨"PostmenMeetModel", "isMan", "(I)Z"⟩, 29), (⟨"PostmenMeetModel", "beginsOf", "(II)I"⟩, 29), (⟨"PostmenMeetModel", "find", "()V"⟩, 29), (⟨"PostmenMeetModel", "runs", "(I)V"⟩, 29), (⟨"PostmenMeetModel", "meet", "(I)V"⟩, 29)]
theorem lw_r4 : ∀ q ∈ lw_privs_4, lw_okq q := List.forall_mem_cons.mpr ⟨lw_p48, List.forall_mem_cons.mpr ⟨lw_p49, List.forall_mem_cons.mpr ⟨lw_p50, List.forall_mem_cons.mpr ⟨lw_p51, List.forall_mem_cons.mpr ⟨lw_p52, List.forall_mem_cons.mpr ⟨lw_p53, List.forall_mem_cons.mpr ⟨lw_p54, List.forall_mem_cons.mpr ⟨lw_p55, List.forall_mem_cons.mpr ⟨lw_p56, List.forall_mem_cons.mpr ⟨lw_p57, List.forall_mem_cons.mpr ⟨lw_p58, List.forall_mem_cons.mpr ⟨lw_p59, List.forall_mem_cons.mpr ⟨lw_p60, List.forall_mem_cons.mpr ⟨lw_p61, List.forall_mem_cons.mpr ⟨lw_p62, List.forall_mem_cons.mpr ⟨lw_p63, fun _ h => absurd h List.not_mem_nil⟩⟩⟩⟩⟩⟩⟩⟩⟩⟩⟩⟩⟩⟩⟩⟩
theorem lw_p64 : lw_okq (⟨"PostmenMeetModel", "isThere", "(I)Z"⟩, 29) := ⟨⟨by decide +kernel, by decide +kernel⟩, List.mem_of_getElem? (i := 667) (by decide +kernel), List.mem_of_getElem? (i := 894) (by decide +kernel), List.mem_of_getElem? (i := 895) (by decide +kernel)⟩
theorem lw_p65 : lw_okq (⟨"PostmenMeetModel", "findGroup", "(II)I"⟩, 29) := ⟨⟨by decide +kernel, by decide +kernel⟩, List.mem_of_getElem? (i := 667) (by decide +kernel), List.mem_of_getElem? (i := 898) (by decide +kernel), List.mem_of_getElem? (i := 899) (by decide +kernel)⟩
theorem lw_p66 : lw_okq (⟨"PostmenMeetModel", "areTogether", "(III)Z"⟩, 29) := ⟨⟨by decide +kernel, by decide +kernel⟩, List.mem_of_getElem? (i := 667) (by decide +kernel), List.mem_of_getElem? (i := 902) (by decide +kernel), List.mem_of_getElem? (i := 903) (by decide +kernel)⟩
theorem lw_p67 : lw_okq (⟨"PostmenMeetModel", "isNew", "(II)Z"⟩, 29) := ⟨⟨by decide +kernel, by decide +kernel⟩, List.mem_of_getElem? (i := 667) (by decide +kernel), List.mem_of_getElem? (i := 906) (by decide +kernel), List.mem_of_getElem? (i := 907) (by decide +kernel)⟩
theorem lw_p68 : lw_okq (⟨"PostmenMeetModel", "acts", "(II)V"⟩, 29) := ⟨⟨by decide +kernel, by decide +kernel⟩, List.mem_of_getElem? (i := 667) (by decide +kernel), List.mem_of_getElem? (i := 910) (by decide +kernel), List.mem_of_getElem? (i := 911) (by decide +kernel)⟩
theorem lw_p69 : lw_okq (⟨"PostmenMeetModel", "turns", "(II)V"⟩, 29) := ⟨⟨by decide +kernel, by decide +kernel⟩, List.mem_of_getElem? (i := 667) (by decide +kernel), List.mem_of_getElem? (i := 914) (by decide +kernel), List.mem_of_getElem? (i := 915) (by decide +kernel)⟩
theorem lw_p70 : lw_okq (⟨"PostmenMeetModel", "goes", "(II)V"⟩, 29) := ⟨⟨by decide +kernel, by decide +kernel⟩, List.mem_of_getElem? (i := 667) (by decide +kernel), List.mem_of_getElem? (i := 918) (by decide +kernel), List.mem_of_getElem? (i := 919) (by decide +kernel)⟩
theorem lw_p71 : lw_okq (⟨"PostmenMeetModel", "stands", "(II)Z"⟩, 29) := ⟨⟨by decide +kernel, by decide +kernel⟩, List.mem_of_getElem? (i := 667) (by decide +kernel), List.mem_of_getElem? (i := 922) (by decide +kernel), List.mem_of_getElem? (i := 923) (by decide +kernel)⟩
theorem lw_p72 : lw_okq (⟨"PostmenMeetModel", "manOf", "(III)I"⟩, 29) := ⟨⟨by decide +kernel, by decide +kernel⟩, List.mem_of_getElem? (i := 667) (by decide +kernel), List.mem_of_getElem? (i := 926) (by decide +kernel), List.mem_of_getElem? (i := 927) (by decide +kernel)⟩
theorem lw_p73 : lw_okq (⟨"PostmenMeetModel", "bagPlace", "(II)I"⟩, 29) := ⟨⟨by decide +kernel, by decide +kernel⟩, List.mem_of_getElem? (i := 667) (by decide +kernel), List.mem_of_getElem? (i := 934) (by decide +kernel), List.mem_of_getElem? (i := 935) (by decide +kernel)⟩
theorem lw_p74 : lw_okq (⟨"PostmenMeetModel", "holder", "(II)I"⟩, 29) := ⟨⟨by decide +kernel, by decide +kernel⟩, List.mem_of_getElem? (i := 667) (by decide +kernel), List.mem_of_getElem? (i := 938) (by decide +kernel), List.mem_of_getElem? (i := 939) (by decide +kernel)⟩
theorem lw_p75 : lw_okq (⟨"PostmenMeetModel", "metOf", "(III)I"⟩, 29) := ⟨⟨by decide +kernel, by decide +kernel⟩, List.mem_of_getElem? (i := 667) (by decide +kernel), List.mem_of_getElem? (i := 946) (by decide +kernel), List.mem_of_getElem? (i := 947) (by decide +kernel)⟩
theorem lw_p76 : lw_okq (⟨"PostmenMeetModel", "meetingsOf", "(I)I"⟩, 29) := ⟨⟨by decide +kernel, by decide +kernel⟩, List.mem_of_getElem? (i := 667) (by decide +kernel), List.mem_of_getElem? (i := 954) (by decide +kernel), List.mem_of_getElem? (i := 955) (by decide +kernel)⟩
theorem lw_p77 : lw_okq (⟨"PostmenMeetModel", "carriedOf", "(III)I"⟩, 29) := ⟨⟨by decide +kernel, by decide +kernel⟩, List.mem_of_getElem? (i := 667) (by decide +kernel), List.mem_of_getElem? (i := 962) (by decide +kernel), List.mem_of_getElem? (i := 963) (by decide +kernel)⟩
theorem lw_p78 : lw_okq (⟨"PostmenMeetModel", "namesOffOf", "(II)I"⟩, 29) := ⟨⟨by decide +kernel, by decide +kernel⟩, List.mem_of_getElem? (i := 667) (by decide +kernel), List.mem_of_getElem? (i := 970) (by decide +kernel), List.mem_of_getElem? (i := 971) (by decide +kernel)⟩
theorem lw_p79 : lw_okq (⟨"PostmenMeetModel", "findAlone", "(I)V"⟩, 29) := ⟨⟨by decide +kernel, by decide +kernel⟩, List.mem_of_getElem? (i := 667) (by decide +kernel), List.mem_of_getElem? (i := 974) (by decide +kernel), List.mem_of_getElem? (i := 975) (by decide +kernel)⟩
def lw_privs_5 : List (MethodName × Nat) := [(⟨"PostmenMeetModel", "isThere", "(I)Z"⟩, 29), (⟨"PostmenMeetModel", "findGroup", "(II)I"⟩, 29), (⟨"PostmenMeetModel", "areTogether", "(III)Z"⟩, 29), (⟨"PostmenMeetModel", "isNew", "(II)Z"⟩, 29), (⟨"PostmenMeetModel", "acts", "(II)V"⟩, 29), (⟨"PostmenMeetModel", "turns", "(II)V"⟩, 29), (⟨"PostmenMeetModel", "goes", "(II)V"⟩, 29), (⟨"PostmenMeetModel", "stands", "(II)Z"⟩, 29), (⟨"PostmenMeetModel", "manOf", "(III)I"⟩, 29), (⟨"PostmenMeetModel", "bagPlace", "(II)I"⟩, 29), (⟨"PostmenMeetModel", "holder", "(II)I"⟩, 29), (⟨"PostmenMeetModel", "metOf", "(III)I"⟩, 29), (⟨"PostmenMeetModel", "meetingsOf", "(I)I"⟩, 29), (⟨"PostmenMeetModel", "carriedOf", "(III)I"⟩, 29), (⟨"PostmenMeetModel", "namesOffOf", "(II)I"⟩, 29), (⟨"PostmenMeetModel", "findAlone", "(I)V"⟩, 29)]
theorem lw_r5 : ∀ q ∈ lw_privs_5, lw_okq q := List.forall_mem_cons.mpr ⟨lw_p64, List.forall_mem_cons.mpr ⟨lw_p65, List.forall_mem_cons.mpr ⟨lw_p66, List.forall_mem_cons.mpr ⟨lw_p67, List.forall_mem_cons.mpr ⟨lw_p68, List.forall_mem_cons.mpr ⟨lw_p69, List.forall_mem_cons.mpr ⟨lw_p70, List.forall_mem_cons.mpr ⟨lw_p71, List.forall_mem_cons.mpr ⟨lw_p72, List.forall_mem_cons.mpr ⟨lw_p73, List.forall_mem_cons.mpr ⟨lw_p74, List.forall_mem_cons.mpr ⟨lw_p75, List.forall_mem_cons.mpr ⟨lw_p76, List.forall_mem_cons.mpr ⟨lw_p77, List.forall_mem_cons.mpr ⟨lw_p78, List.forall_mem_cons.mpr ⟨lw_p79, fun _ h => absurd h List.not_mem_nil⟩⟩⟩⟩⟩⟩⟩⟩⟩⟩⟩⟩⟩⟩⟩⟩
theorem lw_p80 : lw_okq (⟨"PostmenMeetModel", "isTrueOf", "(I)I"⟩, 29) := ⟨⟨by decide +kernel, by decide +kernel⟩, List.mem_of_getElem? (i := 667) (by decide +kernel), List.mem_of_getElem? (i := 982) (by decide +kernel), List.mem_of_getElem? (i := 983) (by decide +kernel)⟩
theorem lw_p81 : lw_okq (⟨"PostmenMeetModel", "againNow", "()I"⟩, 29) := ⟨⟨by decide +kernel, by decide +kernel⟩, List.mem_of_getElem? (i := 667) (by decide +kernel), List.mem_of_getElem? (i := 990) (by decide +kernel), List.mem_of_getElem? (i := 991) (by decide +kernel)⟩
theorem lw_p82 : lw_okq (⟨"PostmenMeetModel", "isPace", "(I)Z"⟩, 29) := ⟨⟨by decide +kernel, by decide +kernel⟩, List.mem_of_getElem? (i := 667) (by decide +kernel), List.mem_of_getElem? (i := 998) (by decide +kernel), List.mem_of_getElem? (i := 999) (by decide +kernel)⟩
theorem lw_p83 : lw_okq (⟨"PostmenMeetModel", "findLetter", "(III)V"⟩, 29) := ⟨⟨by decide +kernel, by decide +kernel⟩, List.mem_of_getElem? (i := 667) (by decide +kernel), List.mem_of_getElem? (i := 1006) (by decide +kernel), List.mem_of_getElem? (i := 1007) (by decide +kernel)⟩
theorem lw_p84 : lw_okq (⟨"PostmenMeetModel", "giveInOf", "(III)I"⟩, 29) := ⟨⟨by decide +kernel, by decide +kernel⟩, List.mem_of_getElem? (i := 667) (by decide +kernel), List.mem_of_getElem? (i := 1014) (by decide +kernel), List.mem_of_getElem? (i := 1015) (by decide +kernel)⟩
theorem lw_p85 : lw_okq (⟨"PostmenMeetModel", "servedOf", "(II)I"⟩, 29) := ⟨⟨by decide +kernel, by decide +kernel⟩, List.mem_of_getElem? (i := 667) (by decide +kernel), List.mem_of_getElem? (i := 1026) (by decide +kernel), List.mem_of_getElem? (i := 1027) (by decide +kernel)⟩
theorem lw_p86 : lw_okq (⟨"PostmenMeetModel", "isServed", "(II)Z"⟩, 29) := ⟨⟨by decide +kernel, by decide +kernel⟩, List.mem_of_getElem? (i := 667) (by decide +kernel), List.mem_of_getElem? (i := 1030) (by decide +kernel), List.mem_of_getElem? (i := 1031) (by decide +kernel)⟩
theorem lw_p87 : lw_okq (⟨"PostmenMeetModel", "fewestOf", "(II)I"⟩, 29) := ⟨⟨by decide +kernel, by decide +kernel⟩, List.mem_of_getElem? (i := 667) (by decide +kernel), List.mem_of_getElem? (i := 1038) (by decide +kernel), List.mem_of_getElem? (i := 1039) (by decide +kernel)⟩
theorem lw_p88 : lw_okq (⟨"PostmenMeetModel", "lateOf", "()I"⟩, 29) := ⟨⟨by decide +kernel, by decide +kernel⟩, List.mem_of_getElem? (i := 667) (by decide +kernel), List.mem_of_getElem? (i := 1064) (by decide +kernel), List.mem_of_getElem? (i := 1065) (by decide +kernel)⟩
def lw_privs_6 : List (MethodName × Nat) := [(⟨"PostmenMeetModel", "isTrueOf", "(I)I"⟩, 29), (⟨"PostmenMeetModel", "againNow", "()I"⟩, 29), (⟨"PostmenMeetModel", "isPace", "(I)Z"⟩, 29), (⟨"PostmenMeetModel", "findLetter", "(III)V"⟩, 29), (⟨"PostmenMeetModel", "giveInOf", "(III)I"⟩, 29), (⟨"PostmenMeetModel", "servedOf", "(II)I"⟩, 29), (⟨"PostmenMeetModel", "isServed", "(II)Z"⟩, 29), (⟨"PostmenMeetModel", "fewestOf", "(II)I"⟩, 29), (⟨"PostmenMeetModel", "lateOf", "()I"⟩, 29)]
theorem lw_r6 : ∀ q ∈ lw_privs_6, lw_okq q := List.forall_mem_cons.mpr ⟨lw_p80, List.forall_mem_cons.mpr ⟨lw_p81, List.forall_mem_cons.mpr ⟨lw_p82, List.forall_mem_cons.mpr ⟨lw_p83, List.forall_mem_cons.mpr ⟨lw_p84, List.forall_mem_cons.mpr ⟨lw_p85, List.forall_mem_cons.mpr ⟨lw_p86, List.forall_mem_cons.mpr ⟨lw_p87, List.forall_mem_cons.mpr ⟨lw_p88, fun _ h => absurd h List.not_mem_nil⟩⟩⟩⟩⟩⟩⟩⟩⟩
def lw_privs : List (MethodName × Nat) := lw_privs_1 ++ (lw_privs_2 ++ (lw_privs_3 ++ (lw_privs_4 ++ (lw_privs_5 ++ (lw_privs_6)))))
def lw_tbl : List Cond := k2_sels lw_privs ++ tables_1
theorem lw_privs_ok : ∀ q ∈ lw_privs, lw_okq q := by
  show ∀ q ∈ lw_privs_1 ++ (lw_privs_2 ++ (lw_privs_3 ++ (lw_privs_4 ++ (lw_privs_5 ++ (lw_privs_6))))), lw_okq q
  exact List.forall_mem_append.mpr ⟨lw_r1, List.forall_mem_append.mpr ⟨lw_r2, List.forall_mem_append.mpr ⟨lw_r3, List.forall_mem_append.mpr ⟨lw_r4, List.forall_mem_append.mpr ⟨lw_r5, lw_r6⟩⟩⟩⟩⟩
end
section
/-! ===== BEGIN words of one list among another's, by their places ===== -/
theorem goodIn_r {big : List Cond} (ws : List Cond) (ps : List Nat) (hp : ws = ps.filterMap (fun i => big[i]?)) (h : ws.all goodWord = true) : GoodIn big ws := by
  intro w hw
  have h1 := List.all_eq_true.mp h w hw
  rw [hp] at hw
  obtain ⟨i, -, hi⟩ := List.mem_filterMap.mp hw
  have hm : w ∈ big := by first | exact List.mem_of_getElem? hi | exact List.getElem?_mem hi
  exact ⟨hm, good_of_word h1⟩
theorem goodIn_app {big a b : List Cond} (ha : GoodIn big a) (hb : GoodIn big b) : GoodIn big (a ++ b) := fun w h => (List.mem_append.mp h).elim (ha w) (hb w)
theorem goodIn_ca {big a b : List Cond} {c : Cond} (ha : GoodIn big (c :: a)) (hb : GoodIn big b) : GoodIn big (c :: (a ++ b)) := fun w h => (List.mem_cons.mp h).elim (fun e => ha w (List.mem_cons.mpr (Or.inl e))) (fun h => (List.mem_append.mp h).elim (fun h => ha w (List.mem_cons.mpr (Or.inr h))) (hb w))
theorem goodIn_sub {big ws : List Cond} (hm : ∀ w ∈ ws, w ∈ big) (h : ws.all goodWord = true) : GoodIn big ws := fun w hw => ⟨hm w hw, good_of_word (List.all_eq_true.mp h w hw)⟩
/-! ===== END ===== -/

def RX0 : String := "PostmenMeet$Course"
def TX0 : u_T := fun k => match k with
  | 0 => ("PostmenMeet$Course", "place", "[[I", true)
  | 1 => ("PostmenMeet$Course", "facing", "[[I", true)
  | 2 => ("PostmenMeet$Course", "load", "[[I", true)
  | 3 => ("PostmenMeet$Course", "alone", "[[I", true)
  | 4 => ("PostmenMeet$Course", "pairs", "[J", true)
  | _ => ("PostmenMeet$Course", "men", "I", false)
def tyX0 : Nat → FieldType := fun k => match k with
  | 0 => .array (.array .int)
  | 1 => .array (.array .int)
  | 2 => .array (.array .int)
  | 3 => .array (.array .int)
  | 4 => .array .long
  | _ => .int
abbrev wsX00 : List Cond := u_ws RX0 TX0 6
theorem nmX0 : ∀ a, a < 6 → ∀ b, b < 6 → a ≠ b → (TX0 a).2.1 ≠ (TX0 b).2.1 := by decide +kernel
theorem tyX0_ok : ∀ k, k < 6 → parseFieldDescriptor (TX0 k).2.2.1 = some (tyX0 k) := by decide +kernel
abbrev cX0_init : ByteArray := prog_2_method_1_code
def yX0_init : MethodName := ⟨RX0, "<init>", "()V"⟩
abbrev cX0_recordTogether : ByteArray := prog_2_method_2_code
def yX0_recordTogether : MethodName := ⟨RX0, "recordTogether", "(LPostmenMeet$Walk;)V"⟩
abbrev cX0_recordAlone : ByteArray := prog_2_method_3_code
def yX0_recordAlone : MethodName := ⟨RX0, "recordAlone", "(LPostmenMeet$Walk;)V"⟩
abbrev cX0_holder : ByteArray := prog_2_method_4_code
def yX0_holder : MethodName := ⟨RX0, "holder", "(II)I"⟩
abbrev cX0_bagPlace : ByteArray := prog_2_method_5_code
def yX0_bagPlace : MethodName := ⟨RX0, "bagPlace", "(II)I"⟩
abbrev cX0_asNamesOff : ByteArray := prog_2_method_6_code
def yX0_asNamesOff : MethodName := ⟨RX0, "asNamesOff", "(I)Z"⟩
abbrev cX0_asAtFirst : ByteArray := prog_2_method_7_code
def yX0_asAtFirst : MethodName := ⟨RX0, "asAtFirst", "(I)Z"⟩
abbrev cX0_bagThere : ByteArray := prog_2_method_8_code
def yX0_bagThere : MethodName := ⟨RX0, "bagThere", "(II)I"⟩
abbrev cX0_bagsThere : ByteArray := prog_2_method_9_code
def yX0_bagsThere : MethodName := ⟨RX0, "bagsThere", "(II)I"⟩
abbrev cX0_taken : ByteArray := prog_2_method_10_code
def yX0_taken : MethodName := ⟨RX0, "taken", "(II)I"⟩
abbrev cX0_bagComes : ByteArray := prog_2_method_11_code
def yX0_bagComes : MethodName := ⟨RX0, "bagComes", "(III)I"⟩
abbrev cX0_comes : ByteArray := prog_2_method_12_code
def yX0_comes : MethodName := ⟨RX0, "comes", "(III)I"⟩
abbrev cX0_latestMinute : ByteArray := prog_2_method_13_code
def yX0_latestMinute : MethodName := ⟨RX0, "latestMinute", "(III)I"⟩
def RX1 : String := "PostmenMeet$Letters"
def TX1 : u_T := fun k => match k with
  | 0 => ("PostmenMeet$Letters", "from", "[I", true)
  | 1 => ("PostmenMeet$Letters", "minute", "[I", true)
  | 2 => ("PostmenMeet$Letters", "to", "[I", true)
  | 3 => ("PostmenMeet$Letters", "told", "[I", true)
  | 4 => ("PostmenMeet$Letters", "inBag", "[I", true)
  | 5 => ("PostmenMeet$Letters", "size", "I", false)
  | _ => ("PostmenMeet$Letters", "decided", "I", false)
def tyX1 : Nat → FieldType := fun k => match k with
  | 0 => .array .int
  | 1 => .array .int
  | 2 => .array .int
  | 3 => .array .int
  | 4 => .array .int
  | 5 => .int
  | _ => .int
abbrev wsX10 : List Cond := u_ws RX1 TX1 7
theorem nmX1 : ∀ a, a < 7 → ∀ b, b < 7 → a ≠ b → (TX1 a).2.1 ≠ (TX1 b).2.1 := by decide +kernel
theorem tyX1_ok : ∀ k, k < 7 → parseFieldDescriptor (TX1 k).2.2.1 = some (tyX1 k) := by decide +kernel
abbrev cX1_init : ByteArray := prog_3_method_1_code
def yX1_init : MethodName := ⟨RX1, "<init>", "()V"⟩
abbrev cX1_mayBe : ByteArray := prog_3_method_2_code
def yX1_mayBe : MethodName := ⟨RX1, "mayBe", "(IIII)Z"⟩
abbrev cX1_add : ByteArray := prog_3_method_3_code
def yX1_add : MethodName := ⟨RX1, "add", "(IIII)V"⟩
abbrev cX1_comeAsTold : ByteArray := prog_3_method_4_code
def yX1_comeAsTold : MethodName := ⟨RX1, "comeAsTold", "(LPostmenMeet$Walk;)Z"⟩
abbrev cX1_comesNow : ByteArray := prog_3_method_5_code
def yX1_comesNow : MethodName := ⟨RX1, "comesNow", "(ILPostmenMeet$Walk;)Z"⟩
def RX2 : String := "PostmenMeet$Road"
def TX2 : u_T := fun k => match k with
  | 0 => ("PostmenMeet$Road", "text", "[I", true)
  | 1 => ("PostmenMeet$Road", "pace", "[I", true)
  | 2 => ("PostmenMeet$Road", "facing", "[I", true)
  | 3 => ("PostmenMeet$Road", "setOut", "[I", true)
  | 4 => ("PostmenMeet$Road", "housePace", "[I", true)
  | 5 => ("PostmenMeet$Road", "bytes", "I", false)
  | 6 => ("PostmenMeet$Road", "fault", "I", false)
  | 7 => ("PostmenMeet$Road", "length", "I", false)
  | 8 => ("PostmenMeet$Road", "men", "I", false)
  | _ => ("PostmenMeet$Road", "houses", "I", false)
def tyX2 : Nat → FieldType := fun k => match k with
  | 0 => .array .int
  | 1 => .array .int
  | 2 => .array .int
  | 3 => .array .int
  | 4 => .array .int
  | 5 => .int
  | 6 => .int
  | 7 => .int
  | 8 => .int
  | _ => .int
abbrev wsX20 : List Cond := u_ws RX2 TX2 10
theorem nmX2 : ∀ a, a < 10 → ∀ b, b < 10 → a ≠ b → (TX2 a).2.1 ≠ (TX2 b).2.1 := by decide +kernel
theorem tyX2_ok : ∀ k, k < 10 → parseFieldDescriptor (TX2 k).2.2.1 = some (tyX2 k) := by decide +kernel
abbrev cX2_init : ByteArray := prog_4_method_1_code
def yX2_init : MethodName := ⟨RX2, "<init>", "()V"⟩
abbrev cX2_append : ByteArray := prog_4_method_2_code
def yX2_append : MethodName := ⟨RX2, "append", "(I)V"⟩
abbrev cX2_parse : ByteArray := prog_4_method_3_code
def yX2_parse : MethodName := ⟨RX2, "parse", "()V"⟩
abbrev cX2_firstFault : ByteArray := prog_4_method_4_code
def yX2_firstFault : MethodName := ⟨RX2, "firstFault", "()I"⟩
abbrev cX2_takeHouse : ByteArray := prog_4_method_5_code
def yX2_takeHouse : MethodName := ⟨RX2, "takeHouse", "(I)I"⟩
abbrev cX2_takeMan : ByteArray := prog_4_method_6_code
def yX2_takeMan : MethodName := ⟨RX2, "takeMan", "(I)I"⟩
abbrev cX2_isTaken : ByteArray := prog_4_method_7_code
def yX2_isTaken : MethodName := ⟨RX2, "isTaken", "(I)Z"⟩
abbrev cX2_isByte : ByteArray := prog_4_method_8_code
def yX2_isByte : MethodName := ⟨RX2, "isByte", "(II)Z"⟩
abbrev cX2_isFigure : ByteArray := prog_4_method_9_code
def yX2_isFigure : MethodName := ⟨RX2, "isFigure", "(I)Z"⟩
abbrev cX2_wrongNumber : ByteArray := prog_4_method_10_code
def yX2_wrongNumber : MethodName := ⟨RX2, "wrongNumber", "(III)I"⟩
abbrev cX2_number : ByteArray := prog_4_method_11_code
def yX2_number : MethodName := ⟨RX2, "number", "(I)I"⟩
def RX3 : String := "PostmenMeet$Sheets"
def TX3 : u_T := fun k => match k with
  | 0 => ("PostmenMeet$Sheets", "items", "[[I", true)
  | 1 => ("PostmenMeet$Sheets", "form", "[I", true)
  | _ => ("PostmenMeet$Sheets", "size", "[I", true)
def tyX3 : Nat → FieldType := fun k => match k with
  | 0 => .array (.array .int)
  | 1 => .array .int
  | _ => .array .int
abbrev wsX30 : List Cond := u_ws RX3 TX3 3
theorem nmX3 : ∀ a, a < 3 → ∀ b, b < 3 → a ≠ b → (TX3 a).2.1 ≠ (TX3 b).2.1 := by decide +kernel
theorem tyX3_ok : ∀ k, k < 3 → parseFieldDescriptor (TX3 k).2.2.1 = some (tyX3 k) := by decide +kernel
abbrev cX3_init : ByteArray := prog_5_method_1_code
def yX3_init : MethodName := ⟨RX3, "<init>", "()V"⟩
abbrev cX3_isLost : ByteArray := prog_5_method_2_code
def yX3_isLost : MethodName := ⟨RX3, "isLost", "(I)Z"⟩
abbrev cX3_renew : ByteArray := prog_5_method_3_code
def yX3_renew : MethodName := ⟨RX3, "renew", "(III)V"⟩
abbrev cX3_drop : ByteArray := prog_5_method_4_code
def yX3_drop : MethodName := ⟨RX3, "drop", "(I)V"⟩
abbrev cX3_wrongItem : ByteArray := prog_5_method_5_code
def yX3_wrongItem : MethodName := ⟨RX3, "wrongItem", "(III)I"⟩
abbrev cX3_hasRun : ByteArray := prog_5_method_6_code
def yX3_hasRun : MethodName := ⟨RX3, "hasRun", "(III)Z"⟩
abbrev cX3_put : ByteArray := prog_5_method_7_code
def yX3_put : MethodName := ⟨RX3, "put", "(III)V"⟩
def RX4 : String := "PostmenMeet$Use"
def TX4 : u_T := fun k => match k with
  | 0 => ("PostmenMeet$Use", "standMinute", "[I", true)
  | 1 => ("PostmenMeet$Use", "standMany", "[I", true)
  | 2 => ("PostmenMeet$Use", "lawOfTwo", "I", false)
  | _ => ("PostmenMeet$Use", "lawOfMore", "I", false)
def tyX4 : Nat → FieldType := fun k => match k with
  | 0 => .array .int
  | 1 => .array .int
  | 2 => .int
  | _ => .int
abbrev wsX40 : List Cond := u_ws RX4 TX4 4
theorem nmX4 : ∀ a, a < 4 → ∀ b, b < 4 → a ≠ b → (TX4 a).2.1 ≠ (TX4 b).2.1 := by decide +kernel
theorem tyX4_ok : ∀ k, k < 4 → parseFieldDescriptor (TX4 k).2.2.1 = some (tyX4 k) := by decide +kernel
abbrev cX4_init : ByteArray := prog_6_method_1_code
def yX4_init : MethodName := ⟨RX4, "<init>", "()V"⟩
abbrev cX4_minutesStood : ByteArray := prog_6_method_2_code
def yX4_minutesStood : MethodName := ⟨RX4, "minutesStood", "(I)I"⟩
def RX5 : String := "PostmenMeet$Walk"
def TX5 : u_T := fun k => match k with
  | 0 => ("PostmenMeet$Walk", "place", "[I", true)
  | 1 => ("PostmenMeet$Walk", "before", "[I", true)
  | 2 => ("PostmenMeet$Walk", "facing", "[I", true)
  | 3 => ("PostmenMeet$Walk", "load", "[I", true)
  | 4 => ("PostmenMeet$Walk", "setOut", "[I", true)
  | 5 => ("PostmenMeet$Walk", "standFrom", "[I", true)
  | 6 => ("PostmenMeet$Walk", "standTill", "[I", true)
  | 7 => ("PostmenMeet$Walk", "men", "I", false)
  | 8 => ("PostmenMeet$Walk", "there", "I", false)
  | 9 => ("PostmenMeet$Walk", "end", "I", false)
  | 10 => ("PostmenMeet$Walk", "lawOfTwo", "I", false)
  | 11 => ("PostmenMeet$Walk", "lawOfMore", "I", false)
  | 12 => ("PostmenMeet$Walk", "time", "I", false)
  | _ => ("PostmenMeet$Walk", "pairs", "J", false)
def tyX5 : Nat → FieldType := fun k => match k with
  | 0 => .array .int
  | 1 => .array .int
  | 2 => .array .int
  | 3 => .array .int
  | 4 => .array .int
  | 5 => .array .int
  | 6 => .array .int
  | 7 => .int
  | 8 => .int
  | 9 => .int
  | 10 => .int
  | 11 => .int
  | 12 => .int
  | _ => .long
abbrev wsX50 : List Cond := u_ws RX5 TX5 14
theorem nmX5 : ∀ a, a < 14 → ∀ b, b < 14 → a ≠ b → (TX5 a).2.1 ≠ (TX5 b).2.1 := by decide +kernel
theorem tyX5_ok : ∀ k, k < 14 → parseFieldDescriptor (TX5 k).2.2.1 = some (tyX5 k) := by decide +kernel
abbrev cX5_init : ByteArray := prog_7_method_1_code
def yX5_init : MethodName := ⟨RX5, "<init>", "()V"⟩
abbrev cX5_start : ByteArray := prog_7_method_2_code
def yX5_start : MethodName := ⟨RX5, "start", "(LPostmenMeet$Road;LPostmenMeet$Use;I)V"⟩
abbrev cX5_standInstead : ByteArray := prog_7_method_3_code
def yX5_standInstead : MethodName := ⟨RX5, "standInstead", "(III)V"⟩
abbrev cX5_step : ByteArray := prog_7_method_4_code
def yX5_step : MethodName := ⟨RX5, "step", "()V"⟩
abbrev cX5_goOn : ByteArray := prog_7_method_5_code
def yX5_goOn : MethodName := ⟨RX5, "goOn", "()V"⟩
abbrev cX5_isStanding : ByteArray := prog_7_method_6_code
def yX5_isStanding : MethodName := ⟨RX5, "isStanding", "(I)Z"⟩
abbrev cX5_meet : ByteArray := prog_7_method_7_code
def yX5_meet : MethodName := ⟨RX5, "meet", "(I)V"⟩
abbrev cX5_handRound : ByteArray := prog_7_method_8_code
def yX5_handRound : MethodName := ⟨RX5, "handRound", "(I)V"⟩
abbrev cX5_firstThere : ByteArray := prog_7_method_9_code
def yX5_firstThere : MethodName := ⟨RX5, "firstThere", "(I)I"⟩
abbrev cX5_isBagAt : ByteArray := prog_7_method_10_code
def yX5_isBagAt : MethodName := ⟨RX5, "isBagAt", "(II)Z"⟩
def RX6 : String := "PostmenMeet"
def TX6 : u_T := fun k => match k with
  | 0 => ("PostmenMeet", "road", "LPostmenMeet$Road;", true)
  | 1 => ("PostmenMeet", "use", "LPostmenMeet$Use;", true)
  | 2 => ("PostmenMeet", "walk", "LPostmenMeet$Walk;", true)
  | 3 => ("PostmenMeet", "course", "LPostmenMeet$Course;", true)
  | 4 => ("PostmenMeet", "letters", "LPostmenMeet$Letters;", true)
  | 5 => ("PostmenMeet", "sheets", "LPostmenMeet$Sheets;", true)
  | 6 => ("PostmenMeet", "stale", "Z", false)
  | _ => ("PostmenMeet", "finding", "I", false)
def tyX6 : Nat → FieldType := fun k => match k with
  | 0 => .object "PostmenMeet$Road"
  | 1 => .object "PostmenMeet$Use"
  | 2 => .object "PostmenMeet$Walk"
  | 3 => .object "PostmenMeet$Course"
  | 4 => .object "PostmenMeet$Letters"
  | 5 => .object "PostmenMeet$Sheets"
  | 6 => .boolean
  | _ => .int
abbrev wsX60 : List Cond := u_ws RX6 TX6 8
theorem nmX6 : ∀ a, a < 8 → ∀ b, b < 8 → a ≠ b → (TX6 a).2.1 ≠ (TX6 b).2.1 := by decide +kernel
theorem tyX6_ok : ∀ k, k < 8 → parseFieldDescriptor (TX6 k).2.2.1 = some (tyX6 k) := by decide +kernel
abbrev cX6_init : ByteArray := prog_1_method_1_code
def yX6_init : MethodName := ⟨RX6, "<init>", "()V"⟩
abbrev cX6_type : ByteArray := prog_1_method_2_code
def yX6_type : MethodName := ⟨RX6, "type", "(I)I"⟩
abbrev cX6_wipe : ByteArray := prog_1_method_3_code
def yX6_wipe : MethodName := ⟨RX6, "wipe", "()I"⟩
abbrev cX6_fault : ByteArray := prog_1_method_4_code
def yX6_fault : MethodName := ⟨RX6, "fault", "()I"⟩
abbrev cX6_begins : ByteArray := prog_1_method_5_code
def yX6_begins : MethodName := ⟨RX6, "begins", "(II)I"⟩
abbrev cX6_house : ByteArray := prog_1_method_6_code
def yX6_house : MethodName := ⟨RX6, "house", "(I)I"⟩
abbrev cX6_law : ByteArray := prog_1_method_7_code
def yX6_law : MethodName := ⟨RX6, "law", "(II)I"⟩
abbrev cX6_stand : ByteArray := prog_1_method_8_code
def yX6_stand : MethodName := ⟨RX6, "stand", "(III)I"⟩
abbrev cX6_man : ByteArray := prog_1_method_9_code
def yX6_man : MethodName := ⟨RX6, "man", "(III)I"⟩
abbrev cX6_bag : ByteArray := prog_1_method_10_code
def yX6_bag : MethodName := ⟨RX6, "bag", "(III)I"⟩
abbrev cX6_met : ByteArray := prog_1_method_11_code
def yX6_met : MethodName := ⟨RX6, "met", "(III)I"⟩
abbrev cX6_meetings : ByteArray := prog_1_method_12_code
def yX6_meetings : MethodName := ⟨RX6, "meetings", "(I)I"⟩
abbrev cX6_carried : ByteArray := prog_1_method_13_code
def yX6_carried : MethodName := ⟨RX6, "carried", "(III)I"⟩
abbrev cX6_namesOff : ByteArray := prog_1_method_14_code
def yX6_namesOff : MethodName := ⟨RX6, "namesOff", "(II)I"⟩
abbrev cX6_isTrue : ByteArray := prog_1_method_15_code
def yX6_isTrue : MethodName := ⟨RX6, "isTrue", "(I)I"⟩
abbrev cX6_again : ByteArray := prog_1_method_16_code
def yX6_again : MethodName := ⟨RX6, "again", "()I"⟩
abbrev cX6_letter : ByteArray := prog_1_method_17_code
def yX6_letter : MethodName := ⟨RX6, "letter", "(IIII)I"⟩
abbrev cX6_giveIn : ByteArray := prog_1_method_18_code
def yX6_giveIn : MethodName := ⟨RX6, "giveIn", "(III)I"⟩
abbrev cX6_served : ByteArray := prog_1_method_19_code
def yX6_served : MethodName := ⟨RX6, "served", "(II)I"⟩
abbrev cX6_fewest : ByteArray := prog_1_method_20_code
def yX6_fewest : MethodName := ⟨RX6, "fewest", "(II)I"⟩
abbrev cX6_came : ByteArray := prog_1_method_21_code
def yX6_came : MethodName := ⟨RX6, "came", "(IIII)I"⟩
abbrev cX6_read : ByteArray := prog_1_method_22_code
def yX6_read : MethodName := ⟨RX6, "read", "(I)I"⟩
abbrev cX6_forget : ByteArray := prog_1_method_23_code
def yX6_forget : MethodName := ⟨RX6, "forget", "()I"⟩
abbrev cX6_late : ByteArray := prog_1_method_24_code
def yX6_late : MethodName := ⟨RX6, "late", "()I"⟩
abbrev cX6_stood : ByteArray := prog_1_method_25_code
def yX6_stood : MethodName := ⟨RX6, "stood", "(I)I"⟩
abbrev cX6_sheet : ByteArray := prog_1_method_26_code
def yX6_sheet : MethodName := ⟨RX6, "sheet", "(III)I"⟩
abbrev cX6_lose : ByteArray := prog_1_method_27_code
def yX6_lose : MethodName := ⟨RX6, "lose", "(I)I"⟩
abbrev cX6_lay : ByteArray := prog_1_method_28_code
def yX6_lay : MethodName := ⟨RX6, "lay", "(IIII)I"⟩
abbrev cX6_get : ByteArray := prog_1_method_29_code
def yX6_get : MethodName := ⟨RX6, "get", "(III)I"⟩
abbrev cX6_copy : ByteArray := prog_1_method_30_code
def yX6_copy : MethodName := ⟨RX6, "copy", "(IIIII)I"⟩
abbrev cX6_write : ByteArray := prog_1_method_31_code
def yX6_write : MethodName := ⟨RX6, "write", "(III)I"⟩
abbrev cX6_count : ByteArray := prog_1_method_32_code
def yX6_count : MethodName := ⟨RX6, "count", "(I)I"⟩
abbrev cX6_digest : ByteArray := prog_1_method_33_code
def yX6_digest : MethodName := ⟨RX6, "digest", "()J"⟩
abbrev cX6_isMan : ByteArray := prog_1_method_34_code
def yX6_isMan : MethodName := ⟨RX6, "isMan", "(I)Z"⟩
abbrev cX6_isPace : ByteArray := prog_1_method_35_code
def yX6_isPace : MethodName := ⟨RX6, "isPace", "(I)Z"⟩
abbrev cX6_isTime : ByteArray := prog_1_method_36_code
def yX6_isTime : MethodName := ⟨RX6, "isTime", "(I)Z"⟩
abbrev cX6_isSpan : ByteArray := prog_1_method_37_code
def yX6_isSpan : MethodName := ⟨RX6, "isSpan", "(II)Z"⟩
abbrev cX6_isSheet : ByteArray := prog_1_method_38_code
def yX6_isSheet : MethodName := ⟨RX6, "isSheet", "(I)Z"⟩
abbrev cX6_isForm : ByteArray := prog_1_method_39_code
def yX6_isForm : MethodName := ⟨RX6, "isForm", "(I)Z"⟩
abbrev cX6_allMen : ByteArray := prog_1_method_40_code
def yX6_allMen : MethodName := ⟨RX6, "allMen", "()I"⟩
abbrev cX6_find : ByteArray := prog_1_method_41_code
def yX6_find : MethodName := ⟨RX6, "find", "(I)I"⟩
abbrev cX6_refresh : ByteArray := prog_1_method_42_code
def yX6_refresh : MethodName := ⟨RX6, "refresh", "()V"⟩
abbrev cX6_serve : ByteArray := prog_1_method_43_code
def yX6_serve : MethodName := ⟨RX6, "serve", "(III)Z"⟩
abbrev cX6_housesVisited : ByteArray := prog_1_method_44_code
def yX6_housesVisited : MethodName := ⟨RX6, "housesVisited", "()I"⟩
abbrev cX6_stoodBy : ByteArray := prog_1_method_45_code
def yX6_stoodBy : MethodName := ⟨RX6, "stoodBy", "(IZ)I"⟩
abbrev cX6_pairShift : ByteArray := prog_1_method_46_code
def yX6_pairShift : MethodName := ⟨RX6, "pairShift", "(II)I"⟩
def RX7 : String := "PostmenMeetModel"
def TX7 : u_T := fun k => match k with
  | 0 => ("PostmenMeetModel", "forms", "[I", true)
  | 1 => ("PostmenMeetModel", "sizes", "[I", true)
  | 2 => ("PostmenMeetModel", "items", "[I", true)
  | 3 => ("PostmenMeetModel", "moved", "[I", true)
  | 4 => ("PostmenMeetModel", "latest", "I", false)
  | 5 => ("PostmenMeetModel", "text", "[I", true)
  | 6 => ("PostmenMeetModel", "typed", "I", false)
  | 7 => ("PostmenMeetModel", "at", "I", false)
  | 8 => ("PostmenMeetModel", "length", "I", false)
  | 9 => ("PostmenMeetModel", "men", "I", false)
  | 10 => ("PostmenMeetModel", "begin", "[I", true)
  | 11 => ("PostmenMeetModel", "faces", "[I", true)
  | 12 => ("PostmenMeetModel", "sets", "[I", true)
  | 13 => ("PostmenMeetModel", "houses", "I", false)
  | 14 => ("PostmenMeetModel", "housePace", "[I", true)
  | 15 => ("PostmenMeetModel", "laws", "[I", true)
  | 16 => ("PostmenMeetModel", "standFrom", "[I", true)
  | 17 => ("PostmenMeetModel", "standMany", "[I", true)
  | 18 => ("PostmenMeetModel", "there", "I", false)
  | 19 => ("PostmenMeetModel", "places", "[I", true)
  | 20 => ("PostmenMeetModel", "facing", "[I", true)
  | 21 => ("PostmenMeetModel", "bags", "[I", true)
  | 22 => ("PostmenMeetModel", "meets", "[Z", true)
  | 23 => ("PostmenMeetModel", "group", "[I", true)
  | 24 => ("PostmenMeetModel", "alone", "[I", true)
  | 25 => ("PostmenMeetModel", "letterBag", "I", false)
  | 26 => ("PostmenMeetModel", "letterTime", "I", false)
  | 27 => ("PostmenMeetModel", "letters", "I", false)
  | _ => ("PostmenMeetModel", "told", "[I", true)
def tyX7 : Nat → FieldType := fun k => match k with
  | 0 => .array .int
  | 1 => .array .int
  | 2 => .array .int
  | 3 => .array .int
  | 4 => .int
  | 5 => .array .int
  | 6 => .int
  | 7 => .int
  | 8 => .int
  | 9 => .int
  | 10 => .array .int
  | 11 => .array .int
  | 12 => .array .int
  | 13 => .int
  | 14 => .array .int
  | 15 => .array .int
  | 16 => .array .int
  | 17 => .array .int
  | 18 => .int
  | 19 => .array .int
  | 20 => .array .int
  | 21 => .array .int
  | 22 => .array .boolean
  | 23 => .array .int
  | 24 => .array .int
  | 25 => .int
  | 26 => .int
  | 27 => .int
  | _ => .array .int
abbrev wsX70 : List Cond := u_ws RX7 TX7 29
theorem nmX7 : ∀ a, a < 29 → ∀ b, b < 29 → a ≠ b → (TX7 a).2.1 ≠ (TX7 b).2.1 := by decide +kernel
theorem tyX7_ok : ∀ k, k < 29 → parseFieldDescriptor (TX7 k).2.2.1 = some (tyX7 k) := by decide +kernel
abbrev cX7_init : ByteArray := prog_9_method_1_code
def yX7_init : MethodName := ⟨RX7, "<init>", "()V"⟩
abbrev cX7_in : ByteArray := prog_9_method_3_code
def yX7_in : MethodName := ⟨RX7, "in", "(JJJ)Z"⟩
abbrev cX7_isTwo : ByteArray := prog_9_method_4_code
def yX7_isTwo : MethodName := ⟨RX7, "isTwo", "(I)Z"⟩
abbrev cX7_isTime : ByteArray := prog_9_method_5_code
def yX7_isTime : MethodName := ⟨RX7, "isTime", "(I)Z"⟩
abbrev cX7_finds : ByteArray := prog_9_method_6_code
def yX7_finds : MethodName := ⟨RX7, "finds", "(I)I"⟩
abbrev cX7_isSheet : ByteArray := prog_9_method_7_code
def yX7_isSheet : MethodName := ⟨RX7, "isSheet", "(I)Z"⟩
abbrev cX7_sheet : ByteArray := prog_9_method_8_code
def yX7_sheet : MethodName := ⟨RX7, "sheet", "(III)I"⟩
abbrev cX7_lose : ByteArray := prog_9_method_9_code
def yX7_lose : MethodName := ⟨RX7, "lose", "(I)I"⟩
abbrev cX7_lacks : ByteArray := prog_9_method_10_code
def yX7_lacks : MethodName := ⟨RX7, "lacks", "(III)I"⟩
abbrev cX7_cut : ByteArray := prog_9_method_11_code
def yX7_cut : MethodName := ⟨RX7, "cut", "(II)I"⟩
abbrev cX7_lay : ByteArray := prog_9_method_12_code
def yX7_lay : MethodName := ⟨RX7, "lay", "(IIII)I"⟩
abbrev cX7_get : ByteArray := prog_9_method_13_code
def yX7_get : MethodName := ⟨RX7, "get", "(III)I"⟩
abbrev cX7_copy : ByteArray := prog_9_method_14_code
def yX7_copy : MethodName := ⟨RX7, "copy", "(IIIII)I"⟩
abbrev cX7_type : ByteArray := prog_9_method_15_code
def yX7_type : MethodName := ⟨RX7, "type", "(I)I"⟩
abbrev cX7_wipe : ByteArray := prog_9_method_16_code
def yX7_wipe : MethodName := ⟨RX7, "wipe", "()I"⟩
abbrev cX7_here : ByteArray := prog_9_method_17_code
def yX7_here : MethodName := ⟨RX7, "here", "()I"⟩
abbrev cX7_clears : ByteArray := prog_9_method_18_code
def yX7_clears : MethodName := ⟨RX7, "clears", "()V"⟩
abbrev cX7_number : ByteArray := prog_9_method_19_code
def yX7_number : MethodName := ⟨RX7, "number", "(II)I"⟩
abbrev cX7_isTaken : ByteArray := prog_9_method_20_code
def yX7_isTaken : MethodName := ⟨RX7, "isTaken", "(I)Z"⟩
abbrev cX7_readsHouse : ByteArray := prog_9_method_21_code
def yX7_readsHouse : MethodName := ⟨RX7, "readsHouse", "()Z"⟩
abbrev cX7_readsMan : ByteArray := prog_9_method_22_code
def yX7_readsMan : MethodName := ⟨RX7, "readsMan", "()Z"⟩
abbrev cX7_reads : ByteArray := prog_9_method_23_code
def yX7_reads : MethodName := ⟨RX7, "reads", "()I"⟩
abbrev cX7_fault : ByteArray := prog_9_method_24_code
def yX7_fault : MethodName := ⟨RX7, "fault", "()I"⟩
abbrev cX7_isMan : ByteArray := prog_9_method_25_code
def yX7_isMan : MethodName := ⟨RX7, "isMan", "(I)Z"⟩
abbrev cX7_beginsOf : ByteArray := prog_9_method_26_code
def yX7_beginsOf : MethodName := ⟨RX7, "beginsOf", "(II)I"⟩
abbrev cX7_begins : ByteArray := prog_9_method_27_code
def yX7_begins : MethodName := ⟨RX7, "begins", "(II)I"⟩
abbrev cX7_house : ByteArray := prog_9_method_28_code
def yX7_house : MethodName := ⟨RX7, "house", "(I)I"⟩
abbrev cX7_law : ByteArray := prog_9_method_29_code
def yX7_law : MethodName := ⟨RX7, "law", "(II)I"⟩
abbrev cX7_stand : ByteArray := prog_9_method_30_code
def yX7_stand : MethodName := ⟨RX7, "stand", "(III)I"⟩
abbrev cX7_isThere : ByteArray := prog_9_method_31_code
def yX7_isThere : MethodName := ⟨RX7, "isThere", "(I)Z"⟩
abbrev cX7_stands : ByteArray := prog_9_method_32_code
def yX7_stands : MethodName := ⟨RX7, "stands", "(II)Z"⟩
abbrev cX7_goes : ByteArray := prog_9_method_33_code
def yX7_goes : MethodName := ⟨RX7, "goes", "(II)V"⟩
abbrev cX7_areTogether : ByteArray := prog_9_method_34_code
def yX7_areTogether : MethodName := ⟨RX7, "areTogether", "(III)Z"⟩
abbrev cX7_findGroup : ByteArray := prog_9_method_35_code
def yX7_findGroup : MethodName := ⟨RX7, "findGroup", "(II)I"⟩
abbrev cX7_isNew : ByteArray := prog_9_method_36_code
def yX7_isNew : MethodName := ⟨RX7, "isNew", "(II)Z"⟩
abbrev cX7_turns : ByteArray := prog_9_method_37_code
def yX7_turns : MethodName := ⟨RX7, "turns", "(II)V"⟩
abbrev cX7_acts : ByteArray := prog_9_method_38_code
def yX7_acts : MethodName := ⟨RX7, "acts", "(II)V"⟩
abbrev cX7_meet : ByteArray := prog_9_method_39_code
def yX7_meet : MethodName := ⟨RX7, "meet", "(I)V"⟩
abbrev cX7_runs : ByteArray := prog_9_method_40_code
def yX7_runs : MethodName := ⟨RX7, "runs", "(I)V"⟩
abbrev cX7_find : ByteArray := prog_9_method_41_code
def yX7_find : MethodName := ⟨RX7, "find", "()V"⟩
abbrev cX7_manOf : ByteArray := prog_9_method_42_code
def yX7_manOf : MethodName := ⟨RX7, "manOf", "(III)I"⟩
abbrev cX7_man : ByteArray := prog_9_method_43_code
def yX7_man : MethodName := ⟨RX7, "man", "(III)I"⟩
abbrev cX7_holder : ByteArray := prog_9_method_44_code
def yX7_holder : MethodName := ⟨RX7, "holder", "(II)I"⟩
abbrev cX7_bagPlace : ByteArray := prog_9_method_45_code
def yX7_bagPlace : MethodName := ⟨RX7, "bagPlace", "(II)I"⟩
abbrev cX7_bag : ByteArray := prog_9_method_46_code
def yX7_bag : MethodName := ⟨RX7, "bag", "(III)I"⟩
abbrev cX7_metOf : ByteArray := prog_9_method_47_code
def yX7_metOf : MethodName := ⟨RX7, "metOf", "(III)I"⟩
abbrev cX7_met : ByteArray := prog_9_method_48_code
def yX7_met : MethodName := ⟨RX7, "met", "(III)I"⟩
abbrev cX7_meetingsOf : ByteArray := prog_9_method_49_code
def yX7_meetingsOf : MethodName := ⟨RX7, "meetingsOf", "(I)I"⟩
abbrev cX7_meetings : ByteArray := prog_9_method_50_code
def yX7_meetings : MethodName := ⟨RX7, "meetings", "(I)I"⟩
abbrev cX7_carriedOf : ByteArray := prog_9_method_51_code
def yX7_carriedOf : MethodName := ⟨RX7, "carriedOf", "(III)I"⟩
abbrev cX7_carried : ByteArray := prog_9_method_52_code
def yX7_carried : MethodName := ⟨RX7, "carried", "(III)I"⟩
abbrev cX7_findAlone : ByteArray := prog_9_method_53_code
def yX7_findAlone : MethodName := ⟨RX7, "findAlone", "(I)V"⟩
abbrev cX7_namesOffOf : ByteArray := prog_9_method_54_code
def yX7_namesOffOf : MethodName := ⟨RX7, "namesOffOf", "(II)I"⟩
abbrev cX7_namesOff : ByteArray := prog_9_method_55_code
def yX7_namesOff : MethodName := ⟨RX7, "namesOff", "(II)I"⟩
abbrev cX7_isTrueOf : ByteArray := prog_9_method_56_code
def yX7_isTrueOf : MethodName := ⟨RX7, "isTrueOf", "(I)I"⟩
abbrev cX7_isTrue : ByteArray := prog_9_method_57_code
def yX7_isTrue : MethodName := ⟨RX7, "isTrue", "(I)I"⟩
abbrev cX7_againNow : ByteArray := prog_9_method_58_code
def yX7_againNow : MethodName := ⟨RX7, "againNow", "()I"⟩
abbrev cX7_again : ByteArray := prog_9_method_59_code
def yX7_again : MethodName := ⟨RX7, "again", "()I"⟩
abbrev cX7_findLetter : ByteArray := prog_9_method_60_code
def yX7_findLetter : MethodName := ⟨RX7, "findLetter", "(III)V"⟩
abbrev cX7_isPace : ByteArray := prog_9_method_61_code
def yX7_isPace : MethodName := ⟨RX7, "isPace", "(I)Z"⟩
abbrev cX7_isMinute : ByteArray := prog_9_method_62_code
def yX7_isMinute : MethodName := ⟨RX7, "isMinute", "(I)Z"⟩
abbrev cX7_letter : ByteArray := prog_9_method_63_code
def yX7_letter : MethodName := ⟨RX7, "letter", "(IIII)I"⟩
abbrev cX7_giveInOf : ByteArray := prog_9_method_64_code
def yX7_giveInOf : MethodName := ⟨RX7, "giveInOf", "(III)I"⟩
abbrev cX7_giveIn : ByteArray := prog_9_method_65_code
def yX7_giveIn : MethodName := ⟨RX7, "giveIn", "(III)I"⟩
abbrev cX7_isServed : ByteArray := prog_9_method_66_code
def yX7_isServed : MethodName := ⟨RX7, "isServed", "(II)Z"⟩
abbrev cX7_isService : ByteArray := prog_9_method_67_code
def yX7_isService : MethodName := ⟨RX7, "isService", "(II)Z"⟩
abbrev cX7_servedOf : ByteArray := prog_9_method_68_code
def yX7_servedOf : MethodName := ⟨RX7, "servedOf", "(II)I"⟩
abbrev cX7_served : ByteArray := prog_9_method_69_code
def yX7_served : MethodName := ⟨RX7, "served", "(II)I"⟩
abbrev cX7_ones : ByteArray := prog_9_method_70_code
def yX7_ones : MethodName := ⟨RX7, "ones", "(I)I"⟩
abbrev cX7_fewestOf : ByteArray := prog_9_method_71_code
def yX7_fewestOf : MethodName := ⟨RX7, "fewestOf", "(II)I"⟩
abbrev cX7_fewest : ByteArray := prog_9_method_72_code
def yX7_fewest : MethodName := ⟨RX7, "fewest", "(II)I"⟩
abbrev cX7_came : ByteArray := prog_9_method_73_code
def yX7_came : MethodName := ⟨RX7, "came", "(IIII)I"⟩
abbrev cX7_read : ByteArray := prog_9_method_74_code
def yX7_read : MethodName := ⟨RX7, "read", "(I)I"⟩
abbrev cX7_forget : ByteArray := prog_9_method_75_code
def yX7_forget : MethodName := ⟨RX7, "forget", "()I"⟩
abbrev cX7_lateOf : ByteArray := prog_9_method_76_code
def yX7_lateOf : MethodName := ⟨RX7, "lateOf", "()I"⟩
abbrev cX7_late : ByteArray := prog_9_method_77_code
def yX7_late : MethodName := ⟨RX7, "late", "()I"⟩
abbrev cX7_stood : ByteArray := prog_9_method_78_code
def yX7_stood : MethodName := ⟨RX7, "stood", "(I)I"⟩
abbrev cX7_write : ByteArray := prog_9_method_79_code
def yX7_write : MethodName := ⟨RX7, "write", "(III)I"⟩
abbrev cX7_count : ByteArray := prog_9_method_80_code
def yX7_count : MethodName := ⟨RX7, "count", "(I)I"⟩
abbrev cX7_digest : ByteArray := prog_9_method_81_code
def yX7_digest : MethodName := ⟨RX7, "digest", "()J"⟩
def RJ6 : String := "java/lang/Integer"
def TJ6 : u_T := fun k => match k with
  | _ => ("", "", "", false)
def tyJ6 : Nat → FieldType := fun k => match k with
  | _ => .int
abbrev wsJ60 : List Cond := u_ws RJ6 TJ6 0
theorem nmJ6 : ∀ a, a < 0 → ∀ b, b < 0 → a ≠ b → (TJ6 a).2.1 ≠ (TJ6 b).2.1 := by decide +kernel
theorem tyJ6_ok : ∀ k, k < 0 → parseFieldDescriptor (TJ6 k).2.2.1 = some (tyJ6 k) := by decide +kernel
abbrev cJ6_bitCount_0f7a4 : ByteArray := prog_10_method_49_code
def yJ6_bitCount_0f7a4 : MethodName := ⟨RJ6, "bitCount", "(I)I"⟩
def RJ13 : String := "java/lang/Long"
def TJ13 : u_T := fun k => match k with
  | _ => ("", "", "", false)
def tyJ13 : Nat → FieldType := fun k => match k with
  | _ => .int
abbrev wsJ130 : List Cond := u_ws RJ13 TJ13 0
theorem nmJ13 : ∀ a, a < 0 → ∀ b, b < 0 → a ≠ b → (TJ13 a).2.1 ≠ (TJ13 b).2.1 := by decide +kernel
theorem tyJ13_ok : ∀ k, k < 0 → parseFieldDescriptor (TJ13 k).2.2.1 = some (tyJ13 k) := by decide +kernel
abbrev cJ13_bitCount_95d88 : ByteArray := prog_11_method_50_code
def yJ13_bitCount_95d88 : MethodName := ⟨RJ13, "bitCount", "(J)I"⟩
def RJ9 : String := "java/lang/Math"
def TJ9 : u_T := fun k => match k with
  | _ => ("", "", "", false)
def tyJ9 : Nat → FieldType := fun k => match k with
  | _ => .int
abbrev wsJ90 : List Cond := u_ws RJ9 TJ9 0
theorem nmJ9 : ∀ a, a < 0 → ∀ b, b < 0 → a ≠ b → (TJ9 a).2.1 ≠ (TJ9 b).2.1 := by decide +kernel
theorem tyJ9_ok : ∀ k, k < 0 → parseFieldDescriptor (TJ9 k).2.2.1 = some (tyJ9 k) := by decide +kernel
abbrev cJ9_min_7cf53 : ByteArray := prog_12_method_69_code
def yJ9_min_7cf53 : MethodName := ⟨RJ9, "min", "(II)I"⟩
def RJ10 : String := "java/lang/System"
def TJ10 : u_T := fun k => match k with
  | _ => ("", "", "", false)
def tyJ10 : Nat → FieldType := fun k => match k with
  | _ => .int
abbrev wsJ100 : List Cond := u_ws RJ10 TJ10 0
theorem nmJ10 : ∀ a, a < 0 → ∀ b, b < 0 → a ≠ b → (TJ10 a).2.1 ≠ (TJ10 b).2.1 := by decide +kernel
theorem tyJ10_ok : ∀ k, k < 0 → parseFieldDescriptor (TJ10 k).2.2.1 = some (tyJ10 k) := by decide +kernel
def RJ7 : String := "java/util/Arrays"
def TJ7 : u_T := fun k => match k with
  | _ => ("", "", "", false)
def tyJ7 : Nat → FieldType := fun k => match k with
  | _ => .int
abbrev wsJ70 : List Cond := u_ws RJ7 TJ7 0
theorem nmJ7 : ∀ a, a < 0 → ∀ b, b < 0 → a ≠ b → (TJ7 a).2.1 ≠ (TJ7 b).2.1 := by decide +kernel
theorem tyJ7_ok : ∀ k, k < 0 → parseFieldDescriptor (TJ7 k).2.2.1 = some (tyJ7 k) := by decide +kernel
abbrev cJ7_fill_53178 : ByteArray := prog_14_method_103_code
def yJ7_fill_53178 : MethodName := ⟨RJ7, "fill", "([II)V"⟩
def RL : String := "PostmenMeetLaw"
abbrev cL_law : ByteArray := code
def yL_law : MethodName := ⟨RL, "law", "([I)Z"⟩
abbrev vwCl : List vw_C := [(RX0, TX0, 6), (RX1, TX1, 7), (RX2, TX2, 10), (RX3, TX3, 3), (RX4, TX4, 4), (RX5, TX5, 14), (RX6, TX6, 8), (RX7, TX7, 29)]
end
section
/-! THE ABSTRACT LAYER: a fixed world of 82 cells (0..61 the class's, 62..81 the reference's), ints and longs as Int -/
def ab_nth {α : Type} : List α → Nat → Option α
  | [], _ => none
  | a :: _, 0 => some a
  | _ :: l, n + 1 => ab_nth l n
def ab_set {α : Type} : List α → Nat → α → List α
  | [], _, _ => []
  | _ :: l, 0, v => v :: l
  | a :: l, n + 1, v => a :: ab_set l n v
theorem ab_nth_set_ne {α : Type} (v : α) : ∀ (l : List α) (i j : Nat), j ≠ i → ab_nth (ab_set l i v) j = ab_nth l j
  | [], _, _, _ => rfl
  | _ :: _, 0, 0, h => absurd rfl h
  | _ :: _, 0, _ + 1, _ => rfl
  | _ :: _, _ + 1, 0, _ => rfl
  | _ :: l, i + 1, j + 1, h => ab_nth_set_ne v l i j (fun q => h (by rw [q]))
theorem ab_nth_set_eq {α : Type} {v w : α} : ∀ (l : List α) (i : Nat), ab_nth (ab_set l i v) i = some w → w = v
  | [], _, h => by cases h
  | _ :: _, 0, h => by cases h; rfl
  | _ :: l, i + 1, h => ab_nth_set_eq l i h
abbrev ab_V : Type := Int ⊕ (Int ⊕ Nat)
abbrev a_I (z : Int) : ab_V := Sum.inl z
abbrev a_L (z : Int) : ab_V := Sum.inr (Sum.inl z)
abbrev a_R (k : Nat) : ab_V := Sum.inr (Sum.inr k)
/-- a heap: cell, place (a field's number, an index), number -/
abbrev ab_H : Type := Nat → Int → Int
/-- launch, addresses, classes, array classes (int, boolean, long, int[]), the script -/
abbrev ab_G : Type := Launch × (Nat → Nat) × va_G × (Nat → ClassId) × (Nat × (Nat → Int32))
def ab_cv (g : ab_G) : ab_V → Value
  | .inl z => .int (Int32.ofInt z)
  | .inr (.inl z) => .long (Int64.ofInt z)
  | .inr (.inr k) => .ref (g.2.1 k)
def ab_kdL : List (Nat ⊕ (Nat × Nat)) := [.inl 6, .inl 2, .inr (0, 80), .inr (0, 6), .inr (0, 6), .inr (0, 6), .inr (0, 6), .inl 4, .inr (0, 6), .inr (0, 6),
  .inl 5, .inr (0, 6), .inr (0, 6), .inr (0, 6), .inr (0, 6), .inr (0, 6), .inr (0, 6), .inr (0, 6),
  .inl 0, .inr (3, 6), .inr (3, 6), .inr (3, 6), .inr (3, 6), .inr (2, 401),
  .inl 1, .inr (0, 12), .inr (0, 12), .inr (0, 12), .inr (0, 12), .inr (0, 12),
  .inl 3, .inr (3, 4), .inr (0, 4), .inr (0, 4),
  .inr (0, 401), .inr (0, 401), .inr (0, 401), .inr (0, 401), .inr (0, 401), .inr (0, 401), .inr (0, 401), .inr (0, 401), .inr (0, 401), .inr (0, 401), .inr (0, 401), .inr (0, 401),
  .inr (0, 401), .inr (0, 401), .inr (0, 401), .inr (0, 401), .inr (0, 401), .inr (0, 401), .inr (0, 401), .inr (0, 401), .inr (0, 401), .inr (0, 401), .inr (0, 401), .inr (0, 401),
  .inr (0, 60), .inr (0, 60), .inr (0, 60), .inr (0, 60),
  .inl 7, .inr (0, 4), .inr (0, 4), .inr (0, 240), .inr (0, 60), .inr (0, 80), .inr (0, 6), .inr (0, 6), .inr (0, 6), .inr (0, 6), .inr (0, 2), .inr (0, 6), .inr (0, 6),
  .inr (0, 2406), .inr (0, 2406), .inr (0, 2406), .inr (1, 14436), .inr (0, 6), .inr (0, 401), .inr (0, 48)]
def ab_kd (k : Nat) : Option (Nat ⊕ (Nat × Nat)) := ab_nth ab_kdL k
def ab_rfL : List (List (Option Nat)) := [[some 1, some 7, some 10, some 18, some 24, some 30], [some 2, some 3, some 4, some 5, some 6], [], [], [], [], [], [some 8, some 9], [], [],
  [some 11, some 12, some 13, some 14, some 15, some 16, some 17], [], [], [], [], [], [], [],
  [some 19, some 20, some 21, some 22, some 23], [some 34, some 35, some 36, some 37, some 38, some 39], [some 40, some 41, some 42, some 43, some 44, some 45], [some 46, some 47, some 48, some 49, some 50, some 51], [some 52, some 53, some 54, some 55, some 56, some 57], [],
  [some 25, some 26, some 27, some 28, some 29], [], [], [], [], [],
  [some 31, some 32, some 33], [some 58, some 59, some 60, some 61], [], [],
  [], [], [], [], [], [], [], [], [], [], [], [], [], [], [], [], [], [], [], [], [], [], [], [], [], [], [], [],
  [some 63, some 64, some 65, some 66, none, some 67, none, none, none, none, some 68, some 69, some 70, none, some 71, some 72, some 73, some 74, none, some 75, some 76, some 77, some 78, some 79, some 80, none, none, none, some 81]]
def ab_rf (k j : Nat) : Option Nat := match ab_nth ab_rfL k with
  | some l => match ab_nth l j with
    | some (some r) => some r
    | _ => none
  | none => none
/-- fields of type long: Walk.pairs -/
def ab_lg (ci j : Nat) : Bool := ci == 5 && j == 13
def ab_nf (ci : Nat) : Nat := (ab_nth [6, 7, 10, 3, 4, 14, 8, 29] ci).getD 0
def ab_fv (g : ab_G) (h : ab_H) (k ci j : Nat) : Value := match ab_rf k j with
  | some r => .ref (g.2.1 r)
  | none => if ab_lg ci j = true then .long (Int64.ofInt (h k j)) else .int (Int32.ofInt (h k j))
def ab_ce (g : ab_G) (h : ab_H) (k : Nat) : va_E := match ab_kd k with
  | some (.inl ci) => .inr (ci, (List.range (ab_nf ci)).map (ab_fv g h k ci))
  | some (.inr (0, n)) => .inl (g.2.2.2.1 0, n, .inl (fun j => Int32.ofInt (h k j)))
  | some (.inr (1, n)) => .inl (g.2.2.2.1 1, n, .inl (fun j => Int32.ofInt (h k j)))
  | some (.inr (2, n)) => .inl (g.2.2.2.1 2, n, .inr (.inl (fun j => Int64.ofInt (h k j))))
  | some (.inr (_, n)) => .inl (g.2.2.2.1 3, n, .inr (.inr (.inr (.inr (fun j => (ab_rf k j).map g.2.1)))))
  | none => .inr (0, [])
def ab_ws (g : ab_G) (h : ab_H) : va_W := (List.range 82).map (fun k => (g.2.1 k, ab_ce g h k))
abbrev ab_ty (g : ab_G) : List (ClassId × FieldType) := [(g.2.2.2.1 0, .int), (g.2.2.2.1 1, .boolean), (g.2.2.2.1 2, .long), (g.2.2.2.1 3, .array .int)]
/-- one number of the heap is another -/
def ab_hs (h : ab_H) (k : Nat) (i v : Int) : ab_H := fun a b => if a = k ∧ b = i then v else h a b
theorem ab_hs_ne {h : ab_H} {k a : Nat} {i v b : Int} (n : ¬ (a = k ∧ b = i)) : ab_hs h k i v a b = h a b := if_neg n
theorem ab_hs_k {h : ab_H} {k a : Nat} {i v b : Int} (n : a ≠ k) : ab_hs h k i v a b = h a b := if_neg (fun q => n q.1)
theorem ab_hs_i {h : ab_H} {k a : Nat} {i v b : Int} (n : b ≠ i) : ab_hs h k i v a b = h a b := if_neg (fun q => n q.2)
theorem ab_hs_eq {h : ab_H} {k : Nat} {i v : Int} : ab_hs h k i v k i = v := if_pos ⟨rfl, rfl⟩
theorem ab_fv_ne {g : ab_G} {h h' : ab_H} {k : Nat} (e : ∀ b, h' k b = h k b) (ci j : Nat) : ab_fv g h' k ci j = ab_fv g h k ci j := by
  unfold ab_fv
  rw [e]
theorem ab_ce_ne {g : ab_G} {h h' : ab_H} {k : Nat} (e : ∀ b, h' k b = h k b) : ab_ce g h' k = ab_ce g h k := by
  have e1 : ab_fv g h' k = ab_fv g h k := by funext ci j; exact ab_fv_ne e ci j
  have e2 : h' k = h k := funext e
  unfold ab_ce
  rw [e1, e2]
theorem ab_ws_at {g : ab_G} {h : ab_H} {k : Nat} (hk : k < 82) : (ab_ws g h)[k]? = some (g.2.1 k, ab_ce g h k) := by
  unfold ab_ws
  rw [List.getElem?_map, List.getElem?_range hk]
  rfl
theorem ab_ws_set {g : ab_G} {h h' : ab_H} {k : Nat} (hk : k < 82) (e : ∀ a, a ≠ k → ∀ b, h' a b = h a b) : (ab_ws g h).set k (g.2.1 k, ab_ce g h' k) = ab_ws g h' := by
  apply List.ext_getElem?
  intro i
  by_cases hi : i < 82
  · rw [ab_ws_at hi]
    by_cases hik : i = k
    · subst hik
      rw [List.getElem?_set_self (by simp [ab_ws]; exact hk)]
    · rw [List.getElem?_set_ne (Ne.symm hik), ab_ws_at hi, ab_ce_ne (e i hik)]
  · rw [List.getElem?_eq_none (by simp [ab_ws]; omega), List.getElem?_eq_none (by simp [ab_ws]; omega)]
theorem ab_kd_lt {k : Nat} {q : Nat ⊕ (Nat × Nat)} (h : ab_kd k = some q) : k < 82 := by
  have key : ∀ {α : Type} (l : List α) (n : Nat) (a : α), ab_nth l n = some a → n < l.length := by
    intro α l
    induction l with
    | nil => intro n a h; cases h
    | cons b l ih =>
      intro n a h
      cases n with
      | zero => simp
      | succ n => have := ih n a h; simp; omega
  exact key ab_kdL k q h
/-- what fits -/
def ab_iok (z : Int) : Prop := -2147483648 ≤ z ∧ z ≤ 2147483647
def ab_lok (z : Int) : Prop := -9223372036854775808 ≤ z ∧ z ≤ 9223372036854775807
def ab_isL (k : Nat) (i : Int) : Prop := (k = 10 ∧ i = 13) ∨ k = 23
def ab_okH (h : ab_H) : Prop := (∀ k i, ab_lok (h k i)) ∧ ∀ k i, ¬ ab_isL k i → ab_iok (h k i)
def ab_okV : ab_V → Prop
  | .inl z => ab_iok z
  | .inr (.inl z) => ab_lok z
  | .inr (.inr _) => True
def ab_okS (ρ : List (Option ab_V)) (st : List ab_V) (h : ab_H) : Prop := ab_okH h ∧ (∀ v ∈ st, ab_okV v) ∧ ∀ k v, ab_nth ρ k = some (some v) → ab_okV v
theorem ab_okS.top {ρ : List (Option ab_V)} {st : List ab_V} {v : ab_V} {h : ab_H} (q : ab_okS ρ (v :: st) h) : ab_okV v := q.2.1 v List.mem_cons_self
theorem ab_okS.tl {ρ : List (Option ab_V)} {st : List ab_V} {v : ab_V} {h : ab_H} (q : ab_okS ρ (v :: st) h) : ab_okS ρ st h := ⟨q.1, fun w hw => q.2.1 w (List.mem_cons_of_mem _ hw), q.2.2⟩
theorem ab_okS.cons {ρ : List (Option ab_V)} {st : List ab_V} {v : ab_V} {h : ab_H} (q : ab_okS ρ st h) (hv : ab_okV v) : ab_okS ρ (v :: st) h := ⟨q.1, fun w hw => (List.mem_cons.mp hw).elim (fun e => e ▸ hv) (q.2.1 w), q.2.2⟩
theorem ab_okS.hp {ρ : List (Option ab_V)} {st : List ab_V} {h h' : ab_H} (q : ab_okS ρ st h) (hh : ab_okH h') : ab_okS ρ st h' := ⟨hh, q.2.1, q.2.2⟩
theorem ab_okS.loc {ρ : List (Option ab_V)} {st : List ab_V} {h : ab_H} (q : ab_okS ρ st h) {i : Nat} {w : Option ab_V} (hw : ∀ v, w = some v → ab_okV v) : ab_okS (ab_set ρ i w) st h := by
  refine ⟨q.1, q.2.1, fun k v hk => ?_⟩
  by_cases e : k = i
  · subst e
    exact hw v (ab_nth_set_eq _ _ hk).symm
  · rw [ab_nth_set_ne _ _ _ _ e] at hk
    exact q.2.2 k v hk
theorem ab_okH.set {h : ab_H} (q : ab_okH h) {k : Nat} {i v : Int} (hv : ab_iok v) : ab_okH (ab_hs h k i v) := by
  refine ⟨fun a b => ?_, fun a b hn => ?_⟩ <;> unfold ab_hs <;> split
  · unfold ab_iok at hv; unfold ab_lok; omega
  · exact q.1 a b
  · exact hv
  · exact q.2 a b hn
theorem ab_okH.setL {h : ab_H} (q : ab_okH h) {k : Nat} {i v : Int} (hk : ab_isL k i) (hv : ab_lok v) : ab_okH (ab_hs h k i v) := by
  refine ⟨fun a b => ?_, fun a b hn => ?_⟩ <;> unfold ab_hs <;> split
  · exact hv
  · exact q.1 a b
  · rename_i e; exact absurd (e.1 ▸ e.2 ▸ hk) hn
  · exact q.2 a b hn
theorem ab_ti {z : Int} (h : ab_iok z) : (Int32.ofInt z).toInt = z := Int32.toInt_ofInt_of_le (by have := h.1; omega) (by have := h.2; omega)
theorem ab_tl {z : Int} (h : ab_lok z) : (Int64.ofInt z).toInt = z := Int64.toInt_ofInt_of_le (by have := h.1; omega) (by have := h.2; omega)
theorem ab_lt {x y : Int} (hx : ab_iok x) (hy : ab_iok y) : Int32.ofInt x < Int32.ofInt y ↔ x < y := by rw [Int32.lt_iff_toInt_lt, ab_ti hx, ab_ti hy]
theorem ab_le {x y : Int} (hx : ab_iok x) (hy : ab_iok y) : Int32.ofInt x ≤ Int32.ofInt y ↔ x ≤ y := by rw [Int32.le_iff_toInt_le, ab_ti hx, ab_ti hy]
theorem ab_eq {x y : Int} (hx : ab_iok x) (hy : ab_iok y) : Int32.ofInt x = Int32.ofInt y ↔ x = y := by rw [← Int32.toInt_inj, ab_ti hx, ab_ti hy]
theorem ab_iok0 : ab_iok 0 := by unfold ab_iok; omega
theorem ab_okI (x : Int32) : ab_iok x.toInt := by
  have h1 := x.toInt_lt
  have h2 := x.le_toInt
  unfold ab_iok
  omega
theorem ab_okL (x : Int64) : ab_lok x.toInt := by
  have h1 := x.toInt_lt
  have h2 := x.le_toInt
  unfold ab_lok
  omega
theorem ab_in {i : Int} {n : Nat} (h0 : 0 ≤ i) (h1 : i < n) (hn : n < 2147483648) : vp_in (Int32.ofInt i) n ∧ (Int32.ofInt i).toNatClampNeg = i.toNat := by
  have hk : ab_iok i := by unfold ab_iok; omega
  have e : (Int32.ofInt i).toNatClampNeg = i.toNat := by
    show (Int32.ofInt i).toInt.toNat = _
    rw [ab_ti hk]
  refine ⟨?_, e⟩
  rintro (q | q)
  · have : Int32.ofInt i < Int32.ofInt 0 := q
    rw [ab_lt hk ab_iok0] at this
    omega
  · rw [e] at q
    omega
/-- the locals -/
def ab_lr (g : ab_G) (ls : Array Slot) (n : Nat) (ρ : List (Option ab_V)) : Prop := ls.size = n ∧ lv_wf ls ∧ ∀ k v, ab_nth ρ k = some (some v) → ls[k]? = some (.val (ab_cv g v))
def ab_ll (g : ab_G) (ρ : List (Option ab_V)) : List (Nat × Value) := (List.range ρ.length).filterMap (fun k => match ab_nth ρ k with
  | some (some v) => some (k, ab_cv g v)
  | _ => none)
theorem ab_ll_mem {g : ab_G} {ρ : List (Option ab_V)} {q : Nat × Value} : q ∈ ab_ll g ρ ↔ ∃ v, ab_nth ρ q.1 = some (some v) ∧ q.2 = ab_cv g v := by
  have key : ∀ {α : Type} (l : List α) (n : Nat) (a : α), ab_nth l n = some a → n < l.length := by
    intro α l
    induction l with
    | nil => intro n a h; cases h
    | cons b l ih =>
      intro n a h
      cases n with
      | zero => simp
      | succ n => have := ih n a h; simp; omega
  unfold ab_ll
  rw [List.mem_filterMap]
  constructor
  · rintro ⟨k, -, hk⟩
    split at hk
    · rename_i v hv
      cases hk
      exact ⟨v, hv, rfl⟩
    · cases hk
  · rintro ⟨v, h1, h2⟩
    refine ⟨q.1, List.mem_range.mpr (key _ _ _ h1), ?_⟩
    rw [h1]
    obtain ⟨a, b⟩ := q
    cases h2
    rfl
theorem ab_lr.has {g : ab_G} {ls : Array Slot} {n : Nat} {ρ : List (Option ab_V)} (h : ab_lr g ls n ρ) : lv_has ls n (ab_ll g ρ) := by
  refine ⟨h.1, h.2.1, fun q hq => ?_⟩
  obtain ⟨v, h1, h2⟩ := ab_ll_mem.mp hq
  rw [h2]
  exact h.2.2 _ v h1
/-- the place ahead holds no long -/
def ab_free (ρ : List (Option ab_V)) : Nat → Bool
  | 0 => true
  | i + 1 => match ab_nth ρ i with
    | some (some (.inr (.inl _))) => false
    | _ => true
theorem ab_cat1 {g : ab_G} {v : ab_V} (h : (ab_cv g v).category = 2) : ∃ z, v = a_L z := by
  rcases v with z | z | k
  · cases h
  · exact ⟨z, rfl⟩
  · cases h
theorem ab_free_ne {g : ab_G} {ρ : List (Option ab_V)} {i k : Nat} {v : ab_V} (hf : ab_free ρ i = true) (hk : ab_nth ρ k = some (some v)) (e : k + 1 = i) : ¬ (ab_cv g v).category = 2 := by
  intro hc
  obtain ⟨z, rfl⟩ := ab_cat1 hc
  subst e
  simp only [ab_free, hk] at hf
  cases hf
theorem ab_lr.set1 {g : ab_G} {ls : Array Slot} {n i : Nat} {ρ : List (Option ab_V)} {w : ab_V} (hf : ab_free ρ i = true) (h : lv_has ls n ((i, ab_cv g w) :: (ab_ll g ρ).filter (fun q => !(q.1 == i) && !(q.1 + 1 == i && q.2.category == 2)))) : ab_lr g ls n (ab_set ρ i (some w)) := by
  refine ⟨h.1, h.2.1, fun k v hk => ?_⟩
  by_cases e : k = i
  · subst e
    have := ab_nth_set_eq _ _ hk
    cases this
    exact h.2.2 (k, ab_cv g w) List.mem_cons_self
  · rw [ab_nth_set_ne _ _ _ _ e] at hk
    refine h.2.2 (k, ab_cv g v) (List.mem_cons_of_mem _ (List.mem_filter.mpr ⟨ab_ll_mem.mpr ⟨v, hk, rfl⟩, ?_⟩))
    simp only [Bool.and_eq_true, Bool.not_eq_true', beq_eq_false_iff_ne, ne_eq, Bool.and_eq_false_iff]
    refine ⟨e, ?_⟩
    by_cases e2 : k + 1 = i
    · exact Or.inr (ab_free_ne hf hk e2)
    · exact Or.inl e2
theorem ab_lr.set2 {g : ab_G} {ls : Array Slot} {n i : Nat} {ρ : List (Option ab_V)} {w : ab_V} (hf : ab_free ρ i = true) (h : lv_has ls n ((i, ab_cv g w) :: (ab_ll g ρ).filter (fun q => !(q.1 == i) && (!(q.1 == i + 1) && !(q.1 + 1 == i && q.2.category == 2))))) : ab_lr g ls n (ab_set (ab_set ρ (i + 1) none) i (some w)) := by
  refine ⟨h.1, h.2.1, fun k v hk => ?_⟩
  by_cases e : k = i
  · subst e
    have := ab_nth_set_eq _ _ hk
    cases this
    exact h.2.2 (k, ab_cv g w) List.mem_cons_self
  · rw [ab_nth_set_ne _ _ _ _ e] at hk
    by_cases e1 : k = i + 1
    · subst e1
      have := ab_nth_set_eq _ _ hk
      cases this
    · rw [ab_nth_set_ne _ _ _ _ e1] at hk
      refine h.2.2 (k, ab_cv g v) (List.mem_cons_of_mem _ (List.mem_filter.mpr ⟨ab_ll_mem.mpr ⟨v, hk, rfl⟩, ?_⟩))
      simp only [Bool.and_eq_true, Bool.not_eq_true', beq_eq_false_iff_ne, ne_eq, Bool.and_eq_false_iff]
      refine ⟨e, e1, ?_⟩
      by_cases e2 : k + 1 = i
      · exact Or.inr (ab_free_ne hf hk e2)
      · exact Or.inl e2
/-- the words: those that travel, and the nest's -/
def ab_tb : List Cond := lw_tbl.filter goodWord
def ab_isN : Cond → Bool
  | .fieldLinkNest .. => true
  | .methodLinkNest .. => true
  | _ => false
def ab_nw : List Cond := lw_tbl.filter ab_isN
theorem ab_tb_in {i : Nat} {w : Cond} (h : tables_1[i]? = some w) (hw : goodWord w = true) : w ∈ ab_tb := List.mem_filter.mpr ⟨List.mem_append_right _ (List.mem_of_getElem? h), hw⟩
theorem ab_nw_in {i : Nat} {w : Cond} (h : tables_1[i]? = some w) (hw : ab_isN w = true) : w ∈ ab_nw := List.mem_filter.mpr ⟨List.mem_append_right _ (List.mem_of_getElem? h), hw⟩
theorem ab_sel_in {i : Nat} {q : MethodName × Nat} (h : lw_privs[i]? = some q) (hw : goodWord (Cond.selects q.1.cls q.1 q.1) = true) : Cond.selects q.1.cls q.1 q.1 ∈ ab_tb := List.mem_filter.mpr ⟨List.mem_append_left _ (List.mem_map.mpr ⟨q, List.mem_of_getElem? h, rfl⟩), hw⟩
/-- a method: name, code, locals, what it returns, how many parameters, its instructions by their places -/
abbrev ab_M : Type := MethodName × ByteArray × Nat × Option FieldType × Nat × List (Option (Instr × Nat))
def ab_DOk (M : ab_M) : Prop := ∀ pc i len, ab_nth M.2.2.2.2.2 pc = some (some (i, len)) → decode M.2.1 pc = .ok (i, len)
def ab_MOk (M : ab_M) : Prop := Cond.code M.1 M.2.1 M.2.2.1 M.2.2.2.1 ∈ ab_tb ∧ plainName M.1.cls = true ∧ (M.1.cls ≠ "java/lang/invoke/MethodHandle" ∧ M.1.cls ≠ "java/lang/invoke/VarHandle" ∧ (parseMethodDescriptor M.1.desc).map (fun d => d.parameters.length) = some M.2.2.2.2.1) ∧ M.2.2.1 ≤ 16 ∧ Cond.initialized M.1.cls ∈ ab_tb ∧ M.1.cls ≠ "PostmenMeetLaw" ∧ ab_DOk M
def ab_chk (b : ByteArray) : Nat → List (Option (Instr × Nat)) → Bool
  | _, [] => true
  | pc, none :: l => ab_chk b (pc + 1) l
  | pc, some q :: l => (match decode b pc with
    | .ok r => decide (r = q)
    | .error _ => false) && ab_chk b (pc + 1) l
theorem ab_chk_ok {b : ByteArray} : ∀ (l : List (Option (Instr × Nat))) (p0 pc : Nat) (i : Instr) (len : Nat), ab_chk b p0 l = true → ab_nth l pc = some (some (i, len)) → decode b (p0 + pc) = .ok (i, len)
  | [], _, _, _, _, _, h => by cases h
  | none :: l, p0, 0, _, _, _, h => by cases h
  | none :: l, p0, pc + 1, i, len, hc, h => by
    have := ab_chk_ok l (p0 + 1) pc i len hc h
    rw [show p0 + (pc + 1) = p0 + 1 + pc by omega]
    exact this
  | some q :: l, p0, 0, i, len, hc, h => by
    cases h
    simp only [ab_chk, Bool.and_eq_true] at hc
    have h1 := hc.1
    show decode b p0 = _
    split at h1
    · rename_i r hr
      rw [hr, of_decide_eq_true h1]
    · cases h1
  | some q :: l, p0, pc + 1, i, len, hc, h => by
    simp only [ab_chk, Bool.and_eq_true] at hc
    have := ab_chk_ok l (p0 + 1) pc i len hc.2 h
    rw [show p0 + (pc + 1) = p0 + 1 + pc by omega]
    exact this
theorem ab_DOk.of {M : ab_M} (h : ab_chk M.2.1 0 M.2.2.2.2.2 = true) : ab_DOk M := fun pc i len hn => by
  have := ab_chk_ok _ 0 pc i len h hn
  rw [Nat.zero_add] at this
  exact this
end
section
/-! THE ROWS OF THE ABSTRACT LAYER: Go: from this place, with these locals, this stack and this heap, the method comes to its end with Q -/
def ab_C (g : ab_G) (M : ab_M) (A : Nat → Prop) (p : Program) (s : State) (m : MethodId) (args : Array Value) (meth : Method) (c : Code) : Prop :=
  p.tables.exec = Jvm.exec ∧ c.code = M.2.1 ∧ c.maxLocals = M.2.2.1 ∧ meth.sig.returnType = M.2.2.2.1 ∧ meth.locks = false ∧ s.vm.findClass M.1.cls = some m.cls ∧ (∀ w ∈ ab_tb, w.before args s = true) ∧ (∀ w ∈ ab_nw, va_Nw w s) ∧ va_K g.2.2.1 vwCl (ab_ty g) s ∧ ab_DOk M ∧
  (M.1 = x → va_X (g.2.1 82) g.2.2.2.2.1 g.2.2.2.2.2 s s.heap ∧ g.2.1 82 < s.heap.size ∧ ¬ A (g.2.1 82))
def ab_rt (M : ab_M) (pc : Nat) (r : Option ab_V) : Prop := (r = none ∧ decode M.2.1 pc = .ok (.return_, 1) ∧ M.2.2.2.1 = none) ∨ (∃ z, r = some (a_I z) ∧ decode M.2.1 pc = .ok (.ireturn, 1) ∧ (M.2.2.2.1 = some .int ∨ (M.2.2.2.1 = some .boolean ∧ (z = 0 ∨ z = 1)))) ∨ (∃ z, r = some (a_L z) ∧ decode M.2.1 pc = .ok (.lreturn, 1) ∧ M.2.2.2.1 = some .long)
abbrev ab_E : Type := Room × Nat × Nat
def ab_Ret (g : ab_G) (E : ab_E) (M : ab_M) (Q : Option ab_V → ab_H → Prop) (A : Nat → Prop) (p : Program) (e : Env) (s : State) (m : MethodId) (args : Array Value) (below : List Frame) (meth : Method) (c : Code) (Qm : State → Prop) : Prop :=
  ∀ (H : Heap) (locs : List Loc) (ls : Array Slot) (pc : Nat) (r : Option ab_V) (h : ab_H), Q r h → ab_okH h → (∀ v, r = some v → ab_okV v) → va_P g.2.2.1 vwCl (ab_ws g h) H → va_D A (ab_ws g h) → va_S A s.heap H locs → ab_rt M pc r → W p g.1 e E.1 s m args below meth c H locs E.2.1 E.2.2 Qm (F0 m pc ls (r.toList.map (ab_cv g)))
def Go (g : ab_G) (E : ab_E) (M : ab_M) (Q : Option ab_V → ab_H → Prop) (pc : Nat) (ρ : List (Option ab_V)) (st : List ab_V) (h : ab_H) : Prop :=
  ∀ (A : Nat → Prop) (p : Program) (e : Env) (s : State) (m : MethodId) (args : Array Value) (below : List Frame) (meth : Method) (c : Code) (Qm : State → Prop), ab_C g M A p s m args meth c → ab_Ret g E M Q A p e s m args below meth c Qm → ∀ (H : Heap) (locs : List Loc) (ls : Array Slot), va_P g.2.2.1 vwCl (ab_ws g h) H → va_D A (ab_ws g h) → va_S A s.heap H locs → ab_lr g ls M.2.2.1 ρ → ab_okS ρ st h →
    W p g.1 e E.1 s m args below meth c H locs E.2.1 E.2.2 Qm (F0 m pc ls (st.map (ab_cv g)))
abbrev ab_at (M : ab_M) (pc : Nat) (i : Instr) (len : Nat) : Prop := ab_nth M.2.2.2.2.2 pc = some (some (i, len))
section GO
variable {g : ab_G} {E : ab_E} {M : ab_M} {Q : Option ab_V → ab_H → Prop} {pc : Nat} {ρ : List (Option ab_V)} {st : List ab_V} {h : ab_H}
theorem ab_C.dec {A : Nat → Prop} {p : Program} {s : State} {m : MethodId} {args : Array Value} {meth : Method} {c : Code} (C : ab_C g M A p s m args meth c) {i : Instr} {len : Nat} (hi : ab_at M pc i len) : decode M.2.1 pc = .ok (i, len) := C.2.2.2.2.2.2.2.2.2.1 pc i len hi
/-- what is known of the heap may be used -/
theorem go_ok (K : ab_okS ρ st h → Go g E M Q pc ρ st h) : Go g E M Q pc ρ st h := fun A p e s m args below meth c Qm C T H locs ls hP hD hS hl hok => K hok A p e s m args below meth c Qm C T H locs ls hP hD hS hl hok
theorem go_top {x y : Int} (e : x = y) (K : Go g E M Q pc ρ (a_I y :: st) h) : Go g E M Q pc ρ (a_I x :: st) h := e ▸ K
theorem go_heap {h' : ab_H} (e : h = h') (K : Go g E M Q pc ρ st h') : Go g E M Q pc ρ st h := e ▸ K
theorem go_iconst {n : Int} (hi : ab_at M pc (.iconst n) 1) (hz : ab_iok n := by unfold ab_iok; omega) (K : Go g E M Q (pc + 1) ρ (a_I n :: st) h) : Go g E M Q pc ρ st h := by
  intro A p e s m args below meth c Qm C T H locs ls hP hD hS hl hok
  exact lv_iconst C.1 C.2.1 (C.dec hi) rfl (K A p e s m args below meth c Qm C T H locs ls hP hD hS hl (hok.cons hz))
theorem go_bipush {n : Int} (hi : ab_at M pc (.bipush n) 2) (hz : -128 ≤ n ∧ n ≤ 127 := by omega) (K : Go g E M Q (pc + 2) ρ (a_I n :: st) h) : Go g E M Q pc ρ st h := by
  intro A p e s m args below meth c Qm C T H locs ls hP hD hS hl hok
  refine lv_bipush C.1 C.2.1 (C.dec hi) (v := Int32.ofInt n) ?_ (K A p e s m args below meth c Qm C T H locs ls hP hD hS hl (hok.cons (show ab_iok n by unfold ab_iok; omega)))
  rw [← Int32.toInt_inj, ab_ti (show ab_iok n by unfold ab_iok; omega)]
  show (Int8.ofInt n).toInt32.toInt = n
  rw [Int8.toInt_toInt32]
  exact Int8.toInt_ofInt_of_le (by omega) (by omega)
theorem go_sipush {n : Int} (hi : ab_at M pc (.sipush n) 3) (hz : -32768 ≤ n ∧ n ≤ 32767 := by omega) (K : Go g E M Q (pc + 3) ρ (a_I n :: st) h) : Go g E M Q pc ρ st h := by
  intro A p e s m args below meth c Qm C T H locs ls hP hD hS hl hok
  refine lv_sipush C.1 C.2.1 (C.dec hi) (v := Int32.ofInt n) ?_ (K A p e s m args below meth c Qm C T H locs ls hP hD hS hl (hok.cons (show ab_iok n by unfold ab_iok; omega)))
  rw [← Int32.toInt_inj, ab_ti (show ab_iok n by unfold ab_iok; omega)]
  show (Int16.ofInt n).toInt32.toInt = n
  rw [Int16.toInt_toInt32]
  exact Int16.toInt_ofInt_of_le (by omega) (by omega)
theorem go_lconst {n : Fin 2} {z : Int} (hi : ab_at M pc (.lconst n) 1) (hz : ((n : Nat) : Int) = z := by rfl) (K : Go g E M Q (pc + 1) ρ (a_L z :: st) h) : Go g E M Q pc ρ st h := by
  intro A p e s m args below meth c Qm C T H locs ls hP hD hS hl hok
  subst hz
  have hn := n.isLt
  exact lv_lconst C.1 C.2.1 (C.dec hi) (v := Int64.ofInt (n : Nat)) Int64.ofInt_eq_ofNat.symm (K A p e s m args below meth c Qm C T H locs ls hP hD hS hl (hok.cons (show ab_lok (n : Nat) by unfold ab_lok; omega)))
theorem go_ldc {idx : Nat} {v : Int32} {z : Int} (hi : ab_at M pc (.ldc idx) 2) (hw : Cond.constant M.1.cls idx v ∈ ab_tb) (hz : v.toInt = z := by decide) (K : Go g E M Q (pc + 2) ρ (a_I z :: st) h) : Go g E M Q pc ρ st h := by
  intro A p e s m args below meth c Qm C T H locs ls hP hD hS hl hok
  subst hz
  refine lv_ldc C.1 C.2.1 C.2.2.2.2.2.1 (C.2.2.2.2.2.2.1 _ hw) (C.dec hi) ?_
  have := K A p e s m args below meth c Qm C T H locs ls hP hD hS hl (hok.cons (ab_okI v))
  simpa only [List.map_cons, ab_cv, Int32.ofInt_toInt] using this
theorem go_ldc2 {idx : Nat} {v : Int64} {z : Int} (hi : ab_at M pc (.ldc2_w idx) 3) (hw : Cond.constantLong M.1.cls idx v ∈ ab_tb) (hz : v.toInt = z := by decide) (K : Go g E M Q (pc + 3) ρ (a_L z :: st) h) : Go g E M Q pc ρ st h := by
  intro A p e s m args below meth c Qm C T H locs ls hP hD hS hl hok
  subst hz
  refine lv_ldc2 C.1 C.2.1 C.2.2.2.2.2.1 (C.2.2.2.2.2.2.1 _ hw) (C.dec hi) ?_
  have := K A p e s m args below meth c Qm C T H locs ls hP hD hS hl (hok.cons (ab_okL v))
  simpa only [List.map_cons, ab_cv, Int64.ofInt_toInt] using this
theorem go_iload_n {k : Fin 4} {z : Int} (hi : ab_at M pc (.iload_n k) 1) (hv : ab_nth ρ (k : Nat) = some (some (a_I z))) (K : Go g E M Q (pc + 1) ρ (a_I z :: st) h) : Go g E M Q pc ρ st h := by
  intro A p e s m args below meth c Qm C T H locs ls hP hD hS hl hok
  exact lv_iload_n C.1 C.2.1 (C.dec hi) rfl (hl.2.2 _ _ hv) (K A p e s m args below meth c Qm C T H locs ls hP hD hS hl (hok.cons (hok.2.2 _ _ hv)))
theorem go_iload {k : Nat} {z : Int} (hi : ab_at M pc (.iload k) 2) (hv : ab_nth ρ k = some (some (a_I z))) (K : Go g E M Q (pc + 2) ρ (a_I z :: st) h) : Go g E M Q pc ρ st h := by
  intro A p e s m args below meth c Qm C T H locs ls hP hD hS hl hok
  exact lv_iload C.1 C.2.1 (C.dec hi) (hl.2.2 _ _ hv) (K A p e s m args below meth c Qm C T H locs ls hP hD hS hl (hok.cons (hok.2.2 _ _ hv)))
theorem go_lload_n {k : Fin 4} {z : Int} (hi : ab_at M pc (.lload_n k) 1) (hv : ab_nth ρ (k : Nat) = some (some (a_L z))) (K : Go g E M Q (pc + 1) ρ (a_L z :: st) h) : Go g E M Q pc ρ st h := by
  intro A p e s m args below meth c Qm C T H locs ls hP hD hS hl hok
  exact lv_lload_n C.1 C.2.1 (C.dec hi) rfl (hl.2.2 _ _ hv) (K A p e s m args below meth c Qm C T H locs ls hP hD hS hl (hok.cons (hok.2.2 _ _ hv)))
theorem go_lload {k : Nat} {z : Int} (hi : ab_at M pc (.lload k) 2) (hv : ab_nth ρ k = some (some (a_L z))) (K : Go g E M Q (pc + 2) ρ (a_L z :: st) h) : Go g E M Q pc ρ st h := by
  intro A p e s m args below meth c Qm C T H locs ls hP hD hS hl hok
  exact lv_lload C.1 C.2.1 (C.dec hi) (hl.2.2 _ _ hv) (K A p e s m args below meth c Qm C T H locs ls hP hD hS hl (hok.cons (hok.2.2 _ _ hv)))
theorem go_aload_n {k : Fin 4} {z : Nat} (hi : ab_at M pc (.aload_n k) 1) (hv : ab_nth ρ (k : Nat) = some (some (a_R z))) (K : Go g E M Q (pc + 1) ρ (a_R z :: st) h) : Go g E M Q pc ρ st h := by
  intro A p e s m args below meth c Qm C T H locs ls hP hD hS hl hok
  exact lv_aload_n C.1 C.2.1 (C.dec hi) rfl (hl.2.2 _ _ hv) (K A p e s m args below meth c Qm C T H locs ls hP hD hS hl (hok.cons (hok.2.2 _ _ hv)))
theorem go_aload {k : Nat} {z : Nat} (hi : ab_at M pc (.aload k) 2) (hv : ab_nth ρ k = some (some (a_R z))) (K : Go g E M Q (pc + 2) ρ (a_R z :: st) h) : Go g E M Q pc ρ st h := by
  intro A p e s m args below meth c Qm C T H locs ls hP hD hS hl hok
  exact lv_aload C.1 C.2.1 (C.dec hi) (hl.2.2 _ _ hv) (K A p e s m args below meth c Qm C T H locs ls hP hD hS hl (hok.cons (hok.2.2 _ _ hv)))
theorem go_istore_n {k : Fin 4} {z : Int} (hi : ab_at M pc (.istore_n k) 1) (hn : (k : Nat) < M.2.2.1) (hf : ab_free ρ (k : Nat) = true) (K : Go g E M Q (pc + 1) (ab_set ρ (k : Nat) (some (a_I z))) st h) : Go g E M Q pc ρ (a_I z :: st) h := by
  intro A p e s m args below meth c Qm C T H locs ls hP hD hS hl hok
  exact lv_istore_n C.1 C.2.1 (C.dec hi) rfl hl.has hn rfl (fun ls2 hl2 => K A p e s m args below meth c Qm C T H locs ls2 hP hD hS (ab_lr.set1 (w := a_I z) hf hl2) (hok.tl.loc (fun v e => by cases e; exact hok.top)))
theorem go_istore {k : Nat} {z : Int} (hi : ab_at M pc (.istore k) 2) (hn : k < M.2.2.1) (hf : ab_free ρ k = true) (K : Go g E M Q (pc + 2) (ab_set ρ k (some (a_I z))) st h) : Go g E M Q pc ρ (a_I z :: st) h := by
  intro A p e s m args below meth c Qm C T H locs ls hP hD hS hl hok
  exact lv_istore C.1 C.2.1 (C.dec hi) hl.has hn rfl (fun ls2 hl2 => K A p e s m args below meth c Qm C T H locs ls2 hP hD hS (ab_lr.set1 (w := a_I z) hf hl2) (hok.tl.loc (fun v e => by cases e; exact hok.top)))
theorem go_astore_n {k : Fin 4} {z : Nat} (hi : ab_at M pc (.astore_n k) 1) (hn : (k : Nat) < M.2.2.1) (hf : ab_free ρ (k : Nat) = true) (K : Go g E M Q (pc + 1) (ab_set ρ (k : Nat) (some (a_R z))) st h) : Go g E M Q pc ρ (a_R z :: st) h := by
  intro A p e s m args below meth c Qm C T H locs ls hP hD hS hl hok
  exact lv_astore_n C.1 C.2.1 (C.dec hi) rfl hl.has hn rfl (fun ls2 hl2 => K A p e s m args below meth c Qm C T H locs ls2 hP hD hS (ab_lr.set1 (w := a_R z) hf hl2) (hok.tl.loc (fun v e => by cases e; exact hok.top)))
theorem go_astore {k : Nat} {z : Nat} (hi : ab_at M pc (.astore k) 2) (hn : k < M.2.2.1) (hf : ab_free ρ k = true) (K : Go g E M Q (pc + 2) (ab_set ρ k (some (a_R z))) st h) : Go g E M Q pc ρ (a_R z :: st) h := by
  intro A p e s m args below meth c Qm C T H locs ls hP hD hS hl hok
  exact lv_astore C.1 C.2.1 (C.dec hi) hl.has hn rfl (fun ls2 hl2 => K A p e s m args below meth c Qm C T H locs ls2 hP hD hS (ab_lr.set1 (w := a_R z) hf hl2) (hok.tl.loc (fun v e => by cases e; exact hok.top)))
theorem go_lstore_n {k : Fin 4} {z : Int} (hi : ab_at M pc (.lstore_n k) 1) (hn : (k : Nat) + 1 < M.2.2.1) (hf : ab_free ρ (k : Nat) = true) (K : Go g E M Q (pc + 1) (ab_set (ab_set ρ ((k : Nat) + 1) none) (k : Nat) (some (a_L z))) st h) : Go g E M Q pc ρ (a_L z :: st) h := by
  intro A p e s m args below meth c Qm C T H locs ls hP hD hS hl hok
  exact lv_lstore_n C.1 C.2.1 (C.dec hi) rfl hl.has hn rfl (fun ls2 hl2 => K A p e s m args below meth c Qm C T H locs ls2 hP hD hS (ab_lr.set2 (w := a_L z) hf hl2) ((hok.tl.loc (i := (k : Nat) + 1) (w := none) (fun v e => by cases e)).loc (fun v e => by cases e; exact hok.top)))
theorem go_lstore {k : Nat} {z : Int} (hi : ab_at M pc (.lstore k) 2) (hn : k + 1 < M.2.2.1) (hf : ab_free ρ k = true) (K : Go g E M Q (pc + 2) (ab_set (ab_set ρ (k + 1) none) k (some (a_L z))) st h) : Go g E M Q pc ρ (a_L z :: st) h := by
  intro A p e s m args below meth c Qm C T H locs ls hP hD hS hl hok
  exact lv_lstore C.1 C.2.1 (C.dec hi) hl.has hn rfl (fun ls2 hl2 => K A p e s m args below meth c Qm C T H locs ls2 hP hD hS (ab_lr.set2 (w := a_L z) hf hl2) ((hok.tl.loc (i := k + 1) (w := none) (fun v e => by cases e)).loc (fun v e => by cases e; exact hok.top)))
theorem go_iinc {k : Nat} {n z : Int} (hi : ab_at M pc (.iinc k n) 3) (hv : ab_nth ρ k = some (some (a_I z))) (hn : k < M.2.2.1) (hf : ab_free ρ k = true) (hz : ab_iok (z + n)) (K : Go g E M Q (pc + 3) (ab_set ρ k (some (a_I (z + n)))) st h) : Go g E M Q pc ρ st h := by
  intro A p e s m args below meth c Qm C T H locs ls hP hD hS hl hok
  obtain ⟨j, hj⟩ := List.getElem?_of_mem (ab_ll_mem (g := g) (q := (k, .int (Int32.ofInt z))).mpr ⟨a_I z, hv, rfl⟩)
  exact lv_iinc C.1 C.2.1 (C.dec hi) hl.has hj (v := Int32.ofInt (z + n)) (Int32.ofInt_add z n).symm hn rfl (fun ls2 hl2 => K A p e s m args below meth c Qm C T H locs ls2 hP hD hS (ab_lr.set1 (w := a_I (z + n)) hf hl2) (hok.loc (fun v e => by cases e; exact hz)))
theorem go_iadd {x y : Int} (hi : ab_at M pc .iadd 1) (hz : ab_iok (x + y)) (K : Go g E M Q (pc + 1) ρ (a_I (x + y) :: st) h) : Go g E M Q pc ρ (a_I y :: a_I x :: st) h := by
  intro A p e s m args below meth c Qm C T H locs ls hP hD hS hl hok
  refine lv_iadd C.1 C.2.1 (C.dec hi) ?_
  rw [← Int32.ofInt_add]
  exact K A p e s m args below meth c Qm C T H locs ls hP hD hS hl (hok.tl.tl.cons hz)
theorem go_isub {x y : Int} (hi : ab_at M pc .isub 1) (hz : ab_iok (x - y)) (K : Go g E M Q (pc + 1) ρ (a_I (x - y) :: st) h) : Go g E M Q pc ρ (a_I y :: a_I x :: st) h := by
  intro A p e s m args below meth c Qm C T H locs ls hP hD hS hl hok
  refine lv_isub C.1 C.2.1 (C.dec hi) ?_
  rw [← Int32.ofInt_sub]
  exact K A p e s m args below meth c Qm C T H locs ls hP hD hS hl (hok.tl.tl.cons hz)
theorem go_imul {x y : Int} (hi : ab_at M pc .imul 1) (hz : ab_iok (x * y)) (K : Go g E M Q (pc + 1) ρ (a_I (x * y) :: st) h) : Go g E M Q pc ρ (a_I y :: a_I x :: st) h := by
  intro A p e s m args below meth c Qm C T H locs ls hP hD hS hl hok
  refine lv_imul C.1 C.2.1 (C.dec hi) ?_
  rw [← Int32.ofInt_mul]
  exact K A p e s m args below meth c Qm C T H locs ls hP hD hS hl (hok.tl.tl.cons hz)
def ab_iand (x y : Int) : Int := (Int32.ofInt x &&& Int32.ofInt y).toInt
theorem go_iand {x y : Int} (hi : ab_at M pc .iand 1) (K : Go g E M Q (pc + 1) ρ (a_I (ab_iand x y) :: st) h) : Go g E M Q pc ρ (a_I y :: a_I x :: st) h := by
  intro A p e s m args below meth c Qm C T H locs ls hP hD hS hl hok
  refine lv_iand C.1 C.2.1 (C.dec hi) ?_
  have := K A p e s m args below meth c Qm C T H locs ls hP hD hS hl (hok.tl.tl.cons (v := a_I (ab_iand x y)) (ab_okI _))
  simpa only [List.map_cons, ab_cv, ab_iand, Int32.ofInt_toInt] using this
def ab_ior (x y : Int) : Int := (Int32.ofInt x ||| Int32.ofInt y).toInt
theorem go_ior {x y : Int} (hi : ab_at M pc .ior 1) (K : Go g E M Q (pc + 1) ρ (a_I (ab_ior x y) :: st) h) : Go g E M Q pc ρ (a_I y :: a_I x :: st) h := by
  intro A p e s m args below meth c Qm C T H locs ls hP hD hS hl hok
  refine lv_ior C.1 C.2.1 (C.dec hi) ?_
  have := K A p e s m args below meth c Qm C T H locs ls hP hD hS hl (hok.tl.tl.cons (v := a_I (ab_ior x y)) (ab_okI _))
  simpa only [List.map_cons, ab_cv, ab_ior, Int32.ofInt_toInt] using this
def ab_ixor (x y : Int) : Int := (Int32.ofInt x ^^^ Int32.ofInt y).toInt
theorem go_ixor {x y : Int} (hi : ab_at M pc .ixor 1) (K : Go g E M Q (pc + 1) ρ (a_I (ab_ixor x y) :: st) h) : Go g E M Q pc ρ (a_I y :: a_I x :: st) h := by
  intro A p e s m args below meth c Qm C T H locs ls hP hD hS hl hok
  refine lv_ixor C.1 C.2.1 (C.dec hi) ?_
  have := K A p e s m args below meth c Qm C T H locs ls hP hD hS hl (hok.tl.tl.cons (v := a_I (ab_ixor x y)) (ab_okI _))
  simpa only [List.map_cons, ab_cv, ab_ixor, Int32.ofInt_toInt] using this
def ab_ishl (x y : Int) : Int := (Int32.ofInt x <<< (Int32.ofInt y &&& 31)).toInt
theorem go_ishl {x y : Int} (hi : ab_at M pc .ishl 1) (K : Go g E M Q (pc + 1) ρ (a_I (ab_ishl x y) :: st) h) : Go g E M Q pc ρ (a_I y :: a_I x :: st) h := by
  intro A p e s m args below meth c Qm C T H locs ls hP hD hS hl hok
  refine lv_ishl C.1 C.2.1 (C.dec hi) ?_
  have := K A p e s m args below meth c Qm C T H locs ls hP hD hS hl (hok.tl.tl.cons (v := a_I (ab_ishl x y)) (ab_okI _))
  simpa only [List.map_cons, ab_cv, ab_ishl, Int32.ofInt_toInt] using this
def ab_ishr (x y : Int) : Int := (Int32.ofInt x >>> (Int32.ofInt y &&& 31)).toInt
theorem go_ishr {x y : Int} (hi : ab_at M pc .ishr 1) (K : Go g E M Q (pc + 1) ρ (a_I (ab_ishr x y) :: st) h) : Go g E M Q pc ρ (a_I y :: a_I x :: st) h := by
  intro A p e s m args below meth c Qm C T H locs ls hP hD hS hl hok
  refine lv_ishr C.1 C.2.1 (C.dec hi) ?_
  have := K A p e s m args below meth c Qm C T H locs ls hP hD hS hl (hok.tl.tl.cons (v := a_I (ab_ishr x y)) (ab_okI _))
  simpa only [List.map_cons, ab_cv, ab_ishr, Int32.ofInt_toInt] using this
def ab_iushr (x y : Int) : Int := ((Int32.ofInt x).toUInt32 >>> ((Int32.ofInt y).toUInt32 &&& Int32.toUInt32 31)).toInt32.toInt
theorem go_iushr {x y : Int} (hi : ab_at M pc .iushr 1) (K : Go g E M Q (pc + 1) ρ (a_I (ab_iushr x y) :: st) h) : Go g E M Q pc ρ (a_I y :: a_I x :: st) h := by
  intro A p e s m args below meth c Qm C T H locs ls hP hD hS hl hok
  refine lv_iushr C.1 C.2.1 (C.dec hi) rfl ?_
  have := K A p e s m args below meth c Qm C T H locs ls hP hD hS hl (hok.tl.tl.cons (v := a_I (ab_iushr x y)) (ab_okI _))
  simpa only [List.map_cons, ab_cv, ab_iushr, Int32.ofInt_toInt] using this
def ab_idiv (x y : Int) : Int := (Int32.ofInt x / Int32.ofInt y).toInt
theorem go_idiv {x y : Int} (hi : ab_at M pc .idiv 1) (hn : y ≠ 0) (K : Go g E M Q (pc + 1) ρ (a_I (ab_idiv x y) :: st) h) : Go g E M Q pc ρ (a_I y :: a_I x :: st) h := by
  intro A p e s m args below meth c Qm C T H locs ls hP hD hS hl hok
  refine lv_idiv C.1 C.2.1 (C.dec hi) (fun q => hn ((ab_eq hok.top ab_iok0).mp q)) ?_
  have := K A p e s m args below meth c Qm C T H locs ls hP hD hS hl (hok.tl.tl.cons (v := a_I (ab_idiv x y)) (ab_okI _))
  simpa only [List.map_cons, ab_cv, ab_idiv, Int32.ofInt_toInt] using this
def ab_irem (x y : Int) : Int := (Int32.ofInt x - Int32.ofInt x / Int32.ofInt y * Int32.ofInt y).toInt
theorem go_irem {x y : Int} (hi : ab_at M pc .irem 1) (hn : y ≠ 0) (K : Go g E M Q (pc + 1) ρ (a_I (ab_irem x y) :: st) h) : Go g E M Q pc ρ (a_I y :: a_I x :: st) h := by
  intro A p e s m args below meth c Qm C T H locs ls hP hD hS hl hok
  refine lv_irem C.1 C.2.1 (C.dec hi) (fun q => hn ((ab_eq hok.top ab_iok0).mp q)) ?_
  have := K A p e s m args below meth c Qm C T H locs ls hP hD hS hl (hok.tl.tl.cons (v := a_I (ab_irem x y)) (ab_okI _))
  simpa only [List.map_cons, ab_cv, ab_irem, Int32.ofInt_toInt] using this
theorem go_ineg {x : Int} (hi : ab_at M pc .ineg 1) (hz : ab_iok (-x)) (K : Go g E M Q (pc + 1) ρ (a_I (-x) :: st) h) : Go g E M Q pc ρ (a_I x :: st) h := by
  intro A p e s m args below meth c Qm C T H locs ls hP hD hS hl hok
  refine lv_ineg C.1 C.2.1 (C.dec hi) ?_
  rw [← Int32.ofInt_neg]
  exact K A p e s m args below meth c Qm C T H locs ls hP hD hS hl (hok.tl.cons hz)
def ab_ladd (x y : Int) : Int := (Int64.ofInt x + Int64.ofInt y).toInt
theorem go_ladd {x y : Int} (hi : ab_at M pc .ladd 1) (K : Go g E M Q (pc + 1) ρ (a_L (ab_ladd x y) :: st) h) : Go g E M Q pc ρ (a_L y :: a_L x :: st) h := by
  intro A p e s m args below meth c Qm C T H locs ls hP hD hS hl hok
  refine lv_ladd C.1 C.2.1 (C.dec hi) ?_
  have := K A p e s m args below meth c Qm C T H locs ls hP hD hS hl (hok.tl.tl.cons (v := a_L (ab_ladd x y)) (ab_okL _))
  simpa only [List.map_cons, ab_cv, ab_ladd, Int64.ofInt_toInt] using this
def ab_lmul (x y : Int) : Int := (Int64.ofInt x * Int64.ofInt y).toInt
theorem go_lmul {x y : Int} (hi : ab_at M pc .lmul 1) (K : Go g E M Q (pc + 1) ρ (a_L (ab_lmul x y) :: st) h) : Go g E M Q pc ρ (a_L y :: a_L x :: st) h := by
  intro A p e s m args below meth c Qm C T H locs ls hP hD hS hl hok
  refine lv_lmul C.1 C.2.1 (C.dec hi) ?_
  have := K A p e s m args below meth c Qm C T H locs ls hP hD hS hl (hok.tl.tl.cons (v := a_L (ab_lmul x y)) (ab_okL _))
  simpa only [List.map_cons, ab_cv, ab_lmul, Int64.ofInt_toInt] using this
def ab_lsub (x y : Int) : Int := (Int64.ofInt x - Int64.ofInt y).toInt
theorem go_lsub {x y : Int} (hi : ab_at M pc .lsub 1) (K : Go g E M Q (pc + 1) ρ (a_L (ab_lsub x y) :: st) h) : Go g E M Q pc ρ (a_L y :: a_L x :: st) h := by
  intro A p e s m args below meth c Qm C T H locs ls hP hD hS hl hok
  refine lv_lsub C.1 C.2.1 (C.dec hi) ?_
  have := K A p e s m args below meth c Qm C T H locs ls hP hD hS hl (hok.tl.tl.cons (v := a_L (ab_lsub x y)) (ab_okL _))
  simpa only [List.map_cons, ab_cv, ab_lsub, Int64.ofInt_toInt] using this
def ab_land (x y : Int) : Int := (Int64.ofInt x &&& Int64.ofInt y).toInt
theorem go_land {x y : Int} (hi : ab_at M pc .land 1) (K : Go g E M Q (pc + 1) ρ (a_L (ab_land x y) :: st) h) : Go g E M Q pc ρ (a_L y :: a_L x :: st) h := by
  intro A p e s m args below meth c Qm C T H locs ls hP hD hS hl hok
  refine lv_land C.1 C.2.1 (C.dec hi) ?_
  have := K A p e s m args below meth c Qm C T H locs ls hP hD hS hl (hok.tl.tl.cons (v := a_L (ab_land x y)) (ab_okL _))
  simpa only [List.map_cons, ab_cv, ab_land, Int64.ofInt_toInt] using this
def ab_lor (x y : Int) : Int := (Int64.ofInt x ||| Int64.ofInt y).toInt
theorem go_lor {x y : Int} (hi : ab_at M pc .lor 1) (K : Go g E M Q (pc + 1) ρ (a_L (ab_lor x y) :: st) h) : Go g E M Q pc ρ (a_L y :: a_L x :: st) h := by
  intro A p e s m args below meth c Qm C T H locs ls hP hD hS hl hok
  refine lv_lor C.1 C.2.1 (C.dec hi) ?_
  have := K A p e s m args below meth c Qm C T H locs ls hP hD hS hl (hok.tl.tl.cons (v := a_L (ab_lor x y)) (ab_okL _))
  simpa only [List.map_cons, ab_cv, ab_lor, Int64.ofInt_toInt] using this
def ab_lshl (x y : Int) : Int := (Int64.ofInt x <<< ((Int32.ofInt y).toInt64 &&& 63)).toInt
theorem go_lshl {x y : Int} (hi : ab_at M pc .lshl 1) (K : Go g E M Q (pc + 1) ρ (a_L (ab_lshl x y) :: st) h) : Go g E M Q pc ρ (a_I y :: a_L x :: st) h := by
  intro A p e s m args below meth c Qm C T H locs ls hP hD hS hl hok
  refine lv_lshl C.1 C.2.1 (C.dec hi) rfl ?_
  have := K A p e s m args below meth c Qm C T H locs ls hP hD hS hl (hok.tl.tl.cons (v := a_L (ab_lshl x y)) (ab_okL _))
  simpa only [List.map_cons, ab_cv, ab_lshl, Int64.ofInt_toInt] using this
def ab_lshr (x y : Int) : Int := (Int64.ofInt x >>> ((Int32.ofInt y).toInt64 &&& 63)).toInt
theorem go_lshr {x y : Int} (hi : ab_at M pc .lshr 1) (K : Go g E M Q (pc + 1) ρ (a_L (ab_lshr x y) :: st) h) : Go g E M Q pc ρ (a_I y :: a_L x :: st) h := by
  intro A p e s m args below meth c Qm C T H locs ls hP hD hS hl hok
  refine lv_lshr C.1 C.2.1 (C.dec hi) rfl ?_
  have := K A p e s m args below meth c Qm C T H locs ls hP hD hS hl (hok.tl.tl.cons (v := a_L (ab_lshr x y)) (ab_okL _))
  simpa only [List.map_cons, ab_cv, ab_lshr, Int64.ofInt_toInt] using this
def ab_lushr (x y : Int) : Int := ((Int64.ofInt x).toUInt64 >>> ((Int32.ofInt y).toInt64.toUInt64 &&& Int64.toUInt64 63)).toInt64.toInt
theorem go_lushr {x y : Int} (hi : ab_at M pc .lushr 1) (K : Go g E M Q (pc + 1) ρ (a_L (ab_lushr x y) :: st) h) : Go g E M Q pc ρ (a_I y :: a_L x :: st) h := by
  intro A p e s m args below meth c Qm C T H locs ls hP hD hS hl hok
  refine lv_lushr C.1 C.2.1 (C.dec hi) rfl ?_
  have := K A p e s m args below meth c Qm C T H locs ls hP hD hS hl (hok.tl.tl.cons (v := a_L (ab_lushr x y)) (ab_okL _))
  simpa only [List.map_cons, ab_cv, ab_lushr, Int64.ofInt_toInt] using this
theorem go_i2l {x : Int} (hi : ab_at M pc .i2l 1) (K : Go g E M Q (pc + 1) ρ (a_L x :: st) h) : Go g E M Q pc ρ (a_I x :: st) h := by
  intro A p e s m args below meth c Qm C T H locs ls hP hD hS hl hok
  have hx : ab_iok x := hok.top
  have hx2 : ab_lok x := by unfold ab_iok at hx; unfold ab_lok; omega
  refine lv_i2l C.1 C.2.1 (C.dec hi) (v := Int64.ofInt x) ?_ (K A p e s m args below meth c Qm C T H locs ls hP hD hS hl (hok.tl.cons hx2))
  rw [← Int64.toInt_inj, Int32.toInt_toInt64, ab_ti hx, ab_tl hx2]
def ab_l2i (x : Int) : Int := (Int64.ofInt x).toInt32.toInt
theorem go_l2i {x : Int} (hi : ab_at M pc .l2i 1) (K : Go g E M Q (pc + 1) ρ (a_I (ab_l2i x) :: st) h) : Go g E M Q pc ρ (a_L x :: st) h := by
  intro A p e s m args below meth c Qm C T H locs ls hP hD hS hl hok
  refine lv_l2i C.1 C.2.1 (C.dec hi) rfl ?_
  have := K A p e s m args below meth c Qm C T H locs ls hP hD hS hl (hok.tl.cons (v := a_I (ab_l2i x)) (ab_okI _))
  simpa only [List.map_cons, ab_cv, ab_l2i, Int32.ofInt_toInt] using this
def ab_i2b (x : Int) : Int := (Int32.ofInt x).toInt8.toInt32.toInt
theorem go_i2b {x : Int} (hi : ab_at M pc .i2b 1) (K : Go g E M Q (pc + 1) ρ (a_I (ab_i2b x) :: st) h) : Go g E M Q pc ρ (a_I x :: st) h := by
  intro A p e s m args below meth c Qm C T H locs ls hP hD hS hl hok
  refine lv_i2b C.1 C.2.1 (C.dec hi) rfl ?_
  have := K A p e s m args below meth c Qm C T H locs ls hP hD hS hl (hok.tl.cons (v := a_I (ab_i2b x)) (ab_okI _))
  simpa only [List.map_cons, ab_cv, ab_i2b, Int32.ofInt_toInt] using this
def ab_i2s (x : Int) : Int := (Int32.ofInt x).toInt16.toInt32.toInt
theorem go_i2s {x : Int} (hi : ab_at M pc .i2s 1) (K : Go g E M Q (pc + 1) ρ (a_I (ab_i2s x) :: st) h) : Go g E M Q pc ρ (a_I x :: st) h := by
  intro A p e s m args below meth c Qm C T H locs ls hP hD hS hl hok
  refine lv_i2s C.1 C.2.1 (C.dec hi) rfl ?_
  have := K A p e s m args below meth c Qm C T H locs ls hP hD hS hl (hok.tl.cons (v := a_I (ab_i2s x)) (ab_okI _))
  simpa only [List.map_cons, ab_cv, ab_i2s, Int32.ofInt_toInt] using this
def ab_lcmp (x y : Int) : Int := if x < y then -1 else if y < x then 1 else 0
theorem go_lcmp {x y : Int} (hi : ab_at M pc .lcmp 1) (K : Go g E M Q (pc + 1) ρ (a_I (ab_lcmp x y) :: st) h) : Go g E M Q pc ρ (a_L y :: a_L x :: st) h := by
  intro A p e s m args below meth c Qm C T H locs ls hP hD hS hl hok
  have hy : ab_lok y := hok.top
  have hx : ab_lok x := hok.tl.top
  refine W.lcmp C.1 C.2.1 (C.dec hi) ?_
  have hv : ab_iok (ab_lcmp x y) := by unfold ab_lcmp ab_iok; split <;> (try split) <;> omega
  have := K A p e s m args below meth c Qm C T H locs ls hP hD hS hl (hok.tl.tl.cons (v := a_I (ab_lcmp x y)) hv)
  have e : lg_cmp (Int64.ofInt x) (Int64.ofInt y) = Int32.ofInt (ab_lcmp x y) := by
    have e1 : Int64.ofInt y < Int64.ofInt x ↔ y < x := by rw [Int64.lt_iff_toInt_lt, ab_tl hx, ab_tl hy]
    have e2 : Int64.ofInt x = Int64.ofInt y ↔ x = y := by rw [← Int64.toInt_inj, ab_tl hx, ab_tl hy]
    simp only [lg_cmp, ab_lcmp, e1, e2]
    rcases Int.lt_trichotomy x y with q | q | q
    · simp [q, show ¬ y < x by omega, show ¬ x = y by omega]
    · simp [q]
    · simp [q, show ¬ x < y by omega]
  rw [e]
  exact this
theorem go_dup {v : ab_V} (hi : ab_at M pc .dup 1) (hc : ∀ z, v ≠ a_L z := by intro z q; cases q) (K : Go g E M Q (pc + 1) ρ (v :: v :: st) h) : Go g E M Q pc ρ (v :: st) h := by
  intro A p e s m args below meth c Qm C T H locs ls hP hD hS hl hok
  have h1 : (ab_cv g v).category = 1 := by rcases lv_cat (ab_cv g v) with q | q; exact q; obtain ⟨z, hz⟩ := ab_cat1 q; exact absurd hz (hc z)
  exact lv_dup C.1 C.2.1 (C.dec hi) h1 (K A p e s m args below meth c Qm C T H locs ls hP hD hS hl (hok.cons hok.top))
theorem go_pop {v : ab_V} (hi : ab_at M pc .pop 1) (hc : ∀ z, v ≠ a_L z := by intro z q; cases q) (K : Go g E M Q (pc + 1) ρ st h) : Go g E M Q pc ρ (v :: st) h := by
  intro A p e s m args below meth c Qm C T H locs ls hP hD hS hl hok
  have h1 : (ab_cv g v).category = 1 := by rcases lv_cat (ab_cv g v) with q | q; exact q; obtain ⟨z, hz⟩ := ab_cat1 q; exact absurd hz (hc z)
  exact lv_pop C.1 C.2.1 (C.dec hi) h1 (K A p e s m args below meth c Qm C T H locs ls hP hD hS hl hok.tl)
theorem go_dup2 {x : Int} {k : Nat} (hi : ab_at M pc .dup2 1) (K : Go g E M Q (pc + 1) ρ (a_I x :: a_R k :: a_I x :: a_R k :: st) h) : Go g E M Q pc ρ (a_I x :: a_R k :: st) h := by
  intro A p e s m args below meth c Qm C T H locs ls hP hD hS hl hok
  exact lv_dup2_11 C.1 C.2.1 (C.dec hi) rfl rfl (K A p e s m args below meth c Qm C T H locs ls hP hD hS hl ((hok.cons (v := a_R k) trivial).cons hok.top))
theorem go_icmp_eq {x y off : Int} {tgt : Nat} (hi : ab_at M pc (.if_icmp .eq off) 3) (ht : (pc : Int) + off = (tgt : Int)) (kt : x = y → Go g E M Q (tgt) ρ st h) (kf : ¬ x = y → Go g E M Q (pc + 3) ρ st h) : Go g E M Q pc ρ (a_I y :: a_I x :: st) h := by
  intro A p e s m args below meth c Qm C T H locs ls hP hD hS hl hok
  have hy : ab_iok y := hok.top
  have hx : ab_iok x := hok.tl.top
  have hq := hok.tl.tl
  exact lv_icmp_eq C.1 C.2.1 (C.dec hi) ht (fun q => kt ((ab_eq hx hy).mp q) A p e s m args below meth c Qm C T H locs ls hP hD hS hl hq) (fun q => kf (fun z => q ((ab_eq hx hy).mpr z)) A p e s m args below meth c Qm C T H locs ls hP hD hS hl hq)
theorem go_if_eq {x off : Int} {tgt : Nat} (hi : ab_at M pc (.ifCond .eq off) 3) (ht : (pc : Int) + off = (tgt : Int)) (kt : x = 0 → Go g E M Q (tgt) ρ st h) (kf : ¬ x = 0 → Go g E M Q (pc + 3) ρ st h) : Go g E M Q pc ρ (a_I x :: st) h := by
  intro A p e s m args below meth c Qm C T H locs ls hP hD hS hl hok
  have hx : ab_iok x := hok.top
  have hy := ab_iok0
  have hq := hok.tl
  exact lv_if_eq C.1 C.2.1 (C.dec hi) ht (fun q => kt ((ab_eq hx hy).mp q) A p e s m args below meth c Qm C T H locs ls hP hD hS hl hq) (fun q => kf (fun z => q ((ab_eq hx hy).mpr z)) A p e s m args below meth c Qm C T H locs ls hP hD hS hl hq)
theorem go_icmp_ne {x y off : Int} {tgt : Nat} (hi : ab_at M pc (.if_icmp .ne off) 3) (ht : (pc : Int) + off = (tgt : Int)) (kt : ¬ x = y → Go g E M Q (tgt) ρ st h) (kf : x = y → Go g E M Q (pc + 3) ρ st h) : Go g E M Q pc ρ (a_I y :: a_I x :: st) h := by
  intro A p e s m args below meth c Qm C T H locs ls hP hD hS hl hok
  have hy : ab_iok y := hok.top
  have hx : ab_iok x := hok.tl.top
  have hq := hok.tl.tl
  exact lv_icmp_ne C.1 C.2.1 (C.dec hi) ht (fun q => kt (fun z => q ((ab_eq hx hy).mpr z)) A p e s m args below meth c Qm C T H locs ls hP hD hS hl hq) (fun q => kf ((ab_eq hx hy).mp q) A p e s m args below meth c Qm C T H locs ls hP hD hS hl hq)
theorem go_if_ne {x off : Int} {tgt : Nat} (hi : ab_at M pc (.ifCond .ne off) 3) (ht : (pc : Int) + off = (tgt : Int)) (kt : ¬ x = 0 → Go g E M Q (tgt) ρ st h) (kf : x = 0 → Go g E M Q (pc + 3) ρ st h) : Go g E M Q pc ρ (a_I x :: st) h := by
  intro A p e s m args below meth c Qm C T H locs ls hP hD hS hl hok
  have hx : ab_iok x := hok.top
  have hy := ab_iok0
  have hq := hok.tl
  exact lv_if_ne C.1 C.2.1 (C.dec hi) ht (fun q => kt (fun z => q ((ab_eq hx hy).mpr z)) A p e s m args below meth c Qm C T H locs ls hP hD hS hl hq) (fun q => kf ((ab_eq hx hy).mp q) A p e s m args below meth c Qm C T H locs ls hP hD hS hl hq)
theorem go_icmp_lt {x y off : Int} {tgt : Nat} (hi : ab_at M pc (.if_icmp .lt off) 3) (ht : (pc : Int) + off = (tgt : Int)) (kt : x < y → Go g E M Q (tgt) ρ st h) (kf : ¬ x < y → Go g E M Q (pc + 3) ρ st h) : Go g E M Q pc ρ (a_I y :: a_I x :: st) h := by
  intro A p e s m args below meth c Qm C T H locs ls hP hD hS hl hok
  have hy : ab_iok y := hok.top
  have hx : ab_iok x := hok.tl.top
  have hq := hok.tl.tl
  exact lv_icmp_lt C.1 C.2.1 (C.dec hi) ht (fun q => kt ((ab_lt hx hy).mp q) A p e s m args below meth c Qm C T H locs ls hP hD hS hl hq) (fun q => kf (fun z => q ((ab_lt hx hy).mpr z)) A p e s m args below meth c Qm C T H locs ls hP hD hS hl hq)
theorem go_if_lt {x off : Int} {tgt : Nat} (hi : ab_at M pc (.ifCond .lt off) 3) (ht : (pc : Int) + off = (tgt : Int)) (kt : x < 0 → Go g E M Q (tgt) ρ st h) (kf : ¬ x < 0 → Go g E M Q (pc + 3) ρ st h) : Go g E M Q pc ρ (a_I x :: st) h := by
  intro A p e s m args below meth c Qm C T H locs ls hP hD hS hl hok
  have hx : ab_iok x := hok.top
  have hy := ab_iok0
  have hq := hok.tl
  exact lv_if_lt C.1 C.2.1 (C.dec hi) ht (fun q => kt ((ab_lt hx hy).mp q) A p e s m args below meth c Qm C T H locs ls hP hD hS hl hq) (fun q => kf (fun z => q ((ab_lt hx hy).mpr z)) A p e s m args below meth c Qm C T H locs ls hP hD hS hl hq)
theorem go_icmp_ge {x y off : Int} {tgt : Nat} (hi : ab_at M pc (.if_icmp .ge off) 3) (ht : (pc : Int) + off = (tgt : Int)) (kt : y ≤ x → Go g E M Q (tgt) ρ st h) (kf : ¬ y ≤ x → Go g E M Q (pc + 3) ρ st h) : Go g E M Q pc ρ (a_I y :: a_I x :: st) h := by
  intro A p e s m args below meth c Qm C T H locs ls hP hD hS hl hok
  have hy : ab_iok y := hok.top
  have hx : ab_iok x := hok.tl.top
  have hq := hok.tl.tl
  exact lv_icmp_ge C.1 C.2.1 (C.dec hi) ht (fun q => kt ((ab_le hy hx).mp q) A p e s m args below meth c Qm C T H locs ls hP hD hS hl hq) (fun q => kf (fun z => q ((ab_le hy hx).mpr z)) A p e s m args below meth c Qm C T H locs ls hP hD hS hl hq)
theorem go_if_ge {x off : Int} {tgt : Nat} (hi : ab_at M pc (.ifCond .ge off) 3) (ht : (pc : Int) + off = (tgt : Int)) (kt : 0 ≤ x → Go g E M Q (tgt) ρ st h) (kf : ¬ 0 ≤ x → Go g E M Q (pc + 3) ρ st h) : Go g E M Q pc ρ (a_I x :: st) h := by
  intro A p e s m args below meth c Qm C T H locs ls hP hD hS hl hok
  have hx : ab_iok x := hok.top
  have hy := ab_iok0
  have hq := hok.tl
  exact lv_if_ge C.1 C.2.1 (C.dec hi) ht (fun q => kt ((ab_le hy hx).mp q) A p e s m args below meth c Qm C T H locs ls hP hD hS hl hq) (fun q => kf (fun z => q ((ab_le hy hx).mpr z)) A p e s m args below meth c Qm C T H locs ls hP hD hS hl hq)
theorem go_icmp_gt {x y off : Int} {tgt : Nat} (hi : ab_at M pc (.if_icmp .gt off) 3) (ht : (pc : Int) + off = (tgt : Int)) (kt : y < x → Go g E M Q (tgt) ρ st h) (kf : ¬ y < x → Go g E M Q (pc + 3) ρ st h) : Go g E M Q pc ρ (a_I y :: a_I x :: st) h := by
  intro A p e s m args below meth c Qm C T H locs ls hP hD hS hl hok
  have hy : ab_iok y := hok.top
  have hx : ab_iok x := hok.tl.top
  have hq := hok.tl.tl
  exact lv_icmp_gt C.1 C.2.1 (C.dec hi) ht (fun q => kt ((ab_lt hy hx).mp q) A p e s m args below meth c Qm C T H locs ls hP hD hS hl hq) (fun q => kf (fun z => q ((ab_lt hy hx).mpr z)) A p e s m args below meth c Qm C T H locs ls hP hD hS hl hq)
theorem go_if_gt {x off : Int} {tgt : Nat} (hi : ab_at M pc (.ifCond .gt off) 3) (ht : (pc : Int) + off = (tgt : Int)) (kt : 0 < x → Go g E M Q (tgt) ρ st h) (kf : ¬ 0 < x → Go g E M Q (pc + 3) ρ st h) : Go g E M Q pc ρ (a_I x :: st) h := by
  intro A p e s m args below meth c Qm C T H locs ls hP hD hS hl hok
  have hx : ab_iok x := hok.top
  have hy := ab_iok0
  have hq := hok.tl
  exact lv_if_gt C.1 C.2.1 (C.dec hi) ht (fun q => kt ((ab_lt hy hx).mp q) A p e s m args below meth c Qm C T H locs ls hP hD hS hl hq) (fun q => kf (fun z => q ((ab_lt hy hx).mpr z)) A p e s m args below meth c Qm C T H locs ls hP hD hS hl hq)
theorem go_icmp_le {x y off : Int} {tgt : Nat} (hi : ab_at M pc (.if_icmp .le off) 3) (ht : (pc : Int) + off = (tgt : Int)) (kt : x ≤ y → Go g E M Q (tgt) ρ st h) (kf : ¬ x ≤ y → Go g E M Q (pc + 3) ρ st h) : Go g E M Q pc ρ (a_I y :: a_I x :: st) h := by
  intro A p e s m args below meth c Qm C T H locs ls hP hD hS hl hok
  have hy : ab_iok y := hok.top
  have hx : ab_iok x := hok.tl.top
  have hq := hok.tl.tl
  exact lv_icmp_le C.1 C.2.1 (C.dec hi) ht (fun q => kt ((ab_le hx hy).mp q) A p e s m args below meth c Qm C T H locs ls hP hD hS hl hq) (fun q => kf (fun z => q ((ab_le hx hy).mpr z)) A p e s m args below meth c Qm C T H locs ls hP hD hS hl hq)
theorem go_if_le {x off : Int} {tgt : Nat} (hi : ab_at M pc (.ifCond .le off) 3) (ht : (pc : Int) + off = (tgt : Int)) (kt : x ≤ 0 → Go g E M Q (tgt) ρ st h) (kf : ¬ x ≤ 0 → Go g E M Q (pc + 3) ρ st h) : Go g E M Q pc ρ (a_I x :: st) h := by
  intro A p e s m args below meth c Qm C T H locs ls hP hD hS hl hok
  have hx : ab_iok x := hok.top
  have hy := ab_iok0
  have hq := hok.tl
  exact lv_if_le C.1 C.2.1 (C.dec hi) ht (fun q => kt ((ab_le hx hy).mp q) A p e s m args below meth c Qm C T H locs ls hP hD hS hl hq) (fun q => kf (fun z => q ((ab_le hx hy).mpr z)) A p e s m args below meth c Qm C T H locs ls hP hD hS hl hq)
theorem go_goto {off : Int} {tgt : Nat} (hi : ab_at M pc (.goto off) 3) (ht : (pc : Int) + off = (tgt : Int)) (K : Go g E M Q (tgt) ρ st h) : Go g E M Q pc ρ st h := by
  intro A p e s m args below meth c Qm C T H locs ls hP hD hS hl hok
  exact lv_goto C.1 C.2.1 (C.dec hi) ht (K A p e s m args below meth c Qm C T H locs ls hP hD hS hl hok)
theorem go_tableIn {x dflt lo hi off : Int} {offs : Array Int} {len tgt : Nat} (hd : ab_at M pc (.tableswitch dflt lo hi offs) len) (h1 : lo ≤ x) (h2 : x ≤ hi) (ho : offs[(x - lo).toNat]? = some off) (ht : (pc : Int) + off = (tgt : Int)) (K : Go g E M Q (tgt) ρ st h) : Go g E M Q pc ρ (a_I x :: st) h := by
  intro A p e s m args below meth c Qm C T H locs ls hP hD hS hl hok
  have ex := ab_ti (z := x) hok.top
  exact lv_tableIn C.1 C.2.1 (C.dec hd) (by rw [ex]; omega) (by rw [ex]; omega) (by rw [ex]; exact ho) ht (K A p e s m args below meth c Qm C T H locs ls hP hD hS hl hok.tl)
theorem go_tableOut {x dflt lo hi : Int} {offs : Array Int} {len tgt : Nat} (hd : ab_at M pc (.tableswitch dflt lo hi offs) len) (h1 : x < lo ∨ hi < x) (ht : (pc : Int) + dflt = (tgt : Int)) (K : Go g E M Q (tgt) ρ st h) : Go g E M Q pc ρ (a_I x :: st) h := by
  intro A p e s m args below meth c Qm C T H locs ls hP hD hS hl hok
  have ex := ab_ti (z := x) hok.top
  exact lv_tableOut C.1 C.2.1 (C.dec hd) (by rw [ex]; exact h1) ht (K A p e s m args below meth c Qm C T H locs ls hP hD hS hl hok.tl)
theorem go_iret {z : Int} (hi : ab_at M pc .ireturn 1) (hr : M.2.2.2.1 = some .int ∨ (M.2.2.2.1 = some .boolean ∧ (z = 0 ∨ z = 1))) (hq : Q (some (a_I z)) h) : Go g E M Q pc ρ [a_I z] h := by
  intro A p e s m args below meth c Qm C T H locs ls hP hD hS hl hok
  exact T H locs ls pc (some (a_I z)) h hq hok.1 (fun v e => by cases e; exact hok.top) hP hD hS (Or.inr (Or.inl ⟨z, rfl, C.dec hi, hr⟩))
theorem go_lret {z : Int} (hi : ab_at M pc .lreturn 1) (hr : M.2.2.2.1 = some .long) (hq : Q (some (a_L z)) h) : Go g E M Q pc ρ [a_L z] h := by
  intro A p e s m args below meth c Qm C T H locs ls hP hD hS hl hok
  exact T H locs ls pc (some (a_L z)) h hq hok.1 (fun v e => by cases e; exact hok.top) hP hD hS (Or.inr (Or.inr ⟨z, rfl, C.dec hi, hr⟩))
theorem go_ret (hi : ab_at M pc .return_ 1) (hr : M.2.2.2.1 = none) (hq : Q none h) : Go g E M Q pc ρ [] h := by
  intro A p e s m args below meth c Qm C T H locs ls hP hD hS hl hok
  exact T H locs ls pc none h hq hok.1 (fun v e => by cases e) hP hD hS (Or.inl ⟨rfl, C.dec hi, hr⟩)
end GO
end
section
/-! fields, arrays -/
theorem ab_cls0 : (∀ w ∈ u_ws RX0 TX0 6, w ∈ tables_1 ∧ goodWord w = true) ∧ (∀ w ∈ u_ws RX1 TX1 7, w ∈ tables_1 ∧ goodWord w = true) ∧ (∀ w ∈ u_ws RX2 TX2 10, w ∈ tables_1 ∧ goodWord w = true) ∧ (∀ w ∈ u_ws RX3 TX3 3, w ∈ tables_1 ∧ goodWord w = true) := by decide +kernel
theorem ab_cls1 : (∀ w ∈ u_ws RX4 TX4 4, w ∈ tables_1 ∧ goodWord w = true) ∧ (∀ w ∈ u_ws RX5 TX5 14, w ∈ tables_1 ∧ goodWord w = true) ∧ (∀ w ∈ u_ws RX6 TX6 8, w ∈ tables_1 ∧ goodWord w = true) := by decide +kernel
theorem ab_cls2 : (∀ w ∈ u_ws RX7 TX7 29, w ∈ tables_1 ∧ goodWord w = true) := by decide +kernel
theorem ab_tbm {ws : List Cond} (h : ∀ w ∈ ws, w ∈ tables_1 ∧ goodWord w = true) : ∀ w ∈ ws, w ∈ ab_tb := fun w hw => List.mem_filter.mpr ⟨List.mem_append_right _ (h w hw).1, (h w hw).2⟩
def ab_CF (C : String) (T : u_T) (N : Nat) : Prop := (∀ w ∈ u_ws C T N, w ∈ ab_tb) ∧ (∃ ty0 : Nat → FieldType, ∀ k, k < N → parseFieldDescriptor (T k).2.2.1 = some (ty0 k)) ∧ ∀ a, a < N → ∀ b, b < N → a ≠ b → (T a).2.1 ≠ (T b).2.1
theorem ab_cls {ci : Nat} {C : String} {T : u_T} {N : Nat} (h : vwCl[ci]? = some (C, T, N)) : ab_CF C T N ∧ ab_nf ci = N := by
  match ci, h with
  | 0, h => cases h; exact ⟨⟨ab_tbm ab_cls0.1, ⟨_, tyX0_ok⟩, nmX0⟩, rfl⟩
  | 1, h => cases h; exact ⟨⟨ab_tbm ab_cls0.2.1, ⟨_, tyX1_ok⟩, nmX1⟩, rfl⟩
  | 2, h => cases h; exact ⟨⟨ab_tbm ab_cls0.2.2.1, ⟨_, tyX2_ok⟩, nmX2⟩, rfl⟩
  | 3, h => cases h; exact ⟨⟨ab_tbm ab_cls0.2.2.2, ⟨_, tyX3_ok⟩, nmX3⟩, rfl⟩
  | 4, h => cases h; exact ⟨⟨ab_tbm ab_cls1.1, ⟨_, tyX4_ok⟩, nmX4⟩, rfl⟩
  | 5, h => cases h; exact ⟨⟨ab_tbm ab_cls1.2.1, ⟨_, tyX5_ok⟩, nmX5⟩, rfl⟩
  | 6, h => cases h; exact ⟨⟨ab_tbm ab_cls1.2.2, ⟨_, tyX6_ok⟩, nmX6⟩, rfl⟩
  | 7, h => cases h; exact ⟨⟨ab_tbm ab_cls2, ⟨_, tyX7_ok⟩, nmX7⟩, rfl⟩
  | k + 8, h => simp [vwCl] at h
def ab_FL (own : String) (idx ci j : Nat) (jz : Int) (ds : String) (fin : Bool) : Prop := ∃ (C : String) (T : u_T) (N : Nat), vwCl[ci]? = some (C, T, N) ∧ j < N ∧ (j : Int) = jz ∧ (T j).2.2.1 = ds ∧ (T j).2.2.2 = fin ∧
  (Cond.fieldLink own idx (T j).1 (T j).2.1 (T j).2.2.1 ∈ ab_tb ∨ ∃ host, Cond.fieldLinkNest own idx (T j).1 (T j).2.1 (T j).2.2.1 host ∈ ab_nw)
theorem ab_ce_o {g : ab_G} {h : ab_H} {k ci : Nat} (hk : ab_kd k = some (.inl ci)) : ab_ce g h k = .inr (ci, (List.range (ab_nf ci)).map (ab_fv g h k ci)) := by
  unfold ab_ce
  rw [hk]
theorem ab_ce_i {g : ab_G} {h : ab_H} {k n : Nat} (hk : ab_kd k = some (.inr (0, n))) : ab_ce g h k = .inl (g.2.2.2.1 0, n, .inl (fun j => Int32.ofInt (h k j))) := by
  unfold ab_ce
  rw [hk]
  rfl
theorem ab_ce_z {g : ab_G} {h : ab_H} {k n : Nat} (hk : ab_kd k = some (.inr (1, n))) : ab_ce g h k = .inl (g.2.2.2.1 1, n, .inl (fun j => Int32.ofInt (h k j))) := by
  unfold ab_ce
  rw [hk]
  rfl
theorem ab_ce_l {g : ab_G} {h : ab_H} {k n : Nat} (hk : ab_kd k = some (.inr (2, n))) : ab_ce g h k = .inl (g.2.2.2.1 2, n, .inr (.inl (fun j => Int64.ofInt (h k j)))) := by
  unfold ab_ce
  rw [hk]
  rfl
theorem ab_ce_r {g : ab_G} {h : ab_H} {k n : Nat} (hk : ab_kd k = some (.inr (3, n))) : ab_ce g h k = .inl (g.2.2.2.1 3, n, .inr (.inr (.inr (.inr (fun j => (ab_rf k j).map g.2.1))))) := by
  unfold ab_ce
  rw [hk]
  rfl
theorem ab_kd_n {k t n : Nat} (hk : ab_kd k = some (.inr (t, n))) : n < 2147483648 := by
  have key : ∀ (l : List (Nat ⊕ (Nat × Nat))) (i : Nat) (q : Nat ⊕ (Nat × Nat)), ab_nth l i = some q → q ∈ l := by
    intro l
    induction l with
    | nil => intro i q h; cases h
    | cons b l ih =>
      intro i q h
      cases i with
      | zero => cases h; exact List.mem_cons_self
      | succ i => exact List.mem_cons_of_mem _ (ih i q h)
  have all : ∀ q ∈ ab_kdL, (match q with | .inl _ => true | .inr (_, n) => decide (n < 2147483648)) = true := by decide
  have := all _ (key _ _ _ hk)
  simpa using this
theorem ab_nL_o {k ci j : Nat} (hk : ab_kd k = some (.inl ci)) (hlg : ab_lg ci j = false) : ¬ ab_isL k (j : Int) := by
  rintro (⟨q1, q2⟩ | q1)
  · subst q1
    cases hk
    have : j = 13 := by omega
    subst this
    cases hlg
  · subst q1
    cases hk
theorem ab_nL_a {k t n : Nat} {i : Int} (hk : ab_kd k = some (.inr (t, n))) (ht : t ≠ 2) : ¬ ab_isL k i := by
  rintro (⟨q1, -⟩ | q1)
  · subst q1
    cases hk
  · subst q1
    cases hk
    exact ht rfl
theorem ab_L_a {k n : Nat} {i : Int} (hk : ab_kd k = some (.inr (2, n))) : ab_isL k i := by
  have all : ∀ k, k < 82 → k ≠ 23 → (match ab_kd k with | some (.inr (2, _)) => true | _ => false) = false := by decide
  by_cases e : k = 23
  · exact Or.inr e
  · have := all k (ab_kd_lt hk) e
    rw [hk] at this
    cases this
theorem ab_fv_r {g : ab_G} {h : ab_H} {k ci j r : Nat} (hr : ab_rf k j = some r) : ab_fv g h k ci j = .ref (g.2.1 r) := by unfold ab_fv; rw [hr]
theorem ab_fv_i {g : ab_G} {h : ab_H} {k ci j : Nat} (hr : ab_rf k j = none) (hl : ab_lg ci j = false) : ab_fv g h k ci j = .int (Int32.ofInt (h k j)) := by unfold ab_fv; rw [hr, hl]; rfl
theorem ab_fv_l {g : ab_G} {h : ab_H} {k ci j : Nat} (hr : ab_rf k j = none) (hl : ab_lg ci j = true) : ab_fv g h k ci j = .long (Int64.ofInt (h k j)) := by unfold ab_fv; rw [hr, hl]; rfl
theorem ab_fs_set {g : ab_G} {h h' : ab_H} {k ci j n : Nat} {v : Value} (hv : ab_fv g h' k ci j = v) (ho : ∀ i : Nat, i ≠ j → h' k i = h k i) : ((List.range n).map (ab_fv g h k ci)).set j v = (List.range n).map (ab_fv g h' k ci) := by
  apply List.ext_getElem?
  intro i
  by_cases hi : i < n
  · by_cases e : i = j
    · subst e
      rw [List.getElem?_set_self (by simp; exact hi), List.getElem?_map, List.getElem?_range hi, ← hv]
      rfl
    · rw [List.getElem?_set_ne (Ne.symm e), List.getElem?_map, List.getElem?_map, List.getElem?_range hi]
      show some (ab_fv g h k ci i) = some (ab_fv g h' k ci i)
      unfold ab_fv
      rw [ho i e]
  · rw [List.getElem?_eq_none (by simp; omega), List.getElem?_eq_none (by simp; omega)]
theorem ab_ft (v : Int32) : narrow .int (.int v) = .int v := rfl
section GOM
variable {g : ab_G} {E : ab_E} {M : ab_M} {Q : Option ab_V → ab_H → Prop} {pc : Nat} {ρ : List (Option ab_V)} {st : List ab_V} {h : ab_H}
theorem go_get {idx ci j k : Nat} {jz : Int} {ds : String} {fin : Bool} {v : ab_V} (hi : ab_at M pc (.getfield idx) 3) (hf : ab_FL M.1.cls idx ci j jz ds fin) (hk : ab_kd k = some (.inl ci)) (hv : ab_fv g h k ci j = ab_cv g v) (hok2 : ab_okH h → ab_okV v) (K : Go g E M Q (pc + 3) ρ (v :: st) h) : Go g E M Q pc ρ (a_R k :: st) h := by
  intro A p e s m args below meth c Qm C T H locs ls hP hD hS hl hok
  obtain ⟨C0, T0, N0, h1, h2, -, -, -, h3⟩ := hf
  obtain ⟨⟨c1, -, -⟩, c2⟩ := ab_cls h1
  have hws := ab_ws_at (g := g) (h := h) (ab_kd_lt hk)
  rw [ab_ce_o hk] at hws
  have hv2 : ((List.range (ab_nf ci)).map (ab_fv g h k ci))[j]? = some (ab_cv g v) := by
    rw [List.getElem?_map, List.getElem?_range (by omega), ← hv]; rfl
  have KK := K A p e s m args below meth c Qm C T H locs ls hP hD hS hl (hok.tl.cons (hok2 hok.1))
  rcases h3 with h3 | ⟨host, h3⟩
  · exact va_get C.1 C.2.1 C.2.2.2.2.2.2.1 c1 C.2.2.2.2.2.1 C.2.2.2.2.2.2.2.2.1 hP k hws h1 j h2 (C.2.2.2.2.2.2.1 _ h3) (fun _ q => q) hv2 (C.dec hi) KK
  · exact va_getN C.1 C.2.1 C.2.2.2.2.2.2.1 c1 C.2.2.2.2.2.1 C.2.2.2.2.2.2.2.2.1 hP k hws h1 j h2 (va_Nw.use rfl (C.2.2.2.2.2.2.2.1 _ h3)) (fun _ q => q) hv2 (C.dec hi) KK
theorem go_getI {idx ci j k : Nat} {jz : Int} {ds : String} {fin : Bool} (hi : ab_at M pc (.getfield idx) 3) (hf : ab_FL M.1.cls idx ci j jz ds fin) (hk : ab_kd k = some (.inl ci)) (hr : ab_rf k j = none) (hlg : ab_lg ci j = false) (K : Go g E M Q (pc + 3) ρ (a_I (h k jz) :: st) h) : Go g E M Q pc ρ (a_R k :: st) h := by
  have e : (j : Int) = jz := by obtain ⟨_, _, _, _, _, e, _⟩ := hf; exact e
  subst e
  exact go_get hi hf hk (v := a_I (h k j)) (ab_fv_i hr hlg) (fun q => q.2 k j (ab_nL_o hk hlg)) K
theorem go_getL {idx ci j k : Nat} {jz : Int} {ds : String} {fin : Bool} (hi : ab_at M pc (.getfield idx) 3) (hf : ab_FL M.1.cls idx ci j jz ds fin) (hk : ab_kd k = some (.inl ci)) (hr : ab_rf k j = none) (hlg : ab_lg ci j = true) (K : Go g E M Q (pc + 3) ρ (a_L (h k jz) :: st) h) : Go g E M Q pc ρ (a_R k :: st) h := by
  have e : (j : Int) = jz := by obtain ⟨_, _, _, _, _, e, _⟩ := hf; exact e
  subst e
  exact go_get hi hf hk (v := a_L (h k j)) (ab_fv_l hr hlg) (fun q => q.1 k j) K
theorem go_getR {idx ci j k r : Nat} {jz : Int} {ds : String} {fin : Bool} (hi : ab_at M pc (.getfield idx) 3) (hf : ab_FL M.1.cls idx ci j jz ds fin) (hk : ab_kd k = some (.inl ci)) (hr : ab_rf k j = some r) (K : Go g E M Q (pc + 3) ρ (a_R r :: st) h) : Go g E M Q pc ρ (a_R k :: st) h :=
  go_get hi hf hk (v := a_R r) (ab_fv_r hr) (fun _ => trivial) K
theorem go_put {idx ci j k : Nat} {jz : Int} {ds : String} {v : ab_V} {h' : ab_H} {ty : FieldType} (hi : ab_at M pc (.putfield idx) 3) (hf : ab_FL M.1.cls idx ci j jz ds false) (hk : ab_kd k = some (.inl ci)) (hty : parseFieldDescriptor ds = some ty) (hn : narrow ty (ab_cv g v) = ab_cv g v) (hft : fits ty (ab_cv g v) = true) (hv : ab_fv g h' k ci j = ab_cv g v) (ho : ∀ a b, ¬ (a = k ∧ b = (j : Int)) → h' a b = h a b) (hok2 : ab_okH h → ab_okV v → ab_okH h') (K : Go g E M Q (pc + 3) ρ st h') : Go g E M Q pc ρ (v :: a_R k :: st) h := by
  intro A p e s m args below meth c Qm C T H locs ls hP hD hS hl hok
  obtain ⟨C0, T0, N0, h1, h2, -, h4, h5, h3⟩ := hf
  obtain ⟨⟨c1, ⟨ty0, c3⟩, c4⟩, c2⟩ := ab_cls h1
  have hws := ab_ws_at (g := g) (h := h) (ab_kd_lt hk)
  rw [ab_ce_o hk] at hws
  have e1 : (ab_ws g h).set k (g.2.1 k, .inr (ci, ((List.range (ab_nf ci)).map (ab_fv g h k ci)).set j (ab_cv g v))) = ab_ws g h' := by
    rw [ab_fs_set (h' := h') hv (fun i hne => ho k i (fun q => hne (by have := q.2; omega))), ← ab_ce_o (g := g) (h := h') hk]
    exact ab_ws_set (ab_kd_lt hk) (fun a ha b => ho a b (fun q => ha q.1))
  have hl2 : j < ((List.range (ab_nf ci)).map (ab_fv g h k ci)).length := by simp; omega
  have KK := fun H1 locs1 => K A p e s m args below meth c Qm C T H1 locs1 ls
  have hok3 := hok.tl.tl.hp (hok2 hok.1 hok.top)
  rcases h3 with h3 | ⟨host, h3⟩
  · refine va_put C.1 C.2.1 C.2.2.2.2.2.2.1 c1 ty0 c3 c4 C.2.2.2.2.2.1 C.2.2.2.2.2.2.2.2.1 hP hD hS k hws h1 j h2 (C.2.2.2.2.2.2.1 _ h3) (fun _ q => q) h5 (by rw [h4]; exact hty) hn hft hl2 (C.dec hi) (fun H1 locs1 hP1 hD1 hS1 => ?_)
    rw [e1] at hP1 hD1
    exact KK H1 locs1 hP1 hD1 hS1 hl hok3
  · refine va_putN C.1 C.2.1 C.2.2.2.2.2.2.1 c1 ty0 c3 c4 C.2.2.2.2.2.1 C.2.2.2.2.2.2.2.2.1 hP hD hS k hws h1 j h2 (va_Nw.use rfl (C.2.2.2.2.2.2.2.1 _ h3)) (fun _ q => q) h5 (by rw [h4]; exact hty) hn hft hl2 (C.dec hi) (fun H1 locs1 hP1 hD1 hS1 => ?_)
    rw [e1] at hP1 hD1
    exact KK H1 locs1 hP1 hD1 hS1 hl hok3
theorem go_putI {idx ci j k : Nat} {jz z : Int} (hi : ab_at M pc (.putfield idx) 3) (hf : ab_FL M.1.cls idx ci j jz "I" false) (hk : ab_kd k = some (.inl ci)) (hr : ab_rf k j = none) (hlg : ab_lg ci j = false) (K : Go g E M Q (pc + 3) ρ st (ab_hs h k jz z)) : Go g E M Q pc ρ (a_I z :: a_R k :: st) h := by
  have e : (j : Int) = jz := by obtain ⟨_, _, _, _, _, e, _⟩ := hf; exact e
  subst e
  exact go_put hi hf hk (ty := .int) (by decide +kernel) rfl rfl (by rw [ab_fv_i hr hlg, ab_hs_eq]; rfl) (fun a b n => ab_hs_ne n) (fun q1 q2 => q1.set q2) K
theorem go_putZ {idx ci j k : Nat} {jz z : Int} (hi : ab_at M pc (.putfield idx) 3) (hf : ab_FL M.1.cls idx ci j jz "Z" false) (hk : ab_kd k = some (.inl ci)) (hr : ab_rf k j = none) (hlg : ab_lg ci j = false) (hz : z = 0 ∨ z = 1) (K : Go g E M Q (pc + 3) ρ st (ab_hs h k jz z)) : Go g E M Q pc ρ (a_I z :: a_R k :: st) h := by
  have e : (j : Int) = jz := by obtain ⟨_, _, _, _, _, e, _⟩ := hf; exact e
  subst e
  refine go_put hi hf hk (ty := .boolean) (by decide +kernel) ?_ ?_ (by rw [ab_fv_i hr hlg, ab_hs_eq]; rfl) (fun a b n => ab_hs_ne n) (fun q1 q2 => q1.set q2) K
  · rcases hz with rfl | rfl <;> rfl
  · rcases hz with rfl | rfl <;> rfl
theorem go_putL {idx ci j k : Nat} {jz z : Int} (hi : ab_at M pc (.putfield idx) 3) (hf : ab_FL M.1.cls idx ci j jz "J" false) (hk : ab_kd k = some (.inl ci)) (hr : ab_rf k j = none) (hlg : ab_lg ci j = true) (hL : ab_isL k j) (K : Go g E M Q (pc + 3) ρ st (ab_hs h k jz z)) : Go g E M Q pc ρ (a_L z :: a_R k :: st) h := by
  have e : (j : Int) = jz := by obtain ⟨_, _, _, _, _, e, _⟩ := hf; exact e
  subst e
  exact go_put hi hf hk (ty := .long) (by decide +kernel) rfl rfl (by rw [ab_fv_l hr hlg, ab_hs_eq]; rfl) (fun a b n => ab_hs_ne n) (fun q1 q2 => q1.setL hL q2) K
theorem go_iald {k n : Nat} {i : Int} (hi : ab_at M pc .iaload 1) (hk : ab_kd k = some (.inr (0, n))) (h0 : 0 ≤ i) (h1 : i < n) (K : Go g E M Q (pc + 1) ρ (a_I (h k i) :: st) h) : Go g E M Q pc ρ (a_I i :: a_R k :: st) h := by
  intro A p e s m args below meth c Qm C T H locs ls hP hD hS hl hok
  have hws := ab_ws_at (g := g) (h := h) (ab_kd_lt hk)
  rw [ab_ce_i hk] at hws
  obtain ⟨q1, q2⟩ := ab_in h0 h1 (ab_kd_n hk)
  refine va_iald C.1 C.2.1 C.2.2.2.2.2.2.2.2.1 hP k 0 hws rfl q1 (C.dec hi) ?_
  have := K A p e s m args below meth c Qm C T H locs ls hP hD hS hl (hok.tl.tl.cons (hok.1.2 k i (ab_nL_a hk (by decide))))
  rw [q2, Int.toNat_of_nonneg h0]
  exact this
theorem go_zald {k n : Nat} {i : Int} (hi : ab_at M pc .baload 1) (hk : ab_kd k = some (.inr (1, n))) (h0 : 0 ≤ i) (h1 : i < n) (K : Go g E M Q (pc + 1) ρ (a_I (h k i) :: st) h) : Go g E M Q pc ρ (a_I i :: a_R k :: st) h := by
  intro A p e s m args below meth c Qm C T H locs ls hP hD hS hl hok
  have hws := ab_ws_at (g := g) (h := h) (ab_kd_lt hk)
  rw [ab_ce_z hk] at hws
  obtain ⟨q1, q2⟩ := ab_in h0 h1 (ab_kd_n hk)
  refine va_zald C.1 C.2.1 C.2.2.2.2.2.2.2.2.1 hP k 1 hws rfl q1 (C.dec hi) ?_
  have := K A p e s m args below meth c Qm C T H locs ls hP hD hS hl (hok.tl.tl.cons (hok.1.2 k i (ab_nL_a hk (by decide))))
  rw [q2, Int.toNat_of_nonneg h0]
  exact this
theorem go_lald {k n : Nat} {i : Int} (hi : ab_at M pc .laload 1) (hk : ab_kd k = some (.inr (2, n))) (h0 : 0 ≤ i) (h1 : i < n) (K : Go g E M Q (pc + 1) ρ (a_L (h k i) :: st) h) : Go g E M Q pc ρ (a_I i :: a_R k :: st) h := by
  intro A p e s m args below meth c Qm C T H locs ls hP hD hS hl hok
  have hws := ab_ws_at (g := g) (h := h) (ab_kd_lt hk)
  rw [ab_ce_l hk] at hws
  obtain ⟨q1, q2⟩ := ab_in h0 h1 (ab_kd_n hk)
  refine va_lald C.1 C.2.1 C.2.2.2.2.2.2.2.2.1 hP k 2 hws rfl q1 (C.dec hi) ?_
  have := K A p e s m args below meth c Qm C T H locs ls hP hD hS hl (hok.tl.tl.cons (hok.1.1 k i))
  rw [q2, Int.toNat_of_nonneg h0]
  exact this
theorem go_aald {k n r : Nat} {i : Int} (hi : ab_at M pc .aaload 1) (hk : ab_kd k = some (.inr (3, n))) (h0 : 0 ≤ i) (h1 : i < n) (hr : ab_rf k i.toNat = some r) (K : Go g E M Q (pc + 1) ρ (a_R r :: st) h) : Go g E M Q pc ρ (a_I i :: a_R k :: st) h := by
  intro A p e s m args below meth c Qm C T H locs ls hP hD hS hl hok
  have hws := ab_ws_at (g := g) (h := h) (ab_kd_lt hk)
  rw [ab_ce_r hk] at hws
  obtain ⟨q1, q2⟩ := ab_in h0 h1 (ab_kd_n hk)
  have hlt : (Int32.ofInt i).toNatClampNeg < n := Nat.not_le.mp fun q => q1 (Or.inr q)
  have KK := K A p e s m args below meth c Qm C T H locs ls hP hD hS hl (hok.tl.tl.cons (v := a_R r) trivial)
  exact W.aald (v := .ref (g.2.1 r)) (ty := .array .int) C.1 C.2.1 (hP k _ hws) ((C.2.2.2.2.2.2.2.2.1.2 3 _ rfl).1 n (fun j => va_rf ((ab_rf k j).map g.2.1))) rfl (fun q => by cases q) (by show ¬ (Int32.ofInt i < 0 ∨ (arrV _ _ _).slots.size ≤ _); rw [arrV_size]; exact q1) (by show (arrV _ _ _).slots[_]? = _; rw [arrV_read _ _ hlt, q2]; show some (va_rf ((ab_rf k i.toNat).map g.2.1)) = _; rw [hr]; rfl) rfl rfl (C.dec hi) KK
theorem ab_st_i {g : ab_G} {h : ab_H} {k n t : Nat} {i z : Int} (hk : ab_kd k = some (.inr (t, n))) (h0 : 0 ≤ i) (mk : (Nat → Int32) → va_E) (he : ∀ h : ab_H, ab_ce g h k = mk (fun j => Int32.ofInt (h k j))) : (ab_ws g h).set k (g.2.1 k, mk (upd (fun j => Int32.ofInt (h k j)) i.toNat (Int32.ofInt z))) = ab_ws g (ab_hs h k i z) := by
  have e : upd (fun j => Int32.ofInt (h k j)) i.toNat (Int32.ofInt z) = fun j : Nat => Int32.ofInt (ab_hs h k i z k j) := by
    funext j
    unfold upd ab_hs
    by_cases q : j = i.toNat
    · subst q
      simp [Int.toNat_of_nonneg h0]
    · have : ¬ ((j : Int) = i) := by omega
      simp [q, this]
  rw [e, ← he (ab_hs h k i z)]
  exact ab_ws_set (ab_kd_lt hk) (fun a ha b => ab_hs_k ha)
theorem go_iast {k n : Nat} {i z : Int} (hi : ab_at M pc .iastore 1) (hk : ab_kd k = some (.inr (0, n))) (h0 : 0 ≤ i) (h1 : i < n) (K : Go g E M Q (pc + 1) ρ st (ab_hs h k i z)) : Go g E M Q pc ρ (a_I z :: a_I i :: a_R k :: st) h := by
  intro A p e s m args below meth c Qm C T H locs ls hP hD hS hl hok
  have hws := ab_ws_at (g := g) (h := h) (ab_kd_lt hk)
  rw [ab_ce_i hk] at hws
  obtain ⟨q1, q2⟩ := ab_in h0 h1 (ab_kd_n hk)
  refine va_iast C.1 C.2.1 C.2.2.2.2.2.2.2.2.1 hP hD hS k 0 hws rfl q1 (C.dec hi) (fun H1 locs1 hP1 hD1 hS1 => ?_)
  rw [q2, ab_st_i hk h0 (fun f => .inl (g.2.2.2.1 0, n, .inl f)) (fun h => ab_ce_i hk)] at hP1 hD1
  exact K A p e s m args below meth c Qm C T H1 locs1 ls hP1 hD1 hS1 hl (hok.tl.tl.tl.hp (hok.1.set hok.top))
theorem go_zast {k n : Nat} {i z : Int} (hi : ab_at M pc .bastore 1) (hk : ab_kd k = some (.inr (1, n))) (h0 : 0 ≤ i) (h1 : i < n) (hz : z = 0 ∨ z = 1) (K : Go g E M Q (pc + 1) ρ st (ab_hs h k i z)) : Go g E M Q pc ρ (a_I z :: a_I i :: a_R k :: st) h := by
  intro A p e s m args below meth c Qm C T H locs ls hP hD hS hl hok
  have hws := ab_ws_at (g := g) (h := h) (ab_kd_lt hk)
  rw [ab_ce_z hk] at hws
  obtain ⟨q1, q2⟩ := ab_in h0 h1 (ab_kd_n hk)
  refine va_zast C.1 C.2.1 C.2.2.2.2.2.2.2.2.1 hP hD hS k 1 hws rfl q1 (C.dec hi) (fun H1 locs1 hP1 hD1 hS1 => ?_)
  have e2 : vp_nar .boolean (Int32.ofInt z) = Int32.ofInt z := by rcases hz with rfl | rfl <;> rfl
  rw [e2, q2, ab_st_i hk h0 (fun f => .inl (g.2.2.2.1 1, n, .inl f)) (fun h => ab_ce_z hk)] at hP1 hD1
  exact K A p e s m args below meth c Qm C T H1 locs1 ls hP1 hD1 hS1 hl (hok.tl.tl.tl.hp (hok.1.set hok.top))
theorem go_last {k n : Nat} {i z : Int} (hi : ab_at M pc .lastore 1) (hk : ab_kd k = some (.inr (2, n))) (h0 : 0 ≤ i) (h1 : i < n) (K : Go g E M Q (pc + 1) ρ st (ab_hs h k i z)) : Go g E M Q pc ρ (a_L z :: a_I i :: a_R k :: st) h := by
  intro A p e s m args below meth c Qm C T H locs ls hP hD hS hl hok
  have hws := ab_ws_at (g := g) (h := h) (ab_kd_lt hk)
  rw [ab_ce_l hk] at hws
  obtain ⟨q1, q2⟩ := ab_in h0 h1 (ab_kd_n hk)
  refine va_last C.1 C.2.1 C.2.2.2.2.2.2.2.2.1 hP hD hS k 2 hws rfl q1 (C.dec hi) (fun H1 locs1 hP1 hD1 hS1 => ?_)
  have e1 : vp_updL (fun j => Int64.ofInt (h k j)) i.toNat (Int64.ofInt z) = fun j : Nat => Int64.ofInt (ab_hs h k i z k j) := by
    funext j
    unfold vp_updL ab_hs
    by_cases q : j = i.toNat
    · subst q
      simp [Int.toNat_of_nonneg h0]
    · have : ¬ ((j : Int) = i) := by omega
      simp [q, this]
  rw [q2, e1, ← ab_ce_l (g := g) (h := ab_hs h k i z) hk, ab_ws_set (ab_kd_lt hk) (fun a ha b => ab_hs_k ha)] at hP1 hD1
  exact K A p e s m args below meth c Qm C T H1 locs1 ls hP1 hD1 hS1 hl (hok.tl.tl.tl.hp (hok.1.setL (ab_L_a hk) hok.top))
theorem go_alen {k n : Nat} (hi : ab_at M pc .arraylength 1) (hk : ab_kd k = some (.inr (0, n))) (K : Go g E M Q (pc + 1) ρ (a_I n :: st) h) : Go g E M Q pc ρ (a_R k :: st) h := by
  intro A p e s m args below meth c Qm C T H locs ls hP hD hS hl hok
  have hws := ab_ws_at (g := g) (h := h) (ab_kd_lt hk)
  rw [ab_ce_i hk] at hws
  have hn := ab_kd_n hk
  exact va_alen C.1 C.2.1 C.2.2.2.2.2.2.2.2.1 hP k 0 hws rfl (v := Int32.ofInt (n : Int)) Int32.ofInt_eq_ofNat.symm (C.dec hi) (K A p e s m args below meth c Qm C T H locs ls hP hD hS hl (hok.tl.cons (show ab_iok n by unfold ab_iok; omega)))
/-- the law's own script: cell 82 -/
theorem go_sld {i : Int} (hM : M.1 = x) (hi : ab_at M pc .iaload 1) (h0 : 0 ≤ i) (h1 : i < g.2.2.2.2.1) (hL : g.2.2.2.2.1 < 2147483648) (K : Go g E M Q (pc + 1) ρ (a_I (g.2.2.2.2.2 i.toNat).toInt :: st) h) : Go g E M Q pc ρ (a_I i :: a_R 82 :: st) h := by
  intro A p e s m args below meth c Qm C T H locs ls hP hD hS hl hok
  obtain ⟨x1, x2, x3⟩ := C.2.2.2.2.2.2.2.2.2.2 hM
  obtain ⟨q1, q2⟩ := ab_in h0 h1 hL
  refine va_sld C.1 C.2.1 x1 x2 x3 hS q1 (C.dec hi) ?_
  have := K A p e s m args below meth c Qm C T H locs ls hP hD hS hl (hok.tl.tl.cons (ab_okI _))
  rw [q2]
  simpa only [List.map_cons, ab_cv, Int32.ofInt_toInt] using this
theorem go_slen (hM : M.1 = x) (hi : ab_at M pc .arraylength 1) (hL : g.2.2.2.2.1 < 2147483648) (K : Go g E M Q (pc + 1) ρ (a_I (g.2.2.2.2.1 : Int) :: st) h) : Go g E M Q pc ρ (a_R 82 :: st) h := by
  intro A p e s m args below meth c Qm C T H locs ls hP hD hS hl hok
  obtain ⟨x1, x2, x3⟩ := C.2.2.2.2.2.2.2.2.2.2 hM
  refine va_slen C.1 C.2.1 x1 x2 x3 hS (C.dec hi) ?_
  have := K A p e s m args below meth c Qm C T H locs ls hP hD hS hl (hok.tl.cons (show ab_iok (g.2.2.2.2.1 : Int) by unfold ab_iok; omega))
  rw [← Int32.ofInt_eq_ofNat]
  exact this
end GOM
end
section
/-! methods and calls -/
def ab_W (g : ab_G) (h : ab_H) (U : State) : Prop := va_P g.2.2.1 vwCl (ab_ws g h) U.heap ∧ va_K g.2.2.1 vwCl (ab_ty g) U ∧ va_D (fun _ => True) (ab_ws g h) ∧ ∀ w ∈ ab_nw, va_Nw w U
def ab_A (g : ab_G) : Nat → Prop := fun q => ∃ k, k < 82 ∧ q = g.2.1 k
def ab_rm (d : Nat) : Room := { frames := d, cells := 0, slots := 0, locals := 35 * d }
def Meth (g : ab_G) (d : Nat) (M : ab_M) (as : List ab_V) (h : ab_H) (Q : Option ab_V → ab_H → Prop) : Prop := ab_okH h → (∀ v ∈ as, ab_okV v) →
  Met g.1 M.1 (Cond.code M.1 M.2.1 M.2.2.1 M.2.2.2.1 :: ab_tb) (ab_rm d) (va_Pc (as.map (ab_cv g)) (ab_W g h)) (fun _ s0 oc t => (∃ (r : Option ab_V) (h' : ab_H), oc = .returned (r.map (ab_cv g)) ∧ Q r h' ∧ ab_okH h' ∧ (∀ v, r = some v → ab_okV v) ∧ ab_W g h' t) ∧ va_F (ab_A g) s0 t) 0 0 (ab_A g)
def ab_el : List ab_V → List (Option ab_V)
  | [] => []
  | .inr (.inl z) :: l => some (a_L z) :: none :: ab_el l
  | v :: l => some v :: ab_el l
theorem ab_el_len {g : ab_G} : ∀ (as : List ab_V), (lg_sl (as.map (ab_cv g))).length = (ab_el as).length
  | [] => rfl
  | .inl z :: l => by
    have := ab_el_len (g := g) l
    simp [lg_sl, ab_cv, ab_el, Value.category] at this ⊢
    omega
  | .inr (.inl z) :: l => by
    have := ab_el_len (g := g) l
    simp [lg_sl, ab_cv, ab_el, Value.category] at this ⊢
    omega
  | .inr (.inr z) :: l => by
    have := ab_el_len (g := g) l
    simp [lg_sl, ab_cv, ab_el, Value.category] at this ⊢
    omega
theorem ab_nth_rep (n : Nat) (v : ab_V) : ∀ k, ab_nth (List.replicate n (none : Option ab_V)) k ≠ some (some v) := by
  induction n with
  | zero => intro k q; cases q
  | succ n ih =>
    intro k q
    cases k with
    | zero => cases q
    | succ k => exact ih k q
theorem ab_el_arg {g : ab_G} (n : Nat) (v : ab_V) : ∀ (as : List ab_V) (i k : Nat), ab_nth (ab_el as ++ List.replicate n none) k = some (some v) → (i + k, ab_cv g v) ∈ lv_args i (as.map (ab_cv g))
  | [], i, k, h => absurd h (ab_nth_rep n v k)
  | .inl z :: l, i, 0, h => by cases h; exact List.mem_cons_self
  | .inl z :: l, i, k + 1, h => by
    have := ab_el_arg (g := g) n v l (i + 1) k h
    rw [show i + (k + 1) = i + 1 + k by omega]
    exact List.mem_cons_of_mem _ this
  | .inr (.inr z) :: l, i, 0, h => by cases h; exact List.mem_cons_self
  | .inr (.inr z) :: l, i, k + 1, h => by
    have := ab_el_arg (g := g) n v l (i + 1) k h
    rw [show i + (k + 1) = i + 1 + k by omega]
    exact List.mem_cons_of_mem _ this
  | .inr (.inl z) :: l, i, 0, h => by cases h; exact List.mem_cons_self
  | .inr (.inl z) :: l, i, 1, h => by cases h
  | .inr (.inl z) :: l, i, k + 2, h => by
    have := ab_el_arg (g := g) n v l (i + 2) k h
    rw [show i + (k + 2) = i + 2 + k by omega]
    exact List.mem_cons_of_mem _ this
theorem ab_el_ok (n : Nat) (v : ab_V) : ∀ (as : List ab_V) (k : Nat), ab_nth (ab_el as ++ List.replicate n none) k = some (some v) → v ∈ as
  | [], k, h => absurd h (ab_nth_rep n v k)
  | .inl z :: l, 0, h => by cases h; exact List.mem_cons_self
  | .inl z :: l, k + 1, h => List.mem_cons_of_mem _ (ab_el_ok n v l k h)
  | .inr (.inr z) :: l, 0, h => by cases h; exact List.mem_cons_self
  | .inr (.inr z) :: l, k + 1, h => List.mem_cons_of_mem _ (ab_el_ok n v l k h)
  | .inr (.inl z) :: l, 0, h => by cases h; exact List.mem_cons_self
  | .inr (.inl z) :: l, 1, h => by cases h
  | .inr (.inl z) :: l, k + 2, h => List.mem_cons_of_mem _ (ab_el_ok n v l k h)
theorem ab_nw_warm {s U : State} (hW : s.WarmedH U.vm) (h : ∀ w ∈ ab_nw, va_Nw w s) : ∀ w ∈ ab_nw, va_Nw w U := by
  intro w hw
  have h1 := h w hw
  have h2 := (List.mem_filter.mp hw).2
  unfold ab_isN at h2
  split at h2
  · exact va_Nw.warmF hW h1
  · exact va_Nw.warmM hW h1
  · cases h2
theorem ab_nw_same {s U : State} (hv : s.vm = U.vm) (h : ∀ w ∈ ab_nw, va_Nw w s) : ∀ w ∈ ab_nw, va_Nw w U := by
  intro w hw
  have h1 := h w hw
  have h2 := (List.mem_filter.mp hw).2
  unfold ab_isN at h2
  split at h2
  · exact va_Nw.same rfl hv h1
  · exact va_Nw.same rfl hv h1
  · cases h2
theorem ab_nar (z : Int) (h : z = 0 ∨ z = 1) : narrow .boolean (.int (Int32.ofInt z)) = .int (Int32.ofInt z) := by rcases h with rfl | rfl <;> rfl
set_option maxHeartbeats 4000000 in
theorem Meth.of_go {g : ab_G} {d : Nat} {M : ab_M} {as : List ab_V} {h : ab_H} {Q : Option ab_V → ab_H → Prop} (hM : ab_MOk M) (hn : (ab_el as).length ≤ M.2.2.1) (K : Go g (ab_rm d, 0, 0) M Q 0 (ab_el as ++ List.replicate (M.2.2.1 - (ab_el as).length) none) [] h) : Meth g d M as h Q := by
  intro hH hA
  obtain ⟨m1, m2, m3, m4, m5, m6, m7⟩ := hM
  refine Met.ofW (cc := M.2.1) (maxL := M.2.2.1) (ret := M.2.2.2.1) m2 rfl ?_
  intro p e s m args below meth c s₁ B hml hv
  obtain ⟨rfl, hP, hK, hD, hN⟩ := hv
  have hts : ∀ w ∈ Cond.code M.1 M.2.1 M.2.2.1 M.2.2.2.1 :: ab_tb, w.before (as.map (ab_cv g)).toArray s = true := atoms_spec (ws := Cond.code M.1 M.2.1 M.2.2.1 M.2.2.2.1 :: ab_tb) B.pre
  have hown : s.vm.findClass M.1.cls = some m.cls := findClass_of_methodNamed B.named
  have hlocks : meth.locks = false := B.notSynchronized
  have C : ab_C g M (ab_A g) p s m (as.map (ab_cv g)).toArray meth c := ⟨B.exec, B.bytes, hml, B.returns, hlocks, hown, fun w hw => hts w (List.mem_cons_of_mem _ hw), hN, hK, m7, fun q => absurd (by rw [q]; rfl) m6⟩
  have hl := lv_entry (as.map (ab_cv g)) (n := M.2.2.1) (by rw [ab_el_len]; exact hn)
  rw [lg_entry_eq]
  rw [ab_el_len] at hl ⊢
  generalize (lg_sl (as.map (ab_cv g)) ++ List.replicate (M.2.2.1 - (ab_el as).length) Slot.unset).toArray = ls at hl ⊢
  have hlr : ab_lr g ls M.2.2.1 (ab_el as ++ List.replicate (M.2.2.1 - (ab_el as).length) none) := ⟨hl.1, hl.2.1, fun k v q => by
    have := hl.2.2 _ (ab_el_arg (g := g) _ v as 0 k q)
    simpa using this⟩
  have hD2 : va_D (ab_A g) (ab_ws g h) := ⟨hD.1, fun k q hk => by
    have hk2 : k < 82 := by
      have := (List.getElem?_eq_some_iff.mp hk).1
      simpa [ab_ws] using this
    rw [ab_ws_at hk2] at hk
    cases hk
    exact ⟨k, hk2, rfl⟩⟩
  refine K (ab_A g) p e s m _ below meth c _ C ?_ s.heap [] ls hP hD2 va_S.rf hlr ⟨hH, (fun v hv => by cases hv), fun k v q => hA v (ab_el_ok _ v as k q)⟩
  intro H locs ls2 pc r h2 hq hh hr hP2 hD3 hS2 hrt
  have fin : ∀ t : State, t.heap = H → s.WarmedH t.vm → (∃ (r' : Option ab_V) (h' : ab_H), Outcome.returned (r.map (ab_cv g)) = .returned (r'.map (ab_cv g)) ∧ Q r' h' ∧ ab_okH h' ∧ (∀ v, r' = some v → ab_okV v) ∧ ab_W g h' t) ∧ va_F (ab_A g) s t := fun t ht hW =>
    ⟨⟨r, h2, rfl, hq, hh, hr, by rw [← ht] at hP2; exact hP2, va_K.moved hW.alike hK, hD3.weaken (fun _ _ _ _ => trivial), ab_nw_warm hW hN⟩, hS2.F ht⟩
  rcases hrt with ⟨rfl, hd, h0⟩ | ⟨z, rfl, hd, h0 | ⟨h0, hz⟩⟩ | ⟨z, rfl, hd, h0⟩
  · exact W.vret B.exec B.bytes (by rw [B.returns, h0]) fin hS2.2.2 hd hlocks
  · exact W.iret B.exec B.bytes (by rw [B.returns, h0]) fin hS2.2.2 hd hlocks
  · exact W.zret (ty := .boolean) B.exec B.bytes (by rw [B.returns, h0]) (ab_nar z hz) fin hS2.2.2 hd hlocks
  · exact W.lret B.exec B.bytes (by rw [B.returns, h0]) fin hS2.2.2 hd hlocks
/-- of an int's answer, of no answer, of a long's -/
abbrev MethI (g : ab_G) (d : Nat) (M : ab_M) (as : List ab_V) (h : ab_H) (Q : Int → ab_H → Prop) : Prop := Meth g d M as h (fun r h' => ∃ z, r = some (a_I z) ∧ Q z h')
abbrev MethL (g : ab_G) (d : Nat) (M : ab_M) (as : List ab_V) (h : ab_H) (Q : Int → ab_H → Prop) : Prop := Meth g d M as h (fun r h' => ∃ z, r = some (a_L z) ∧ Q z h')
abbrev MethV (g : ab_G) (d : Nat) (M : ab_M) (as : List ab_V) (h : ab_H) (Q : ab_H → Prop) : Prop := Meth g d M as h (fun r h' => r = none ∧ Q h')
theorem Meth.mono {g : ab_G} {d : Nat} {M : ab_M} {as : List ab_V} {h : ab_H} {Q Q' : Option ab_V → ab_H → Prop} (hm : Meth g d M as h Q) (hq : ∀ r h', Q r h' → Q' r h') : Meth g d M as h Q' := by
  intro hH hA
  have h1 := hm hH hA
  unfold Met MetFree at h1 ⊢
  intro p e a1 a2 a3 s m args below b1 b2 b3 b4
  obtain ⟨k, o, c1, c2, c3, ⟨⟨r, h', d1, d2, d3⟩, d4⟩, d5⟩ := h1 p e a1 a2 a3 s m args below b1 b2 b3 b4
  exact ⟨k, o, c1, c2, c3, ⟨⟨r, h', d1, hq r h' d2, d3⟩, d4⟩, d5⟩
def ab_cat : ab_V → Nat
  | .inr (.inl _) => 2
  | _ => 1
def ab_cats (st : List ab_V) : Nat := (st.map ab_cat).sum
theorem ab_cats_eq {g : ab_G} (st : List ab_V) : ((st.map (ab_cv g)).map fun v => v.category).sum = ab_cats st := by
  unfold ab_cats
  rw [List.map_map]
  congr 1
  apply List.map_congr_left
  intro v _
  rcases v with z | z | z <;> rfl
theorem ab_blind {g : ab_G} {h : ab_H} {av : List Value} : FrameBlind (va_Pc av (ab_W g h)) := by
  intro a U gf mk q
  obtain ⟨q0, q1, q2, q3, q4⟩ := q
  exact ⟨q0, q1, va_K.moved (u := U) (U := U.calling gf mk a) (Vm.Alike.refl U.vm) q2, q3, ab_nw_same (s := U) (U := U.calling gf mk a) rfl q4⟩
theorem ab_good (M : ab_M) (hM : ab_MOk M) : GoodIn ab_tb (Cond.code M.1 M.2.1 M.2.2.1 M.2.2.2.1 :: ab_tb) := by
  intro w hw
  have h1 : w ∈ ab_tb := by
    rcases List.mem_cons.mp hw with rfl | h
    · exact hM.1
    · exact h
  exact ⟨h1, good_of_word (List.mem_filter.mp h1).2⟩
/-- what a call of an instance's method, of a static one, needs of the tables -/
def ab_LV (own : String) (idx : Nat) (y : MethodName) : Prop := (Cond.methodLink own idx y ∈ ab_tb ∨ ∃ host, Cond.methodLinkNest own idx y host ∈ ab_nw) ∧ Cond.instanceMethod y ∈ ab_tb ∧ Cond.selects y.cls y y ∈ ab_tb
def ab_LS (own : String) (idx : Nat) (y : MethodName) : Prop := (Cond.methodLink own idx y ∈ ab_tb ∨ ∃ host, Cond.methodLinkNest own idx y host ∈ ab_nw) ∧ Cond.static y ∈ ab_tb
def ab_room (E : ab_E) (d : Nat) (M : ab_M) : Prop := d + 1 ≤ E.1.frames ∧ 8 + (M.2.2.1 + 11) + 35 * d ≤ E.1.locals ∧ E.2.1 ≤ E.1.cells ∧ E.2.2 ≤ E.1.slots
theorem ab_room_of {d d' : Nat} {M : ab_M} (hM : ab_MOk M) (h : d < d') : ab_room (ab_rm d', 0, 0) d M := by
  have := hM.2.2.2.1
  refine ⟨h, ?_, Nat.le_refl _, Nat.le_refl _⟩
  show 8 + (M.2.2.1 + 11) + 35 * d ≤ 35 * d'
  omega
theorem ab_okS.back {ρ : List (Option ab_V)} {st : List ab_V} {h h' : ab_H} {r : Option ab_V} (q : ab_okS ρ st h) (hh : ab_okH h') (hr : ∀ v, r = some v → ab_okV v) : ab_okS ρ (r.toList ++ st) h' := by
  refine ⟨hh, fun v hv => ?_, q.2.2⟩
  rcases List.mem_append.mp hv with z | z
  · cases r with
    | none => cases z
    | some w =>
      have e5 : v = w := by simpa using z
      rw [e5]
      exact hr w rfl
  · exact q.2.1 v z
section GOC
variable {g : ab_G} {E : ab_E} {M : ab_M} {Q : Option ab_V → ab_H → Prop} {pc : Nat} {ρ : List (Option ab_V)} {st : List ab_V} {h : ab_H}
/-- behind a call -/
theorem ab_behind {p : Program} {e : Env} {s : State} {m : MethodId} {args : Array Value} {below : List Frame} {meth : Method} {c : Code} {Qm : State → Prop} {A : Nat → Prop} {H : Heap} {locs : List Loc} {ls : Array Slot} {st0 : List Value} {a : Array Value} {Q' : Option ab_V → ab_H → Prop} (C : ab_C g M A p s m args meth c) (T : ab_Ret g E M Q A p e s m args below meth c Qm) (hP : va_P g.2.2.1 vwCl (ab_ws g h) H) (hD : va_D A (ab_ws g h)) (hS : va_S A s.heap H locs) (hl : ab_lr g ls M.2.2.1 ρ) (hok : ab_okS ρ st h)
    (hr : va_Run p g.1 e E.1 s m args below meth c H locs E.2.1 E.2.2 0 0 (F0 m pc ls st0) (st.map (ab_cv g)) ((fun _ s0 oc t => (∃ (r : Option ab_V) (h' : ab_H), oc = .returned (r.map (ab_cv g)) ∧ Q' r h' ∧ ab_okH h' ∧ (∀ v, r = some v → ab_okV v) ∧ ab_W g h' t) ∧ va_F (ab_A g) s0 t : Array Value → State → Outcome → State → Prop) a) (ab_A g))
    (K : ∀ r h', Q' r h' → Go g E M Q (pc + 3) ρ (r.toList ++ st) h') : W p g.1 e E.1 s m args below meth c H locs E.2.1 E.2.2 Qm (F0 m pc ls st0) := by
  intro T1 hT1 X
  obtain ⟨v, st₀, t, T', L, h0, X', hL, e1, e2, ⟨⟨r, h', hv, hq, hh, hvo, w1, w2, w3, w4⟩, hz, hk⟩, st1⟩ := hr T1 hT1 X
  cases hv
  rw [h0] at hz hk
  have hsub : ∀ q, ab_A g q → A q := by
    rintro q ⟨k, hk1, rfl⟩
    exact hD.2 k _ (ab_ws_at hk1)
  have hD' : va_D A (ab_ws g h') := ⟨w3.1, fun k q hk => by
    have hk2 : k < 82 := by
      have := (List.getElem?_eq_some_iff.mp hk).1
      simpa [ab_ws] using this
    rw [ab_ws_at hk2] at hk
    cases hk
    exact hD.2 k (g.2.1 k, ab_ce g h k) (ab_ws_at hk2)⟩
  have KK := K r h' hq A p e s m args below meth c Qm C T T'.heap (locs ++ L) ls (by rw [e1]; exact w1) hD'
    ⟨Nat.le_trans hS.1 (by rw [e1]; exact hz), fun q h1 h2 => by rw [e1, hk q (Nat.lt_of_lt_of_le h1 hS.1) (fun z => h2 (hsub q z))]; exact hS.2.1 q h1 h2, fun q hq => by
      rcases List.mem_append.mp hq with h | h
      · exact hS.2.2 q h
      · exact hsub _ (hL q h)⟩ hl (ab_okS.back hok hh hvo)
  have e3 : (r.toList ++ st).map (ab_cv g) = (r.map (ab_cv g)).toList ++ st.map (ab_cv g) := by cases r <;> simp
  rw [e3] at KK
  obtain ⟨t2, a1, b1⟩ := KK T' rfl X'
  exact ⟨t2, st1 t2 a1, b1⟩
theorem go_callV {M' : ab_M} {d idx k ci : Nat} {C0 : String} {T0 : u_T} {N0 : Nat} {as : List ab_V} {Q' : Option ab_V → ab_H → Prop} (hi : ab_at M pc (.invokevirtual idx) 3) (hln : ab_LV M.1.cls idx M'.1) (hM : ab_MOk M') (hk : ab_kd k = some (.inl ci)) (hc : vwCl[ci]? = some (C0, T0, N0)) (hc2 : C0 = M'.1.cls) (hn : as.length = M'.2.2.2.2.1) (hE : ab_room E d M') (hcat : ab_cats st ≤ 8) (hm : Meth g d M' (a_R k :: as) h Q') (K : ∀ r h', Q' r h' → Go g E M Q (pc + 3) ρ (r.toList ++ st) h') : Go g E M Q pc ρ (as.reverse ++ a_R k :: st) h := by
  intro A p e s m args below meth c Qm C T H locs ls hP hD hS hl hok
  have hokst : ab_okS ρ st h := ⟨hok.1, fun v hv => hok.2.1 v (List.mem_append_right _ (List.mem_cons_of_mem _ hv)), hok.2.2⟩
  have hm2 := hm hok.1 (fun v hv => by
    rcases List.mem_cons.mp hv with rfl | q
    · exact trivial
    · exact hok.2.1 v (List.mem_append_left _ (List.mem_reverse.mpr q)))
  have hws := ab_ws_at (g := g) (h := h) (ab_kd_lt hk)
  rw [ab_ce_o hk] at hws
  have hK := C.2.2.2.2.2.2.2.2.1
  have hts := C.2.2.2.2.2.2.1
  have pre : PreV s H M'.1.cls (g.2.1 k) (va_Pc ((a_R k :: as).map (ab_cv g)) (ab_W g h)) (as.map (ab_cv g)) := ⟨ab_blind, by rw [← hc2]; exact va_recv hK hP hc hws, fun U hU hW => ⟨rfl, by rw [hU]; exact hP, va_K.moved hW.alike hK, hD.weaken (fun _ _ _ _ => trivial), ab_nw_warm hW C.2.2.2.2.2.2.2.1⟩⟩
  have hst : (as.reverse ++ a_R k :: st).map (ab_cv g) = (as.map (ab_cv g)).reverse ++ .ref (g.2.1 k) :: st.map (ab_cv g) := by simp [ab_cv]
  obtain ⟨h1, h2, h3⟩ := hln
  have hfix : CallFix p m c M.2.1 M.2.2.1 s args ab_tb M.1.cls := ⟨C.1, C.2.1, C.2.2.1, C.2.2.2.2.2.1, hts⟩
  have hcat2 : 2 * (F0 m pc ls ((as.reverse ++ a_R k :: st).map (ab_cv g))).monitorRoom + ((st.map (ab_cv g)).map fun v => v.category).sum ≤ 8 := lv_room (by rw [ab_cats_eq]; exact hcat)
  rcases h1 with h1 | ⟨host, h1⟩
  · exact ab_behind (M := M) (a := #[]) C T hP hD hS hl hokst (va_runV (g := F0 m pc ls ((as.reverse ++ a_R k :: st).map (ab_cv g))) hfix hm2 ⟨callB_of (ws' := ab_tb) M'.2.2.2.2.1 hts (ab_good M' hM) rfl rfl rfl (hts _ hM.2.2.2.2.1) (hts _ h1) hM.2.2.1 ⟨hE.1, hE.2.1⟩, hts _ h2, hts _ h3⟩ pre rfl (by rw [List.length_map]; exact hn) hl.1 hst hcat2 (C.dec hi) ⟨hE.2.2.1, hE.2.2.2⟩) K
  · exact ab_behind (M := M) (a := #[]) C T hP hD hS hl hokst (va_runVN (g := F0 m pc ls ((as.reverse ++ a_R k :: st).map (ab_cv g))) hfix hm2 ⟨va_cnB (ws' := ab_tb) M'.2.2.2.2.1 hts (ab_good M' hM) rfl rfl rfl (C.2.2.2.2.2.2.2.1 _ h1) (hts _ hM.2.2.2.2.1) hM.2.2.1 ⟨hE.1, hE.2.1⟩, hts _ h2, hts _ h3⟩ pre rfl (by rw [List.length_map]; exact hn) hl.1 hst hcat2 (C.dec hi) ⟨hE.2.2.1, hE.2.2.2⟩) K
theorem go_callS {M' : ab_M} {d idx : Nat} {as : List ab_V} {Q' : Option ab_V → ab_H → Prop} (hi : ab_at M pc (.invokestatic idx) 3) (hln : ab_LS M.1.cls idx M'.1) (hM : ab_MOk M') (hn : as.length = M'.2.2.2.2.1) (hE : ab_room E d M') (hcat : ab_cats st ≤ 8) (hm : Meth g d M' as h Q') (K : ∀ r h', Q' r h' → Go g E M Q (pc + 3) ρ (r.toList ++ st) h') : Go g E M Q pc ρ (as.reverse ++ st) h := by
  intro A p e s m args below meth c Qm C T H locs ls hP hD hS hl hok
  have hokst : ab_okS ρ st h := ⟨hok.1, fun v hv => hok.2.1 v (List.mem_append_right _ hv), hok.2.2⟩
  have hm2 := hm hok.1 (fun v hv => hok.2.1 v (List.mem_append_left _ (List.mem_reverse.mpr hv)))
  have hK := C.2.2.2.2.2.2.2.2.1
  have hts := C.2.2.2.2.2.2.1
  have pre : PreS s H (va_Pc (as.map (ab_cv g)) (ab_W g h)) (as.map (ab_cv g)) := ⟨ab_blind, fun U hU hW => ⟨rfl, by rw [hU]; exact hP, va_K.moved hW.alike hK, hD.weaken (fun _ _ _ _ => trivial), ab_nw_warm hW C.2.2.2.2.2.2.2.1⟩⟩
  have hst : (as.reverse ++ st).map (ab_cv g) = (as.map (ab_cv g)).reverse ++ st.map (ab_cv g) := by simp
  obtain ⟨h1, h2⟩ := hln
  have hfix : CallFix p m c M.2.1 M.2.2.1 s args ab_tb M.1.cls := ⟨C.1, C.2.1, C.2.2.1, C.2.2.2.2.2.1, hts⟩
  have hcat2 : 2 * (F0 m pc ls ((as.reverse ++ st).map (ab_cv g))).monitorRoom + ((st.map (ab_cv g)).map fun v => v.category).sum ≤ 8 := lv_room (by rw [ab_cats_eq]; exact hcat)
  rcases h1 with h1 | ⟨host, h1⟩
  · exact ab_behind (M := M) (a := #[]) C T hP hD hS hl hokst (va_runS (g := F0 m pc ls ((as.reverse ++ st).map (ab_cv g))) hfix hm2 ⟨callB_of (ws' := ab_tb) M'.2.2.2.2.1 hts (ab_good M' hM) rfl rfl rfl (hts _ hM.2.2.2.2.1) (hts _ h1) hM.2.2.1 ⟨hE.1, hE.2.1⟩, hts _ h2⟩ pre rfl (by rw [List.length_map]; exact hn) hl.1 hst hcat2 (C.dec hi) ⟨hE.2.2.1, hE.2.2.2⟩) K
  · exact ab_behind (M := M) (a := #[]) C T hP hD hS hl hokst (va_runSN (g := F0 m pc ls ((as.reverse ++ st).map (ab_cv g))) hfix hm2 ⟨va_cnB (ws' := ab_tb) M'.2.2.2.2.1 hts (ab_good M' hM) rfl rfl rfl (C.2.2.2.2.2.2.2.1 _ h1) (hts _ hM.2.2.2.2.1) hM.2.2.1 ⟨hE.1, hE.2.1⟩, hts _ h2, trivial⟩ pre rfl (by rw [List.length_map]; exact hn) hl.1 hst hcat2 (C.dec hi) ⟨hE.2.2.1, hE.2.2.2⟩) K
end GOC
end
